/-! what is asked of the whole cloud -/
def zaon (b : Bool) : Int32 := if b = true then 65535 else 0
def zrep (p : Int32) : Bool := !decide (p &&& 32768 = 0)
def zgr (Z : va_W) (C : zLs) (a : Nat) (v : List zRl) : Prop := ∃ (q : Nat) (es : List Nat), (a, Sum.inr (4, [.ref q])) ∈ Z ∧ C q = some es ∧ zls (zrl Z) es v ∧ es.length ≤ 10
def zpr (Z : va_W) (ns : List Nat) (a : Nat) (v : Nat × Nat) : Prop := ∃ (o1 o2 : Nat), (a, Sum.inr (6, [.ref o1, .ref o2])) ∈ Z ∧ ns[v.1]? = some o1 ∧ ns[v.2]? = some o2
def zgps (inw x gset : Int32) : List (List zRl) → Nat → Int32 → Int32
  | [], _, o => o
  | g :: gs, i, o => zgps inw x gset gs (i + 1) (if gset &&& (1 : Int32) <<< (nI i &&& 31) = 0 then o else o ||| zgp inw x g 0)
abbrev zrnum (nb nk : Int32) (rts : List zRt) (x : Int32) : Int32 := if zhs nb nk x = true then zrn x rts (-1) nk else zrn x rts (-2) 11
def zrtd (pvs : List (Nat × Nat)) (nf nt : Nat) (nu : Int32) : Bool := if nu = -1 then decide (nf = nt) else if nu < 0 then false else match pvs[nu.toNatClampNeg]? with
  | some v => decide ((v.1 = nf ∧ v.2 = nt) ∨ (v.1 = nt ∧ v.2 = nf))
  | none => false
/-- a subnet as the parts of a connection see it: its network's number and block, its rules, its routes -/
abbrev zSv : Type := Nat × zBk × List zRl × List zRt
def zsf (Z : va_W) (C : zLs) (ns : List Nat) (sb : Nat) (v : zSv) : Prop := ∃ (nw bk rl rt : Nat) (es fs : List Nat), (sb, Sum.inr (9, [.ref nw, .ref bk, .ref rl, .ref rt])) ∈ Z ∧ ns[v.1]? = some nw ∧ (nw, Sum.inr (3, [.int v.2.1.1, .int v.2.1.2])) ∈ Z ∧ C rl = some es ∧ zls (zrl Z) es v.2.2.1 ∧ es.length ≤ 1000 ∧ C rt = some fs ∧ zls (zrt Z) fs v.2.2.2 ∧ fs.length ≤ 1000
/-- a host: its subnet's number and value, its address, its groups -/
def zhf (Z : va_W) (C : zLs) (ns ss : List Nat) (a : Nat) (si : Nat) (v : zSv) (ad gs : Int32) : Prop := ∃ sb : Nat, (a, Sum.inr (5, [.ref sb, .int ad, .int gs])) ∈ Z ∧ ss[si]? = some sb ∧ zsf Z C ns sb v
/-- the analyser: groups and peerings -/
def zcf (Z : va_W) (C : zLs) (x : Nat) (ns ss : List Nat) (gvs : List (List zRl)) (pvs : List (Nat × Nat)) : Prop := ∃ (q0 q1 q2 q3 q4 : Nat) (gs ps : List Nat), (x, Sum.inr (10, [.ref q0, .ref q1, .ref q2, .ref q3, .ref q4])) ∈ Z ∧ C q4 = some gs ∧ zls (zgr Z C) gs gvs ∧ gs.length ≤ 1000 ∧ C q3 = some ps ∧ zls (zpr Z ns) ps pvs ∧ ps.length ≤ 1000 ∧ ns.Nodup ∧ ss.Nodup
theorem z_nd {ns : List Nat} {i j a b : Nat} (hn : ns.Nodup) (hi : ns[i]? = some a) (hj : ns[j]? = some b) : a = b ↔ i = j := by
  constructor
  · intro h
    exact z_eqj hn hj hi (by rw [h])
  · intro h
    subst h
    exact Option.some.inj (hi.symm.trans hj)
def zopen (gvs : List (List zRl)) (pvs : List (Nat × Nat)) (p s1 s2 : Nat) (v1 v2 : zSv) (a1 g1 a2 g2 : Int32) : Int32 :=
  if s1 = s2 ∧ p ≠ 1 ∧ p ≠ 5 then 65535 else
  if p = 1 then zgps 0 a2 g1 gvs 0 0 else
  if p = 2 then zlp 0 a2 v1.2.2.1 0 0 0 else
  if p = 3 then zaon (zrtd pvs v1.1 v2.1 (zrnum v1.2.1.1 v1.2.1.2 v1.2.2.2 a2)) else
  if p = 4 then zlp 1 a1 v2.2.2.1 0 0 0 else
  if p = 5 then zgps 1 a1 g2 gvs 0 0 else
  if p = 6 then zaon (zrep (zlp 0 a1 v2.2.2.1 0 0 0)) else
  if p = 7 then zaon (zrtd pvs v2.1 v1.1 (zrnum v2.2.1.1 v2.2.1.2 v2.2.2.2 a1)) else
  zaon (zrep (zlp 1 a2 v1.2.2.1 0 0 0))
def zwork (gvs : List (List zRl)) (pvs : List (Nat × Nat)) (s1 s2 : Nat) (v1 v2 : zSv) (a1 g1 a2 g2 : Int32) : Nat → Int32
  | 0 => 65535
  | p + 1 => zwork gvs pvs s1 s2 v1 v2 a1 g1 a2 g2 p &&& zopen gvs pvs (p + 1) s1 s2 v1 v2 a1 g1 a2 g2
set_option maxRecDepth 100000 in
set_option maxHeartbeats 4000000 in
/-- allOrNone -/
theorem c_X7_allOrNone (E : zG) (l : Launch) (w : Heap → Prop) (b : Bool) : Met l yX7_allOrNone wsX7_allOrNone (zR 0 0 0) (zPre E [.int (zb b)] w) (zRi E w (zaon b)) 0 0 (eA E) := by
  refine z_of (cc := cX7_allOrNone) (maxL := 1) (ret := (some .int)) (by decide) rfl rfl (Nat.le_of_ble_eq_true rfl) ?_
  intro p e s m below meth c ls Cx hr hnm hw hl
  have hx := Cx.1.1
  have hb := Cx.1.2.1
  have hl : lv_has ls 1 [(0, .int (zb b))] := hl
  refine lv_iload_n hx hb dX7_allOrNone_0 rfl (lv_at hl 0 rfl) ?_
  refine lv_if_eq (tgt := 9) hx hb dX7_allOrNone_1 (by decide) (fun c_1 => ?_) (fun c_1 => ?_)
  · skip
    have c_2 := (zb_0 b).mp c_1
    subst c_2
    refine lv_iconst (v := 0) hx hb dX7_allOrNone_9 (by decide) ?_
    exact (z_ie Cx hr rfl (Nat.le_of_ble_eq_true rfl) (Nat.le_of_ble_eq_true rfl) hw dX7_allOrNone_10 rfl)
  · skip
    have c_2 := (zb_1 b).mp c_1
    subst c_2
    refine lv_ldc hx hb Cx.1.2.2.2.1 (Cx.1.2.2.2.2 (Cond.constant RX7 225 (65535)) (List.mem_of_getElem? (i := 1) rfl)) dX7_allOrNone_4 ?_
    refine lv_goto (tgt := 10) hx hb dX7_allOrNone_6 (by decide) ?_
    exact (z_ie Cx hr rfl (Nat.le_of_ble_eq_true rfl) (Nat.le_of_ble_eq_true rfl) hw dX7_allOrNone_10 rfl)

set_option maxRecDepth 100000 in
set_option maxHeartbeats 4000000 in
/-- hasReplyPort -/
theorem c_X7_hasReply (E : zG) (l : Launch) (w : Heap → Prop) (p0 : Int32) : Met l yX7_hasReplyPort wsX7_hasReplyPort (zR 0 0 0) (zPre E [.int p0] w) (zRi E w (zb (zrep p0))) 0 0 (eA E) := by
  refine z_of (cc := cX7_hasReplyPort) (maxL := 1) (ret := (some .boolean)) (by decide) rfl rfl (Nat.le_of_ble_eq_true rfl) ?_
  intro p e s m below meth c ls Cx hr hnm hw hl
  have hx := Cx.1.1
  have hb := Cx.1.2.1
  have hl : lv_has ls 1 [(0, .int p0)] := hl
  refine lv_iload_n hx hb dX7_hasReplyPort_0 rfl (lv_at hl 0 rfl) ?_
  refine lv_ldc hx hb Cx.1.2.2.2.1 (Cx.1.2.2.2.2 (Cond.constant RX7 249 (32768)) (List.mem_of_getElem? (i := 1) rfl)) dX7_hasReplyPort_1 ?_
  refine lv_iand hx hb dX7_hasReplyPort_3 ?_
  refine lv_if_eq (tgt := 11) hx hb dX7_hasReplyPort_4 (by decide) (fun c_4 => ?_) (fun c_4 => ?_)
  · skip
    refine lv_iconst (v := 0) hx hb dX7_hasReplyPort_11 (by decide) ?_
    exact (z_ie Cx hr rfl (Nat.le_of_ble_eq_true rfl) (Nat.le_of_ble_eq_true rfl) hw dX7_hasReplyPort_12 (by simp_all [zrep]))
  · skip
    refine lv_iconst (v := 1) hx hb dX7_hasReplyPort_7 (by decide) ?_
    refine lv_goto (tgt := 12) hx hb dX7_hasReplyPort_8 (by decide) ?_
    exact (z_ie Cx hr rfl (Nat.le_of_ble_eq_true rfl) (Nat.le_of_ble_eq_true rfl) hw dX7_hasReplyPort_12 (by simp_all [zrep]))

set_option maxRecDepth 100000 in
set_option maxHeartbeats 4000000 in
/-- groupPorts -/
theorem c_X7_groupPorts (E : zG) (l : Launch) (Z : va_W) (C : zLs) (x q0 q1 q2 q3 q : Nat) (es : List Nat) (gvs : List (List zRl)) (hx0 : (x, Sum.inr (10, [.ref q0, .ref q1, .ref q2, .ref q3, .ref q])) ∈ Z) (hq : C q = some es) (hls : zls (zgr Z C) es gvs) (hn : es.length ≤ 1000) (a sb : Nat) (ad gset inw xx : Int32) (h : (a, Sum.inr (5, [.ref sb, .int ad, .int gset])) ∈ Z)  : Met l yX7_groupPorts wsX7_groupPorts (zR 4 0 0) (zPre E [.ref x, .ref a, .int inw, .int xx] (zQ E Z C)) (zRi E (zQ E Z C) (zgps inw xx gset gvs 0 0)) 0 0 (eA E) := by
  refine z_of (cc := cX7_groupPorts) (maxL := 6) (ret := (some .int)) (by decide) rfl rfl (Nat.le_of_ble_eq_true rfl) ?_
  intro p e s m below meth c ls Cx hr hnm hw hl
  have hx := Cx.1.1
  have hb := Cx.1.2.1
  have hl : lv_has ls 6 [(0, .ref x), (1, .ref a), (2, .int inw), (3, .int xx)] := hl
  refine lv_iconst (v := 0) hx hb dX7_groupPorts_0 (by decide) ?_
  refine lv_istore hx hb dX7_groupPorts_1 hl (by decide) rfl (fun ls hl => ?_)
  have hl : lv_has ls 6 [(4, _), (0, .ref x), (1, .ref a), (2, .int inw), (3, .int xx)] := hl
  refine lv_iconst (v := nI 0) hx hb dX7_groupPorts_3 rfl ?_
  refine lv_istore hx hb dX7_groupPorts_4 hl (by decide) rfl (fun ls hl => ?_)
  have hl : lv_has ls 6 [(5, .int (nI 0)), (4, _), (0, .ref x), (1, .ref a), (2, .int inw), (3, .int xx)] := hl
  have loop_6 : ∀ (nn : Nat) (i : Nat) (o : Int32) (H : Heap) (locs : List Loc) (ls : Array Slot), (i ≤ es.length) → (zgps inw xx gset (gvs.drop i) i o = zgps inw xx gset gvs 0 0) → es.length - i < nn → zHw E (zQ E Z C) s H locs → lv_has ls 6 [(0, .ref x), (1, .ref a), (2, .int inw), (3, .int xx), (4, .int o), (5, .int (nI i))] → W p l e (zR 4 0 0) s m ([.ref x, .ref a, .int inw, .int xx] : List Value).toArray below meth c H locs 0 0 (MQ below (zRi E (zQ E Z C) (zgps inw xx gset gvs 0 0)) ([.ref x, .ref a, .int inw, .int xx] : List Value).toArray s 0 0 (eA E)) (F0 m 6 ls []) := by
    intro nn
    induction nn with
    | zero => intro i o H locs ls hi hacc hm; exact absurd hm (Nat.not_lt_zero _)
    | succ nn ih =>
      intro i o H locs ls hi hacc hm hw hl
      refine lv_iload hx hb dX7_groupPorts_6 (lv_at hl 5 rfl) ?_
      refine lv_aload_n hx hb dX7_groupPorts_8 rfl (lv_at hl 0 rfl) ?_
      refine z_get Cx hw (T := TX7) (N := 5) (ci := 10) (fun _ h => List.mem_cons_of_mem _ (List.mem_append_left _ (List.mem_append_left _ (List.mem_append_left _ (List.mem_append_left _ (List.mem_append_left _ (List.mem_append_right _ (h)))))))) hx0 rfl 4 (by decide) (List.mem_of_getElem? (i := 1) rfl) rfl rfl dX7_groupPorts_9 ?_
      refine z_goe hw.2 (z_runV Cx hw (c_al_size E l Z C q es hq) (cwV 0 Cx.1.2.2.2.2 gX7_groupPorts_Jx4a65c_size_8abf5 rfl rfl rfl (by decide +kernel) ⟨Nat.le_of_ble_eq_true rfl, Nat.le_of_ble_eq_true rfl⟩) (z_recvL Cx hw hq) rfl hl.1 rfl (Nat.le_of_ble_eq_true rfl) dX7_groupPorts_12 ⟨Nat.le_of_ble_eq_true rfl, Nat.le_of_ble_eq_true rfl⟩) (fun H locs hw => ?_)
      refine lv_icmp_ge (tgt := 55) hx hb dX7_groupPorts_15 (by decide) (fun c_15 => ?_) (fun c_15 => ?_)
      · skip
        refine lv_iload hx hb dX7_groupPorts_55 (lv_at hl 4 rfl) ?_
        exact (z_ie Cx hr rfl (Nat.le_of_ble_eq_true rfl) (Nat.le_of_ble_eq_true rfl) hw dX7_groupPorts_57 (by rw [← hacc, z_end hls hi c_15 hn, zgps]))
      · skip
        have hi2 := z_lt hi c_15 hn
        obtain ⟨ai, v, ha, hv, hp, hd⟩ := z_at hls hi2
        rw [hd] at hacc
        obtain ⟨qi, gi, hb1, hb2, hb3, hb4⟩ := hp
        refine lv_aload_n hx hb dX7_groupPorts_18 rfl (lv_at hl 1 rfl) ?_
        refine lv_iload hx hb dX7_groupPorts_19 (lv_at hl 5 rfl) ?_
        refine z_goe hw.2 (z_runV Cx hw (c_X2_isInGroup E l Z C a sb ad gset (nI i) h) (cwV 1 Cx.1.2.2.2.2 gX7_groupPorts_X2_isInGroup rfl rfl rfl (by decide +kernel) ⟨Nat.le_of_ble_eq_true rfl, Nat.le_of_ble_eq_true rfl⟩) (z_recv Cx hw (r := (RX2, TX2, 3)) h rfl) rfl hl.1 rfl (Nat.le_of_ble_eq_true rfl) dX7_groupPorts_21 ⟨Nat.le_of_ble_eq_true rfl, Nat.le_of_ble_eq_true rfl⟩) (fun H locs hw => ?_)
        refine lv_if_eq (tgt := 49) hx hb dX7_groupPorts_24 (by decide) (fun c_24 => ?_) (fun c_24 => ?_)
        · skip
          have hacc2 : zgps inw xx gset (gvs.drop (i + 1)) (i + 1) o = zgps inw xx gset gvs 0 0 := by rw [← hacc, zgps, if_pos (by simpa using (zb_0 _).mp c_24)]
          refine lv_iinc (v := nI (i + 1)) hx hb dX7_groupPorts_49 hl (k := 5) rfl (nI_1 i) (by decide) rfl (fun ls hl => ?_)
          have hl : lv_has ls 6 [(5, .int (nI (i + 1))), (0, .ref x), (1, .ref a), (2, .int inw), (3, .int xx), (4, .int o)] := hl
          refine lv_goto (tgt := 6) hx hb dX7_groupPorts_52 (by decide) ?_
          exact ih (i + 1) _ H _ ls (by omega) hacc2 (by omega) hw (lv_sub hl [1, 2, 3, 4, 5, 0] rfl)
        · skip
          have hacc2 : zgps inw xx gset (gvs.drop (i + 1)) (i + 1) (o ||| zgp inw xx v 0) = zgps inw xx gset gvs 0 0 := by rw [← hacc, zgps, if_neg (by simpa using (zb_1 _).mp c_24)]
          refine lv_iload hx hb dX7_groupPorts_27 (lv_at hl 4 rfl) ?_
          refine lv_aload_n hx hb dX7_groupPorts_29 rfl (lv_at hl 0 rfl) ?_
          refine z_get Cx hw (T := TX7) (N := 5) (ci := 10) (fun _ h => List.mem_cons_of_mem _ (List.mem_append_left _ (List.mem_append_left _ (List.mem_append_left _ (List.mem_append_left _ (List.mem_append_left _ (List.mem_append_right _ (h)))))))) hx0 rfl 4 (by decide) (List.mem_of_getElem? (i := 1) rfl) rfl rfl dX7_groupPorts_30 ?_
          refine lv_iload hx hb dX7_groupPorts_33 (lv_at hl 5 rfl) ?_
          refine z_goer hw.2 (z_runV Cx hw (c_al_get E l Z C q es hq i ai ha) (cwV 1 Cx.1.2.2.2.2 gX7_groupPorts_Jx4a65c_get_915e3 rfl rfl rfl (by decide +kernel) ⟨Nat.le_of_ble_eq_true rfl, Nat.le_of_ble_eq_true rfl⟩) (z_recvL Cx hw hq) rfl hl.1 rfl (Nat.le_of_ble_eq_true rfl) dX7_groupPorts_35 ⟨Nat.le_of_ble_eq_true rfl, Nat.le_of_ble_eq_true rfl⟩) (fun H locs hw => ?_)
          refine z_cast Cx hw (r := (RX1, TX1, 1)) hb1 rfl (List.mem_of_getElem? (i := 2) rfl) dX7_groupPorts_38 ?_
          refine lv_iload_n hx hb dX7_groupPorts_41 rfl (lv_at hl 2 rfl) ?_
          refine lv_iload_n hx hb dX7_groupPorts_42 rfl (lv_at hl 3 rfl) ?_
          refine z_goe hw.2 (z_runV Cx hw (c_X1_rulePorts E l Z C ai inw xx qi gi v hb2 hb3 (by omega) hb1) (cwV 2 Cx.1.2.2.2.2 gX7_groupPorts_X1_rulePorts rfl rfl rfl (by decide +kernel) ⟨Nat.le_of_ble_eq_true rfl, Nat.le_of_ble_eq_true rfl⟩) (z_recv Cx hw (r := (RX1, TX1, 1)) hb1 rfl) rfl hl.1 rfl (Nat.le_of_ble_eq_true rfl) dX7_groupPorts_43 ⟨Nat.le_of_ble_eq_true rfl, Nat.le_of_ble_eq_true rfl⟩) (fun H locs hw => ?_)
          refine lv_ior hx hb dX7_groupPorts_46 ?_
          refine lv_istore hx hb dX7_groupPorts_47 hl (by decide) rfl (fun ls hl => ?_)
          have hl : lv_has ls 6 [(4, _), (0, .ref x), (1, .ref a), (2, .int inw), (3, .int xx), (5, .int (nI i))] := hl
          refine lv_iinc (v := nI (i + 1)) hx hb dX7_groupPorts_49 hl (k := 5) rfl (nI_1 i) (by decide) rfl (fun ls hl => ?_)
          have hl : lv_has ls 6 [(5, .int (nI (i + 1))), (4, _), (0, .ref x), (1, .ref a), (2, .int inw), (3, .int xx)] := hl
          refine lv_goto (tgt := 6) hx hb dX7_groupPorts_52 (by decide) ?_
          exact ih (i + 1) _ H _ ls (by omega) hacc2 (by omega) hw (lv_sub hl [2, 3, 4, 5, 1, 0] rfl)
  exact loop_6 ((es.length - 0) + 1) 0 0 _ _ ls (Nat.zero_le _) rfl (Nat.lt_succ_self _) hw (lv_sub hl [2, 3, 4, 5, 1, 0] rfl)

set_option maxRecDepth 100000 in
set_option maxHeartbeats 4000000 in
/-- isRouted -/
theorem c_X7_isRouted (E : zG) (l : Launch) (Z : va_W) (C : zLs) (x q0 q1 q2 q q4 : Nat) (ns es : List Nat) (pvs : List (Nat × Nat)) (hx0 : (x, Sum.inr (10, [.ref q0, .ref q1, .ref q2, .ref q, .ref q4])) ∈ Z) (hq : C q = some es) (hls : zls (zpr Z ns) es pvs) (hn : es.length ≤ 1000) (hnd : ns.Nodup) (a : Nat) (v1 : zSv) (hs1 : zsf Z C ns a v1) (b sb : Nat) (v2 : zSv) (ad gset : Int32) (hb0 : (b, Sum.inr (5, [.ref sb, .int ad, .int gset])) ∈ Z) (hs2 : zsf Z C ns sb v2)  : Met l yX7_isRouted wsX7_isRouted (zR 4 0 0) (zPre E [.ref x, .ref a, .ref b] (zQ E Z C)) (zRi E (zQ E Z C) (zb (zrtd pvs v1.1 v2.1 (zrnum v1.2.1.1 v1.2.1.2 v1.2.2.2 ad)))) 0 0 (eA E) := by
  refine z_of (cc := cX7_isRouted) (maxL := 4) (ret := (some .boolean)) (by decide) rfl rfl (Nat.le_of_ble_eq_true rfl) ?_
  intro p e s m below meth c ls Cx hr hnm hw hl
  have hx := Cx.1.1
  have hb := Cx.1.2.1
  obtain ⟨nw, bk, rl, rt, e1, f1, h1, h2, h3, -, -, -, h4, h5, h6⟩ := hs1
  obtain ⟨nw2, bk2, rl2, rt2, e2, f2, g1, g2, g3, -, -, -, -, -, -⟩ := hs2
  have hl : lv_has ls 4 [(0, .ref x), (1, .ref a), (2, .ref b)] := hl
  refine lv_aload_n hx hb dX7_isRouted_0 rfl (lv_at hl 1 rfl) ?_
  refine lv_aload_n hx hb dX7_isRouted_1 rfl (lv_at hl 2 rfl) ?_
  refine z_get Cx hw (T := TX2) (N := 3) (ci := 5) (fun _ h => List.mem_cons_of_mem _ (List.mem_append_left _ (List.mem_append_left _ (List.mem_append_left _ (List.mem_append_left _ (List.mem_append_left _ (List.mem_append_left _ (List.mem_append_right _ (h))))))))) hb0 rfl 1 (by decide) (List.mem_of_getElem? (i := 1) rfl) rfl rfl dX7_isRouted_2 ?_
  refine z_goe hw.2 (z_runV Cx hw (c_X6_routeNumber E l Z C a nw bk rl ad v1.2.1.1 v1.2.1.2 h3 rt f1 v1.2.2.2 h4 h5 h6 h1) (cwV 1 Cx.1.2.2.2.2 gX7_isRouted_X6_routeNumber rfl rfl rfl (by decide +kernel) ⟨Nat.le_of_ble_eq_true rfl, Nat.le_of_ble_eq_true rfl⟩) (z_recv Cx hw (r := (RX6, TX6, 4)) h1 rfl) rfl hl.1 rfl (Nat.le_of_ble_eq_true rfl) dX7_isRouted_5 ⟨Nat.le_of_ble_eq_true rfl, Nat.le_of_ble_eq_true rfl⟩) (fun H locs hw => ?_)
  refine lv_topi (fun nu enu => ?_)
  have enu2 : zrnum v1.2.1.1 v1.2.1.2 v1.2.2.2 ad = nu := enu.symm
  rw [enu2]
  clear enu enu2
  refine lv_istore_n hx hb dX7_isRouted_8 rfl hl (by decide) rfl (fun ls hl => ?_)
  have hl : lv_has ls 4 [(3, _), (0, .ref x), (1, .ref a), (2, .ref b)] := hl
  refine lv_iload_n hx hb dX7_isRouted_9 rfl (lv_at hl 0 rfl) ?_
  refine lv_iconst (v := -1) hx hb dX7_isRouted_10 (by decide) ?_
  refine lv_icmp_ne (tgt := 34) hx hb dX7_isRouted_11 (by decide) (fun c_11 => ?_) (fun c_11 => ?_)
  · skip
    refine lv_iload_n hx hb dX7_isRouted_34 rfl (lv_at hl 0 rfl) ?_
    refine lv_if_lt (tgt := 81) hx hb dX7_isRouted_35 (by decide) (fun c_35 => ?_) (fun c_35 => ?_)
    · skip
      refine lv_iconst (v := 0) hx hb dX7_isRouted_81 (by decide) ?_
      exact (z_ie Cx hr rfl (Nat.le_of_ble_eq_true rfl) (Nat.le_of_ble_eq_true rfl) hw dX7_isRouted_82 (by first
        | (rw [zrtd, if_neg c_11, if_pos c_35]; rfl)
        | (rw [zrtd, if_neg c_11, if_neg (nI_pos hk31), nI_clamp hk31, hv]; show _ = zb (decide _); rw [c_75]; rfl)
        | (rw [zrtd, if_neg c_11, if_neg (nI_pos hk31), nI_clamp hk31, List.getElem?_eq_none (by rw [← hls.1]; exact c_47)]; rfl)))
    · skip
      obtain ⟨k, hk31, rfl⟩ := nI_of c_35
      refine lv_iload_n hx hb dX7_isRouted_38 rfl (lv_at hl 0 rfl) ?_
      refine lv_aload_n hx hb dX7_isRouted_39 rfl (lv_at hl 1 rfl) ?_
      refine z_get Cx hw (T := TX7) (N := 5) (ci := 10) (fun _ h => List.mem_cons_of_mem _ (List.mem_append_left _ (List.mem_append_left _ (List.mem_append_left _ (List.mem_append_left _ (List.mem_append_right _ (h))))))) hx0 rfl 3 (by decide) (List.mem_of_getElem? (i := 4) rfl) rfl rfl dX7_isRouted_40 ?_
      refine z_goe hw.2 (z_runV Cx hw (c_al_size E l Z C q es hq) (cwV 0 Cx.1.2.2.2.2 gX7_isRouted_Jx4a65c_size_8abf5 rfl rfl rfl (by decide +kernel) ⟨Nat.le_of_ble_eq_true rfl, Nat.le_of_ble_eq_true rfl⟩) (z_recvL Cx hw hq) rfl hl.1 rfl (Nat.le_of_ble_eq_true rfl) dX7_isRouted_43 ⟨Nat.le_of_ble_eq_true rfl, Nat.le_of_ble_eq_true rfl⟩) (fun H locs hw => ?_)
      refine lv_icmp_ge (tgt := 81) hx hb dX7_isRouted_46 (by decide) (fun c_46 => ?_) (fun c_46 => ?_)
      · skip
        have c_47 := (nI_leI (by omega) hk31).mp c_46
        refine lv_iconst (v := 0) hx hb dX7_isRouted_81 (by decide) ?_
        exact (z_ie Cx hr rfl (Nat.le_of_ble_eq_true rfl) (Nat.le_of_ble_eq_true rfl) hw dX7_isRouted_82 (by first
          | (rw [zrtd, if_neg c_11, if_pos c_35]; rfl)
          | (rw [zrtd, if_neg c_11, if_neg (nI_pos hk31), nI_clamp hk31, hv]; show _ = zb (decide _); rw [c_75]; rfl)
          | (rw [zrtd, if_neg c_11, if_neg (nI_pos hk31), nI_clamp hk31, List.getElem?_eq_none (by rw [← hls.1]; exact c_47)]; rfl)))
      · skip
        have hk : k < es.length := by
          rcases Nat.lt_or_ge k es.length with h | h
          · exact h
          · exact absurd (nI_le h hk31) c_46
        obtain ⟨ai, v, ha, hv, ⟨o1, o2, p1, p2, p3⟩, hd⟩ := z_at hls hk
        refine lv_aload_n hx hb dX7_isRouted_49 rfl (lv_at hl 1 rfl) ?_
        refine z_get Cx hw (T := TX7) (N := 5) (ci := 10) (fun _ h => List.mem_cons_of_mem _ (List.mem_append_left _ (List.mem_append_left _ (List.mem_append_left _ (List.mem_append_left _ (List.mem_append_right _ (h))))))) hx0 rfl 3 (by decide) (List.mem_of_getElem? (i := 4) rfl) rfl rfl dX7_isRouted_50 ?_
        refine lv_iload_n hx hb dX7_isRouted_53 rfl (lv_at hl 0 rfl) ?_
        refine z_goer hw.2 (z_runV Cx hw (c_al_get E l Z C q es hq k ai ha) (cwV 1 Cx.1.2.2.2.2 gX7_isRouted_Jx4a65c_get_915e3 rfl rfl rfl (by decide +kernel) ⟨Nat.le_of_ble_eq_true rfl, Nat.le_of_ble_eq_true rfl⟩) (z_recvL Cx hw hq) rfl hl.1 rfl (Nat.le_of_ble_eq_true rfl) dX7_isRouted_54 ⟨Nat.le_of_ble_eq_true rfl, Nat.le_of_ble_eq_true rfl⟩) (fun H locs hw => ?_)
        refine z_cast Cx hw (r := (RX3, TX3, 2)) p1 rfl (List.mem_of_getElem? (i := 5) rfl) dX7_isRouted_57 ?_
        refine lv_aload_n hx hb dX7_isRouted_60 rfl (lv_at hl 2 rfl) ?_
        refine z_get Cx hw (T := TX6) (N := 4) (ci := 9) (fun _ h => List.mem_cons_of_mem _ (List.mem_append_left _ (List.mem_append_left _ (List.mem_append_left _ (List.mem_append_left _ (List.mem_append_left _ (List.mem_append_right _ (h)))))))) h1 rfl 0 (by decide) (List.mem_of_getElem? (i := 2) rfl) rfl rfl dX7_isRouted_61 ?_
        refine lv_aload_n hx hb dX7_isRouted_64 rfl (lv_at hl 3 rfl) ?_
        refine z_get Cx hw (T := TX2) (N := 3) (ci := 5) (fun _ h => List.mem_cons_of_mem _ (List.mem_append_left _ (List.mem_append_left _ (List.mem_append_left _ (List.mem_append_left _ (List.mem_append_left _ (List.mem_append_left _ (List.mem_append_right _ (h))))))))) hb0 rfl 0 (by decide) (List.mem_of_getElem? (i := 3) rfl) rfl rfl dX7_isRouted_65 ?_
        refine z_get Cx hw (T := TX6) (N := 4) (ci := 9) (fun _ h => List.mem_cons_of_mem _ (List.mem_append_left _ (List.mem_append_left _ (List.mem_append_left _ (List.mem_append_left _ (List.mem_append_left _ (List.mem_append_right _ (h)))))))) g1 rfl 0 (by decide) (List.mem_of_getElem? (i := 2) rfl) rfl rfl dX7_isRouted_68 ?_
        refine z_goe hw.2 (z_runV Cx hw (c_X3_joins E l Z C ai o1 o2 nw nw2 p1) (cwV 2 Cx.1.2.2.2.2 gX7_isRouted_X3_joins rfl rfl rfl (by decide +kernel) ⟨Nat.le_of_ble_eq_true rfl, Nat.le_of_ble_eq_true rfl⟩) (z_recv Cx hw (r := (RX3, TX3, 2)) p1 rfl) rfl hl.1 rfl (Nat.le_of_ble_eq_true rfl) dX7_isRouted_71 ⟨Nat.le_of_ble_eq_true rfl, Nat.le_of_ble_eq_true rfl⟩) (fun H locs hw => ?_)
        rw [decide_eq_decide.mpr (or_congr (and_congr (z_nd hnd p2 h2) (z_nd hnd p3 g2)) (and_congr (z_nd hnd p2 g2) (z_nd hnd p3 h2)))]
        refine lv_if_eq (tgt := 81) hx hb dX7_isRouted_74 (by decide) (fun c_74 => ?_) (fun c_74 => ?_)
        · skip
          have c_75 := (zb_0 _).mp c_74
          refine lv_iconst (v := 0) hx hb dX7_isRouted_81 (by decide) ?_
          exact (z_ie Cx hr rfl (Nat.le_of_ble_eq_true rfl) (Nat.le_of_ble_eq_true rfl) hw dX7_isRouted_82 (by first
            | (rw [zrtd, if_neg c_11, if_pos c_35]; rfl)
            | (rw [zrtd, if_neg c_11, if_neg (nI_pos hk31), nI_clamp hk31, hv]; show _ = zb (decide _); rw [c_75]; rfl)
            | (rw [zrtd, if_neg c_11, if_neg (nI_pos hk31), nI_clamp hk31, List.getElem?_eq_none (by rw [← hls.1]; exact c_47)]; rfl)))
        · skip
          have c_75 := (zb_1 _).mp c_74
          refine lv_iconst (v := 1) hx hb dX7_isRouted_77 (by decide) ?_
          refine lv_goto (tgt := 82) hx hb dX7_isRouted_78 (by decide) ?_
          exact (z_ie Cx hr rfl (Nat.le_of_ble_eq_true rfl) (Nat.le_of_ble_eq_true rfl) hw dX7_isRouted_82 (by first
            | (rw [zrtd, if_neg c_11, if_pos c_35]; rfl)
            | (rw [zrtd, if_neg c_11, if_neg (nI_pos hk31), nI_clamp hk31, hv]; show _ = zb (decide _); rw [c_75]; rfl)
            | (rw [zrtd, if_neg c_11, if_neg (nI_pos hk31), nI_clamp hk31, List.getElem?_eq_none (by rw [← hls.1]; exact c_47)]; rfl)))
  · skip
    refine lv_aload_n hx hb dX7_isRouted_14 rfl (lv_at hl 2 rfl) ?_
    refine z_get Cx hw (T := TX6) (N := 4) (ci := 9) (fun _ h => List.mem_cons_of_mem _ (List.mem_append_left _ (List.mem_append_left _ (List.mem_append_left _ (List.mem_append_left _ (List.mem_append_left _ (List.mem_append_right _ (h)))))))) h1 rfl 0 (by decide) (List.mem_of_getElem? (i := 2) rfl) rfl rfl dX7_isRouted_15 ?_
    refine lv_aload_n hx hb dX7_isRouted_18 rfl (lv_at hl 3 rfl) ?_
    refine z_get Cx hw (T := TX2) (N := 3) (ci := 5) (fun _ h => List.mem_cons_of_mem _ (List.mem_append_left _ (List.mem_append_left _ (List.mem_append_left _ (List.mem_append_left _ (List.mem_append_left _ (List.mem_append_left _ (List.mem_append_right _ (h))))))))) hb0 rfl 0 (by decide) (List.mem_of_getElem? (i := 3) rfl) rfl rfl dX7_isRouted_19 ?_
    refine z_get Cx hw (T := TX6) (N := 4) (ci := 9) (fun _ h => List.mem_cons_of_mem _ (List.mem_append_left _ (List.mem_append_left _ (List.mem_append_left _ (List.mem_append_left _ (List.mem_append_left _ (List.mem_append_right _ (h)))))))) g1 rfl 0 (by decide) (List.mem_of_getElem? (i := 2) rfl) rfl rfl dX7_isRouted_22 ?_
    refine lv_acmp_ne (rx := some nw) (ry := some nw2) (tgt := 32) hx hb dX7_isRouted_25 (by decide) (fun c_25 => ?_) (fun c_25 => ?_)
    · skip
      have c_26 : ¬ v1.1 = v2.1 := fun h => c_25 (by rw [(z_nd hnd h2 g2).mpr h])
      refine lv_iconst (v := 0) hx hb dX7_isRouted_32 (by decide) ?_
      exact (z_ie Cx hr rfl (Nat.le_of_ble_eq_true rfl) (Nat.le_of_ble_eq_true rfl) hw dX7_isRouted_33 (by first | (rw [zrtd, if_pos c_11, decide_eq_false c_26]; rfl) | (rw [zrtd, if_pos c_11, decide_eq_true c_26]; rfl)))
    · skip
      have c_26 := (z_nd hnd h2 g2).mp (Option.some.inj c_25)
      refine lv_iconst (v := 1) hx hb dX7_isRouted_28 (by decide) ?_
      refine lv_goto (tgt := 33) hx hb dX7_isRouted_29 (by decide) ?_
      exact (z_ie Cx hr rfl (Nat.le_of_ble_eq_true rfl) (Nat.le_of_ble_eq_true rfl) hw dX7_isRouted_33 (by first | (rw [zrtd, if_pos c_11, decide_eq_false c_26]; rfl) | (rw [zrtd, if_pos c_11, decide_eq_true c_26]; rfl)))

