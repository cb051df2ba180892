/-! the class's objects as values: a block (base, size), a rule (in, allows, block, ports), a route (block, peering) -/
abbrev zBk : Type := Int32 × Int32
abbrev zRl : Type := Int32 × Int32 × zBk × Int32
abbrev zRt : Type := zBk × Int32
def zbk (Z : va_W) (a : Nat) (v : zBk) : Prop := (a, Sum.inr (3, [.int v.1, .int v.2])) ∈ Z
def zrl (Z : va_W) (a : Nat) (v : zRl) : Prop := ∃ b, (a, Sum.inr (8, [.int v.1, .int v.2.1, .ref b, .int v.2.2.2])) ∈ Z ∧ (b, Sum.inr (3, [.int v.2.2.1.1, .int v.2.2.1.2])) ∈ Z
def zrt (Z : va_W) (a : Nat) (v : zRt) : Prop := ∃ b, (a, Sum.inr (7, [.ref b, .int v.2])) ∈ Z ∧ (b, Sum.inr (3, [.int v.1.1, .int v.1.2])) ∈ Z
/-- a list of objects, and their values -/
def zls {α : Type} (P : Nat → α → Prop) (as : List Nat) (vs : List α) : Prop := as.length = vs.length ∧ ∀ (i a : Nat) (v : α), as[i]? = some a → vs[i]? = some v → P a v
theorem z_at {α : Type} {P : Nat → α → Prop} {as : List Nat} {vs : List α} (h : zls P as vs) {i : Nat} (hi : i < as.length) : ∃ (a : Nat) (v : α), as[i]? = some a ∧ vs[i]? = some v ∧ P a v ∧ vs.drop i = v :: vs.drop (i + 1) := by
  have hj : i < vs.length := by rw [← h.1]; exact hi
  exact ⟨as[i], vs[i], List.getElem?_eq_getElem hi, List.getElem?_eq_getElem hj, h.2 i _ _ (List.getElem?_eq_getElem hi) (List.getElem?_eq_getElem hj), List.drop_eq_getElem_cons hj⟩
theorem z_end {α : Type} {P : Nat → α → Prop} {as : List Nat} {vs : List α} (h : zls P as vs) {i : Nat} (hi : i ≤ as.length) (hc : nI as.length ≤ nI i) (hn : as.length ≤ 1000) : vs.drop i = [] := by
  have := (nI_leI (a := as.length) (b := i) (by omega) (by omega)).mp hc
  exact List.drop_of_length_le (by rw [← h.1]; exact this)
theorem z_lt {n i : Nat} (hi : i ≤ n) (hc : ¬ nI n ≤ nI i) (hn : n ≤ 1000) : i < n := by
  rcases Nat.lt_or_ge i n with h | h
  · exact h
  · exact absurd (nI_le h (by omega)) hc
theorem zb_1 (b : Bool) : ¬ zb b = 0 ↔ b = true := by cases b <;> decide
theorem zb_0 (b : Bool) : zb b = 0 ↔ b = false := by cases b <;> decide
def zrHas (v : zRl) (inw x : Int32) : Bool := decide (v.1 = inw) && zhs v.2.2.1.1 v.2.2.1.2 x
def zgp (inw x : Int32) : List zRl → Int32 → Int32
  | [], o => o
  | v :: vs, o => zgp inw x vs (if zrHas v inw x = true then o ||| v.2.2.2 else o)
def zlp (inw x : Int32) : List zRl → Int32 → Int32 → Int32 → Int32
  | [], k, _, o => if k = 0 then 65535 else o
  | v :: vs, k, d, o => if zrHas v inw x = true then zlp inw x vs (k ||| zb (decide (v.1 = inw))) (d ||| v.2.2.2) (if v.2.1 = 0 then o else o ||| (v.2.2.2 &&& (d ^^^ -1))) else zlp inw x vs (k ||| zb (decide (v.1 = inw))) d o
def zrp (b k : Int32) : List zRt → Nat → Int32
  | [], _ => -1
  | v :: vs, i => if v.1.1 = b ∧ v.1.2 = k then nI i else zrp b k vs (i + 1)
def zrn (x : Int32) : List zRt → Int32 → Int32 → Int32
  | [], n, _ => n
  | v :: vs, n, sm => if v.1.2 < sm ∧ zhs v.1.1 v.1.2 x = true then zrn x vs v.2 v.1.2 else zrn x vs n sm
set_option maxRecDepth 100000 in
set_option maxHeartbeats 4000000 in
/-- Rule.isFor -/
theorem c_X5_isFor (E : zG) (l : Launch) (Z : va_W) (C : zLs) (a : Nat) (v : zRl) (inw x : Int32) (h : zrl Z a v)  : Met l yX5_isFor wsX5_isFor (zR 1 0 0) (zPre E [.ref a, .int inw, .int x] (zQ E Z C)) (zRi E (zQ E Z C) (zb (zrHas v inw x))) 0 0 (eA E) := by
  refine z_of (cc := cX5_isFor) (maxL := 3) (ret := (some .boolean)) (by decide) rfl rfl (Nat.le_of_ble_eq_true rfl) ?_
  intro p e s m below meth c ls Cx hr hnm hw hl
  have hx := Cx.1.1
  have hb := Cx.1.2.1
  obtain ⟨b, h1, h2⟩ := h
  have hl : lv_has ls 3 [(0, .ref a), (1, .int inw), (2, .int x)] := hl
  refine lv_aload_n hx hb dX5_isFor_0 rfl (lv_at hl 0 rfl) ?_
  refine z_get Cx hw (T := TX5) (N := 4) (ci := 8) (fun _ h => List.mem_cons_of_mem _ (List.mem_append_left _ (List.mem_append_right _ (h)))) h1 rfl 0 (by decide) (List.mem_of_getElem? (i := 1) rfl) rfl rfl dX5_isFor_1 ?_
  refine lv_iload_n hx hb dX5_isFor_4 rfl (lv_at hl 1 rfl) ?_
  refine lv_icmp_ne (tgt := 23) hx hb dX5_isFor_5 (by decide) (fun c_5 => ?_) (fun c_5 => ?_)
  · skip
    refine lv_iconst (v := 0) hx hb dX5_isFor_23 (by decide) ?_
    exact (z_ie Cx hr rfl (Nat.le_of_ble_eq_true rfl) (Nat.le_of_ble_eq_true rfl) hw dX5_isFor_24 (by simp_all [zrHas]))
  · skip
    refine lv_aload_n hx hb dX5_isFor_8 rfl (lv_at hl 0 rfl) ?_
    refine z_get Cx hw (T := TX5) (N := 4) (ci := 8) (fun _ h => List.mem_cons_of_mem _ (List.mem_append_left _ (List.mem_append_right _ (h)))) h1 rfl 2 (by decide) (List.mem_of_getElem? (i := 2) rfl) rfl rfl dX5_isFor_9 ?_
    refine lv_iload_n hx hb dX5_isFor_12 rfl (lv_at hl 2 rfl) ?_
    refine z_goe hw.2 (z_runV Cx hw (c_X0_has E l Z C b v.2.2.1.1 v.2.2.1.2 x h2) (cwV 1 Cx.1.2.2.2.2 gX5_isFor_X0_has rfl rfl rfl (by decide +kernel) ⟨Nat.le_of_ble_eq_true rfl, Nat.le_of_ble_eq_true rfl⟩) (z_recv Cx hw (r := (RX0, TX0, 2)) h2 rfl) rfl hl.1 rfl (Nat.le_of_ble_eq_true rfl) dX5_isFor_13 ⟨Nat.le_of_ble_eq_true rfl, Nat.le_of_ble_eq_true rfl⟩) (fun H locs hw => ?_)
    refine lv_if_eq (tgt := 23) hx hb dX5_isFor_16 (by decide) (fun c_16 => ?_) (fun c_16 => ?_)
    · skip
      refine lv_iconst (v := 0) hx hb dX5_isFor_23 (by decide) ?_
      exact (z_ie Cx hr rfl (Nat.le_of_ble_eq_true rfl) (Nat.le_of_ble_eq_true rfl) hw dX5_isFor_24 (by simp_all [zrHas]))
    · skip
      refine lv_iconst (v := 1) hx hb dX5_isFor_19 (by decide) ?_
      refine lv_goto (tgt := 24) hx hb dX5_isFor_20 (by decide) ?_
      exact (z_ie Cx hr rfl (Nat.le_of_ble_eq_true rfl) (Nat.le_of_ble_eq_true rfl) hw dX5_isFor_24 (by simp_all [zrHas]))

set_option maxRecDepth 100000 in
set_option maxHeartbeats 4000000 in
/-- Group.rulePorts -/
theorem c_X1_rulePorts (E : zG) (l : Launch) (Z : va_W) (C : zLs) (g : Nat) (inw x : Int32) (q : Nat) (es : List Nat) (vs : List zRl) (hq : C q = some es) (hls : zls (zrl Z) es vs) (hn : es.length ≤ 1000) (hg : (g, Sum.inr (4, [.ref q])) ∈ Z)  : Met l yX1_rulePorts wsX1_rulePorts (zR 3 0 0) (zPre E [.ref g, .int inw, .int x] (zQ E Z C)) (zRi E (zQ E Z C) (zgp inw x vs 0)) 0 0 (eA E) := by
  refine z_of (cc := cX1_rulePorts) (maxL := 6) (ret := (some .int)) (by decide) rfl rfl (Nat.le_of_ble_eq_true rfl) ?_
  intro p e s m below meth c ls Cx hr hnm hw hl
  have hx := Cx.1.1
  have hb := Cx.1.2.1
  have hl : lv_has ls 6 [(0, .ref g), (1, .int inw), (2, .int x)] := hl
  refine lv_iconst (v := 0) hx hb dX1_rulePorts_0 (by decide) ?_
  refine lv_istore_n hx hb dX1_rulePorts_1 rfl hl (by decide) rfl (fun ls hl => ?_)
  have hl : lv_has ls 6 [(3, _), (0, .ref g), (1, .int inw), (2, .int x)] := hl
  refine lv_iconst (v := nI 0) hx hb dX1_rulePorts_2 rfl ?_
  refine lv_istore hx hb dX1_rulePorts_3 hl (by decide) rfl (fun ls hl => ?_)
  have hl : lv_has ls 6 [(4, .int (nI 0)), (3, _), (0, .ref g), (1, .int inw), (2, .int x)] := hl
  have loop_5 : ∀ (nn : Nat) (i : Nat) (o : Int32) (H : Heap) (locs : List Loc) (ls : Array Slot), (i ≤ es.length) → (zgp inw x (vs.drop i) o = zgp inw x vs 0) → es.length - i < nn → zHw E (zQ E Z C) s H locs → lv_has ls 6 [(0, .ref g), (1, .int inw), (2, .int x), (3, .int o), (4, .int (nI i))] → W p l e (zR 3 0 0) s m ([.ref g, .int inw, .int x] : List Value).toArray below meth c H locs 0 0 (MQ below (zRi E (zQ E Z C) (zgp inw x vs 0)) ([.ref g, .int inw, .int x] : List Value).toArray s 0 0 (eA E)) (F0 m 5 ls []) := by
    intro nn
    induction nn with
    | zero => intro i o H locs ls hi hacc hm; exact absurd hm (Nat.not_lt_zero _)
    | succ nn ih =>
      intro i o H locs ls hi hacc hm hw hl
      refine lv_iload hx hb dX1_rulePorts_5 (lv_at hl 4 rfl) ?_
      refine lv_aload_n hx hb dX1_rulePorts_7 rfl (lv_at hl 0 rfl) ?_
      refine z_get Cx hw (T := TX1) (N := 1) (ci := 4) (fun _ h => List.mem_cons_of_mem _ (List.mem_append_left _ (List.mem_append_left _ (List.mem_append_left _ (List.mem_append_right _ (h)))))) hg rfl 0 (by decide) (List.mem_of_getElem? (i := 1) rfl) rfl rfl dX1_rulePorts_8 ?_
      refine z_goe hw.2 (z_runV Cx hw (c_al_size E l Z C q es hq) (cwV 0 Cx.1.2.2.2.2 gX1_rulePorts_Jx4a65c_size_8abf5 rfl rfl rfl (by decide +kernel) ⟨Nat.le_of_ble_eq_true rfl, Nat.le_of_ble_eq_true rfl⟩) (z_recvL Cx hw hq) rfl hl.1 rfl (Nat.le_of_ble_eq_true rfl) dX1_rulePorts_11 ⟨Nat.le_of_ble_eq_true rfl, Nat.le_of_ble_eq_true rfl⟩) (fun H locs hw => ?_)
      refine lv_icmp_ge (tgt := 55) hx hb dX1_rulePorts_14 (by decide) (fun c_14 => ?_) (fun c_14 => ?_)
      · skip
        refine lv_iload_n hx hb dX1_rulePorts_55 rfl (lv_at hl 3 rfl) ?_
        exact (z_ie Cx hr rfl (Nat.le_of_ble_eq_true rfl) (Nat.le_of_ble_eq_true rfl) hw dX1_rulePorts_56 (by rw [← hacc, z_end hls hi c_14 (by omega)]; rfl))
      · skip
        have hi2 := z_lt hi c_14 hn
        obtain ⟨ai, v, ha, hv, hp, hd⟩ := z_at hls hi2
        rw [hd] at hacc
        obtain ⟨bi, hb1, hb2⟩ := hp
        refine lv_aload_n hx hb dX1_rulePorts_17 rfl (lv_at hl 0 rfl) ?_
        refine z_get Cx hw (T := TX1) (N := 1) (ci := 4) (fun _ h => List.mem_cons_of_mem _ (List.mem_append_left _ (List.mem_append_left _ (List.mem_append_left _ (List.mem_append_right _ (h)))))) hg rfl 0 (by decide) (List.mem_of_getElem? (i := 1) rfl) rfl rfl dX1_rulePorts_18 ?_
        refine lv_iload hx hb dX1_rulePorts_21 (lv_at hl 4 rfl) ?_
        refine z_goer hw.2 (z_runV Cx hw (c_al_get E l Z C q es hq i ai ha) (cwV 1 Cx.1.2.2.2.2 gX1_rulePorts_Jx4a65c_get_915e3 rfl rfl rfl (by decide +kernel) ⟨Nat.le_of_ble_eq_true rfl, Nat.le_of_ble_eq_true rfl⟩) (z_recvL Cx hw hq) rfl hl.1 rfl (Nat.le_of_ble_eq_true rfl) dX1_rulePorts_23 ⟨Nat.le_of_ble_eq_true rfl, Nat.le_of_ble_eq_true rfl⟩) (fun H locs hw => ?_)
        refine z_cast Cx hw (r := (RX5, TX5, 4)) hb1 rfl (List.mem_of_getElem? (i := 2) rfl) dX1_rulePorts_26 ?_
        refine lv_astore hx hb dX1_rulePorts_29 hl (by decide) rfl (fun ls hl => ?_)
        have hl : lv_has ls 6 [(5, .ref ai), (0, .ref g), (1, .int inw), (2, .int x), (3, .int o), (4, .int (nI i))] := hl
        refine lv_aload hx hb dX1_rulePorts_31 (lv_at hl 0 rfl) ?_
        refine lv_iload_n hx hb dX1_rulePorts_33 rfl (lv_at hl 2 rfl) ?_
        refine lv_iload_n hx hb dX1_rulePorts_34 rfl (lv_at hl 3 rfl) ?_
        refine z_goe hw.2 (z_runV Cx hw (c_X5_isFor E l Z C ai v inw x ⟨bi, hb1, hb2⟩) (cwV 2 Cx.1.2.2.2.2 gX1_rulePorts_X5_isFor rfl rfl rfl (by decide +kernel) ⟨Nat.le_of_ble_eq_true rfl, Nat.le_of_ble_eq_true rfl⟩) (z_recv Cx hw (r := (RX5, TX5, 4)) hb1 rfl) rfl hl.1 rfl (Nat.le_of_ble_eq_true rfl) dX1_rulePorts_35 ⟨Nat.le_of_ble_eq_true rfl, Nat.le_of_ble_eq_true rfl⟩) (fun H locs hw => ?_)
        refine lv_if_eq (tgt := 49) hx hb dX1_rulePorts_38 (by decide) (fun c_38 => ?_) (fun c_38 => ?_)
        · skip
          have c_39 := (zb_0 _).mp c_38
          have hacc2 : zgp inw x (vs.drop (i + 1)) o = zgp inw x vs 0 := by rw [← hacc, zgp, c_39]; rfl
          refine lv_iinc (v := nI (i + 1)) hx hb dX1_rulePorts_49 hl (k := 5) rfl (nI_1 i) (by decide) rfl (fun ls hl => ?_)
          have hl : lv_has ls 6 [(4, .int (nI (i + 1))), (5, .ref ai), (0, .ref g), (1, .int inw), (2, .int x), (3, .int o)] := hl
          refine lv_goto (tgt := 5) hx hb dX1_rulePorts_52 (by decide) ?_
          exact ih (i + 1) _ H _ ls (by omega) hacc2 (by omega) hw (lv_sub hl [2, 3, 4, 5, 0] rfl)
        · skip
          have c_39 := (zb_1 _).mp c_38
          have hacc2 : zgp inw x (vs.drop (i + 1)) (o ||| v.2.2.2) = zgp inw x vs 0 := by rw [← hacc, zgp, c_39]; rfl
          refine lv_iload_n hx hb dX1_rulePorts_41 rfl (lv_at hl 4 rfl) ?_
          refine lv_aload hx hb dX1_rulePorts_42 (lv_at hl 0 rfl) ?_
          refine z_get Cx hw (T := TX5) (N := 4) (ci := 8) (fun _ h => List.mem_cons_of_mem _ (List.mem_append_left _ (List.mem_append_left _ (List.mem_append_right _ (h))))) hb1 rfl 3 (by decide) (List.mem_of_getElem? (i := 3) rfl) rfl rfl dX1_rulePorts_44 ?_
          refine lv_ior hx hb dX1_rulePorts_47 ?_
          refine lv_istore_n hx hb dX1_rulePorts_48 rfl hl (by decide) rfl (fun ls hl => ?_)
          have hl : lv_has ls 6 [(3, _), (5, .ref ai), (0, .ref g), (1, .int inw), (2, .int x), (4, .int (nI i))] := hl
          refine lv_iinc (v := nI (i + 1)) hx hb dX1_rulePorts_49 hl (k := 5) rfl (nI_1 i) (by decide) rfl (fun ls hl => ?_)
          have hl : lv_has ls 6 [(4, .int (nI (i + 1))), (3, _), (5, .ref ai), (0, .ref g), (1, .int inw), (2, .int x)] := hl
          refine lv_goto (tgt := 5) hx hb dX1_rulePorts_52 (by decide) ?_
          exact ih (i + 1) _ H _ ls (by omega) hacc2 (by omega) hw (lv_sub hl [3, 4, 5, 1, 0] rfl)
  exact loop_5 ((es.length - 0) + 1) 0 0 _ _ ls (Nat.zero_le _) rfl (Nat.lt_succ_self _) hw (lv_sub hl [2, 3, 4, 1, 0] rfl)

