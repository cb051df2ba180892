def zprt (p : Int32) : Prop := ¬ p < 0 ∧ p < 16
abbrev zbit (p : Int32) : Int32 := (1 : Int32) <<< (p &&& 31)
def zfirstP (g : Nat → Int32) (m : Int32) : Nat → Nat → Int32
  | 0, _ => 0
  | n + 1, i => if g i &&& m = 0 then nI i else zfirstP g m n (i + 1)
def zsumP (g : Nat → Int32) (m : Int32) : Nat → Nat → Int32 → Int32
  | 0, _, s => s
  | n + 1, i, s => zsumP g m n (i + 1) (if g i &&& m = 0 then s + zbit (nI i) else s)
def zpairsI (V : zCl) (m : Int32) (i : Nat) : Nat → Nat → Nat → Nat
  | 0, _, c => c
  | n + 1, j, c => zpairsI V m i n (j + 1) (if ¬ i = j ∧ ¬ zworkV V i j &&& m = 0 then c + 1 else c)
def zpairsO (V : zCl) (m : Int32) (N : Nat) : Nat → Nat → Nat → Nat
  | 0, _, c => c
  | n + 1, i, c => zpairsO V m N n (i + 1) (zpairsI V m i N 0 c)
def zreach (V : zCl) (t : Nat) : Nat → Nat → Int32 → Int32
  | 0, _, s => s
  | n + 1, i, s => zreach V t n (i + 1) (if ¬ i = t ∧ ¬ zworkV V i t = 0 then s + zbit (nI i) else s)
/-- of two hosts and more: what is thrown -/
def zx2 (V : zCl) (f t : Int32) (ok : Prop) (nm : String) : Prop := (nm = zIOO ∧ ¬ (zix f (vH V).length ∧ zix t (vH V).length)) ∨ (nm = zIAE ∧ (zix f (vH V).length ∧ zix t (vH V).length) ∧ ¬ (¬ f = t ∧ ok))
set_option maxRecDepth 100000 in
set_option maxHeartbeats 4000000 in
/-- ports -/
theorem c_X7_ports (E : zG) (l : Launch) (hl0 : l.stackTraces = false) (Z : va_W) (C : zLs) (x : Nat) (V : zCl) (hrc : zRC Z C x V) (f t : Int32) : vx_Met l yX7_ports wsX7_ports (zR 8 20 200) (zPre E [.ref x, .int f, .int t] (zQ E Z C)) (va_Qi (fun r (u : Nat × Nat) => (f = nI u.1 ∧ t = nI u.2 ∧ u.1 < (vH V).length ∧ u.2 < (vH V).length ∧ ¬ u.1 = u.2 ∧ True) ∧ r = zworkV V u.1 u.2) (fun _ tt => zQ E Z C tt.heap) (eA E)) (zX E (zQ E Z C) (zx2 V f t True)) 20 200 (eA E) := by
  refine zx_of (cc := cX7_ports) (maxL := 5) (ret := (some .int)) (by decide) rfl rfl (Nat.le_of_ble_eq_true rfl) ?_
  intro p e s m below meth c ls ht Cx hr hnm hw hl
  have hx := Cx.1.1
  have hb := Cx.1.2.1
  obtain ⟨q0, q1, q2, q3, q4, ns, ss, hs, ps, gs, ro, rw, hR⟩ := hrc
  have hR2 := hR
  obtain ⟨hx0, ⟨c0, c1, c2, c3, c4⟩, ⟨z0, z1, z2, z3, z4⟩, -, -, l0, l1, l2, l3, l4⟩ := hR2
  have hlen : hs.length = (vH V).length := z2.1
  have slen : ss.length = (vS V).length := z1.1
  have hl : lv_has ls 5 [(0, .ref x), (1, .int f), (2, .int t)] := hl
  refine lv_aload_n hx hb dX7_ports_0 rfl (lv_at hl 0 rfl) ?_
  refine lv_iload_n hx hb dX7_ports_1 rfl (lv_at hl 1 rfl) ?_
  refine zx_gor (pr := fun (u : Nat × Nat) a => a = u.2) (wf := fun _ => zQ E Z C) hw.2 (zx_runV Cx hw (c_X7_hostAt E l hl0 Z C x q0 q1 q2 q3 q4 hs hx0 c2 (by omega) hR.hel f) (cwV 1 Cx.1.2.2.2.2 gX7_ports_X7_hostAt rfl rfl rfl (by decide +kernel) ⟨Nat.le_of_ble_eq_true rfl, Nat.le_of_ble_eq_true rfl⟩) (z_recv Cx hw (r := (RX7, TX7, 5)) hx0 rfl) rfl hl.1 rfl (Nat.le_of_ble_eq_true rfl) dX7_ports_2 ⟨Nat.le_of_ble_eq_true rfl, Nat.le_of_ble_eq_true rfl⟩) (z_out Cx ht (Nat.le_of_ble_eq_true rfl) (Nat.le_of_ble_eq_true rfl) (fun nm h => by rw [hlen] at h; exact Or.inl ⟨h.1, fun hh => h.2 hh.1⟩) (fun _ h => h)) (fun u_2 ra_2 H locs hp_2 hr_2 hw => ?_)
  obtain ⟨kf, yf⟩ := u_2
  obtain ⟨hkf, hyf⟩ := hp_2
  dsimp only at hkf hyf
  rw [show ra_2 = yf from hr_2]
  have hbf : kf < hs.length := (List.getElem?_eq_some_iff.mp hyf).1
  have hzf : zix f (vH V).length := ⟨kf, by rw [← hlen]; exact hbf, hkf⟩
  refine lv_astore_n hx hb dX7_ports_5 rfl hl (by decide) rfl (fun ls hl => ?_)
  have hl : lv_has ls 5 [(3, .ref yf), (0, .ref x), (1, .int f), (2, .int t)] := hl
  refine lv_aload_n hx hb dX7_ports_6 rfl (lv_at hl 1 rfl) ?_
  refine lv_iload_n hx hb dX7_ports_7 rfl (lv_at hl 3 rfl) ?_
  refine zx_gor (pr := fun (u : Nat × Nat) a => a = u.2) (wf := fun _ => zQ E Z C) hw.2 (zx_runV Cx hw (c_X7_hostAt E l hl0 Z C x q0 q1 q2 q3 q4 hs hx0 c2 (by omega) hR.hel t) (cwV 1 Cx.1.2.2.2.2 gX7_ports_X7_hostAt rfl rfl rfl (by decide +kernel) ⟨Nat.le_of_ble_eq_true rfl, Nat.le_of_ble_eq_true rfl⟩) (z_recv Cx hw (r := (RX7, TX7, 5)) hx0 rfl) rfl hl.1 rfl (Nat.le_of_ble_eq_true rfl) dX7_ports_8 ⟨Nat.le_of_ble_eq_true rfl, Nat.le_of_ble_eq_true rfl⟩) (z_out Cx ht (Nat.le_of_ble_eq_true rfl) (Nat.le_of_ble_eq_true rfl) (fun nm h => by rw [hlen] at h; exact Or.inl ⟨h.1, fun hh => h.2 hh.2⟩) (fun _ h => h)) (fun u_8 ra_8 H locs hp_8 hr_8 hw => ?_)
  obtain ⟨kt, yt⟩ := u_8
  obtain ⟨hkt, hyt⟩ := hp_8
  dsimp only at hkt hyt
  rw [show ra_8 = yt from hr_8]
  have hbt : kt < hs.length := (List.getElem?_eq_some_iff.mp hyt).1
  have hzt : zix t (vH V).length := ⟨kt, by rw [← hlen]; exact hbt, hkt⟩
  refine lv_astore hx hb dX7_ports_11 hl (by decide) rfl (fun ls hl => ?_)
  have hl : lv_has ls 5 [(4, .ref yt), (3, .ref yf), (0, .ref x), (1, .int f), (2, .int t)] := hl
  refine lv_iload_n hx hb dX7_ports_13 rfl (lv_at hl 3 rfl) ?_
  refine lv_iload_n hx hb dX7_ports_14 rfl (lv_at hl 4 rfl) ?_
  refine zx_gov (wf := fun _ => zQ E Z C) hw.2 (zx_runS Cx hw (c_X7_checkDiff E l hl0 Z C f t) (va_cwS 2 Cx.1.2.2.2.2 gX7_ports_X7_checkDifferent rfl rfl rfl (by decide +kernel) ⟨Nat.le_of_ble_eq_true rfl, Nat.le_of_ble_eq_true rfl⟩)  rfl hl.1 rfl (Nat.le_of_ble_eq_true rfl) dX7_ports_15 ⟨Nat.le_of_ble_eq_true rfl, Nat.le_of_ble_eq_true rfl⟩) (z_out Cx ht (Nat.le_of_ble_eq_true rfl) (Nat.le_of_ble_eq_true rfl) (fun nm h => Or.inr ⟨h.1, ⟨hzf, hzt⟩, fun hh => hh.1 h.2⟩) (fun _ h => h)) (fun _ H locs hp_15 hw => ?_)
  refine lv_aload_n hx hb dX7_ports_18 rfl (lv_at hl 2 rfl) ?_
  refine lv_aload_n hx hb dX7_ports_19 rfl (lv_at hl 1 rfl) ?_
  refine lv_aload hx hb dX7_ports_20 (lv_at hl 0 rfl) ?_
  refine z_goe hw.2 (z_runV Cx hw (c_X7_work E l Z C x ns ss (vG V) (vP V) hR.cf yf yt _ _ _ _ _ _ _ _ (hR.hf hyf) (hR.hf hyt)) (cwV 2 Cx.1.2.2.2.2 gX7_ports_X7_workingPorts rfl rfl rfl (by decide +kernel) ⟨Nat.le_of_ble_eq_true rfl, Nat.le_of_ble_eq_true rfl⟩) (z_recv Cx hw (r := (RX7, TX7, 5)) hx0 rfl) rfl hl.1 rfl (Nat.le_of_ble_eq_true rfl) dX7_ports_22 ⟨Nat.le_of_ble_eq_true rfl, Nat.le_of_ble_eq_true rfl⟩) (fun H locs hw => ?_)
  exact vx_ret (z_iret (wf := fun _ => zQ E Z C) Cx hr rfl (Nat.le_of_ble_eq_true rfl) (Nat.le_of_ble_eq_true rfl) (kf, kt) hw ⟨⟨hkf, hkt, by rw [← hlen]; exact hbf, by rw [← hlen]; exact hbt, (fun h => hp_15 (by rw [hkf, hkt, show kf = kt from h])), trivial⟩, rfl⟩ dX7_ports_25)

set_option maxRecDepth 100000 in
set_option maxHeartbeats 4000000 in
/-- blockedBy -/
theorem c_X7_blockedBy (E : zG) (l : Launch) (hl0 : l.stackTraces = false) (Z : va_W) (C : zLs) (x : Nat) (V : zCl) (hrc : zRC Z C x V) (f t p0 : Int32) : vx_Met l yX7_blockedBy wsX7_blockedBy (zR 8 20 200) (zPre E [.ref x, .int f, .int t, .int p0] (zQ E Z C)) (va_Qi (fun r (u : Nat × Nat) => (f = nI u.1 ∧ t = nI u.2 ∧ u.1 < (vH V).length ∧ u.2 < (vH V).length ∧ ¬ u.1 = u.2 ∧ zprt p0) ∧ r = zfirstP (fun p => zopenV V p u.1 u.2) (zbit p0) 8 1) (fun _ tt => zQ E Z C tt.heap) (eA E)) (zX E (zQ E Z C) (zx2 V f t (zprt p0))) 20 200 (eA E) := by
  refine zx_of (cc := cX7_blockedBy) (maxL := 8) (ret := (some .int)) (by decide) rfl rfl (Nat.le_of_ble_eq_true rfl) ?_
  intro p e s m below meth c ls ht Cx hr hnm hw hl
  have hx := Cx.1.1
  have hb := Cx.1.2.1
  obtain ⟨q0, q1, q2, q3, q4, ns, ss, hs, ps, gs, ro, rw, hR⟩ := hrc
  have hR2 := hR
  obtain ⟨hx0, ⟨c0, c1, c2, c3, c4⟩, ⟨z0, z1, z2, z3, z4⟩, -, -, l0, l1, l2, l3, l4⟩ := hR2
  have hlen : hs.length = (vH V).length := z2.1
  have slen : ss.length = (vS V).length := z1.1
  have hl : lv_has ls 8 [(0, .ref x), (1, .int f), (2, .int t), (3, .int p0)] := hl
  refine lv_aload_n hx hb dX7_blockedBy_0 rfl (lv_at hl 0 rfl) ?_
  refine lv_iload_n hx hb dX7_blockedBy_1 rfl (lv_at hl 1 rfl) ?_
  refine zx_gor (pr := fun (u : Nat × Nat) a => a = u.2) (wf := fun _ => zQ E Z C) hw.2 (zx_runV Cx hw (c_X7_hostAt E l hl0 Z C x q0 q1 q2 q3 q4 hs hx0 c2 (by omega) hR.hel f) (cwV 1 Cx.1.2.2.2.2 gX7_blockedBy_X7_hostAt rfl rfl rfl (by decide +kernel) ⟨Nat.le_of_ble_eq_true rfl, Nat.le_of_ble_eq_true rfl⟩) (z_recv Cx hw (r := (RX7, TX7, 5)) hx0 rfl) rfl hl.1 rfl (Nat.le_of_ble_eq_true rfl) dX7_blockedBy_2 ⟨Nat.le_of_ble_eq_true rfl, Nat.le_of_ble_eq_true rfl⟩) (z_out Cx ht (Nat.le_of_ble_eq_true rfl) (Nat.le_of_ble_eq_true rfl) (fun nm h => by rw [hlen] at h; exact Or.inl ⟨h.1, fun hh => h.2 hh.1⟩) (fun _ h => h)) (fun u_2 ra_2 H locs hp_2 hr_2 hw => ?_)
  obtain ⟨kf, yf⟩ := u_2
  obtain ⟨hkf, hyf⟩ := hp_2
  dsimp only at hkf hyf
  rw [show ra_2 = yf from hr_2]
  have hbf : kf < hs.length := (List.getElem?_eq_some_iff.mp hyf).1
  have hzf : zix f (vH V).length := ⟨kf, by rw [← hlen]; exact hbf, hkf⟩
  refine lv_astore hx hb dX7_blockedBy_5 hl (by decide) rfl (fun ls hl => ?_)
  have hl : lv_has ls 8 [(4, .ref yf), (0, .ref x), (1, .int f), (2, .int t), (3, .int p0)] := hl
  refine lv_aload_n hx hb dX7_blockedBy_7 rfl (lv_at hl 1 rfl) ?_
  refine lv_iload_n hx hb dX7_blockedBy_8 rfl (lv_at hl 3 rfl) ?_
  refine zx_gor (pr := fun (u : Nat × Nat) a => a = u.2) (wf := fun _ => zQ E Z C) hw.2 (zx_runV Cx hw (c_X7_hostAt E l hl0 Z C x q0 q1 q2 q3 q4 hs hx0 c2 (by omega) hR.hel t) (cwV 1 Cx.1.2.2.2.2 gX7_blockedBy_X7_hostAt rfl rfl rfl (by decide +kernel) ⟨Nat.le_of_ble_eq_true rfl, Nat.le_of_ble_eq_true rfl⟩) (z_recv Cx hw (r := (RX7, TX7, 5)) hx0 rfl) rfl hl.1 rfl (Nat.le_of_ble_eq_true rfl) dX7_blockedBy_9 ⟨Nat.le_of_ble_eq_true rfl, Nat.le_of_ble_eq_true rfl⟩) (z_out Cx ht (Nat.le_of_ble_eq_true rfl) (Nat.le_of_ble_eq_true rfl) (fun nm h => by rw [hlen] at h; exact Or.inl ⟨h.1, fun hh => h.2 hh.2⟩) (fun _ h => h)) (fun u_9 ra_9 H locs hp_9 hr_9 hw => ?_)
  obtain ⟨kt, yt⟩ := u_9
  obtain ⟨hkt, hyt⟩ := hp_9
  dsimp only at hkt hyt
  rw [show ra_9 = yt from hr_9]
  have hbt : kt < hs.length := (List.getElem?_eq_some_iff.mp hyt).1
  have hzt : zix t (vH V).length := ⟨kt, by rw [← hlen]; exact hbt, hkt⟩
  refine lv_astore hx hb dX7_blockedBy_12 hl (by decide) rfl (fun ls hl => ?_)
  have hl : lv_has ls 8 [(5, .ref yt), (4, .ref yf), (0, .ref x), (1, .int f), (2, .int t), (3, .int p0)] := hl
  refine lv_iload_n hx hb dX7_blockedBy_14 rfl (lv_at hl 3 rfl) ?_
  refine lv_iload_n hx hb dX7_blockedBy_15 rfl (lv_at hl 4 rfl) ?_
  refine zx_gov (wf := fun _ => zQ E Z C) hw.2 (zx_runS Cx hw (c_X7_checkDiff E l hl0 Z C f t) (va_cwS 2 Cx.1.2.2.2.2 gX7_blockedBy_X7_checkDifferent rfl rfl rfl (by decide +kernel) ⟨Nat.le_of_ble_eq_true rfl, Nat.le_of_ble_eq_true rfl⟩)  rfl hl.1 rfl (Nat.le_of_ble_eq_true rfl) dX7_blockedBy_16 ⟨Nat.le_of_ble_eq_true rfl, Nat.le_of_ble_eq_true rfl⟩) (z_out Cx ht (Nat.le_of_ble_eq_true rfl) (Nat.le_of_ble_eq_true rfl) (fun nm h => Or.inr ⟨h.1, ⟨hzf, hzt⟩, fun hh => hh.1 h.2⟩) (fun _ h => h)) (fun _ H locs hp_16 hw => ?_)
  refine lv_iload_n hx hb dX7_blockedBy_19 rfl (lv_at hl 5 rfl) ?_
  refine zx_goi (wf := fun _ => zQ E Z C) hw.2 (zx_runS Cx hw (c_X7_singlePort E l hl0 Z C p0) (va_cwS 1 Cx.1.2.2.2.2 gX7_blockedBy_X7_singlePort rfl rfl rfl (by decide +kernel) ⟨Nat.le_of_ble_eq_true rfl, Nat.le_of_ble_eq_true rfl⟩)  rfl hl.1 rfl (Nat.le_of_ble_eq_true rfl) dX7_blockedBy_20 ⟨Nat.le_of_ble_eq_true rfl, Nat.le_of_ble_eq_true rfl⟩) (z_out Cx ht (Nat.le_of_ble_eq_true rfl) (Nat.le_of_ble_eq_true rfl) (fun nm h => Or.inr ⟨h.1, ⟨hzf, hzt⟩, fun hh => h.2 hh.2⟩) (fun _ h => h)) (fun r_20 _ H locs hp_20 hw => ?_)
  have e_20 : r_20 = zbit p0 := hp_20.1
  subst e_20
  refine lv_istore hx hb dX7_blockedBy_23 hl (by decide) rfl (fun ls hl => ?_)
  have hl : lv_has ls 8 [(6, .int (zbit p0)), (5, .ref yt), (4, .ref yf), (0, .ref x), (1, .int f), (2, .int t), (3, .int p0)] := hl
  refine lv_iconst (v := nI 1) hx hb dX7_blockedBy_25 rfl ?_
  refine lv_istore hx hb dX7_blockedBy_26 hl (by decide) rfl (fun ls hl => ?_)
  have hl : lv_has ls 8 [(7, .int (nI 1)), (6, .int (zbit p0)), (5, .ref yt), (4, .ref yf), (0, .ref x), (1, .int f), (2, .int t), (3, .int p0)] := hl
  have loop_28 : ∀ (nn : Nat) (i : Nat) (H : Heap) (locs : List Loc) (ls : Array Slot), (1 ≤ i ∧ i ≤ 9) → (zfirstP (fun p => zopenV V p kf kt) (zbit p0) (9 - i) i = zfirstP (fun p => zopenV V p kf kt) (zbit p0) 8 1) → 9 - i < nn → zHw E (zQ E Z C) s H locs → lv_has ls 8 [(0, .ref x), (1, .int f), (2, .int t), (3, .int p0), (4, .ref yf), (5, .ref yt), (6, .int (zbit p0)), (7, .int (nI i))] → W p l e (zR 8 20 200) s m ([.ref x, .int f, .int t, .int p0] : List Value).toArray below meth c H locs 4 24 (vx_MQ below (va_Qi (fun r (u : Nat × Nat) => (f = nI u.1 ∧ t = nI u.2 ∧ u.1 < (vH V).length ∧ u.2 < (vH V).length ∧ ¬ u.1 = u.2 ∧ zprt p0) ∧ r = zfirstP (fun p => zopenV V p u.1 u.2) (zbit p0) 8 1) (fun _ tt => zQ E Z C tt.heap) (eA E)) (zX E (zQ E Z C) (zx2 V f t (zprt p0))) ([.ref x, .int f, .int t, .int p0] : List Value).toArray s 20 200 (eA E)) (F0 m 28 ls []) := by
    intro nn
    induction nn with
    | zero => intro i H locs ls hi hacc hm; exact absurd hm (Nat.not_lt_zero _)
    | succ nn ih =>
      intro i H locs ls hi hacc hm hw hl
      refine lv_iload hx hb dX7_blockedBy_28 (lv_at hl 7 rfl) ?_
      refine lv_bipush (v := nI 8) hx hb dX7_blockedBy_30 rfl ?_
      refine lv_icmp_gt (tgt := 60) hx hb dX7_blockedBy_32 (by decide) (fun c_32 => ?_) (fun c_32 => ?_)
      · skip
        have c_33 : i = 9 := by
          have h1 : 8 < i := by
            rcases Nat.lt_or_ge 8 i with h | h
            · exact h
            · exact absurd c_32 (nI_nlt h (by omega))
          omega
        subst c_33
        refine lv_iconst (v := 0) hx hb dX7_blockedBy_60 (by decide) ?_
        exact vx_ret (z_iret (wf := fun _ => zQ E Z C) Cx hr rfl (Nat.le_of_ble_eq_true rfl) (Nat.le_of_ble_eq_true rfl) (kf, kt) hw ⟨⟨hkf, hkt, by rw [← hlen]; exact hbf, by rw [← hlen]; exact hbt, (fun h => hp_16 (by rw [hkf, hkt, show kf = kt from h])), hp_20.2⟩, by rw [← hacc]; rfl⟩ dX7_blockedBy_61)
      · skip
        have c_32 : i ≤ 8 := by
          rcases Nat.lt_or_ge 8 i with h | h
          · exact absurd (nI_lt h (by omega)) c_32
          · exact h
        have h9 : 9 - i = (8 - i) + 1 := by omega
        have h10 : 9 - (i + 1) = 8 - i := by omega
        refine lv_aload_n hx hb dX7_blockedBy_35 rfl (lv_at hl 0 rfl) ?_
        refine lv_iload hx hb dX7_blockedBy_36 (lv_at hl 7 rfl) ?_
        refine lv_aload hx hb dX7_blockedBy_38 (lv_at hl 4 rfl) ?_
        refine lv_aload hx hb dX7_blockedBy_40 (lv_at hl 5 rfl) ?_
        refine z_goe hw.2 (z_runV Cx hw (c_X7_openPorts E l Z C x ns ss (vG V) (vP V) hR.cf yf yt _ _ _ _ _ _ _ _ (hR.hf hyf) (hR.hf hyt) i hi.1 c_32) (cwV 3 Cx.1.2.2.2.2 gX7_blockedBy_X7_openPorts rfl rfl rfl (by decide +kernel) ⟨Nat.le_of_ble_eq_true rfl, Nat.le_of_ble_eq_true rfl⟩) (z_recv Cx hw (r := (RX7, TX7, 5)) hx0 rfl) rfl hl.1 rfl (Nat.le_of_ble_eq_true rfl) dX7_blockedBy_42 ⟨Nat.le_of_ble_eq_true rfl, Nat.le_of_ble_eq_true rfl⟩) (fun H locs hw => ?_)
        refine lv_iload hx hb dX7_blockedBy_45 (lv_at hl 6 rfl) ?_
        refine lv_iand hx hb dX7_blockedBy_47 ?_
        refine lv_if_ne (tgt := 54) hx hb dX7_blockedBy_48 (by decide) (fun c_48 => ?_) (fun c_48 => ?_)
        · skip
          have hacc2 : zfirstP (fun p => zopenV V p kf kt) (zbit p0) (9 - (i + 1)) (i + 1) = zfirstP (fun p => zopenV V p kf kt) (zbit p0) 8 1 := by rw [← hacc, h9, h10, zfirstP, if_neg (show ¬ (zopenV V i kf kt &&& zbit p0 = 0) from c_48)]
          refine lv_iinc (v := nI (i + 1)) hx hb dX7_blockedBy_54 hl (k := 7) rfl (nI_1 i) (by decide) rfl (fun ls hl => ?_)
          have hl : lv_has ls 8 [(7, .int (nI (i + 1))), (0, .ref x), (1, .int f), (2, .int t), (3, .int p0), (4, .ref yf), (5, .ref yt), (6, .int (zbit p0))] := hl
          refine lv_goto (tgt := 28) hx hb dX7_blockedBy_57 (by decide) ?_
          exact ih (i + 1) H _ ls (by omega) hacc2 (by omega) hw (lv_sub hl [1, 2, 3, 4, 5, 6, 7, 0] rfl)
        · skip
          refine lv_iload hx hb dX7_blockedBy_51 (lv_at hl 7 rfl) ?_
          exact vx_ret (z_iret (wf := fun _ => zQ E Z C) Cx hr rfl (Nat.le_of_ble_eq_true rfl) (Nat.le_of_ble_eq_true rfl) (kf, kt) hw ⟨⟨hkf, hkt, by rw [← hlen]; exact hbf, by rw [← hlen]; exact hbt, (fun h => hp_16 (by rw [hkf, hkt, show kf = kt from h])), hp_20.2⟩, by rw [← hacc, h9, zfirstP, if_pos (show zopenV V i kf kt &&& zbit p0 = 0 from c_48)]⟩ dX7_blockedBy_53)
  exact loop_28 ((9 - 1) + 1) 1 _ _ ls (by omega) rfl (Nat.lt_succ_self _) hw (lv_sub hl [4, 5, 6, 7, 3, 2, 1, 0] rfl)

set_option maxRecDepth 100000 in
set_option maxHeartbeats 4000000 in
/-- blocks -/
theorem c_X7_blocks (E : zG) (l : Launch) (hl0 : l.stackTraces = false) (Z : va_W) (C : zLs) (x : Nat) (V : zCl) (hrc : zRC Z C x V) (f t p0 : Int32) : vx_Met l yX7_blocks wsX7_blocks (zR 8 20 200) (zPre E [.ref x, .int f, .int t, .int p0] (zQ E Z C)) (va_Qi (fun r (u : Nat × Nat) => (f = nI u.1 ∧ t = nI u.2 ∧ u.1 < (vH V).length ∧ u.2 < (vH V).length ∧ ¬ u.1 = u.2 ∧ zprt p0) ∧ r = zsumP (fun p => zopenV V p u.1 u.2) (zbit p0) 8 1 0) (fun _ tt => zQ E Z C tt.heap) (eA E)) (zX E (zQ E Z C) (zx2 V f t (zprt p0))) 20 200 (eA E) := by
  refine zx_of (cc := cX7_blocks) (maxL := 9) (ret := (some .int)) (by decide) rfl rfl (Nat.le_of_ble_eq_true rfl) ?_
  intro p e s m below meth c ls ht Cx hr hnm hw hl
  have hx := Cx.1.1
  have hb := Cx.1.2.1
  obtain ⟨q0, q1, q2, q3, q4, ns, ss, hs, ps, gs, ro, rw, hR⟩ := hrc
  have hR2 := hR
  obtain ⟨hx0, ⟨c0, c1, c2, c3, c4⟩, ⟨z0, z1, z2, z3, z4⟩, -, -, l0, l1, l2, l3, l4⟩ := hR2
  have hlen : hs.length = (vH V).length := z2.1
  have slen : ss.length = (vS V).length := z1.1
  have hl : lv_has ls 9 [(0, .ref x), (1, .int f), (2, .int t), (3, .int p0)] := hl
  refine lv_aload_n hx hb dX7_blocks_0 rfl (lv_at hl 0 rfl) ?_
  refine lv_iload_n hx hb dX7_blocks_1 rfl (lv_at hl 1 rfl) ?_
  refine zx_gor (pr := fun (u : Nat × Nat) a => a = u.2) (wf := fun _ => zQ E Z C) hw.2 (zx_runV Cx hw (c_X7_hostAt E l hl0 Z C x q0 q1 q2 q3 q4 hs hx0 c2 (by omega) hR.hel f) (cwV 1 Cx.1.2.2.2.2 gX7_blocks_X7_hostAt rfl rfl rfl (by decide +kernel) ⟨Nat.le_of_ble_eq_true rfl, Nat.le_of_ble_eq_true rfl⟩) (z_recv Cx hw (r := (RX7, TX7, 5)) hx0 rfl) rfl hl.1 rfl (Nat.le_of_ble_eq_true rfl) dX7_blocks_2 ⟨Nat.le_of_ble_eq_true rfl, Nat.le_of_ble_eq_true rfl⟩) (z_out Cx ht (Nat.le_of_ble_eq_true rfl) (Nat.le_of_ble_eq_true rfl) (fun nm h => by rw [hlen] at h; exact Or.inl ⟨h.1, fun hh => h.2 hh.1⟩) (fun _ h => h)) (fun u_2 ra_2 H locs hp_2 hr_2 hw => ?_)
  obtain ⟨kf, yf⟩ := u_2
  obtain ⟨hkf, hyf⟩ := hp_2
  dsimp only at hkf hyf
  rw [show ra_2 = yf from hr_2]
  have hbf : kf < hs.length := (List.getElem?_eq_some_iff.mp hyf).1
  have hzf : zix f (vH V).length := ⟨kf, by rw [← hlen]; exact hbf, hkf⟩
  refine lv_astore hx hb dX7_blocks_5 hl (by decide) rfl (fun ls hl => ?_)
  have hl : lv_has ls 9 [(4, .ref yf), (0, .ref x), (1, .int f), (2, .int t), (3, .int p0)] := hl
  refine lv_aload_n hx hb dX7_blocks_7 rfl (lv_at hl 1 rfl) ?_
  refine lv_iload_n hx hb dX7_blocks_8 rfl (lv_at hl 3 rfl) ?_
  refine zx_gor (pr := fun (u : Nat × Nat) a => a = u.2) (wf := fun _ => zQ E Z C) hw.2 (zx_runV Cx hw (c_X7_hostAt E l hl0 Z C x q0 q1 q2 q3 q4 hs hx0 c2 (by omega) hR.hel t) (cwV 1 Cx.1.2.2.2.2 gX7_blocks_X7_hostAt rfl rfl rfl (by decide +kernel) ⟨Nat.le_of_ble_eq_true rfl, Nat.le_of_ble_eq_true rfl⟩) (z_recv Cx hw (r := (RX7, TX7, 5)) hx0 rfl) rfl hl.1 rfl (Nat.le_of_ble_eq_true rfl) dX7_blocks_9 ⟨Nat.le_of_ble_eq_true rfl, Nat.le_of_ble_eq_true rfl⟩) (z_out Cx ht (Nat.le_of_ble_eq_true rfl) (Nat.le_of_ble_eq_true rfl) (fun nm h => by rw [hlen] at h; exact Or.inl ⟨h.1, fun hh => h.2 hh.2⟩) (fun _ h => h)) (fun u_9 ra_9 H locs hp_9 hr_9 hw => ?_)
  obtain ⟨kt, yt⟩ := u_9
  obtain ⟨hkt, hyt⟩ := hp_9
  dsimp only at hkt hyt
  rw [show ra_9 = yt from hr_9]
  have hbt : kt < hs.length := (List.getElem?_eq_some_iff.mp hyt).1
  have hzt : zix t (vH V).length := ⟨kt, by rw [← hlen]; exact hbt, hkt⟩
  refine lv_astore hx hb dX7_blocks_12 hl (by decide) rfl (fun ls hl => ?_)
  have hl : lv_has ls 9 [(5, .ref yt), (4, .ref yf), (0, .ref x), (1, .int f), (2, .int t), (3, .int p0)] := hl
  refine lv_iload_n hx hb dX7_blocks_14 rfl (lv_at hl 3 rfl) ?_
  refine lv_iload_n hx hb dX7_blocks_15 rfl (lv_at hl 4 rfl) ?_
  refine zx_gov (wf := fun _ => zQ E Z C) hw.2 (zx_runS Cx hw (c_X7_checkDiff E l hl0 Z C f t) (va_cwS 2 Cx.1.2.2.2.2 gX7_blocks_X7_checkDifferent rfl rfl rfl (by decide +kernel) ⟨Nat.le_of_ble_eq_true rfl, Nat.le_of_ble_eq_true rfl⟩)  rfl hl.1 rfl (Nat.le_of_ble_eq_true rfl) dX7_blocks_16 ⟨Nat.le_of_ble_eq_true rfl, Nat.le_of_ble_eq_true rfl⟩) (z_out Cx ht (Nat.le_of_ble_eq_true rfl) (Nat.le_of_ble_eq_true rfl) (fun nm h => Or.inr ⟨h.1, ⟨hzf, hzt⟩, fun hh => hh.1 h.2⟩) (fun _ h => h)) (fun _ H locs hp_16 hw => ?_)
  refine lv_iload_n hx hb dX7_blocks_19 rfl (lv_at hl 5 rfl) ?_
  refine zx_goi (wf := fun _ => zQ E Z C) hw.2 (zx_runS Cx hw (c_X7_singlePort E l hl0 Z C p0) (va_cwS 1 Cx.1.2.2.2.2 gX7_blocks_X7_singlePort rfl rfl rfl (by decide +kernel) ⟨Nat.le_of_ble_eq_true rfl, Nat.le_of_ble_eq_true rfl⟩)  rfl hl.1 rfl (Nat.le_of_ble_eq_true rfl) dX7_blocks_20 ⟨Nat.le_of_ble_eq_true rfl, Nat.le_of_ble_eq_true rfl⟩) (z_out Cx ht (Nat.le_of_ble_eq_true rfl) (Nat.le_of_ble_eq_true rfl) (fun nm h => Or.inr ⟨h.1, ⟨hzf, hzt⟩, fun hh => h.2 hh.2⟩) (fun _ h => h)) (fun r_20 _ H locs hp_20 hw => ?_)
  have e_20 : r_20 = zbit p0 := hp_20.1
  subst e_20
  refine lv_istore hx hb dX7_blocks_23 hl (by decide) rfl (fun ls hl => ?_)
  have hl : lv_has ls 9 [(6, .int (zbit p0)), (5, .ref yt), (4, .ref yf), (0, .ref x), (1, .int f), (2, .int t), (3, .int p0)] := hl
  refine lv_iconst (v := 0) hx hb dX7_blocks_25 (by decide) ?_
  refine lv_istore hx hb dX7_blocks_26 hl (by decide) rfl (fun ls hl => ?_)
  have hl : lv_has ls 9 [(7, _), (6, .int (zbit p0)), (5, .ref yt), (4, .ref yf), (0, .ref x), (1, .int f), (2, .int t), (3, .int p0)] := hl
  refine lv_iconst (v := nI 1) hx hb dX7_blocks_28 rfl ?_
  refine lv_istore hx hb dX7_blocks_29 hl (by decide) rfl (fun ls hl => ?_)
  have hl : lv_has ls 9 [(8, .int (nI 1)), (7, _), (6, .int (zbit p0)), (5, .ref yt), (4, .ref yf), (0, .ref x), (1, .int f), (2, .int t), (3, .int p0)] := hl
  have loop_31 : ∀ (nn : Nat) (i : Nat) (sm : Int32) (H : Heap) (locs : List Loc) (ls : Array Slot), (1 ≤ i ∧ i ≤ 9) → (zsumP (fun p => zopenV V p kf kt) (zbit p0) (9 - i) (i) (sm) = zsumP (fun p => zopenV V p kf kt) (zbit p0) 8 1 0) → 9 - i < nn → zHw E (zQ E Z C) s H locs → lv_has ls 9 [(0, .ref x), (1, .int f), (2, .int t), (3, .int p0), (4, .ref yf), (5, .ref yt), (6, .int (zbit p0)), (7, .int sm), (8, .int (nI i))] → W p l e (zR 8 20 200) s m ([.ref x, .int f, .int t, .int p0] : List Value).toArray below meth c H locs 4 24 (vx_MQ below (va_Qi (fun r (u : Nat × Nat) => (f = nI u.1 ∧ t = nI u.2 ∧ u.1 < (vH V).length ∧ u.2 < (vH V).length ∧ ¬ u.1 = u.2 ∧ zprt p0) ∧ r = zsumP (fun p => zopenV V p u.1 u.2) (zbit p0) 8 1 0) (fun _ tt => zQ E Z C tt.heap) (eA E)) (zX E (zQ E Z C) (zx2 V f t (zprt p0))) ([.ref x, .int f, .int t, .int p0] : List Value).toArray s 20 200 (eA E)) (F0 m 31 ls []) := by
    intro nn
    induction nn with
    | zero => intro i sm H locs ls hi hacc hm; exact absurd hm (Nat.not_lt_zero _)
    | succ nn ih =>
      intro i sm H locs ls hi hacc hm hw hl
      refine lv_iload hx hb dX7_blocks_31 (lv_at hl 8 rfl) ?_
      refine lv_bipush (v := nI 8) hx hb dX7_blocks_33 rfl ?_
      refine lv_icmp_gt (tgt := 69) hx hb dX7_blocks_35 (by decide) (fun c_35 => ?_) (fun c_35 => ?_)
      · skip
        have c_33 : i = 9 := by
          have h1 : 8 < i := by
            rcases Nat.lt_or_ge 8 i with h | h
            · exact h
            · exact absurd c_35 (nI_nlt h (by omega))
          omega
        subst c_33
        refine lv_iload hx hb dX7_blocks_69 (lv_at hl 7 rfl) ?_
        exact vx_ret (z_iret (wf := fun _ => zQ E Z C) Cx hr rfl (Nat.le_of_ble_eq_true rfl) (Nat.le_of_ble_eq_true rfl) (kf, kt) hw ⟨⟨hkf, hkt, by rw [← hlen]; exact hbf, by rw [← hlen]; exact hbt, (fun h => hp_16 (by rw [hkf, hkt, show kf = kt from h])), hp_20.2⟩, by rw [← hacc]; rfl⟩ dX7_blocks_71)
      · skip
        have c_32 : i ≤ 8 := by
          rcases Nat.lt_or_ge 8 i with h | h
          · exact absurd (nI_lt h (by omega)) c_35
          · exact h
        have h9 : 9 - i = (8 - i) + 1 := by omega
        have h10 : 9 - (i + 1) = 8 - i := by omega
        refine lv_aload_n hx hb dX7_blocks_38 rfl (lv_at hl 0 rfl) ?_
        refine lv_iload hx hb dX7_blocks_39 (lv_at hl 8 rfl) ?_
        refine lv_aload hx hb dX7_blocks_41 (lv_at hl 4 rfl) ?_
        refine lv_aload hx hb dX7_blocks_43 (lv_at hl 5 rfl) ?_
        refine z_goe hw.2 (z_runV Cx hw (c_X7_openPorts E l Z C x ns ss (vG V) (vP V) hR.cf yf yt _ _ _ _ _ _ _ _ (hR.hf hyf) (hR.hf hyt) i hi.1 c_32) (cwV 3 Cx.1.2.2.2.2 gX7_blocks_X7_openPorts rfl rfl rfl (by decide +kernel) ⟨Nat.le_of_ble_eq_true rfl, Nat.le_of_ble_eq_true rfl⟩) (z_recv Cx hw (r := (RX7, TX7, 5)) hx0 rfl) rfl hl.1 rfl (Nat.le_of_ble_eq_true rfl) dX7_blocks_45 ⟨Nat.le_of_ble_eq_true rfl, Nat.le_of_ble_eq_true rfl⟩) (fun H locs hw => ?_)
        refine lv_iload hx hb dX7_blocks_48 (lv_at hl 6 rfl) ?_
        refine lv_iand hx hb dX7_blocks_50 ?_
        refine lv_if_ne (tgt := 63) hx hb dX7_blocks_51 (by decide) (fun c_51 => ?_) (fun c_51 => ?_)
        · skip
          have hacc2 : zsumP (fun p => zopenV V p kf kt) (zbit p0) (9 - (i + 1)) (i + 1) (sm) = zsumP (fun p => zopenV V p kf kt) (zbit p0) 8 1 0 := by rw [← hacc, h9, h10, zsumP, if_neg (show ¬ (zopenV V i kf kt &&& zbit p0 = 0) from c_51)]
          refine lv_iinc (v := nI (i + 1)) hx hb dX7_blocks_63 hl (k := 8) rfl (nI_1 i) (by decide) rfl (fun ls hl => ?_)
          have hl : lv_has ls 9 [(8, .int (nI (i + 1))), (0, .ref x), (1, .int f), (2, .int t), (3, .int p0), (4, .ref yf), (5, .ref yt), (6, .int (zbit p0)), (7, .int sm)] := hl
          refine lv_goto (tgt := 31) hx hb dX7_blocks_66 (by decide) ?_
          exact ih (i + 1) _ H _ ls (by omega) hacc2 (by omega) hw (lv_sub hl [1, 2, 3, 4, 5, 6, 7, 8, 0] rfl)
        · skip
          have hacc2 : zsumP (fun p => zopenV V p kf kt) (zbit p0) (9 - (i + 1)) (i + 1) (sm + zbit (nI i)) = zsumP (fun p => zopenV V p kf kt) (zbit p0) 8 1 0 := by rw [← hacc, h9, h10, zsumP, if_pos (show zopenV V i kf kt &&& zbit p0 = 0 from c_51)]
          refine lv_iload hx hb dX7_blocks_54 (lv_at hl 7 rfl) ?_
          refine lv_iconst (v := 1) hx hb dX7_blocks_56 (by decide) ?_
          refine lv_iload hx hb dX7_blocks_57 (lv_at hl 8 rfl) ?_
          refine lv_ishl hx hb dX7_blocks_59 ?_
          refine lv_iadd hx hb dX7_blocks_60 ?_
          refine lv_istore hx hb dX7_blocks_61 hl (by decide) rfl (fun ls hl => ?_)
          have hl : lv_has ls 9 [(7, _), (0, .ref x), (1, .int f), (2, .int t), (3, .int p0), (4, .ref yf), (5, .ref yt), (6, .int (zbit p0)), (8, .int (nI i))] := hl
          refine lv_iinc (v := nI (i + 1)) hx hb dX7_blocks_63 hl (k := 8) rfl (nI_1 i) (by decide) rfl (fun ls hl => ?_)
          have hl : lv_has ls 9 [(8, .int (nI (i + 1))), (7, _), (0, .ref x), (1, .int f), (2, .int t), (3, .int p0), (4, .ref yf), (5, .ref yt), (6, .int (zbit p0))] := hl
          refine lv_goto (tgt := 31) hx hb dX7_blocks_66 (by decide) ?_
          exact ih (i + 1) _ H _ ls (by omega) hacc2 (by omega) hw (lv_sub hl [2, 3, 4, 5, 6, 7, 8, 1, 0] rfl)
  exact loop_31 ((9 - 1) + 1) 1 0 _ _ ls (by omega) rfl (Nat.lt_succ_self _) hw (lv_sub hl [5, 6, 7, 8, 4, 3, 2, 1, 0] rfl)

