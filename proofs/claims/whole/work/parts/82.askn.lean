theorem zx_e5 {o p : Int32} (ho : o &&& 65535 = o) : (o &&& p) &&& 65535 = o &&& p := by
  refine b_ext (fun i hi => ?_)
  have h := congrArg (fun z => bt z i) ho
  simp only [b_and, b_65535] at h ⊢
  revert h
  generalize bt o i = x1
  generalize bt p i = x2
  generalize decide (i < 16) = x3
  cases x1 <;> cases x2 <;> cases x3 <;> decide
theorem zidle_at {us : List zRl} {v : zRl} {B K n : Nat} {b : Bool} (hu : ∀ u ∈ us, zrok u) (hv : zrok v) (eB : v.2.2.1.1 = nI B) (eK : v.2.2.1.2 = nI K) (hK : K ≤ 10) (hB : B + 2 ^ K ≤ 1024) (hd : B % 2 ^ K = 0) (ht : b = true → ∀ m, m < n → zleft v.1 (nI (B + m)) us v.2.2.2 = 0) (hf : b = false → ¬ zidle us v = true) (hn : b = true → n = 2 ^ K) : b = zidle us v := by
  cases b with
  | false => exact (Bool.eq_false_iff.mpr (hf rfl)).symm
  | true =>
    refine ((zidle_iff hu hv).mpr (fun x hx => ?_)).symm
    rw [eB, eK, zhs_in hK hB hd, decide_eq_true_iff] at hx
    have hp := zp_pow hK
    obtain ⟨X, hX, rfl⟩ := nI_of (x := x) (fun h => by
      rw [zi_lt] at h
      have e : (0 : Int32).toInt = 0 := rfl
      omega)
    rw [nI_toInt (by omega)] at hx
    have h1 := ht rfl (X - B) (by rw [hn rfl]; omega)
    rw [show B + (X - B) = X by omega] at h1
    exact h1
set_option maxRecDepth 100000 in
set_option maxHeartbeats 4000000 in
/-- pairs -/
theorem c_m_pairs (E : zG) (l : Launch) (X : va_W) (C : zLs) (y : Nat) (ad : Nat → Nat) (sc : Nat → Int32) (g : Nat → Nat → Int32) (V : zCl) (hR : zMR sc g V) (hI : zInv V) (f : Int32) : Met l yX8_pairs wsX8_pairs (zR 6 0 0) (zPre E [.ref y, .int f] (zQ E (X ++ zMw E y ad sc g) C)) (va_Qi (fun r (c : Nat) => zA_pairs V f c r) (fun c tt => zQ E (X ++ zMw E y ad (va_up sc 0 (nI c)) g) C tt.heap) (eA E)) 0 0 (eA E) := by
  refine z_of (cc := cX8_pairs) (maxL := 5) (ret := (some .int)) (by decide) rfl rfl (Nat.le_of_ble_eq_true rfl) ?_
  intro p e s m below meth c ls Cx hr hnm hw hl
  have hx := Cx.1.1
  have hb := Cx.1.2.1
  have hn6 : sc 6 = nI (vH V).length := hR.2.2.1.1
  have hnH : (vH V).length ≤ 1000 := Nat.le_trans hR.2.2.1.2.1 (by omega)
  have hn3 : sc 3 = nI (vS V).length := hR.2.1.1
  have hnS : (vS V).length ≤ 1000 := Nat.le_trans hR.2.1.2.1 (by omega)
  have hl : lv_has ls 5 [(0, .ref y), (1, _)] := hl
  refine lv_aload_n hx hb dX8_pairs_0 rfl (lv_at hl 0 rfl) ?_
  refine lv_iload_n hx hb dX8_pairs_1 rfl (lv_at hl 1 rfl) ?_
  refine lv_bipush (v := 16) hx hb dX8_pairs_2 (by decide) ?_
  refine z_goe hw.2 (z_runS Cx hw (c_X8_isIn E l (zQ E (X ++ zMw E y ad sc g) C) f 16) (va_cwS 2 Cx.1.2.2.2.2 gX8_pairs_X8_isIn rfl rfl rfl (by decide +kernel) ⟨Nat.le_of_ble_eq_true rfl, Nat.le_of_ble_eq_true rfl⟩)  rfl hl.1 rfl (Nat.le_of_ble_eq_true rfl) dX8_pairs_4 ⟨Nat.le_of_ble_eq_true rfl, Nat.le_of_ble_eq_true rfl⟩) (fun H locs hw => ?_)
  refine lv_if_eq (tgt := 14) hx hb dX8_pairs_7 (by decide) (fun c_7 => ?_) (fun c_7 => ?_)
  · skip
    have hp : ¬ zprt f := show ¬ (¬ f < 0 ∧ f < 16) from of_decide_eq_false ((zb_0 _).mp c_7)
    refine lv_iconst (v := nI 1) hx hb dX8_pairs_14 rfl ?_
    refine z_goe hw.2 (z_runV Cx hw (c_X8_holds E l X C y ad sc g _) (cwV 1 Cx.1.2.2.2.2 gX8_pairs_X8_holds rfl rfl rfl (by decide +kernel) ⟨Nat.le_of_ble_eq_true rfl, Nat.le_of_ble_eq_true rfl⟩) (z_recv Cx hw (r := (RX8, TX8, 26)) zM_x rfl) rfl hl.1 rfl (Nat.le_of_ble_eq_true rfl) dX8_pairs_15 ⟨Nat.le_of_ble_eq_true rfl, Nat.le_of_ble_eq_true rfl⟩) (fun H locs hw => ?_)
    refine lv_if_ne (tgt := 23) hx hb dX8_pairs_18 (by decide) (fun c_18 => ?_) (fun c_18 => ?_)
    · skip
      exact absurd (by decide) c_18
    · skip
      refine lv_iconst (v := 0) hx hb dX8_pairs_21 (by decide) ?_
      exact z_iret (wf := (fun (c : Nat) => zQ E (X ++ zMw E y ad (va_up sc 0 (nI c)) g) C)) Cx hr rfl (Nat.le_of_ble_eq_true rfl) (Nat.le_of_ble_eq_true rfl) 1 hw (Or.inr ⟨rfl, hp⟩) dX8_pairs_22
  · skip
    have hp : zprt f := show ¬ f < 0 ∧ f < 16 from of_decide_eq_true ((zb_1 _).mp c_7)
    refine lv_iconst (v := nI 0) hx hb dX8_pairs_10 rfl ?_
    refine lv_goto (tgt := 15) hx hb dX8_pairs_11 (by decide) ?_
    refine z_goe hw.2 (z_runV Cx hw (c_X8_holds E l X C y ad sc g _) (cwV 1 Cx.1.2.2.2.2 gX8_pairs_X8_holds rfl rfl rfl (by decide +kernel) ⟨Nat.le_of_ble_eq_true rfl, Nat.le_of_ble_eq_true rfl⟩) (z_recv Cx hw (r := (RX8, TX8, 26)) zM_x rfl) rfl hl.1 rfl (Nat.le_of_ble_eq_true rfl) dX8_pairs_15 ⟨Nat.le_of_ble_eq_true rfl, Nat.le_of_ble_eq_true rfl⟩) (fun H locs hw => ?_)
    refine lv_if_ne (tgt := 23) hx hb dX8_pairs_18 (by decide) (fun c_18 => ?_) (fun c_18 => ?_)
    · skip
      obtain ⟨n, hn, rfl⟩ : ∃ n, n < 16 ∧ f = nI n := by
        obtain ⟨n, hn, e⟩ := nI_of hp.1
        exact ⟨n, (nI_ltI (b := 16) hn (by omega)).mp (by rw [← e]; exact hp.2), e⟩
      refine lv_iconst (v := nI 0) hx hb dX8_pairs_23 rfl ?_
      refine lv_istore_n hx hb dX8_pairs_24 rfl hl (by decide) rfl (fun ls hl => ?_)
      have hl : lv_has ls 5 [(2, .int (nI 0)), (0, .ref y), (1, _)] := hl
      refine lv_iconst (v := nI 0) hx hb dX8_pairs_25 rfl ?_
      refine lv_istore_n hx hb dX8_pairs_26 rfl hl (by decide) rfl (fun ls hl => ?_)
      have hl : lv_has ls 5 [(3, .int (nI 0)), (2, .int (nI 0)), (0, .ref y), (1, _)] := hl
      have loop_27 : ∀ (nn : Nat) (i cn : Nat) (H : Heap) (locs : List Loc) (ls : Array Slot), (i ≤ (vH V).length) → (zpairsO V (zbit (nI n)) (vH V).length ((vH V).length - i) (i) (cn) = zpairsO V (zbit (nI n)) (vH V).length (vH V).length 0 0) → (vH V).length - i < nn → zHw E (zQ E (X ++ zMw E y ad (va_up sc 0 (nI 0)) g) C) s H locs → lv_has ls 5 [(0, .ref y), (1, .int (nI n)), (2, .int (nI cn)), (3, .int (nI i))] → W p l e (zR 6 0 0) s m ([.ref y, .int (nI n)] : List Value).toArray below meth c H locs 0 0 (MQ below (va_Qi (fun r (c : Nat) => zA_pairs V (nI n) c r) (fun c tt => zQ E (X ++ zMw E y ad (va_up sc 0 (nI c)) g) C tt.heap) (eA E)) ([.ref y, .int (nI n)] : List Value).toArray s 0 0 (eA E)) (F0 m 27 ls []) := by
        intro nn
        induction nn with
        | zero => intro i cn H locs ls hi hacc hm; exact absurd hm (Nat.not_lt_zero _)
        | succ nn ih_27 =>
          intro i cn H locs ls hi hacc hm hw hl
          refine lv_iload_n hx hb dX8_pairs_27 rfl (lv_at hl 3 rfl) ?_
          refine lv_aload_n hx hb dX8_pairs_28 rfl (lv_at hl 0 rfl) ?_
          refine z_get Cx hw (T := TX8) (N := 26) (ci := 11) (fun _ h => List.mem_cons_of_mem _ (List.mem_append_right _ (h))) zM_x rfl 6 (by decide) (List.mem_of_getElem? (i := 1) rfl) rfl rfl dX8_pairs_29 ?_
          refine lv_topi (fun x_29 ex_29 => ?_)
          have e_29 : x_29 = nI (vH V).length := ex_29.trans hn6
          subst e_29
          refine lv_icmp_ge (tgt := 83) hx hb dX8_pairs_32 (by decide) (fun c_32 => ?_) (fun c_32 => ?_)
          · skip
            have hiN : i = (vH V).length := by
              have := (nI_leI (a := (vH V).length) (b := i) (by omega) (by omega)).mp c_32
              omega
            refine lv_iload_n hx hb dX8_pairs_83 rfl (lv_at hl 2 rfl) ?_
            exact z_iret (wf := (fun (c : Nat) => zQ E (X ++ zMw E y ad (va_up sc 0 (nI c)) g) C)) Cx hr rfl (Nat.le_of_ble_eq_true rfl) (Nat.le_of_ble_eq_true rfl) 0 hw (Or.inl ⟨rfl, hp, by rw [← hacc, hiN, Nat.sub_self, zpairsO]⟩) dX8_pairs_84
          · skip
            have hiN : i < (vH V).length := by
              rcases Nat.lt_or_ge i (vH V).length with h | h
              · exact h
              · exact absurd (nI_le h (by omega)) c_32
            refine lv_iconst (v := nI 0) hx hb dX8_pairs_35 rfl ?_
            refine lv_istore hx hb dX8_pairs_36 hl (by decide) rfl (fun ls hl => ?_)
            have hl : lv_has ls 5 [(4, .int (nI 0)), (0, .ref y), (1, .int (nI n)), (2, .int (nI cn)), (3, .int (nI i))] := hl
            have loop_38 : ∀ (nn : Nat) (j c2 : Nat) (H : Heap) (locs : List Loc) (ls : Array Slot), (j ≤ (vH V).length) → (zpairsI V (zbit (nI n)) i ((vH V).length - j) (j) (c2) = zpairsI V (zbit (nI n)) i (vH V).length 0 (cn)) → (vH V).length - j < nn → zHw E (zQ E (X ++ zMw E y ad (va_up sc 0 (nI 0)) g) C) s H locs → lv_has ls 5 [(0, .ref y), (1, .int (nI n)), (2, .int (nI c2)), (3, .int (nI i)), (4, .int (nI j))] → W p l e (zR 6 0 0) s m ([.ref y, .int (nI n)] : List Value).toArray below meth c H locs 0 0 (MQ below (va_Qi (fun r (c : Nat) => zA_pairs V (nI n) c r) (fun c tt => zQ E (X ++ zMw E y ad (va_up sc 0 (nI c)) g) C tt.heap) (eA E)) ([.ref y, .int (nI n)] : List Value).toArray s 0 0 (eA E)) (F0 m 38 ls []) := by
              intro nn
              induction nn with
              | zero => intro j c2 H locs ls hj haccj hm; exact absurd hm (Nat.not_lt_zero _)
              | succ nn ih_38 =>
                intro j c2 H locs ls hj haccj hm hw hl
                refine lv_iload hx hb dX8_pairs_38 (lv_at hl 4 rfl) ?_
                refine lv_aload_n hx hb dX8_pairs_40 rfl (lv_at hl 0 rfl) ?_
                refine z_get Cx hw (T := TX8) (N := 26) (ci := 11) (fun _ h => List.mem_cons_of_mem _ (List.mem_append_right _ (h))) zM_x rfl 6 (by decide) (List.mem_of_getElem? (i := 1) rfl) rfl rfl dX8_pairs_41 ?_
                refine lv_topi (fun x_41 ex_41 => ?_)
                have e_41 : x_41 = nI (vH V).length := ex_41.trans hn6
                subst e_41
                refine lv_icmp_ge (tgt := 77) hx hb dX8_pairs_44 (by decide) (fun c_44 => ?_) (fun c_44 => ?_)
                · skip
                  have hjN : j = (vH V).length := by
                    have := (nI_leI (a := (vH V).length) (b := j) (by omega) (by omega)).mp c_44
                    omega
                  have h9 : (vH V).length - i = ((vH V).length - (i + 1)) + 1 := by omega
                  have hacc3 : zpairsO V (zbit (nI n)) (vH V).length ((vH V).length - (i + 1)) (i + 1) (c2) = zpairsO V (zbit (nI n)) (vH V).length (vH V).length 0 0 := by
                    rw [hjN, Nat.sub_self, zpairsI] at haccj
                    rw [← hacc, h9, zpairsO, haccj]
                  refine lv_iinc (v := nI (i + 1)) hx hb dX8_pairs_77 hl (k := 3) rfl (nI_1 i) (by decide) rfl (fun ls hl => ?_)
                  have hl : lv_has ls 5 [(3, .int (nI (i + 1))), (0, .ref y), (1, .int (nI n)), (2, .int (nI c2)), (4, .int (nI j))] := hl
                  refine lv_goto (tgt := 27) hx hb dX8_pairs_80 (by decide) ?_
                  exact ih_27 (i + 1) c2 H _ ls (by omega) hacc3 (by omega) hw (lv_sub hl [1, 2, 3, 0] rfl)
                · skip
                  have hjN : j < (vH V).length := by
                    rcases Nat.lt_or_ge j (vH V).length with h | h
                    · exact h
                    · exact absurd (nI_le h (by omega)) c_44
                  have h8 : (vH V).length - j = ((vH V).length - (j + 1)) + 1 := by omega
                  refine lv_iload_n hx hb dX8_pairs_47 rfl (lv_at hl 2 rfl) ?_
                  refine lv_iload_n hx hb dX8_pairs_48 rfl (lv_at hl 3 rfl) ?_
                  refine lv_iload hx hb dX8_pairs_49 (lv_at hl 4 rfl) ?_
                  refine lv_icmp_eq (tgt := 68) hx hb dX8_pairs_51 (by decide) (fun c_51 => ?_) (fun c_51 => ?_)
                  · skip
                    have hij : i = j := (nI_eq (by omega) (by omega)).mp c_51
                    refine lv_iconst (v := nI 0) hx hb dX8_pairs_68 rfl ?_
                    refine lv_iadd hx hb dX8_pairs_69 ?_
                    refine lv_topi (fun x_69 ex_69 => ?_)
                    rw [nI_add] at ex_69
                    subst ex_69
                    have hacc2 : zpairsI V (zbit (nI n)) i ((vH V).length - (j + 1)) (j + 1) (c2 + 0) = zpairsI V (zbit (nI n)) i (vH V).length 0 (cn) := by
                      rw [← haccj, h8, zpairsI, if_neg (fun h => h.1 hij)]; rfl
                    refine lv_istore_n hx hb dX8_pairs_70 rfl hl (by decide) rfl (fun ls hl => ?_)
                    have hl : lv_has ls 5 [(2, .int (nI (c2 + 0))), (0, .ref y), (1, .int (nI n)), (3, .int (nI i)), (4, .int (nI j))] := hl
                    refine lv_iinc (v := nI (j + 1)) hx hb dX8_pairs_71 hl (k := 4) rfl (nI_1 j) (by decide) rfl (fun ls hl => ?_)
                    have hl : lv_has ls 5 [(4, .int (nI (j + 1))), (2, .int (nI (c2 + 0))), (0, .ref y), (1, .int (nI n)), (3, .int (nI i))] := hl
                    refine lv_goto (tgt := 38) hx hb dX8_pairs_74 (by decide) ?_
                    exact ih_38 (j + 1) (c2 + 0) H _ ls (by omega) hacc2 (by omega) hw (lv_sub hl [2, 3, 1, 4, 0] rfl)
                  · skip
                    have hij : ¬ i = j := fun h => c_51 (by rw [h])
                    refine lv_aload_n hx hb dX8_pairs_54 rfl (lv_at hl 0 rfl) ?_
                    refine lv_iload_n hx hb dX8_pairs_55 rfl (lv_at hl 3 rfl) ?_
                    refine lv_iload hx hb dX8_pairs_56 (lv_at hl 4 rfl) ?_
                    refine z_goe hw.2 (z_runV Cx hw (c_m_portsOf E l X C y ad (va_up sc 0 (nI 0)) g V (zMR_0 hR _) hI i j hiN hjN) (cwV 2 Cx.1.2.2.2.2 gX8_pairs_X8_portsOf rfl rfl rfl (by decide +kernel) ⟨Nat.le_of_ble_eq_true rfl, Nat.le_of_ble_eq_true rfl⟩) (z_recv Cx hw (r := (RX8, TX8, 26)) zM_x rfl) rfl hl.1 rfl (Nat.le_of_ble_eq_true rfl) dX8_pairs_58 ⟨Nat.le_of_ble_eq_true rfl, Nat.le_of_ble_eq_true rfl⟩) (fun H locs hw => ?_)
                    refine lv_iload_n hx hb dX8_pairs_61 rfl (lv_at hl 1 rfl) ?_
                    refine lv_ishr hx hb dX8_pairs_62 ?_
                    refine lv_iconst (v := 1) hx hb dX8_pairs_63 (by decide) ?_
                    refine lv_iand hx hb dX8_pairs_64 ?_
                    refine lv_topi (fun x_64 ex_64 => ?_)
                    have e_64 : x_64 = nI (if ¬ zworkV V i j &&& zbit (nI n) = 0 then 1 else 0) := by
                      rw [ex_64]
                      by_cases hz : zworkV V i j &&& zbit (nI n) = 0
                      · rw [if_neg (fun h => h hz)]; exact (zbit_0 _ n (by omega)).mpr hz
                      · rw [if_pos hz]; exact (zbit_1 _ n (by omega)).mpr hz
                    clear ex_64
                    subst e_64
                    refine lv_goto (tgt := 69) hx hb dX8_pairs_65 (by decide) ?_
                    refine lv_iadd hx hb dX8_pairs_69 ?_
                    refine lv_topi (fun x_69 ex_69 => ?_)
                    rw [nI_add] at ex_69
                    subst ex_69
                    have hacc2 : zpairsI V (zbit (nI n)) i ((vH V).length - (j + 1)) (j + 1) (c2 + (if ¬ zworkV V i j &&& zbit (nI n) = 0 then 1 else 0)) = zpairsI V (zbit (nI n)) i (vH V).length 0 (cn) := by
                      rw [← haccj, h8, zpairsI]
                      by_cases hz : zworkV V i j &&& zbit (nI n) = 0
                      · rw [if_neg (fun h => h hz), if_neg (fun h => h.2 hz)]; rfl
                      · rw [if_pos hz, if_pos ⟨hij, hz⟩]
                    refine lv_istore_n hx hb dX8_pairs_70 rfl hl (by decide) rfl (fun ls hl => ?_)
                    have hl : lv_has ls 5 [(2, .int (nI (c2 + (if ¬ zworkV V i j &&& zbit (nI n) = 0 then 1 else 0)))), (0, .ref y), (1, .int (nI n)), (3, .int (nI i)), (4, .int (nI j))] := hl
                    refine lv_iinc (v := nI (j + 1)) hx hb dX8_pairs_71 hl (k := 4) rfl (nI_1 j) (by decide) rfl (fun ls hl => ?_)
                    have hl : lv_has ls 5 [(4, .int (nI (j + 1))), (2, .int (nI (c2 + (if ¬ zworkV V i j &&& zbit (nI n) = 0 then 1 else 0)))), (0, .ref y), (1, .int (nI n)), (3, .int (nI i))] := hl
                    refine lv_goto (tgt := 38) hx hb dX8_pairs_74 (by decide) ?_
                    exact ih_38 (j + 1) (c2 + (if ¬ zworkV V i j &&& zbit (nI n) = 0 then 1 else 0)) H _ ls (by omega) hacc2 (by omega) hw (lv_sub hl [2, 3, 1, 4, 0] rfl)
            exact loop_38 (((vH V).length - 0) + 1) 0 cn _ _ ls (Nat.zero_le _) rfl (Nat.lt_succ_self _) hw (lv_sub hl [1, 2, 3, 4, 0] rfl)
      exact loop_27 (((vH V).length - 0) + 1) 0 0 _ _ ls (Nat.zero_le _) rfl (Nat.lt_succ_self _) hw (lv_sub hl [2, 3, 1, 0] rfl)
    · skip
      exact absurd c_18 (by decide)

set_option maxRecDepth 100000 in
set_option maxHeartbeats 4000000 in
/-- reachedFrom -/
theorem c_m_reachedFrom (E : zG) (l : Launch) (X : va_W) (C : zLs) (y : Nat) (ad : Nat → Nat) (sc : Nat → Int32) (g : Nat → Nat → Int32) (V : zCl) (hR : zMR sc g V) (hI : zInv V) (f : Int32) : Met l yX8_reachedFrom wsX8_reachedFrom (zR 6 0 0) (zPre E [.ref y, .int f] (zQ E (X ++ zMw E y ad sc g) C)) (va_Qi (fun r (c : Nat) => zA_reachedFrom V f c r) (fun c tt => zQ E (X ++ zMw E y ad (va_up sc 0 (nI c)) g) C tt.heap) (eA E)) 0 0 (eA E) := by
  refine z_of (cc := cX8_reachedFrom) (maxL := 4) (ret := (some .int)) (by decide) rfl rfl (Nat.le_of_ble_eq_true rfl) ?_
  intro p e s m below meth c ls Cx hr hnm hw hl
  have hx := Cx.1.1
  have hb := Cx.1.2.1
  have hn6 : sc 6 = nI (vH V).length := hR.2.2.1.1
  have hnH : (vH V).length ≤ 1000 := Nat.le_trans hR.2.2.1.2.1 (by omega)
  have hn3 : sc 3 = nI (vS V).length := hR.2.1.1
  have hnS : (vS V).length ≤ 1000 := Nat.le_trans hR.2.1.2.1 (by omega)
  have hl : lv_has ls 4 [(0, .ref y), (1, _)] := hl
  refine lv_aload_n hx hb dX8_reachedFrom_0 rfl (lv_at hl 0 rfl) ?_
  refine lv_iload_n hx hb dX8_reachedFrom_1 rfl (lv_at hl 1 rfl) ?_
  refine lv_aload_n hx hb dX8_reachedFrom_2 rfl (lv_at hl 0 rfl) ?_
  refine z_get Cx hw (T := TX8) (N := 26) (ci := 11) (fun _ h => List.mem_cons_of_mem _ (List.mem_append_right _ (h))) zM_x rfl 6 (by decide) (List.mem_of_getElem? (i := 1) rfl) rfl rfl dX8_reachedFrom_3 ?_
  refine z_goe hw.2 (z_runS Cx hw (c_X8_isIn E l (zQ E (X ++ zMw E y ad sc g) C) f (sc 6)) (va_cwS 2 Cx.1.2.2.2.2 gX8_reachedFrom_X8_isIn rfl rfl rfl (by decide +kernel) ⟨Nat.le_of_ble_eq_true rfl, Nat.le_of_ble_eq_true rfl⟩)  rfl hl.1 rfl (Nat.le_of_ble_eq_true rfl) dX8_reachedFrom_6 ⟨Nat.le_of_ble_eq_true rfl, Nat.le_of_ble_eq_true rfl⟩) (fun H locs hw => ?_)
  refine lv_if_eq (tgt := 16) hx hb dX8_reachedFrom_9 (by decide) (fun c_9 => ?_) (fun c_9 => ?_)
  · skip
    have h1 : ¬ zix f (vH V).length := fun h => by
      have h2 := (zb_0 _).mp c_9
      rw [hn6] at h2
      have h3 := (zmin_ix hnH).mpr h
      rw [show zmin f (nI (vH V).length) = false from h2] at h3
      cases h3
    refine lv_iconst (v := nI 1) hx hb dX8_reachedFrom_16 rfl ?_
    refine z_goe hw.2 (z_runV Cx hw (c_X8_holds E l X C y ad sc g _) (cwV 1 Cx.1.2.2.2.2 gX8_reachedFrom_X8_holds rfl rfl rfl (by decide +kernel) ⟨Nat.le_of_ble_eq_true rfl, Nat.le_of_ble_eq_true rfl⟩) (z_recv Cx hw (r := (RX8, TX8, 26)) zM_x rfl) rfl hl.1 rfl (Nat.le_of_ble_eq_true rfl) dX8_reachedFrom_17 ⟨Nat.le_of_ble_eq_true rfl, Nat.le_of_ble_eq_true rfl⟩) (fun H locs hw => ?_)
    refine lv_if_ne (tgt := 25) hx hb dX8_reachedFrom_20 (by decide) (fun c_20 => ?_) (fun c_20 => ?_)
    · skip
      exact absurd (by decide) c_20
    · skip
      refine lv_iconst (v := 0) hx hb dX8_reachedFrom_23 (by decide) ?_
      exact z_iret (wf := (fun (c : Nat) => zQ E (X ++ zMw E y ad (va_up sc 0 (nI c)) g) C)) Cx hr rfl (Nat.le_of_ble_eq_true rfl) (Nat.le_of_ble_eq_true rfl) 1 hw (Or.inr ⟨rfl, h1⟩) dX8_reachedFrom_24
  · skip
    have h1 := (zb_1 _).mp c_9
    rw [hn6] at h1
    obtain ⟨k, hk, rfl⟩ := (zmin_ix hnH).mp h1
    refine lv_iconst (v := nI 0) hx hb dX8_reachedFrom_12 rfl ?_
    refine lv_goto (tgt := 17) hx hb dX8_reachedFrom_13 (by decide) ?_
    refine z_goe hw.2 (z_runV Cx hw (c_X8_holds E l X C y ad sc g _) (cwV 1 Cx.1.2.2.2.2 gX8_reachedFrom_X8_holds rfl rfl rfl (by decide +kernel) ⟨Nat.le_of_ble_eq_true rfl, Nat.le_of_ble_eq_true rfl⟩) (z_recv Cx hw (r := (RX8, TX8, 26)) zM_x rfl) rfl hl.1 rfl (Nat.le_of_ble_eq_true rfl) dX8_reachedFrom_17 ⟨Nat.le_of_ble_eq_true rfl, Nat.le_of_ble_eq_true rfl⟩) (fun H locs hw => ?_)
    refine lv_if_ne (tgt := 25) hx hb dX8_reachedFrom_20 (by decide) (fun c_20 => ?_) (fun c_20 => ?_)
    · skip
      refine lv_iconst (v := nI 0) hx hb dX8_reachedFrom_25 rfl ?_
      refine lv_istore_n hx hb dX8_reachedFrom_26 rfl hl (by decide) rfl (fun ls hl => ?_)
      have hl : lv_has ls 4 [(2, .int (nI 0)), (0, .ref y), (1, _)] := hl
      refine lv_iconst (v := nI 0) hx hb dX8_reachedFrom_27 rfl ?_
      refine lv_istore_n hx hb dX8_reachedFrom_28 rfl hl (by decide) rfl (fun ls hl => ?_)
      have hl : lv_has ls 4 [(3, .int (nI 0)), (2, .int (nI 0)), (0, .ref y), (1, _)] := hl
      have loop_29 : ∀ (nn : Nat) (i S : Nat) (H : Heap) (locs : List Loc) (ls : Array Slot), (i ≤ (vH V).length) → (S < 2 ^ i) → (zreach V k ((vH V).length - i) (i) (nI S) = zreach V k (vH V).length 0 0) → (vH V).length - i < nn → zHw E (zQ E (X ++ zMw E y ad (va_up sc 0 (nI 0)) g) C) s H locs → lv_has ls 4 [(0, .ref y), (1, .int (nI k)), (2, .int (nI S)), (3, .int (nI i))] → W p l e (zR 6 0 0) s m ([.ref y, .int (nI k)] : List Value).toArray below meth c H locs 0 0 (MQ below (va_Qi (fun r (c : Nat) => zA_reachedFrom V (nI k) c r) (fun c tt => zQ E (X ++ zMw E y ad (va_up sc 0 (nI c)) g) C tt.heap) (eA E)) ([.ref y, .int (nI k)] : List Value).toArray s 0 0 (eA E)) (F0 m 29 ls []) := by
        intro nn
        induction nn with
        | zero => intro i S H locs ls hi hS hacc hm; exact absurd hm (Nat.not_lt_zero _)
        | succ nn ih_29 =>
          intro i S H locs ls hi hS hacc hm hw hl
          refine lv_iload_n hx hb dX8_reachedFrom_29 rfl (lv_at hl 3 rfl) ?_
          refine lv_aload_n hx hb dX8_reachedFrom_30 rfl (lv_at hl 0 rfl) ?_
          refine z_get Cx hw (T := TX8) (N := 26) (ci := 11) (fun _ h => List.mem_cons_of_mem _ (List.mem_append_right _ (h))) zM_x rfl 6 (by decide) (List.mem_of_getElem? (i := 1) rfl) rfl rfl dX8_reachedFrom_31 ?_
          refine lv_topi (fun x_31 ex_31 => ?_)
          have e_31 : x_31 = nI (vH V).length := ex_31.trans hn6
          subst e_31
          refine lv_icmp_ge (tgt := 67) hx hb dX8_reachedFrom_34 (by decide) (fun c_34 => ?_) (fun c_34 => ?_)
          · skip
            have hiN : i = (vH V).length := by
              have := (nI_leI (a := (vH V).length) (b := i) (by omega) (by omega)).mp c_34
              omega
            refine lv_iload_n hx hb dX8_reachedFrom_67 rfl (lv_at hl 2 rfl) ?_
            exact z_iret (wf := (fun (c : Nat) => zQ E (X ++ zMw E y ad (va_up sc 0 (nI c)) g) C)) Cx hr rfl (Nat.le_of_ble_eq_true rfl) (Nat.le_of_ble_eq_true rfl) 0 hw (Or.inl ⟨rfl, k, rfl, hk, by rw [← hacc, hiN, Nat.sub_self, zreach]⟩) dX8_reachedFrom_68
          · skip
            have hiN : i < (vH V).length := by
              rcases Nat.lt_or_ge i (vH V).length with h | h
              · exact h
              · exact absurd (nI_le h (by omega)) c_34
            have h9 : (vH V).length - i = ((vH V).length - (i + 1)) + 1 := by omega
            have hi12 : i < 13 := by have := hR.2.2.1.2.1; omega
            refine lv_iload_n hx hb dX8_reachedFrom_37 rfl (lv_at hl 2 rfl) ?_
            refine lv_iload_n hx hb dX8_reachedFrom_38 rfl (lv_at hl 3 rfl) ?_
            refine lv_iload_n hx hb dX8_reachedFrom_39 rfl (lv_at hl 1 rfl) ?_
            refine lv_icmp_eq (tgt := 58) hx hb dX8_reachedFrom_40 (by decide) (fun c_40 => ?_) (fun c_40 => ?_)
            · skip
              have hik : i = k := (nI_eq (by omega) (by omega)).mp c_40
              have hacc2 : zreach V k ((vH V).length - (i + 1)) (i + 1) (nI S) = zreach V k (vH V).length 0 0 := by rw [← hacc, h9, zreach, if_neg (fun h => h.1 hik)]
              refine lv_iconst (v := 0) hx hb dX8_reachedFrom_58 (by decide) ?_
              refine lv_ior hx hb dX8_reachedFrom_59 ?_
              refine lv_topi (fun x_59 ex_59 => ?_)
              rw [zx_or0] at ex_59
              subst ex_59
              refine lv_istore_n hx hb dX8_reachedFrom_60 rfl hl (by decide) rfl (fun ls hl => ?_)
              have hl : lv_has ls 4 [(2, _), (0, .ref y), (1, .int (nI k)), (3, .int (nI i))] := hl
              refine lv_iinc (v := nI (i + 1)) hx hb dX8_reachedFrom_61 hl (k := 3) rfl (nI_1 i) (by decide) rfl (fun ls hl => ?_)
              have hl : lv_has ls 4 [(3, .int (nI (i + 1))), (2, _), (0, .ref y), (1, .int (nI k))] := hl
              refine lv_goto (tgt := 29) hx hb dX8_reachedFrom_64 (by decide) ?_
              exact ih_29 (i + 1) S H _ ls (by omega) (by rw [Nat.pow_succ]; omega) hacc2 (by omega) hw (lv_sub hl [2, 3, 1, 0] rfl)
            · skip
              have hik : ¬ i = k := fun h => c_40 (by rw [h])
              refine lv_aload_n hx hb dX8_reachedFrom_43 rfl (lv_at hl 0 rfl) ?_
              refine lv_iload_n hx hb dX8_reachedFrom_44 rfl (lv_at hl 3 rfl) ?_
              refine lv_iload_n hx hb dX8_reachedFrom_45 rfl (lv_at hl 1 rfl) ?_
              refine z_goe hw.2 (z_runV Cx hw (c_m_portsOf E l X C y ad (va_up sc 0 (nI 0)) g V (zMR_0 hR _) hI i k hiN hk) (cwV 2 Cx.1.2.2.2.2 gX8_reachedFrom_X8_portsOf rfl rfl rfl (by decide +kernel) ⟨Nat.le_of_ble_eq_true rfl, Nat.le_of_ble_eq_true rfl⟩) (z_recv Cx hw (r := (RX8, TX8, 26)) zM_x rfl) rfl hl.1 rfl (Nat.le_of_ble_eq_true rfl) dX8_reachedFrom_46 ⟨Nat.le_of_ble_eq_true rfl, Nat.le_of_ble_eq_true rfl⟩) (fun H locs hw => ?_)
              refine lv_if_eq (tgt := 58) hx hb dX8_reachedFrom_49 (by decide) (fun c_49 => ?_) (fun c_49 => ?_)
              · skip
                have hacc2 : zreach V k ((vH V).length - (i + 1)) (i + 1) (nI S) = zreach V k (vH V).length 0 0 := by rw [← hacc, h9, zreach, if_neg (fun h => h.2 c_49)]
                refine lv_iconst (v := 0) hx hb dX8_reachedFrom_58 (by decide) ?_
                refine lv_ior hx hb dX8_reachedFrom_59 ?_
                refine lv_topi (fun x_59 ex_59 => ?_)
                rw [zx_or0] at ex_59
                subst ex_59
                refine lv_istore_n hx hb dX8_reachedFrom_60 rfl hl (by decide) rfl (fun ls hl => ?_)
                have hl : lv_has ls 4 [(2, _), (0, .ref y), (1, .int (nI k)), (3, .int (nI i))] := hl
                refine lv_iinc (v := nI (i + 1)) hx hb dX8_reachedFrom_61 hl (k := 3) rfl (nI_1 i) (by decide) rfl (fun ls hl => ?_)
                have hl : lv_has ls 4 [(3, .int (nI (i + 1))), (2, _), (0, .ref y), (1, .int (nI k))] := hl
                refine lv_goto (tgt := 29) hx hb dX8_reachedFrom_64 (by decide) ?_
                exact ih_29 (i + 1) S H _ ls (by omega) (by rw [Nat.pow_succ]; omega) hacc2 (by omega) hw (lv_sub hl [2, 3, 1, 0] rfl)
              · skip
                obtain ⟨ho, S2, hS2, eS⟩ := zor_bit hS hi12
                have hacc2 : zreach V k ((vH V).length - (i + 1)) (i + 1) (nI S2) = zreach V k (vH V).length 0 0 := by rw [← hacc, h9, zreach, if_pos ⟨hik, c_49⟩, ← eS]
                refine lv_iconst (v := 1) hx hb dX8_reachedFrom_52 (by decide) ?_
                refine lv_iload_n hx hb dX8_reachedFrom_53 rfl (lv_at hl 3 rfl) ?_
                refine lv_ishl hx hb dX8_reachedFrom_54 ?_
                refine lv_goto (tgt := 59) hx hb dX8_reachedFrom_55 (by decide) ?_
                refine lv_ior hx hb dX8_reachedFrom_59 ?_
                refine lv_topi (fun x_59 ex_59 => ?_)
                rw [ho, eS] at ex_59
                subst ex_59
                refine lv_istore_n hx hb dX8_reachedFrom_60 rfl hl (by decide) rfl (fun ls hl => ?_)
                have hl : lv_has ls 4 [(2, _), (0, .ref y), (1, .int (nI k)), (3, .int (nI i))] := hl
                refine lv_iinc (v := nI (i + 1)) hx hb dX8_reachedFrom_61 hl (k := 3) rfl (nI_1 i) (by decide) rfl (fun ls hl => ?_)
                have hl : lv_has ls 4 [(3, .int (nI (i + 1))), (2, _), (0, .ref y), (1, .int (nI k))] := hl
                refine lv_goto (tgt := 29) hx hb dX8_reachedFrom_64 (by decide) ?_
                exact ih_29 (i + 1) S2 H _ ls (by omega) hS2 hacc2 (by omega) hw (lv_sub hl [2, 3, 1, 0] rfl)
      exact loop_29 (((vH V).length - 0) + 1) 0 0 _ _ ls (Nat.zero_le _) (by decide) rfl (Nat.lt_succ_self _) hw (lv_sub hl [2, 3, 1, 0] rfl)
    · skip
      exact absurd c_20 (by decide)

set_option maxRecDepth 100000 in
set_option maxHeartbeats 4000000 in
/-- isMet -/
theorem c_m_isMet (E : zG) (l : Launch) (X : va_W) (C : zLs) (y : Nat) (ad : Nat → Nat) (sc : Nat → Int32) (g : Nat → Nat → Int32) (V : zCl) (hR : zMR sc g V) (hI : zInv V) (k : Nat) (hk : k < (vS V).length) (r : Nat) (rv : zRl) (hrv : (zsv V k).2.2.1[r]? = some rv) (x : Int32) : Met l yX8_isMet wsX8_isMet (zR 2 0 0) (zPre E [.ref y, .int (nI (12 * k)), .int (nI (12 * k + r)), .int x] (zQ E (X ++ zMw E y ad sc g) C)) (zRi E (zQ E (X ++ zMw E y ad sc g) C) (zb (decide (zleft rv.1 x ((zsv V k).2.2.1.take r) rv.2.2.2 = 0)))) 0 0 (eA E) := by
  refine z_of (cc := cX8_isMet) (maxL := 6) (ret := (some .boolean)) (by decide) rfl rfl (Nat.le_of_ble_eq_true rfl) ?_
  intro p e s m below meth c ls Cx hr hnm hw hl
  have hx := Cx.1.1
  have hb := Cx.1.2.1
  obtain ⟨v, w, hv, hw0, ev, hs, -⟩ := zV_S hI hk
  have e1 : (zsv V k).2.2.1 = v.2.2.1 := by rw [ev]
  rw [e1] at hrv
  have hk8 : k < 8 := Nat.lt_of_lt_of_le hk hR.2.1.2.1
  obtain ⟨-, -, ⟨-, hle, hru⟩, -⟩ := hR.2.1.2.2 k v hv
  have hrl : r < v.2.2.1.length := (List.getElem?_eq_some_iff.mp hrv).1
  obtain ⟨a1, a2, a3, a4⟩ := hru r rv hrv
  have hok := hs.2.2.1
  have hrok := hok rv (List.mem_of_getElem? hrv)
  have hl : lv_has ls 6 [(0, .ref y), (1, .int (nI (12 * k))), (2, .int (nI (12 * k + r))), (3, .int x)] := hl
  refine lv_aload_n hx hb dX8_isMet_0 rfl (lv_at hl 0 rfl) ?_
  refine z_get Cx hw (T := TX8) (N := 26) (ci := 11) (fun _ h => List.mem_cons_of_mem _ (List.mem_append_right _ (h))) zM_x rfl 22 (by decide) (List.mem_of_getElem? (i := 1) rfl) rfl rfl dX8_isMet_1 ?_
  refine lv_iload_n hx hb dX8_isMet_4 rfl (lv_at hl 2 rfl) ?_
  refine zm_iald Cx hw (k := 22) (n := 96) (by decide) (by omega) dX8_isMet_5 ?_
  refine lv_topi (fun x_5 ex_5 => ?_)
  rw [a4] at ex_5
  subst ex_5
  refine lv_istore hx hb dX8_isMet_6 hl (by decide) rfl (fun ls hl => ?_)
  have hl : lv_has ls 6 [(4, .int rv.2.2.2), (0, .ref y), (1, .int (nI (12 * k))), (2, .int (nI (12 * k + r))), (3, .int x)] := hl
  refine lv_iload_n hx hb dX8_isMet_8 rfl (lv_at hl 2 rfl) ?_
  refine lv_istore hx hb dX8_isMet_9 hl (by decide) rfl (fun ls hl => ?_)
  have hl : lv_has ls 6 [(5, .int (nI (12 * k))), (4, .int rv.2.2.2), (0, .ref y), (1, .int (nI (12 * k))), (2, .int (nI (12 * k + r))), (3, .int x)] := hl
  have loop_11 : ∀ (nn : Nat) (j : Nat) (o : Int32) (H : Heap) (locs : List Loc) (ls : Array Slot), (j ≤ r) → (o &&& 65535 = o) → (zleft rv.1 x ((v.2.2.1.take r).drop j) o = zleft rv.1 x (v.2.2.1.take r) rv.2.2.2) → r - j < nn → zHw E (zQ E (X ++ zMw E y ad sc g) C) s H locs → lv_has ls 6 [(0, .ref y), (1, .int (nI (12 * k))), (2, .int (nI (12 * k + r))), (3, .int x), (4, .int o), (5, .int (nI (12 * k + j)))] → W p l e (zR 2 0 0) s m ([.ref y, .int (nI (12 * k)), .int (nI (12 * k + r)), .int x] : List Value).toArray below meth c H locs 0 0 (MQ below (zRi E (zQ E (X ++ zMw E y ad sc g) C) (zb (decide (zleft rv.1 x ((zsv V k).2.2.1.take r) rv.2.2.2 = 0)))) ([.ref y, .int (nI (12 * k)), .int (nI (12 * k + r)), .int x] : List Value).toArray s 0 0 (eA E)) (F0 m 11 ls []) := by
    intro nn
    induction nn with
    | zero => intro j o H locs ls hj ho hacc hm; exact absurd hm (Nat.not_lt_zero _)
    | succ nn ih_11 =>
      intro j o H locs ls hj ho hacc hm hw hl
      refine lv_iload hx hb dX8_isMet_11 (lv_at hl 5 rfl) ?_
      refine lv_iload_n hx hb dX8_isMet_13 rfl (lv_at hl 2 rfl) ?_
      refine lv_icmp_ge (tgt := 72) hx hb dX8_isMet_14 (by decide) (fun c_14 => ?_) (fun c_14 => ?_)
      · skip
        have hjr : j = r := by
          have := (nI_leI (a := 12 * k + r) (b := 12 * k + j) (by omega) (by omega)).mp c_14
          omega
        rw [hjr, List.drop_of_length_le (by rw [List.length_take]; omega), zleft] at hacc
        refine lv_iload hx hb dX8_isMet_72 (lv_at hl 4 rfl) ?_
        refine lv_if_ne (tgt := 81) hx hb dX8_isMet_74 (by decide) (fun c_74 => ?_) (fun c_74 => ?_)
        · skip
          refine lv_iconst (v := 0) hx hb dX8_isMet_81 (by decide) ?_
          exact (z_ie Cx hr rfl (Nat.le_of_ble_eq_true rfl) (Nat.le_of_ble_eq_true rfl) hw dX8_isMet_82 (by rw [e1, ← hacc, decide_eq_false c_74]; rfl))
        · skip
          refine lv_iconst (v := 1) hx hb dX8_isMet_77 (by decide) ?_
          refine lv_goto (tgt := 82) hx hb dX8_isMet_78 (by decide) ?_
          exact (z_ie Cx hr rfl (Nat.le_of_ble_eq_true rfl) (Nat.le_of_ble_eq_true rfl) hw dX8_isMet_82 (by rw [e1, ← hacc, decide_eq_true c_74]; rfl))
      · skip
        have hjr : j < r := by
          rcases Nat.lt_or_ge j r with h | h
          · exact h
          · exact absurd (nI_le (by omega) (by omega)) c_14
        have hjl : j < (v.2.2.1.take r).length := by rw [List.length_take]; omega
        have hu1 : (v.2.2.1.take r)[j]? = some ((v.2.2.1.take r)[j]) := List.getElem?_eq_getElem hjl
        rw [List.drop_eq_getElem_cons hjl] at hacc
        generalize (v.2.2.1.take r)[j] = u at hu1 hacc
        have hu : v.2.2.1[j]? = some u := by rw [List.getElem?_take, if_pos hjr] at hu1; exact hu1
        obtain ⟨b1, b2, b3, b4⟩ := hru j u hu
        have huk := hok u (List.mem_of_getElem? hu)
        rw [zleft] at hacc
        refine lv_iload hx hb dX8_isMet_17 (lv_at hl 4 rfl) ?_
        refine lv_aload_n hx hb dX8_isMet_19 rfl (lv_at hl 0 rfl) ?_
        refine z_get Cx hw (T := TX8) (N := 26) (ci := 11) (fun _ h => List.mem_cons_of_mem _ (List.mem_append_right _ (h))) zM_x rfl 19 (by decide) (List.mem_of_getElem? (i := 2) rfl) rfl rfl dX8_isMet_20 ?_
        refine lv_iload hx hb dX8_isMet_23 (lv_at hl 5 rfl) ?_
        refine zm_zald Cx hw (k := 19) (n := 96) (by decide) (by omega) dX8_isMet_25 ?_
        refine lv_topi (fun x_25 ex_25 => ?_)
        rw [b1] at ex_25
        subst ex_25
        refine lv_aload_n hx hb dX8_isMet_26 rfl (lv_at hl 0 rfl) ?_
        refine z_get Cx hw (T := TX8) (N := 26) (ci := 11) (fun _ h => List.mem_cons_of_mem _ (List.mem_append_right _ (h))) zM_x rfl 19 (by decide) (List.mem_of_getElem? (i := 2) rfl) rfl rfl dX8_isMet_27 ?_
        refine lv_iload_n hx hb dX8_isMet_30 rfl (lv_at hl 2 rfl) ?_
        refine zm_zald Cx hw (k := 19) (n := 96) (by decide) (by omega) dX8_isMet_31 ?_
        refine lv_topi (fun x_31 ex_31 => ?_)
        rw [a1] at ex_31
        subst ex_31
        refine lv_icmp_ne (tgt := 61) hx hb dX8_isMet_32 (by decide) (fun c_32 => ?_) (fun c_32 => ?_)
        · skip
          have hh : ¬ zrHas u rv.1 x = true := fun h => by
            unfold zrHas at h
            rw [decide_eq_false c_32] at h
            cases h
          refine lv_ldc hx hb Cx.1.2.2.2.1 (Cx.1.2.2.2.2 (Cond.constant RX8 131 (65535)) (List.mem_of_getElem? (i := 4) rfl)) dX8_isMet_61 ?_
          refine lv_iand hx hb dX8_isMet_63 ?_
          refine lv_topi (fun o2 eo2 => ?_)
          rw [ho] at eo2
          have ho2 : o2 &&& 65535 = o2 := by rw [eo2]; exact ho
          rw [if_neg hh, ← eo2] at hacc
          have hacc2 := hacc
          refine lv_istore hx hb dX8_isMet_64 hl (by decide) rfl (fun ls hl => ?_)
          have hl : lv_has ls 6 [(4, .int o2), (0, .ref y), (1, .int (nI (12 * k))), (2, .int (nI (12 * k + r))), (3, .int x), (5, .int (nI (12 * k + j)))] := hl
          refine lv_iinc (v := nI (12 * k + (j + 1))) hx hb dX8_isMet_66 hl (k := 5) rfl (nI_1 (12 * k + j)) (by decide) rfl (fun ls hl => ?_)
          have hl : lv_has ls 6 [(5, .int (nI (12 * k + (j + 1)))), (4, .int o2), (0, .ref y), (1, .int (nI (12 * k))), (2, .int (nI (12 * k + r))), (3, .int x)] := hl
          refine lv_goto (tgt := 11) hx hb dX8_isMet_69 (by decide) ?_
          exact ih_11 (j + 1) o2 H _ ls (by omega) ho2 hacc2 (by omega) hw (lv_sub hl [2, 3, 4, 5, 1, 0] rfl)
        · skip
          refine lv_aload_n hx hb dX8_isMet_35 rfl (lv_at hl 0 rfl) ?_
          refine z_get Cx hw (T := TX8) (N := 26) (ci := 11) (fun _ h => List.mem_cons_of_mem _ (List.mem_append_right _ (h))) zM_x rfl 21 (by decide) (List.mem_of_getElem? (i := 3) rfl) rfl rfl dX8_isMet_36 ?_
          refine lv_iload hx hb dX8_isMet_39 (lv_at hl 5 rfl) ?_
          refine zm_iald Cx hw (k := 21) (n := 96) (by decide) (by omega) dX8_isMet_41 ?_
          refine lv_topi (fun x_41 ex_41 => ?_)
          rw [b3] at ex_41
          subst ex_41
          refine lv_iload_n hx hb dX8_isMet_42 rfl (lv_at hl 3 rfl) ?_
          refine z_goe hw.2 (z_runS Cx hw (c_X8_has E l _ (zbi u.2.2.1) x) (va_cwS 2 Cx.1.2.2.2.2 gX8_isMet_X8_has rfl rfl rfl (by decide +kernel) ⟨Nat.le_of_ble_eq_true rfl, Nat.le_of_ble_eq_true rfl⟩)  rfl hl.1 rfl (Nat.le_of_ble_eq_true rfl) dX8_isMet_43 ⟨Nat.le_of_ble_eq_true rfl, Nat.le_of_ble_eq_true rfl⟩) (fun H locs hw => ?_)
          refine lv_if_eq (tgt := 61) hx hb dX8_isMet_46 (by decide) (fun c_46 => ?_) (fun c_46 => ?_)
          · skip
            have hh : ¬ zrHas u rv.1 x = true := fun h => by
              unfold zrHas at h
              rw [Bool.and_eq_true, ← zmhas_eq huk.1, (zb_0 _).mp c_46] at h
              cases h.2
            refine lv_ldc hx hb Cx.1.2.2.2.1 (Cx.1.2.2.2.2 (Cond.constant RX8 131 (65535)) (List.mem_of_getElem? (i := 4) rfl)) dX8_isMet_61 ?_
            refine lv_iand hx hb dX8_isMet_63 ?_
            refine lv_topi (fun o2 eo2 => ?_)
            rw [ho] at eo2
            have ho2 : o2 &&& 65535 = o2 := by rw [eo2]; exact ho
            rw [if_neg hh, ← eo2] at hacc
            have hacc2 := hacc
            refine lv_istore hx hb dX8_isMet_64 hl (by decide) rfl (fun ls hl => ?_)
            have hl : lv_has ls 6 [(4, .int o2), (0, .ref y), (1, .int (nI (12 * k))), (2, .int (nI (12 * k + r))), (3, .int x), (5, .int (nI (12 * k + j)))] := hl
            refine lv_iinc (v := nI (12 * k + (j + 1))) hx hb dX8_isMet_66 hl (k := 5) rfl (nI_1 (12 * k + j)) (by decide) rfl (fun ls hl => ?_)
            have hl : lv_has ls 6 [(5, .int (nI (12 * k + (j + 1)))), (4, .int o2), (0, .ref y), (1, .int (nI (12 * k))), (2, .int (nI (12 * k + r))), (3, .int x)] := hl
            refine lv_goto (tgt := 11) hx hb dX8_isMet_69 (by decide) ?_
            exact ih_11 (j + 1) o2 H _ ls (by omega) ho2 hacc2 (by omega) hw (lv_sub hl [2, 3, 4, 5, 1, 0] rfl)
          · skip
            have hh : zrHas u rv.1 x = true := by
              unfold zrHas
              rw [Bool.and_eq_true, ← zmhas_eq huk.1]
              exact ⟨decide_eq_true c_32, (zb_1 _).mp c_46⟩
            refine lv_aload_n hx hb dX8_isMet_49 rfl (lv_at hl 0 rfl) ?_
            refine z_get Cx hw (T := TX8) (N := 26) (ci := 11) (fun _ h => List.mem_cons_of_mem _ (List.mem_append_right _ (h))) zM_x rfl 22 (by decide) (List.mem_of_getElem? (i := 1) rfl) rfl rfl dX8_isMet_50 ?_
            refine lv_iload hx hb dX8_isMet_53 (lv_at hl 5 rfl) ?_
            refine zm_iald Cx hw (k := 22) (n := 96) (by decide) (by omega) dX8_isMet_55 ?_
            refine lv_topi (fun x_55 ex_55 => ?_)
            rw [b4] at ex_55
            subst ex_55
            refine lv_iconst (v := -1) hx hb dX8_isMet_56 (by decide) ?_
            refine lv_ixor hx hb dX8_isMet_57 ?_
            refine lv_goto (tgt := 63) hx hb dX8_isMet_58 (by decide) ?_
            refine lv_iand hx hb dX8_isMet_63 ?_
            refine lv_topi (fun o2 eo2 => ?_)
            have ho2 : o2 &&& 65535 = o2 := by rw [eo2]; exact zx_e5 ho
            rw [if_pos hh, ← eo2] at hacc
            have hacc2 := hacc
            refine lv_istore hx hb dX8_isMet_64 hl (by decide) rfl (fun ls hl => ?_)
            have hl : lv_has ls 6 [(4, .int o2), (0, .ref y), (1, .int (nI (12 * k))), (2, .int (nI (12 * k + r))), (3, .int x), (5, .int (nI (12 * k + j)))] := hl
            refine lv_iinc (v := nI (12 * k + (j + 1))) hx hb dX8_isMet_66 hl (k := 5) rfl (nI_1 (12 * k + j)) (by decide) rfl (fun ls hl => ?_)
            have hl : lv_has ls 6 [(5, .int (nI (12 * k + (j + 1)))), (4, .int o2), (0, .ref y), (1, .int (nI (12 * k))), (2, .int (nI (12 * k + r))), (3, .int x)] := hl
            refine lv_goto (tgt := 11) hx hb dX8_isMet_69 (by decide) ?_
            exact ih_11 (j + 1) o2 H _ ls (by omega) ho2 hacc2 (by omega) hw (lv_sub hl [2, 3, 4, 5, 1, 0] rfl)
  exact loop_11 ((r - 0) + 1) 0 rv.2.2.2 _ _ ls (Nat.zero_le _) hrok.2 rfl (Nat.lt_succ_self _) hw (lv_sub hl [2, 3, 4, 5, 1, 0] rfl)

set_option maxRecDepth 100000 in
set_option maxHeartbeats 4000000 in
/-- idleRules -/
theorem c_m_idleRules (E : zG) (l : Launch) (X : va_W) (C : zLs) (y : Nat) (ad : Nat → Nat) (sc : Nat → Int32) (g : Nat → Nat → Int32) (V : zCl) (hR : zMR sc g V) (hI : zInv V) (f : Int32) : Met l yX8_idleRules wsX8_idleRules (zR 6 0 0) (zPre E [.ref y, .int f] (zQ E (X ++ zMw E y ad sc g) C)) (va_Qi (fun r (c : Nat) => zA_idleRules V f c r) (fun c tt => zQ E (X ++ zMw E y ad (va_up sc 0 (nI c)) g) C tt.heap) (eA E)) 0 0 (eA E) := by
  refine z_of (cc := cX8_idleRules) (maxL := 8) (ret := (some .int)) (by decide) rfl rfl (Nat.le_of_ble_eq_true rfl) ?_
  intro p e s m below meth c ls Cx hr hnm hw hl
  have hx := Cx.1.1
  have hb := Cx.1.2.1
  have hn6 : sc 6 = nI (vH V).length := hR.2.2.1.1
  have hnH : (vH V).length ≤ 1000 := Nat.le_trans hR.2.2.1.2.1 (by omega)
  have hn3 : sc 3 = nI (vS V).length := hR.2.1.1
  have hnS : (vS V).length ≤ 1000 := Nat.le_trans hR.2.1.2.1 (by omega)
  have hl : lv_has ls 8 [(0, .ref y), (1, _)] := hl
  refine lv_aload_n hx hb dX8_idleRules_0 rfl (lv_at hl 0 rfl) ?_
  refine lv_iload_n hx hb dX8_idleRules_1 rfl (lv_at hl 1 rfl) ?_
  refine lv_aload_n hx hb dX8_idleRules_2 rfl (lv_at hl 0 rfl) ?_
  refine z_get Cx hw (T := TX8) (N := 26) (ci := 11) (fun _ h => List.mem_cons_of_mem _ (List.mem_append_right _ (h))) zM_x rfl 3 (by decide) (List.mem_of_getElem? (i := 1) rfl) rfl rfl dX8_idleRules_3 ?_
  refine z_goe hw.2 (z_runS Cx hw (c_X8_isIn E l (zQ E (X ++ zMw E y ad sc g) C) f (sc 3)) (va_cwS 2 Cx.1.2.2.2.2 gX8_idleRules_X8_isIn rfl rfl rfl (by decide +kernel) ⟨Nat.le_of_ble_eq_true rfl, Nat.le_of_ble_eq_true rfl⟩)  rfl hl.1 rfl (Nat.le_of_ble_eq_true rfl) dX8_idleRules_6 ⟨Nat.le_of_ble_eq_true rfl, Nat.le_of_ble_eq_true rfl⟩) (fun H locs hw => ?_)
  refine lv_if_eq (tgt := 16) hx hb dX8_idleRules_9 (by decide) (fun c_9 => ?_) (fun c_9 => ?_)
  · skip
    have h1 : ¬ zix f (vS V).length := fun h => by
      have h2 := (zb_0 _).mp c_9
      rw [hn3] at h2
      have h3 := (zmin_ix hnS).mpr h
      rw [show zmin f (nI (vS V).length) = false from h2] at h3
      cases h3
    refine lv_iconst (v := nI 1) hx hb dX8_idleRules_16 rfl ?_
    refine z_goe hw.2 (z_runV Cx hw (c_X8_holds E l X C y ad sc g _) (cwV 1 Cx.1.2.2.2.2 gX8_idleRules_X8_holds rfl rfl rfl (by decide +kernel) ⟨Nat.le_of_ble_eq_true rfl, Nat.le_of_ble_eq_true rfl⟩) (z_recv Cx hw (r := (RX8, TX8, 26)) zM_x rfl) rfl hl.1 rfl (Nat.le_of_ble_eq_true rfl) dX8_idleRules_17 ⟨Nat.le_of_ble_eq_true rfl, Nat.le_of_ble_eq_true rfl⟩) (fun H locs hw => ?_)
    refine lv_if_ne (tgt := 25) hx hb dX8_idleRules_20 (by decide) (fun c_20 => ?_) (fun c_20 => ?_)
    · skip
      exact absurd (by decide) c_20
    · skip
      refine lv_iconst (v := 0) hx hb dX8_idleRules_23 (by decide) ?_
      exact z_iret (wf := (fun (c : Nat) => zQ E (X ++ zMw E y ad (va_up sc 0 (nI c)) g) C)) Cx hr rfl (Nat.le_of_ble_eq_true rfl) (Nat.le_of_ble_eq_true rfl) 1 hw (Or.inr ⟨rfl, h1⟩) dX8_idleRules_24
  · skip
    have h1 := (zb_1 _).mp c_9
    rw [hn3] at h1
    obtain ⟨k, hk, rfl⟩ := (zmin_ix hnS).mp h1
    refine lv_iconst (v := nI 0) hx hb dX8_idleRules_12 rfl ?_
    refine lv_goto (tgt := 17) hx hb dX8_idleRules_13 (by decide) ?_
    refine z_goe hw.2 (z_runV Cx hw (c_X8_holds E l X C y ad sc g _) (cwV 1 Cx.1.2.2.2.2 gX8_idleRules_X8_holds rfl rfl rfl (by decide +kernel) ⟨Nat.le_of_ble_eq_true rfl, Nat.le_of_ble_eq_true rfl⟩) (z_recv Cx hw (r := (RX8, TX8, 26)) zM_x rfl) rfl hl.1 rfl (Nat.le_of_ble_eq_true rfl) dX8_idleRules_17 ⟨Nat.le_of_ble_eq_true rfl, Nat.le_of_ble_eq_true rfl⟩) (fun H locs hw => ?_)
    refine lv_if_ne (tgt := 25) hx hb dX8_idleRules_20 (by decide) (fun c_20 => ?_) (fun c_20 => ?_)
    · skip
      obtain ⟨v, w, hv, hw0, ev, hs, -⟩ := zV_S hI hk
      have e1 : (zsv V k).2.2.1 = v.2.2.1 := by rw [ev]
      have hk8 : k < 8 := Nat.lt_of_lt_of_le hk hR.2.1.2.1
      obtain ⟨-, -, ⟨hsz, hle, hru⟩, -⟩ := hR.2.1.2.2 k v hv
      have hok := hs.2.2.1
      refine lv_iconst (v := nI 0) hx hb dX8_idleRules_25 rfl ?_
      refine lv_istore_n hx hb dX8_idleRules_26 rfl hl (by decide) rfl (fun ls hl => ?_)
      have hl : lv_has ls 8 [(2, .int (nI 0)), (0, .ref y), (1, _)] := hl
      refine lv_bipush (v := nI 12) hx hb dX8_idleRules_27 rfl ?_
      refine lv_iload_n hx hb dX8_idleRules_29 rfl (lv_at hl 2 rfl) ?_
      refine lv_imul hx hb dX8_idleRules_30 ?_
      refine lv_topi (fun x_30 ex_30 => ?_)
      rw [zi_mul] at ex_30
      subst ex_30
      refine lv_istore_n hx hb dX8_idleRules_31 rfl hl (by decide) rfl (fun ls hl => ?_)
      have hl : lv_has ls 8 [(3, .int (nI (12 * k))), (2, .int (nI 0)), (0, .ref y), (1, _)] := hl
      refine lv_iload_n hx hb dX8_idleRules_32 rfl (lv_at hl 0 rfl) ?_
      refine lv_istore hx hb dX8_idleRules_33 hl (by decide) rfl (fun ls hl => ?_)
      have hl : lv_has ls 8 [(4, .int (nI (12 * k))), (3, .int (nI (12 * k))), (2, .int (nI 0)), (0, .ref y), (1, _)] := hl
      have loop_35 : ∀ (nn : Nat) (r cn : Nat) (H : Heap) (locs : List Loc) (ls : Array Slot), (r ≤ v.2.2.1.length) → (cn + zidles (v.2.2.1.take r) (v.2.2.1.drop r) = zidles [] v.2.2.1) → v.2.2.1.length - r < nn → zHw E (zQ E (X ++ zMw E y ad (va_up sc 0 (nI 0)) g) C) s H locs → lv_has ls 8 [(0, .ref y), (1, .int (nI k)), (2, .int (nI cn)), (3, .int (nI (12 * k))), (4, .int (nI (12 * k + r)))] → W p l e (zR 6 0 0) s m ([.ref y, .int (nI k)] : List Value).toArray below meth c H locs 0 0 (MQ below (va_Qi (fun r (c : Nat) => zA_idleRules V (nI k) c r) (fun c tt => zQ E (X ++ zMw E y ad (va_up sc 0 (nI c)) g) C tt.heap) (eA E)) ([.ref y, .int (nI k)] : List Value).toArray s 0 0 (eA E)) (F0 m 35 ls []) := by
        intro nn
        induction nn with
        | zero => intro r cn H locs ls hrr hacc hm; exact absurd hm (Nat.not_lt_zero _)
        | succ nn ih_35 =>
          intro r cn H locs ls hrr hacc hm hw hl
          refine lv_iload hx hb dX8_idleRules_35 (lv_at hl 4 rfl) ?_
          refine lv_iload_n hx hb dX8_idleRules_37 rfl (lv_at hl 3 rfl) ?_
          refine lv_aload_n hx hb dX8_idleRules_38 rfl (lv_at hl 0 rfl) ?_
          refine z_get Cx hw (T := TX8) (N := 26) (ci := 11) (fun _ h => List.mem_cons_of_mem _ (List.mem_append_right _ (h))) zM_x rfl 18 (by decide) (List.mem_of_getElem? (i := 2) rfl) rfl rfl dX8_idleRules_39 ?_
          refine lv_iload_n hx hb dX8_idleRules_42 rfl (lv_at hl 1 rfl) ?_
          refine zm_iald Cx hw (k := 18) (n := 8) (by decide) hk8 dX8_idleRules_43 ?_
          refine lv_topi (fun x_43 ex_43 => ?_)
          rw [hsz] at ex_43
          subst ex_43
          refine lv_iadd hx hb dX8_idleRules_44 ?_
          refine lv_topi (fun x_44 ex_44 => ?_)
          rw [nI_add] at ex_44
          subst ex_44
          refine lv_icmp_ge (tgt := 124) hx hb dX8_idleRules_45 (by decide) (fun c_45 => ?_) (fun c_45 => ?_)
          · skip
            have hrN : r = v.2.2.1.length := by
              have := (nI_leI (a := 12 * k + v.2.2.1.length) (b := 12 * k + r) (by omega) (by omega)).mp c_45
              omega
            refine lv_iload_n hx hb dX8_idleRules_124 rfl (lv_at hl 2 rfl) ?_
            exact z_iret (wf := (fun (c : Nat) => zQ E (X ++ zMw E y ad (va_up sc 0 (nI c)) g) C)) Cx hr rfl (Nat.le_of_ble_eq_true rfl) (Nat.le_of_ble_eq_true rfl) 0 hw (Or.inl ⟨rfl, k, rfl, hk, by rw [e1, ← hacc, hrN, List.drop_length, zidles, Nat.add_zero]⟩) dX8_idleRules_125
          · skip
            have hrN : r < v.2.2.1.length := by
              rcases Nat.lt_or_ge r v.2.2.1.length with h | h
              · exact h
              · exact absurd (nI_le (by omega) (by omega)) c_45
            have hrv := List.getElem?_eq_getElem hrN
            rw [List.drop_eq_getElem_cons hrN] at hacc
            generalize v.2.2.1[r] = rv at hrv hacc
            obtain ⟨a1, a2, a3, a4⟩ := hru r rv hrv
            have hrk := hok rv (List.mem_of_getElem? hrv)
            obtain ⟨B, K, eB, eK, hK, hB, hd⟩ := zbok_nat hrk.1
            have eF : zfir (zbi rv.2.2.1) = nI B := (zfir_eq hrk.1).trans eB
            have eM : zman (zbi rv.2.2.1) = nI (2 ^ K) := by rw [zman_eq hrk.1, eK, zsh_nat K (by omega)]
            have hpw := zp_pow hK
            have hus : ∀ u ∈ v.2.2.1.take r, zrok u := fun u hu => hok u (List.mem_of_mem_take hu)
            have hrv2 : (zsv V k).2.2.1[r]? = some rv := by rw [e1]; exact hrv
            have hacc2 : (cn + (if zidle (v.2.2.1.take r) rv = true then 1 else 0)) + zidles (v.2.2.1.take (r + 1)) (v.2.2.1.drop (r + 1)) = zidles [] v.2.2.1 := by
              rw [← hacc, zidles, z_take hrv, Nat.add_assoc]
            refine lv_iconst (v := zb true) hx hb dX8_idleRules_48 rfl ?_
            refine lv_istore hx hb dX8_idleRules_49 hl (by decide) rfl (fun ls hl => ?_)
            have hl : lv_has ls 8 [(5, .int (zb true)), (0, .ref y), (1, .int (nI k)), (2, .int (nI cn)), (3, .int (nI (12 * k))), (4, .int (nI (12 * k + r)))] := hl
            refine lv_aload_n hx hb dX8_idleRules_51 rfl (lv_at hl 1 rfl) ?_
            refine z_get Cx hw (T := TX8) (N := 26) (ci := 11) (fun _ h => List.mem_cons_of_mem _ (List.mem_append_right _ (h))) zM_x rfl 21 (by decide) (List.mem_of_getElem? (i := 3) rfl) rfl rfl dX8_idleRules_52 ?_
            refine lv_iload hx hb dX8_idleRules_55 (lv_at hl 5 rfl) ?_
            refine zm_iald Cx hw (k := 21) (n := 96) (by decide) (by omega) dX8_idleRules_57 ?_
            refine lv_topi (fun x_57 ex_57 => ?_)
            rw [a3] at ex_57
            subst ex_57
            refine lv_istore hx hb dX8_idleRules_58 hl (by decide) rfl (fun ls hl => ?_)
            have hl : lv_has ls 8 [(6, .int (zbi rv.2.2.1)), (5, .int (zb true)), (0, .ref y), (1, .int (nI k)), (2, .int (nI cn)), (3, .int (nI (12 * k))), (4, .int (nI (12 * k + r)))] := hl
            refine lv_iload hx hb dX8_idleRules_60 (lv_at hl 0 rfl) ?_
            refine z_goe hw.2 (z_runS Cx hw (c_X8_first E l _ (zbi rv.2.2.1)) (va_cwS 1 Cx.1.2.2.2.2 gX8_idleRules_X8_first rfl rfl rfl (by decide +kernel) ⟨Nat.le_of_ble_eq_true rfl, Nat.le_of_ble_eq_true rfl⟩)  rfl hl.1 rfl (Nat.le_of_ble_eq_true rfl) dX8_idleRules_62 ⟨Nat.le_of_ble_eq_true rfl, Nat.le_of_ble_eq_true rfl⟩) (fun H locs hw => ?_)
            rw [eF]
            refine lv_istore hx hb dX8_idleRules_65 hl (by decide) rfl (fun ls hl => ?_)
            have hl : lv_has ls 8 [(7, .int (nI B)), (6, .int (zbi rv.2.2.1)), (5, .int (zb true)), (0, .ref y), (1, .int (nI k)), (2, .int (nI cn)), (3, .int (nI (12 * k))), (4, .int (nI (12 * k + r)))] := hl
            have loop_67 : ∀ (nn : Nat) (n : Nat) (b : Bool) (H : Heap) (locs : List Loc) (ls : Array Slot), (n ≤ 2 ^ K) → (b = true → ∀ m, m < n → zleft rv.1 (nI (B + m)) (v.2.2.1.take r) rv.2.2.2 = 0) → (b = false → ¬ zidle (v.2.2.1.take r) rv = true) → 2 ^ K - n < nn → zHw E (zQ E (X ++ zMw E y ad (va_up sc 0 (nI 0)) g) C) s H locs → lv_has ls 8 [(0, .ref y), (1, .int (nI k)), (2, .int (nI cn)), (3, .int (nI (12 * k))), (4, .int (nI (12 * k + r))), (5, .int (zb b)), (6, .int (zbi rv.2.2.1)), (7, .int (nI (B + n)))] → W p l e (zR 6 0 0) s m ([.ref y, .int (nI k)] : List Value).toArray below meth c H locs 0 0 (MQ below (va_Qi (fun r (c : Nat) => zA_idleRules V (nI k) c r) (fun c tt => zQ E (X ++ zMw E y ad (va_up sc 0 (nI c)) g) C tt.heap) (eA E)) ([.ref y, .int (nI k)] : List Value).toArray s 0 0 (eA E)) (F0 m 67 ls []) := by
              intro nn
              induction nn with
              | zero => intro n b H locs ls hn hbt hbf hm; exact absurd hm (Nat.not_lt_zero _)
              | succ nn ih_67 =>
                intro n b H locs ls hn hbt hbf hm hw hl
                refine lv_iload hx hb dX8_idleRules_67 (lv_at hl 7 rfl) ?_
                refine lv_iload hx hb dX8_idleRules_69 (lv_at hl 6 rfl) ?_
                refine z_goe hw.2 (z_runS Cx hw (c_X8_first E l _ (zbi rv.2.2.1)) (va_cwS 1 Cx.1.2.2.2.2 gX8_idleRules_X8_first rfl rfl rfl (by decide +kernel) ⟨Nat.le_of_ble_eq_true rfl, Nat.le_of_ble_eq_true rfl⟩)  rfl hl.1 rfl (Nat.le_of_ble_eq_true rfl) dX8_idleRules_71 ⟨Nat.le_of_ble_eq_true rfl, Nat.le_of_ble_eq_true rfl⟩) (fun H locs hw => ?_)
                rw [eF]
                refine lv_iload hx hb dX8_idleRules_74 (lv_at hl 6 rfl) ?_
                refine z_goe hw.2 (z_runS Cx hw (c_X8_many E l _ (zbi rv.2.2.1)) (va_cwS 1 Cx.1.2.2.2.2 gX8_idleRules_X8_many rfl rfl rfl (by decide +kernel) ⟨Nat.le_of_ble_eq_true rfl, Nat.le_of_ble_eq_true rfl⟩)  rfl hl.1 rfl (Nat.le_of_ble_eq_true rfl) dX8_idleRules_76 ⟨Nat.le_of_ble_eq_true rfl, Nat.le_of_ble_eq_true rfl⟩) (fun H locs hw => ?_)
                rw [eM]
                refine lv_iadd hx hb dX8_idleRules_79 ?_
                refine lv_topi (fun x_79 ex_79 => ?_)
                rw [nI_add] at ex_79
                subst ex_79
                refine lv_icmp_ge (tgt := 105) hx hb dX8_idleRules_80 (by decide) (fun c_80 => ?_) (fun c_80 => ?_)
                · skip
                  have hnK : n = 2 ^ K := by
                    have := (nI_leI (a := B + 2 ^ K) (b := B + n) (by omega) (by omega)).mp c_80
                    omega
                  have hbb : b = zidle (v.2.2.1.take r) rv := zidle_at hus hrk eB eK hK hB hd hbt hbf (fun _ => hnK)
                  refine lv_iload_n hx hb dX8_idleRules_105 rfl (lv_at hl 2 rfl) ?_
                  refine lv_iload hx hb dX8_idleRules_106 (lv_at hl 5 rfl) ?_
                  refine lv_if_eq (tgt := 115) hx hb dX8_idleRules_108 (by decide) (fun c_108 => ?_) (fun c_108 => ?_)
                  · skip
                    have hid : (if zidle (v.2.2.1.take r) rv = true then 1 else 0) = 0 := by rw [← hbb, (zb_0 _).mp c_108]; rfl
                    refine lv_iconst (v := nI 0) hx hb dX8_idleRules_115 rfl ?_
                    refine lv_iadd hx hb dX8_idleRules_116 ?_
                    refine lv_topi (fun x_116 ex_116 => ?_)
                    rw [nI_add, ← hid] at ex_116
                    subst ex_116
                    refine lv_istore_n hx hb dX8_idleRules_117 rfl hl (by decide) rfl (fun ls hl => ?_)
                    have hl : lv_has ls 8 [(2, .int (nI (cn + (if zidle (v.2.2.1.take r) rv = true then 1 else 0)))), (0, .ref y), (1, .int (nI k)), (3, .int (nI (12 * k))), (4, .int (nI (12 * k + r))), (5, .int (zb b)), (6, .int (zbi rv.2.2.1)), (7, .int (nI (B + n)))] := hl
                    refine lv_iinc (v := nI (12 * k + (r + 1))) hx hb dX8_idleRules_118 hl (k := 4) rfl (nI_1 (12 * k + r)) (by decide) rfl (fun ls hl => ?_)
                    have hl : lv_has ls 8 [(4, .int (nI (12 * k + (r + 1)))), (2, .int (nI (cn + (if zidle (v.2.2.1.take r) rv = true then 1 else 0)))), (0, .ref y), (1, .int (nI k)), (3, .int (nI (12 * k))), (5, .int (zb b)), (6, .int (zbi rv.2.2.1)), (7, .int (nI (B + n)))] := hl
                    refine lv_goto (tgt := 35) hx hb dX8_idleRules_121 (by decide) ?_
                    exact ih_35 (r + 1) (cn + (if zidle (v.2.2.1.take r) rv = true then 1 else 0)) H _ ls (by omega) hacc2 (by omega) hw (lv_sub hl [2, 3, 1, 4, 0] rfl)
                  · skip
                    have hid : (if zidle (v.2.2.1.take r) rv = true then 1 else 0) = 1 := by rw [← hbb, (zb_1 _).mp c_108]; rfl
                    refine lv_iconst (v := nI 1) hx hb dX8_idleRules_111 rfl ?_
                    refine lv_goto (tgt := 116) hx hb dX8_idleRules_112 (by decide) ?_
                    refine lv_iadd hx hb dX8_idleRules_116 ?_
                    refine lv_topi (fun x_116 ex_116 => ?_)
                    rw [nI_add, ← hid] at ex_116
                    subst ex_116
                    refine lv_istore_n hx hb dX8_idleRules_117 rfl hl (by decide) rfl (fun ls hl => ?_)
                    have hl : lv_has ls 8 [(2, .int (nI (cn + (if zidle (v.2.2.1.take r) rv = true then 1 else 0)))), (0, .ref y), (1, .int (nI k)), (3, .int (nI (12 * k))), (4, .int (nI (12 * k + r))), (5, .int (zb b)), (6, .int (zbi rv.2.2.1)), (7, .int (nI (B + n)))] := hl
                    refine lv_iinc (v := nI (12 * k + (r + 1))) hx hb dX8_idleRules_118 hl (k := 4) rfl (nI_1 (12 * k + r)) (by decide) rfl (fun ls hl => ?_)
                    have hl : lv_has ls 8 [(4, .int (nI (12 * k + (r + 1)))), (2, .int (nI (cn + (if zidle (v.2.2.1.take r) rv = true then 1 else 0)))), (0, .ref y), (1, .int (nI k)), (3, .int (nI (12 * k))), (5, .int (zb b)), (6, .int (zbi rv.2.2.1)), (7, .int (nI (B + n)))] := hl
                    refine lv_goto (tgt := 35) hx hb dX8_idleRules_121 (by decide) ?_
                    exact ih_35 (r + 1) (cn + (if zidle (v.2.2.1.take r) rv = true then 1 else 0)) H _ ls (by omega) hacc2 (by omega) hw (lv_sub hl [2, 3, 1, 4, 0] rfl)
                · skip
                  have hnK : n < 2 ^ K := by
                    rcases Nat.lt_or_ge n (2 ^ K) with h | h
                    · exact h
                    · exact absurd (nI_le (by omega) (by omega)) c_80
                  refine lv_iload hx hb dX8_idleRules_83 (lv_at hl 5 rfl) ?_
                  refine lv_if_eq (tgt := 105) hx hb dX8_idleRules_85 (by decide) (fun c_85 => ?_) (fun c_85 => ?_)
                  · skip
                    have hb0 : b = false := (zb_0 _).mp c_85
                    have hbb : b = zidle (v.2.2.1.take r) rv := by rw [hb0]; exact (Bool.eq_false_iff.mpr (hbf hb0)).symm
                    refine lv_iload_n hx hb dX8_idleRules_105 rfl (lv_at hl 2 rfl) ?_
                    refine lv_iload hx hb dX8_idleRules_106 (lv_at hl 5 rfl) ?_
                    refine lv_if_eq (tgt := 115) hx hb dX8_idleRules_108 (by decide) (fun c_108 => ?_) (fun c_108 => ?_)
                    · skip
                      have hid : (if zidle (v.2.2.1.take r) rv = true then 1 else 0) = 0 := by rw [← hbb, (zb_0 _).mp c_108]; rfl
                      refine lv_iconst (v := nI 0) hx hb dX8_idleRules_115 rfl ?_
                      refine lv_iadd hx hb dX8_idleRules_116 ?_
                      refine lv_topi (fun x_116 ex_116 => ?_)
                      rw [nI_add, ← hid] at ex_116
                      subst ex_116
                      refine lv_istore_n hx hb dX8_idleRules_117 rfl hl (by decide) rfl (fun ls hl => ?_)
                      have hl : lv_has ls 8 [(2, .int (nI (cn + (if zidle (v.2.2.1.take r) rv = true then 1 else 0)))), (0, .ref y), (1, .int (nI k)), (3, .int (nI (12 * k))), (4, .int (nI (12 * k + r))), (5, .int (zb b)), (6, .int (zbi rv.2.2.1)), (7, .int (nI (B + n)))] := hl
                      refine lv_iinc (v := nI (12 * k + (r + 1))) hx hb dX8_idleRules_118 hl (k := 4) rfl (nI_1 (12 * k + r)) (by decide) rfl (fun ls hl => ?_)
                      have hl : lv_has ls 8 [(4, .int (nI (12 * k + (r + 1)))), (2, .int (nI (cn + (if zidle (v.2.2.1.take r) rv = true then 1 else 0)))), (0, .ref y), (1, .int (nI k)), (3, .int (nI (12 * k))), (5, .int (zb b)), (6, .int (zbi rv.2.2.1)), (7, .int (nI (B + n)))] := hl
                      refine lv_goto (tgt := 35) hx hb dX8_idleRules_121 (by decide) ?_
                      exact ih_35 (r + 1) (cn + (if zidle (v.2.2.1.take r) rv = true then 1 else 0)) H _ ls (by omega) hacc2 (by omega) hw (lv_sub hl [2, 3, 1, 4, 0] rfl)
                    · skip
                      have hid : (if zidle (v.2.2.1.take r) rv = true then 1 else 0) = 1 := by rw [← hbb, (zb_1 _).mp c_108]; rfl
                      refine lv_iconst (v := nI 1) hx hb dX8_idleRules_111 rfl ?_
                      refine lv_goto (tgt := 116) hx hb dX8_idleRules_112 (by decide) ?_
                      refine lv_iadd hx hb dX8_idleRules_116 ?_
                      refine lv_topi (fun x_116 ex_116 => ?_)
                      rw [nI_add, ← hid] at ex_116
                      subst ex_116
                      refine lv_istore_n hx hb dX8_idleRules_117 rfl hl (by decide) rfl (fun ls hl => ?_)
                      have hl : lv_has ls 8 [(2, .int (nI (cn + (if zidle (v.2.2.1.take r) rv = true then 1 else 0)))), (0, .ref y), (1, .int (nI k)), (3, .int (nI (12 * k))), (4, .int (nI (12 * k + r))), (5, .int (zb b)), (6, .int (zbi rv.2.2.1)), (7, .int (nI (B + n)))] := hl
                      refine lv_iinc (v := nI (12 * k + (r + 1))) hx hb dX8_idleRules_118 hl (k := 4) rfl (nI_1 (12 * k + r)) (by decide) rfl (fun ls hl => ?_)
                      have hl : lv_has ls 8 [(4, .int (nI (12 * k + (r + 1)))), (2, .int (nI (cn + (if zidle (v.2.2.1.take r) rv = true then 1 else 0)))), (0, .ref y), (1, .int (nI k)), (3, .int (nI (12 * k))), (5, .int (zb b)), (6, .int (zbi rv.2.2.1)), (7, .int (nI (B + n)))] := hl
                      refine lv_goto (tgt := 35) hx hb dX8_idleRules_121 (by decide) ?_
                      exact ih_35 (r + 1) (cn + (if zidle (v.2.2.1.take r) rv = true then 1 else 0)) H _ ls (by omega) hacc2 (by omega) hw (lv_sub hl [2, 3, 1, 4, 0] rfl)
                  · skip
                    have hb1 : b = true := (zb_1 _).mp c_85
                    refine lv_aload_n hx hb dX8_idleRules_88 rfl (lv_at hl 0 rfl) ?_
                    refine lv_iload_n hx hb dX8_idleRules_89 rfl (lv_at hl 3 rfl) ?_
                    refine lv_iload hx hb dX8_idleRules_90 (lv_at hl 4 rfl) ?_
                    refine lv_iload hx hb dX8_idleRules_92 (lv_at hl 7 rfl) ?_
                    refine z_goe hw.2 (z_runV Cx hw (c_m_isMet E l X C y ad (va_up sc 0 (nI 0)) g V (zMR_0 hR _) hI k hk r rv hrv2 (nI (B + n))) (cwV 3 Cx.1.2.2.2.2 gX8_idleRules_X8_isMet rfl rfl rfl (by decide +kernel) ⟨Nat.le_of_ble_eq_true rfl, Nat.le_of_ble_eq_true rfl⟩) (z_recv Cx hw (r := (RX8, TX8, 26)) zM_x rfl) rfl hl.1 rfl (Nat.le_of_ble_eq_true rfl) dX8_idleRules_94 ⟨Nat.le_of_ble_eq_true rfl, Nat.le_of_ble_eq_true rfl⟩) (fun H locs hw => ?_)
                    rw [e1]
                    have hbt2 : decide (zleft rv.1 (nI (B + n)) (v.2.2.1.take r) rv.2.2.2 = 0) = true → ∀ m, m < n + 1 → zleft rv.1 (nI (B + m)) (v.2.2.1.take r) rv.2.2.2 = 0 := fun h m hm => by
                      rcases Nat.lt_or_ge m n with c | c
                      · exact hbt hb1 m c
                      · rw [show m = n by omega]; exact of_decide_eq_true h
                    have hbf2 : decide (zleft rv.1 (nI (B + n)) (v.2.2.1.take r) rv.2.2.2 = 0) = false → ¬ zidle (v.2.2.1.take r) rv = true := fun h hi => by
                      refine of_decide_eq_false h ((zidle_iff hus hrk).mp hi (nI (B + n)) ?_)
                      rw [eB, eK, zhs_in hK hB hd, decide_eq_true_iff, nI_toInt (by omega)]
                      omega
                    refine lv_istore hx hb dX8_idleRules_97 hl (by decide) rfl (fun ls hl => ?_)
                    have hl : lv_has ls 8 [(5, .int (zb (decide (zleft rv.1 (nI (B + n)) (v.2.2.1.take r) rv.2.2.2 = 0)))), (0, .ref y), (1, .int (nI k)), (2, .int (nI cn)), (3, .int (nI (12 * k))), (4, .int (nI (12 * k + r))), (6, .int (zbi rv.2.2.1)), (7, .int (nI (B + n)))] := hl
                    refine lv_iinc (v := nI (B + (n + 1))) hx hb dX8_idleRules_99 hl (k := 7) rfl (nI_1 (B + n)) (by decide) rfl (fun ls hl => ?_)
                    have hl : lv_has ls 8 [(7, .int (nI (B + (n + 1)))), (5, .int (zb (decide (zleft rv.1 (nI (B + n)) (v.2.2.1.take r) rv.2.2.2 = 0)))), (0, .ref y), (1, .int (nI k)), (2, .int (nI cn)), (3, .int (nI (12 * k))), (4, .int (nI (12 * k + r))), (6, .int (zbi rv.2.2.1))] := hl
                    refine lv_goto (tgt := 67) hx hb dX8_idleRules_102 (by decide) ?_
                    exact ih_67 (n + 1) (decide (zleft rv.1 (nI (B + n)) (v.2.2.1.take r) rv.2.2.2 = 0)) H _ ls (by omega) hbt2 hbf2 (by omega) hw (lv_sub hl [2, 3, 4, 5, 6, 1, 7, 0] rfl)
            exact loop_67 ((2 ^ K - 0) + 1) 0 true _ _ ls (Nat.zero_le _) (fun _ m hm => absurd hm (Nat.not_lt_zero _)) (fun h => Bool.noConfusion h) (Nat.lt_succ_self _) hw (lv_sub hl [3, 4, 5, 6, 7, 2, 1, 0] rfl)
      exact loop_35 ((v.2.2.1.length - 0) + 1) 0 0 _ _ ls (Nat.zero_le _) (Nat.zero_add _) (Nat.lt_succ_self _) hw (lv_sub hl [3, 4, 2, 1, 0] rfl)
    · skip
      exact absurd c_20 (by decide)

