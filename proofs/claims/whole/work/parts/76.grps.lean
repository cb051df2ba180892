def zmgr (inw x : Int32) (b : Bool) : List zRl → Int32 → Int32
  | [], s => s
  | v :: vs, s => zmgr inw x b vs (s ||| (if b = true ∧ zmRHas v inw x = true then v.2.2.2 else 0))
abbrev zmbit (gs : Int32) (n : Nat) : Bool := decide (gs >>> (nI n &&& 31) &&& 1 = 1)
def zmgq (inw x gs : Int32) : List (List zRl) → Nat → Int32 → Int32
  | [], _, s => s
  | v :: vs, n, s => zmgq inw x gs vs (n + 1) (zmgr inw x (zmbit gs n) v s)
set_option maxRecDepth 100000 in
set_option maxHeartbeats 4000000 in
/-- byGroups -/
theorem c_X8_byGroups (E : zG) (l : Launch) (X : va_W) (C : zLs) (y : Nat) (ad : Nat → Nat) (sc : Nat → Int32) (g : Nat → Nat → Int32) (V : zCl) (hG : zMG sc g V) (hH : zMH sc g V) (i : Nat) (ho : zHo) (hv : (vH V)[i]? = some ho) (inw x : Int32) : Met l yX8_byGroups wsX8_byGroups (zR 2 0 0) (zPre E [.ref y, .int (nI i), .int inw, .int x] (zQ E (X ++ zMw E y ad sc g) C)) (zRi E (zQ E (X ++ zMw E y ad sc g) C) (zmgq inw x ho.2.2 (vG V) 0 0)) 0 0 (eA E) := by
  refine z_of (cc := cX8_byGroups) (maxL := 8) (ret := (some .int)) (by decide) rfl rfl (Nat.le_of_ble_eq_true rfl) ?_
  intro p e s m below meth c ls Cx hr hnm hw hl
  have hx := Cx.1.1
  have hb := Cx.1.2.1
  obtain ⟨hG0, hGm, hG⟩ := hG
  obtain ⟨-, hHm, hH⟩ := hH
  have hi12 : i < 12 := by
    have := (List.getElem?_eq_some_iff.mp hv).1
    omega
  obtain ⟨-, -, hgs⟩ := hH i ho hv
  have hl : lv_has ls 8 [(0, .ref y), (1, .int (nI i)), (2, .int inw), (3, .int x)] := hl
  refine lv_iconst (v := 0) hx hb dX8_byGroups_0 (by decide) ?_
  refine lv_istore hx hb dX8_byGroups_1 hl (by decide) rfl (fun ls hl => ?_)
  have hl : lv_has ls 8 [(4, .int 0), (0, .ref y), (1, .int (nI i)), (2, .int inw), (3, .int x)] := hl
  refine lv_iconst (v := nI 0) hx hb dX8_byGroups_3 rfl ?_
  refine lv_istore hx hb dX8_byGroups_4 hl (by decide) rfl (fun ls hl => ?_)
  have hl : lv_has ls 8 [(5, .int (nI 0)), (4, .int 0), (0, .ref y), (1, .int (nI i)), (2, .int inw), (3, .int x)] := hl
  have loop_6 : ∀ (nn : Nat) (a0 : Nat) (st : Int32) (H : Heap) (locs : List Loc) (ls : Array Slot), (a0 ≤ (vG V).length) → (zmgq inw x ho.2.2 ((vG V).drop a0) a0 st = zmgq inw x ho.2.2 (vG V) 0 0) → (vG V).length - a0 < nn → zHw E (zQ E (X ++ zMw E y ad sc g) C) s H locs → lv_has ls 8 [(0, .ref y), (1, .int (nI i)), (2, .int inw), (3, .int x), (4, .int st), (5, .int (nI a0))] → W p l e (zR 2 0 0) s m ([.ref y, .int (nI i), .int inw, .int x] : List Value).toArray below meth c H locs 0 0 (MQ below (zRi E (zQ E (X ++ zMw E y ad sc g) C) (zmgq inw x ho.2.2 (vG V) 0 0)) ([.ref y, .int (nI i), .int inw, .int x] : List Value).toArray s 0 0 (eA E)) (F0 m 6 ls []) := by
    intro nn
    induction nn with
    | zero => intro a0 st H locs ls ha hacc hm; exact absurd hm (Nat.not_lt_zero _)
    | succ nn ih_6 =>
      intro a0 st H locs ls ha hacc hm hw hl
      refine lv_iload hx hb dX8_byGroups_6 (lv_at hl 5 rfl) ?_
      refine lv_aload_n hx hb dX8_byGroups_8 rfl (lv_at hl 0 rfl) ?_
      refine z_get Cx hw (T := TX8) (N := 26) (ci := 11) (fun _ h => List.mem_cons_of_mem _ (List.mem_append_right _ (h))) zM_x rfl 13 (by decide) (List.mem_of_getElem? (i := 1) rfl) rfl rfl dX8_byGroups_9 ?_
      refine lv_topi (fun x_9 ex_9 => ?_)
      rw [hG0] at ex_9
      subst ex_9
      refine lv_icmp_ge (tgt := 120) hx hb dX8_byGroups_12 (by decide) (fun c_12 => ?_) (fun c_12 => ?_)
      · skip
        have hal : (vG V).length ≤ a0 := (nI_leI (by omega) (by omega)).mp c_12
        rw [List.drop_of_length_le hal, zmgq] at hacc
        refine lv_iload hx hb dX8_byGroups_120 (lv_at hl 4 rfl) ?_
        exact (z_ie Cx hr rfl (Nat.le_of_ble_eq_true rfl) (Nat.le_of_ble_eq_true rfl) hw dX8_byGroups_122 hacc)
      · skip
        have hal : a0 < (vG V).length := by
          rcases Nat.lt_or_ge a0 (vG V).length with h | h
          · exact h
          · exact absurd (nI_le (by omega) (by omega)) c_12
        have ha6 : a0 < 6 := by omega
        have hv0 := List.getElem?_eq_getElem hal
        rw [List.drop_eq_getElem_cons hal, zmgq] at hacc
        generalize (vG V)[a0] = v at hv0 hacc
        obtain ⟨hsz, hle, hru⟩ := hG a0 v hv0
        refine lv_bipush (v := nI 10) hx hb dX8_byGroups_15 rfl ?_
        refine lv_iload hx hb dX8_byGroups_17 (lv_at hl 5 rfl) ?_
        refine lv_imul hx hb dX8_byGroups_19 ?_
        refine lv_topi (fun x_19 ex_19 => ?_)
        rw [zi_mul] at ex_19
        subst ex_19
        refine lv_istore hx hb dX8_byGroups_20 hl (by decide) rfl (fun ls hl => ?_)
        have hl : lv_has ls 8 [(6, .int (nI (10 * a0))), (0, .ref y), (1, .int (nI i)), (2, .int inw), (3, .int x), (4, .int st), (5, .int (nI a0))] := hl
        have loop_22 : ∀ (nn : Nat) (j : Nat) (s2 : Int32) (H : Heap) (locs : List Loc) (ls : Array Slot), (j ≤ v.length) → (zmgr inw x (zmbit ho.2.2 a0) (v.drop j) s2 = zmgr inw x (zmbit ho.2.2 a0) v st) → v.length - j < nn → zHw E (zQ E (X ++ zMw E y ad sc g) C) s H locs → lv_has ls 8 [(0, .ref y), (1, .int (nI i)), (2, .int inw), (3, .int x), (4, .int s2), (5, .int (nI a0)), (6, .int (nI (10 * a0 + j)))] → W p l e (zR 2 0 0) s m ([.ref y, .int (nI i), .int inw, .int x] : List Value).toArray below meth c H locs 0 0 (MQ below (zRi E (zQ E (X ++ zMw E y ad sc g) C) (zmgq inw x ho.2.2 (vG V) 0 0)) ([.ref y, .int (nI i), .int inw, .int x] : List Value).toArray s 0 0 (eA E)) (F0 m 22 ls []) := by
          intro nn
          induction nn with
          | zero => intro j s2 H locs ls hj haccj hm; exact absurd hm (Nat.not_lt_zero _)
          | succ nn ih_22 =>
            intro j s2 H locs ls hj haccj hm hw hl
            refine lv_iload hx hb dX8_byGroups_22 (lv_at hl 6 rfl) ?_
            refine lv_bipush (v := nI 10) hx hb dX8_byGroups_24 rfl ?_
            refine lv_iload hx hb dX8_byGroups_26 (lv_at hl 5 rfl) ?_
            refine lv_imul hx hb dX8_byGroups_28 ?_
            refine lv_topi (fun x_28 ex_28 => ?_)
            rw [zi_mul] at ex_28
            subst ex_28
            refine lv_aload_n hx hb dX8_byGroups_29 rfl (lv_at hl 0 rfl) ?_
            refine z_get Cx hw (T := TX8) (N := 26) (ci := 11) (fun _ h => List.mem_cons_of_mem _ (List.mem_append_right _ (h))) zM_x rfl 14 (by decide) (List.mem_of_getElem? (i := 2) rfl) rfl rfl dX8_byGroups_30 ?_
            refine lv_iload hx hb dX8_byGroups_33 (lv_at hl 5 rfl) ?_
            refine zm_iald Cx hw (k := 14) (n := 6) (by decide) ha6 dX8_byGroups_35 ?_
            refine lv_iadd hx hb dX8_byGroups_36 ?_
            refine lv_topi (fun x_36 ex_36 => ?_)
            rw [hsz, nI_add] at ex_36
            subst ex_36
            refine lv_icmp_ge (tgt := 114) hx hb dX8_byGroups_37 (by decide) (fun c_37 => ?_) (fun c_37 => ?_)
            · skip
              have hjl : v.length ≤ j := by
                have := (nI_leI (by omega) (by omega)).mp c_37
                omega
              rw [List.drop_of_length_le hjl, zmgr] at haccj
              have hacc3 : zmgq inw x ho.2.2 ((vG V).drop (a0 + 1)) (a0 + 1) s2 = zmgq inw x ho.2.2 (vG V) 0 0 := by rw [← hacc, haccj]
              refine lv_iinc (v := nI (a0 + 1)) hx hb dX8_byGroups_114 hl (k := 5) rfl (nI_1 a0) (by decide) rfl (fun ls hl => ?_)
              have hl : lv_has ls 8 [(5, .int (nI (a0 + 1))), (0, .ref y), (1, .int (nI i)), (2, .int inw), (3, .int x), (4, .int s2), (6, .int (nI (10 * a0 + j)))] := hl
              refine lv_goto (tgt := 6) hx hb dX8_byGroups_117 (by decide) ?_
              exact ih_6 (a0 + 1) s2 H _ ls (by omega) hacc3 (by omega) hw (lv_sub hl [1, 2, 3, 4, 5, 0] rfl)
            · skip
              have hjl : j < v.length := by
                rcases Nat.lt_or_ge j v.length with h | h
                · exact h
                · exact absurd (nI_le (by omega) (by omega)) c_37
              have hr0 := List.getElem?_eq_getElem hjl
              rw [List.drop_eq_getElem_cons hjl] at haccj
              generalize v[j] = r at hr0 haccj
              obtain ⟨r1, r2, r3⟩ := hru j r hr0
              refine lv_aload_n hx hb dX8_byGroups_40 rfl (lv_at hl 0 rfl) ?_
              refine z_get Cx hw (T := TX8) (N := 26) (ci := 11) (fun _ h => List.mem_cons_of_mem _ (List.mem_append_right _ (h))) zM_x rfl 9 (by decide) (List.mem_of_getElem? (i := 3) rfl) rfl rfl dX8_byGroups_41 ?_
              refine lv_iload_n hx hb dX8_byGroups_44 rfl (lv_at hl 1 rfl) ?_
              refine zm_iald Cx hw (k := 9) (n := 12) (by decide) hi12 dX8_byGroups_45 ?_
              refine lv_topi (fun x_45 ex_45 => ?_)
              rw [hgs] at ex_45
              subst ex_45
              refine lv_iload hx hb dX8_byGroups_46 (lv_at hl 5 rfl) ?_
              refine lv_ishr hx hb dX8_byGroups_48 ?_
              refine lv_iconst (v := 1) hx hb dX8_byGroups_49 (by decide) ?_
              refine lv_iand hx hb dX8_byGroups_50 ?_
              refine lv_iconst (v := 1) hx hb dX8_byGroups_51 (by decide) ?_
              refine lv_icmp_ne (tgt := 84) hx hb dX8_byGroups_52 (by decide) (fun c_52 => ?_) (fun c_52 => ?_)
              · skip
                have e_i : (if zmbit ho.2.2 a0 = true ∧ zmRHas r inw x = true then r.2.2.2 else 0) = 0 := if_neg (fun h => c_52 (of_decide_eq_true h.1))
                refine lv_iconst (v := 0) hx hb dX8_byGroups_84 (by decide) ?_
                refine lv_istore hx hb dX8_byGroups_85 hl (by decide) rfl (fun ls hl => ?_)
                have hl : lv_has ls 8 [(7, _), (0, .ref y), (1, .int (nI i)), (2, .int inw), (3, .int x), (4, .int s2), (5, .int (nI a0)), (6, .int (nI (10 * a0 + j)))] := hl
                refine lv_iload hx hb dX8_byGroups_87 (lv_at hl 5 rfl) ?_
                refine lv_iload hx hb dX8_byGroups_89 (lv_at hl 0 rfl) ?_
                refine lv_if_eq (tgt := 104) hx hb dX8_byGroups_91 (by decide) (fun c_91 => ?_) (fun c_91 => ?_)
                · skip
                  refine lv_iconst (v := 0) hx hb dX8_byGroups_104 (by decide) ?_
                  refine lv_ior hx hb dX8_byGroups_105 ?_
                  refine lv_istore hx hb dX8_byGroups_106 hl (by decide) rfl (fun ls hl => ?_)
                  have hl : lv_has ls 8 [(4, _), (7, _), (0, .ref y), (1, .int (nI i)), (2, .int inw), (3, .int x), (5, .int (nI a0)), (6, .int (nI (10 * a0 + j)))] := hl
                  refine lv_iinc (v := nI (10 * a0 + (j + 1))) hx hb dX8_byGroups_108 hl (k := 7) rfl (nI_1 (10 * a0 + j)) (by decide) rfl (fun ls hl => ?_)
                  have hl : lv_has ls 8 [(6, .int (nI (10 * a0 + (j + 1)))), (4, _), (7, _), (0, .ref y), (1, .int (nI i)), (2, .int inw), (3, .int x), (5, .int (nI a0))] := hl
                  refine lv_goto (tgt := 22) hx hb dX8_byGroups_111 (by decide) ?_
                  exact ih_22 (j + 1) _ H _ ls (by omega) (by first | exact absurd rfl c_91 | exact absurd c_91 (by decide) | (rw [← haccj, zmgr, e_i])) (by omega) hw (lv_sub hl [3, 4, 5, 6, 1, 7, 0] rfl)
                · skip
                  refine lv_aload_n hx hb dX8_byGroups_94 rfl (lv_at hl 1 rfl) ?_
                  refine z_get Cx hw (T := TX8) (N := 26) (ci := 11) (fun _ h => List.mem_cons_of_mem _ (List.mem_append_right _ (h))) zM_x rfl 17 (by decide) (List.mem_of_getElem? (i := 6) rfl) rfl rfl dX8_byGroups_95 ?_
                  refine lv_iload hx hb dX8_byGroups_98 (lv_at hl 7 rfl) ?_
                  refine zm_iald Cx hw (k := 17) (n := 60) (by decide) (by omega) dX8_byGroups_100 ?_
                  refine lv_topi (fun x_100 ex_100 => ?_)
                  rw [r3] at ex_100
                  subst ex_100
                  refine lv_goto (tgt := 105) hx hb dX8_byGroups_101 (by decide) ?_
                  refine lv_ior hx hb dX8_byGroups_105 ?_
                  refine lv_istore hx hb dX8_byGroups_106 hl (by decide) rfl (fun ls hl => ?_)
                  have hl : lv_has ls 8 [(4, _), (7, _), (0, .ref y), (1, .int (nI i)), (2, .int inw), (3, .int x), (5, .int (nI a0)), (6, .int (nI (10 * a0 + j)))] := hl
                  refine lv_iinc (v := nI (10 * a0 + (j + 1))) hx hb dX8_byGroups_108 hl (k := 7) rfl (nI_1 (10 * a0 + j)) (by decide) rfl (fun ls hl => ?_)
                  have hl : lv_has ls 8 [(6, .int (nI (10 * a0 + (j + 1)))), (4, _), (7, _), (0, .ref y), (1, .int (nI i)), (2, .int inw), (3, .int x), (5, .int (nI a0))] := hl
                  refine lv_goto (tgt := 22) hx hb dX8_byGroups_111 (by decide) ?_
                  exact ih_22 (j + 1) _ H _ ls (by omega) (by first | exact absurd rfl c_91 | exact absurd c_91 (by decide) | (rw [← haccj, zmgr, e_i])) (by omega) hw (lv_sub hl [3, 4, 5, 6, 1, 7, 0] rfl)
              · skip
                refine lv_aload_n hx hb dX8_byGroups_55 rfl (lv_at hl 0 rfl) ?_
                refine z_get Cx hw (T := TX8) (N := 26) (ci := 11) (fun _ h => List.mem_cons_of_mem _ (List.mem_append_right _ (h))) zM_x rfl 15 (by decide) (List.mem_of_getElem? (i := 4) rfl) rfl rfl dX8_byGroups_56 ?_
                refine lv_iload hx hb dX8_byGroups_59 (lv_at hl 6 rfl) ?_
                refine zm_zald Cx hw (k := 15) (n := 60) (by decide) (by omega) dX8_byGroups_61 ?_
                refine lv_topi (fun x_61 ex_61 => ?_)
                rw [r1] at ex_61
                subst ex_61
                refine lv_iload_n hx hb dX8_byGroups_62 rfl (lv_at hl 2 rfl) ?_
                refine lv_icmp_ne (tgt := 84) hx hb dX8_byGroups_63 (by decide) (fun c_63 => ?_) (fun c_63 => ?_)
                · skip
                  have e_i : (if zmbit ho.2.2 a0 = true ∧ zmRHas r inw x = true then r.2.2.2 else 0) = 0 := if_neg (fun h => by
                    have h2 := h.2
                    unfold zmRHas at h2
                    rw [decide_eq_false c_63] at h2
                    cases h2)
                  refine lv_iconst (v := 0) hx hb dX8_byGroups_84 (by decide) ?_
                  refine lv_istore hx hb dX8_byGroups_85 hl (by decide) rfl (fun ls hl => ?_)
                  have hl : lv_has ls 8 [(7, _), (0, .ref y), (1, .int (nI i)), (2, .int inw), (3, .int x), (4, .int s2), (5, .int (nI a0)), (6, .int (nI (10 * a0 + j)))] := hl
                  refine lv_iload hx hb dX8_byGroups_87 (lv_at hl 5 rfl) ?_
                  refine lv_iload hx hb dX8_byGroups_89 (lv_at hl 0 rfl) ?_
                  refine lv_if_eq (tgt := 104) hx hb dX8_byGroups_91 (by decide) (fun c_91 => ?_) (fun c_91 => ?_)
                  · skip
                    refine lv_iconst (v := 0) hx hb dX8_byGroups_104 (by decide) ?_
                    refine lv_ior hx hb dX8_byGroups_105 ?_
                    refine lv_istore hx hb dX8_byGroups_106 hl (by decide) rfl (fun ls hl => ?_)
                    have hl : lv_has ls 8 [(4, _), (7, _), (0, .ref y), (1, .int (nI i)), (2, .int inw), (3, .int x), (5, .int (nI a0)), (6, .int (nI (10 * a0 + j)))] := hl
                    refine lv_iinc (v := nI (10 * a0 + (j + 1))) hx hb dX8_byGroups_108 hl (k := 7) rfl (nI_1 (10 * a0 + j)) (by decide) rfl (fun ls hl => ?_)
                    have hl : lv_has ls 8 [(6, .int (nI (10 * a0 + (j + 1)))), (4, _), (7, _), (0, .ref y), (1, .int (nI i)), (2, .int inw), (3, .int x), (5, .int (nI a0))] := hl
                    refine lv_goto (tgt := 22) hx hb dX8_byGroups_111 (by decide) ?_
                    exact ih_22 (j + 1) _ H _ ls (by omega) (by first | exact absurd rfl c_91 | exact absurd c_91 (by decide) | (rw [← haccj, zmgr, e_i])) (by omega) hw (lv_sub hl [3, 4, 5, 6, 1, 7, 0] rfl)
                  · skip
                    refine lv_aload_n hx hb dX8_byGroups_94 rfl (lv_at hl 1 rfl) ?_
                    refine z_get Cx hw (T := TX8) (N := 26) (ci := 11) (fun _ h => List.mem_cons_of_mem _ (List.mem_append_right _ (h))) zM_x rfl 17 (by decide) (List.mem_of_getElem? (i := 6) rfl) rfl rfl dX8_byGroups_95 ?_
                    refine lv_iload hx hb dX8_byGroups_98 (lv_at hl 7 rfl) ?_
                    refine zm_iald Cx hw (k := 17) (n := 60) (by decide) (by omega) dX8_byGroups_100 ?_
                    refine lv_topi (fun x_100 ex_100 => ?_)
                    rw [r3] at ex_100
                    subst ex_100
                    refine lv_goto (tgt := 105) hx hb dX8_byGroups_101 (by decide) ?_
                    refine lv_ior hx hb dX8_byGroups_105 ?_
                    refine lv_istore hx hb dX8_byGroups_106 hl (by decide) rfl (fun ls hl => ?_)
                    have hl : lv_has ls 8 [(4, _), (7, _), (0, .ref y), (1, .int (nI i)), (2, .int inw), (3, .int x), (5, .int (nI a0)), (6, .int (nI (10 * a0 + j)))] := hl
                    refine lv_iinc (v := nI (10 * a0 + (j + 1))) hx hb dX8_byGroups_108 hl (k := 7) rfl (nI_1 (10 * a0 + j)) (by decide) rfl (fun ls hl => ?_)
                    have hl : lv_has ls 8 [(6, .int (nI (10 * a0 + (j + 1)))), (4, _), (7, _), (0, .ref y), (1, .int (nI i)), (2, .int inw), (3, .int x), (5, .int (nI a0))] := hl
                    refine lv_goto (tgt := 22) hx hb dX8_byGroups_111 (by decide) ?_
                    exact ih_22 (j + 1) _ H _ ls (by omega) (by first | exact absurd rfl c_91 | exact absurd c_91 (by decide) | (rw [← haccj, zmgr, e_i])) (by omega) hw (lv_sub hl [3, 4, 5, 6, 1, 7, 0] rfl)
                · skip
                  refine lv_aload_n hx hb dX8_byGroups_66 rfl (lv_at hl 0 rfl) ?_
                  refine z_get Cx hw (T := TX8) (N := 26) (ci := 11) (fun _ h => List.mem_cons_of_mem _ (List.mem_append_right _ (h))) zM_x rfl 16 (by decide) (List.mem_of_getElem? (i := 5) rfl) rfl rfl dX8_byGroups_67 ?_
                  refine lv_iload hx hb dX8_byGroups_70 (lv_at hl 6 rfl) ?_
                  refine zm_iald Cx hw (k := 16) (n := 60) (by decide) (by omega) dX8_byGroups_72 ?_
                  refine lv_topi (fun x_72 ex_72 => ?_)
                  rw [r2] at ex_72
                  subst ex_72
                  refine lv_iload_n hx hb dX8_byGroups_73 rfl (lv_at hl 3 rfl) ?_
                  refine z_goe hw.2 (z_runS Cx hw (c_X8_has E l _ (zbi r.2.2.1) x) (va_cwS 2 Cx.1.2.2.2.2 gX8_byGroups_X8_has rfl rfl rfl (by decide +kernel) ⟨Nat.le_of_ble_eq_true rfl, Nat.le_of_ble_eq_true rfl⟩)  rfl hl.1 rfl (Nat.le_of_ble_eq_true rfl) dX8_byGroups_74 ⟨Nat.le_of_ble_eq_true rfl, Nat.le_of_ble_eq_true rfl⟩) (fun H locs hw => ?_)
                  refine lv_if_eq (tgt := 84) hx hb dX8_byGroups_77 (by decide) (fun c_77 => ?_) (fun c_77 => ?_)
                  · skip
                    have e_i : (if zmbit ho.2.2 a0 = true ∧ zmRHas r inw x = true then r.2.2.2 else 0) = 0 := if_neg (fun h => by
                      have h2 := h.2
                      unfold zmRHas at h2
                      rw [(zb_0 _).mp c_77, Bool.and_false] at h2
                      cases h2)
                    refine lv_iconst (v := 0) hx hb dX8_byGroups_84 (by decide) ?_
                    refine lv_istore hx hb dX8_byGroups_85 hl (by decide) rfl (fun ls hl => ?_)
                    have hl : lv_has ls 8 [(7, _), (0, .ref y), (1, .int (nI i)), (2, .int inw), (3, .int x), (4, .int s2), (5, .int (nI a0)), (6, .int (nI (10 * a0 + j)))] := hl
                    refine lv_iload hx hb dX8_byGroups_87 (lv_at hl 5 rfl) ?_
                    refine lv_iload hx hb dX8_byGroups_89 (lv_at hl 0 rfl) ?_
                    refine lv_if_eq (tgt := 104) hx hb dX8_byGroups_91 (by decide) (fun c_91 => ?_) (fun c_91 => ?_)
                    · skip
                      refine lv_iconst (v := 0) hx hb dX8_byGroups_104 (by decide) ?_
                      refine lv_ior hx hb dX8_byGroups_105 ?_
                      refine lv_istore hx hb dX8_byGroups_106 hl (by decide) rfl (fun ls hl => ?_)
                      have hl : lv_has ls 8 [(4, _), (7, _), (0, .ref y), (1, .int (nI i)), (2, .int inw), (3, .int x), (5, .int (nI a0)), (6, .int (nI (10 * a0 + j)))] := hl
                      refine lv_iinc (v := nI (10 * a0 + (j + 1))) hx hb dX8_byGroups_108 hl (k := 7) rfl (nI_1 (10 * a0 + j)) (by decide) rfl (fun ls hl => ?_)
                      have hl : lv_has ls 8 [(6, .int (nI (10 * a0 + (j + 1)))), (4, _), (7, _), (0, .ref y), (1, .int (nI i)), (2, .int inw), (3, .int x), (5, .int (nI a0))] := hl
                      refine lv_goto (tgt := 22) hx hb dX8_byGroups_111 (by decide) ?_
                      exact ih_22 (j + 1) _ H _ ls (by omega) (by first | exact absurd rfl c_91 | exact absurd c_91 (by decide) | (rw [← haccj, zmgr, e_i])) (by omega) hw (lv_sub hl [3, 4, 5, 6, 1, 7, 0] rfl)
                    · skip
                      refine lv_aload_n hx hb dX8_byGroups_94 rfl (lv_at hl 1 rfl) ?_
                      refine z_get Cx hw (T := TX8) (N := 26) (ci := 11) (fun _ h => List.mem_cons_of_mem _ (List.mem_append_right _ (h))) zM_x rfl 17 (by decide) (List.mem_of_getElem? (i := 6) rfl) rfl rfl dX8_byGroups_95 ?_
                      refine lv_iload hx hb dX8_byGroups_98 (lv_at hl 7 rfl) ?_
                      refine zm_iald Cx hw (k := 17) (n := 60) (by decide) (by omega) dX8_byGroups_100 ?_
                      refine lv_topi (fun x_100 ex_100 => ?_)
                      rw [r3] at ex_100
                      subst ex_100
                      refine lv_goto (tgt := 105) hx hb dX8_byGroups_101 (by decide) ?_
                      refine lv_ior hx hb dX8_byGroups_105 ?_
                      refine lv_istore hx hb dX8_byGroups_106 hl (by decide) rfl (fun ls hl => ?_)
                      have hl : lv_has ls 8 [(4, _), (7, _), (0, .ref y), (1, .int (nI i)), (2, .int inw), (3, .int x), (5, .int (nI a0)), (6, .int (nI (10 * a0 + j)))] := hl
                      refine lv_iinc (v := nI (10 * a0 + (j + 1))) hx hb dX8_byGroups_108 hl (k := 7) rfl (nI_1 (10 * a0 + j)) (by decide) rfl (fun ls hl => ?_)
                      have hl : lv_has ls 8 [(6, .int (nI (10 * a0 + (j + 1)))), (4, _), (7, _), (0, .ref y), (1, .int (nI i)), (2, .int inw), (3, .int x), (5, .int (nI a0))] := hl
                      refine lv_goto (tgt := 22) hx hb dX8_byGroups_111 (by decide) ?_
                      exact ih_22 (j + 1) _ H _ ls (by omega) (by first | exact absurd rfl c_91 | exact absurd c_91 (by decide) | (rw [← haccj, zmgr, e_i])) (by omega) hw (lv_sub hl [3, 4, 5, 6, 1, 7, 0] rfl)
                  · skip
                    have e_i : (if zmbit ho.2.2 a0 = true ∧ zmRHas r inw x = true then r.2.2.2 else 0) = r.2.2.2 := if_pos ⟨decide_eq_true c_52, by unfold zmRHas; rw [(zb_1 _).mp c_77, decide_eq_true c_63]; rfl⟩
                    refine lv_iconst (v := 1) hx hb dX8_byGroups_80 (by decide) ?_
                    refine lv_goto (tgt := 85) hx hb dX8_byGroups_81 (by decide) ?_
                    refine lv_istore hx hb dX8_byGroups_85 hl (by decide) rfl (fun ls hl => ?_)
                    have hl : lv_has ls 8 [(7, _), (0, .ref y), (1, .int (nI i)), (2, .int inw), (3, .int x), (4, .int s2), (5, .int (nI a0)), (6, .int (nI (10 * a0 + j)))] := hl
                    refine lv_iload hx hb dX8_byGroups_87 (lv_at hl 5 rfl) ?_
                    refine lv_iload hx hb dX8_byGroups_89 (lv_at hl 0 rfl) ?_
                    refine lv_if_eq (tgt := 104) hx hb dX8_byGroups_91 (by decide) (fun c_91 => ?_) (fun c_91 => ?_)
                    · skip
                      refine lv_iconst (v := 0) hx hb dX8_byGroups_104 (by decide) ?_
                      refine lv_ior hx hb dX8_byGroups_105 ?_
                      refine lv_istore hx hb dX8_byGroups_106 hl (by decide) rfl (fun ls hl => ?_)
                      have hl : lv_has ls 8 [(4, _), (7, _), (0, .ref y), (1, .int (nI i)), (2, .int inw), (3, .int x), (5, .int (nI a0)), (6, .int (nI (10 * a0 + j)))] := hl
                      refine lv_iinc (v := nI (10 * a0 + (j + 1))) hx hb dX8_byGroups_108 hl (k := 7) rfl (nI_1 (10 * a0 + j)) (by decide) rfl (fun ls hl => ?_)
                      have hl : lv_has ls 8 [(6, .int (nI (10 * a0 + (j + 1)))), (4, _), (7, _), (0, .ref y), (1, .int (nI i)), (2, .int inw), (3, .int x), (5, .int (nI a0))] := hl
                      refine lv_goto (tgt := 22) hx hb dX8_byGroups_111 (by decide) ?_
                      exact ih_22 (j + 1) _ H _ ls (by omega) (by first | exact absurd rfl c_91 | exact absurd c_91 (by decide) | (rw [← haccj, zmgr, e_i])) (by omega) hw (lv_sub hl [3, 4, 5, 6, 1, 7, 0] rfl)
                    · skip
                      refine lv_aload_n hx hb dX8_byGroups_94 rfl (lv_at hl 1 rfl) ?_
                      refine z_get Cx hw (T := TX8) (N := 26) (ci := 11) (fun _ h => List.mem_cons_of_mem _ (List.mem_append_right _ (h))) zM_x rfl 17 (by decide) (List.mem_of_getElem? (i := 6) rfl) rfl rfl dX8_byGroups_95 ?_
                      refine lv_iload hx hb dX8_byGroups_98 (lv_at hl 7 rfl) ?_
                      refine zm_iald Cx hw (k := 17) (n := 60) (by decide) (by omega) dX8_byGroups_100 ?_
                      refine lv_topi (fun x_100 ex_100 => ?_)
                      rw [r3] at ex_100
                      subst ex_100
                      refine lv_goto (tgt := 105) hx hb dX8_byGroups_101 (by decide) ?_
                      refine lv_ior hx hb dX8_byGroups_105 ?_
                      refine lv_istore hx hb dX8_byGroups_106 hl (by decide) rfl (fun ls hl => ?_)
                      have hl : lv_has ls 8 [(4, _), (7, _), (0, .ref y), (1, .int (nI i)), (2, .int inw), (3, .int x), (5, .int (nI a0)), (6, .int (nI (10 * a0 + j)))] := hl
                      refine lv_iinc (v := nI (10 * a0 + (j + 1))) hx hb dX8_byGroups_108 hl (k := 7) rfl (nI_1 (10 * a0 + j)) (by decide) rfl (fun ls hl => ?_)
                      have hl : lv_has ls 8 [(6, .int (nI (10 * a0 + (j + 1)))), (4, _), (7, _), (0, .ref y), (1, .int (nI i)), (2, .int inw), (3, .int x), (5, .int (nI a0))] := hl
                      refine lv_goto (tgt := 22) hx hb dX8_byGroups_111 (by decide) ?_
                      exact ih_22 (j + 1) _ H _ ls (by omega) (by first | exact absurd rfl c_91 | exact absurd c_91 (by decide) | (rw [← haccj, zmgr, e_i])) (by omega) hw (lv_sub hl [3, 4, 5, 6, 1, 7, 0] rfl)
        exact loop_22 ((v.length - 0) + 1) 0 st _ _ ls (Nat.zero_le _) rfl (Nat.lt_succ_self _) hw (lv_sub hl [1, 2, 3, 4, 5, 6, 0] rfl)
  exact loop_6 (((vG V).length - 0) + 1) 0 0 _ _ ls (Nat.zero_le _) rfl (Nat.lt_succ_self _) hw (lv_sub hl [2, 3, 4, 5, 1, 0] rfl)

