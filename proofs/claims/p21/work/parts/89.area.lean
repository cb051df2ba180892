/-! the law's look at all connections -/
def zlc (V : zCl) (q t i : Nat) : Nat := zct (fun k => zpw V (zbit (nI q)) k t) i
def zlt (V : zCl) (q t : Nat) : Nat := zsm (fun j => zlc V q j (vH V).length) t
theorem zlc_s (V : zCl) (q t i : Nat) : zlc V q t (i + 1) = zlc V q t i + (if zpw V (zbit (nI q)) i t = true then 1 else 0) := rfl
theorem zlt_s (V : zCl) (q t : Nat) : zlt V q (t + 1) = zlt V q t + zlc V q t (vH V).length := rfl
theorem zlt_all (V : zCl) (q : Nat) : zpairsO V (zbit (nI q)) (vH V).length (vH V).length 0 0 = zlt V q (vH V).length := zpairs_swap V (zbit (nI q)) (vH V).length
theorem zpw_e {V : zCl} {q i t : Nat} (hq : q < 16) (hne : ¬ i = t) : zpw V (zbit (nI q)) i t = zWb8 V i t q := by
  have h := zbit_and (zworkV V i t) q (by omega)
  unfold zpw
  cases hb : zWb8 V i t q with
  | false => exact decide_eq_false (fun h9 => h9.2 (h.mpr ((zW_e hq).trans hb)))
  | true => exact decide_eq_true ⟨hne, fun h9 => by rw [zW_e hq, hb] at h; cases h.mp h9⟩
theorem zpw_self (V : zCl) (m : Int32) (t : Nat) : zpw V m t t = false := decide_eq_false (fun h => h.1 rfl)
theorem zsv_1 {V : zCl} (hL : zLv V) {s : Nat} (hs : s < 6) : (zsv V s).1 = s / 2 := by
  obtain ⟨v, -, e, -⟩ := zL_net hL hs
  rw [e]
theorem zwS (V : zCl) (i t q : Nat) : zSb8 V i t q - zSb8 V i t q / nI 2 * nI 2 = 0 ∧ zSb8 V i t q < 512 ∧ (zSb8 V i t q = 0 ↔ zWb8 V i t q = true) := zK_1 _ _ _ _ _ _ _ _
theorem zwF (V : zCl) (i t q : Nat) : (zWb8 V i t q = true → zFb8 V i t q = 0) ∧ (zWb8 V i t q = false → ¬ zFb8 V i t q < 1 ∧ zSb8 V i t q >>> (zFb8 V i t q &&& 31) &&& 1 = 1 ∧ zSb8 V i t q &&& ((1 : Int32) <<< (zFb8 V i t q &&& 31) - 1) = 0) := zK_2 _ _ _ _ _ _ _ _
set_option maxRecDepth 100000 in
set_option maxHeartbeats 4000000 in
theorem c_L_areConnections (E : zG) (l : Launch) (hl0 : l.stackTraces = false) (x o : Nat) (f : Nat → Int32) (Y : va_W) (C : zLs) (V : zCl) (hrc : zRC Y C x V) (hL : zLw V f) (q : Nat) (hq : q < 16) : Met l yL_areConnections wsL_areConnections (zR 9 5300 53000) (zPre E [.ref x, .ref o, .int (nI q)] (zQ E ([(o, zci E f)] ++ Y) C)) (zqL E x o) 5300 53000 (eA E) := by
  refine z_of (cc := cL_areConnections) (maxL := 12) (ret := (some .boolean)) (by decide) rfl rfl (Nat.le_of_ble_eq_true rfl) ?_
  intro p e s m below meth c ls Cx hr hnm hw hl
  have hx := Cx.1.1
  have hb := Cx.1.2.1
  have hL2 := hL
  obtain ⟨⟨hI, hN, hS6, hS, hH8, hG6, hG10⟩, g0, g1, g2, g3, g4, g5⟩ := hL2
  obtain ⟨xf, hx0⟩ := hrc.x
  have hl : lv_has ls 12 [(0, .ref x), (1, .ref o), (2, .int (nI q))] := hl
  refine lv_iconst (v := nI 0) hx hb dL_areConnections_0 rfl ?_
  refine lv_istore_n hx hb dL_areConnections_1 rfl hl (by decide) rfl (fun ls hl => ?_)
  have hl : lv_has ls 12 [(3, .int (nI 0)), (0, .ref x), (1, .ref o), (2, .int (nI q))] := hl
  refine lv_iconst (v := nI 1) hx hb dL_areConnections_2 rfl ?_
  refine lv_istore hx hb dL_areConnections_3 hl (by decide) rfl (fun ls hl => ?_)
  have hl : lv_has ls 12 [(4, .int (nI 1)), (3, .int (nI 0)), (0, .ref x), (1, .ref o), (2, .int (nI q))] := hl
  refine lv_iconst (v := nI 0) hx hb dL_areConnections_5 rfl ?_
  refine lv_istore hx hb dL_areConnections_6 hl (by decide) rfl (fun ls hl => ?_)
  have hl : lv_has ls 12 [(5, .int (nI 0)), (4, .int (nI 1)), (3, .int (nI 0)), (0, .ref x), (1, .ref o), (2, .int (nI q))] := hl
  have loop_8 : ∀ (nn : Nat) (t cn : Nat) (H : Heap) (locs : List Loc) (ls : Array Slot), (t ≤ (vH V).length) → (cn = zlt V q t) → (vH V).length - t < nn → zHA E ([(o, zci E f)] ++ Y) C s H locs → lv_has ls 12 [(0, .ref x), (1, .ref o), (2, .int (nI q)), (3, .int (nI cn)), (4, .int (nI 1)), (5, .int (nI t))] → W p l e (zR 9 5300 53000) s m ([.ref x, .ref o, .int (nI q)] : List Value).toArray below meth c H locs (660 * t) (6600 * t) (MQ below (zqL E x o) ([.ref x, .ref o, .int (nI q)] : List Value).toArray s 5300 53000 (eA E)) (F0 m 8 ls []) := by
    intro nn
    induction nn with
    | zero => intro t cn H locs ls ht hc hm; exact absurd hm (Nat.not_lt_zero _)
    | succ nn ih_8 =>
      intro t cn H locs ls ht hc hm hw hl
      refine lv_iload hx hb dL_areConnections_8 (lv_at hl 5 rfl) ?_
      refine lv_aload_n hx hb dL_areConnections_10 rfl (lv_at hl 1 rfl) ?_
      refine lv_iconst (v := nI 0) hx hb dL_areConnections_11 rfl ?_
      refine zc_iald Cx hw (by omega) (v := nI ((vH V).length)) g0 dL_areConnections_12 ?_
      refine lv_icmp_ge (tgt := 348) hx hb dL_areConnections_13 (by decide) (fun c_13 => ?_) (fun c_13 => ?_)
      · skip
        have n_13 : ((vH V).length) ≤ t := (nI_leI (by omega) (by omega)).mp c_13
        have htn : t = (vH V).length := by omega
        refine lv_iload hx hb dL_areConnections_348 (lv_at hl 4 rfl) ?_
        refine lv_if_eq (tgt := 366) hx hb dL_areConnections_350 (by decide) (fun c_350 => ?_) (fun c_350 => ?_)
        · skip
          have n_350 : 1 = 0 := (nI_eq (b := 0) (by omega) (by omega)).mp c_350
          omega
        · skip
          have n_350 : ¬ 1 = 0 := fun h => c_350 ((nI_eq (b := 0) (by omega) (by omega)).mpr h)
          refine lv_aload_n hx hb dL_areConnections_353 rfl (lv_at hl 0 rfl) ?_
          refine lv_iload_n hx hb dL_areConnections_354 rfl (lv_at hl 2 rfl) ?_
          have hpl := zpairs_lt V (zbit (nI q)) (N := (vH V).length) (by omega)
          have hall := zlt_all V q
          rw [htn] at hc
          refine z_goe hw.2 (z_runV Cx hw (c_q_pairs E l _ C x V hl0 (hrc.grow (fun q hq => List.mem_append_right _ hq)) q hq) (cwV 1 Cx.1.2.2.2.2 gL_areConnections_X7_pairs rfl rfl rfl (by decide +kernel) ⟨(Nat.le_of_ble_eq_true rfl), (Nat.le_of_ble_eq_true rfl)⟩) (z_recv Cx hw (r := (RX7, TX7, 5)) (List.mem_append_right _ hx0) rfl) rfl hl.1 rfl (Nat.le_of_ble_eq_true rfl) dL_areConnections_355 ⟨(show _ ≤ 5300 by omega), (show _ ≤ 53000 by omega)⟩) (fun H locs hw => ?_)
          refine lv_iload_n hx hb dL_areConnections_358 rfl (lv_at hl 3 rfl) ?_
          refine lv_icmp_ne (tgt := 366) hx hb dL_areConnections_359 (by decide) (fun c_359 => ?_) (fun c_359 => ?_)
          · skip
            have n_359 : ¬ (zpairsO V (zbit (nI q)) (vH V).length (vH V).length 0 0) = cn := fun h => c_359 ((nI_eq (by omega) (by omega)).mpr h)
            omega
          · skip
            have n_359 : (zpairsO V (zbit (nI q)) (vH V).length (vH V).length 0 0) = cn := (nI_eq (by omega) (by omega)).mp c_359
            refine lv_iconst (v := nI 1) hx hb dL_areConnections_362 rfl ?_
            refine lv_goto (tgt := 367) hx hb dL_areConnections_363 (by decide) ?_
            exact z_iret (wf := fun (u : zUw) => zQ E ([(o, zci E u.2.1)] ++ u.1.1) u.1.2) Cx hr rfl (show _ ≤ 5300 by omega) (show _ ≤ 53000 by omega) ((Y, C), f, V) hw ⟨rfl, hrc, hL⟩ dL_areConnections_367
      · skip
        have n_13 : ¬ ((vH V).length) ≤ t := fun h => c_13 ((nI_leI (by omega) (by omega)).mpr h)
        refine lv_iload hx hb dL_areConnections_16 (lv_at hl 4 rfl) ?_
        refine lv_if_eq (tgt := 348) hx hb dL_areConnections_18 (by decide) (fun c_18 => ?_) (fun c_18 => ?_)
        · skip
          have n_18 : 1 = 0 := (nI_eq (b := 0) (by omega) (by omega)).mp c_18
          omega
        · skip
          have n_18 : ¬ 1 = 0 := fun h => c_18 ((nI_eq (b := 0) (by omega) (by omega)).mpr h)
          refine lv_iconst (v := nI 0) hx hb dL_areConnections_21 rfl ?_
          refine lv_istore hx hb dL_areConnections_22 hl (by decide) rfl (fun ls hl => ?_)
          have hl : lv_has ls 12 [(6, .int 0), (0, .ref x), (1, .ref o), (2, .int (nI q)), (3, .int (nI cn)), (4, .int (nI 1)), (5, .int (nI t))] := hl
          refine lv_iconst (v := nI 0) hx hb dL_areConnections_24 rfl ?_
          refine lv_istore hx hb dL_areConnections_25 hl (by decide) rfl (fun ls hl => ?_)
          have hl : lv_has ls 12 [(7, .int (nI 0)), (6, .int 0), (0, .ref x), (1, .ref o), (2, .int (nI q)), (3, .int (nI cn)), (4, .int (nI 1)), (5, .int (nI t))] := hl
          have loop_27 : ∀ (nn : Nat) (i d : Nat) (rc : Int32) (H : Heap) (locs : List Loc) (ls : Array Slot), (i ≤ (vH V).length) → (d = cn + zlc V q t i) → (rc = zRp V t i) → (vH V).length - i < nn → zHA E ([(o, zci E f)] ++ Y) C s H locs → lv_has ls 12 [(0, .ref x), (1, .ref o), (2, .int (nI q)), (3, .int (nI d)), (4, .int (nI 1)), (5, .int (nI t)), (6, .int rc), (7, .int (nI i))] → W p l e (zR 9 5300 53000) s m ([.ref x, .ref o, .int (nI q)] : List Value).toArray below meth c H locs (660 * t + 80 * i) (6600 * t + 800 * i) (MQ below (zqL E x o) ([.ref x, .ref o, .int (nI q)] : List Value).toArray s 5300 53000 (eA E)) (F0 m 27 ls []) := by
            intro nn
            induction nn with
            | zero => intro i d rc H locs ls hi hd hrc2 hm; exact absurd hm (Nat.not_lt_zero _)
            | succ nn ih_27 =>
              intro i d rc H locs ls hi hd hrc2 hm hw hl
              refine lv_iload hx hb dL_areConnections_27 (lv_at hl 7 rfl) ?_
              refine lv_aload_n hx hb dL_areConnections_29 rfl (lv_at hl 1 rfl) ?_
              refine lv_iconst (v := nI 0) hx hb dL_areConnections_30 rfl ?_
              refine zc_iald Cx hw (by omega) (v := nI ((vH V).length)) g0 dL_areConnections_31 ?_
              refine lv_icmp_ge (tgt := 319) hx hb dL_areConnections_32 (by decide) (fun c_32 => ?_) (fun c_32 => ?_)
              · skip
                have n_32 : ((vH V).length) ≤ i := (nI_leI (by omega) (by omega)).mp c_32
                have hin : i = (vH V).length := by omega
                refine lv_iload hx hb dL_areConnections_319 (lv_at hl 4 rfl) ?_
                refine lv_if_eq (tgt := 339) hx hb dL_areConnections_321 (by decide) (fun c_321 => ?_) (fun c_321 => ?_)
                · skip
                  have n_321 : 1 = 0 := (nI_eq (b := 0) (by omega) (by omega)).mp c_321
                  omega
                · skip
                  have n_321 : ¬ 1 = 0 := fun h => c_321 ((nI_eq (b := 0) (by omega) (by omega)).mpr h)
                  refine lv_aload_n hx hb dL_areConnections_324 rfl (lv_at hl 0 rfl) ?_
                  refine lv_iload hx hb dL_areConnections_325 (lv_at hl 5 rfl) ?_
                  refine z_goe hw.2 (z_runV Cx hw (c_q_reachedFrom E l _ C x V hl0 (hrc.grow (fun q hq => List.mem_append_right _ hq)) t (by omega) (by omega)) (cwV 1 Cx.1.2.2.2.2 gL_areConnections_X7_reachedFrom rfl rfl rfl (by decide +kernel) ⟨(Nat.le_of_ble_eq_true rfl), (Nat.le_of_ble_eq_true rfl)⟩) (z_recv Cx hw (r := (RX7, TX7, 5)) (List.mem_append_right _ hx0) rfl) rfl hl.1 rfl (Nat.le_of_ble_eq_true rfl) dL_areConnections_327 ⟨(show _ ≤ 5300 by omega), (show _ ≤ 53000 by omega)⟩) (fun H locs hw => ?_)
                  refine lv_iload hx hb dL_areConnections_330 (lv_at hl 6 rfl) ?_
                  refine lv_icmp_ne (tgt := 339) hx hb dL_areConnections_332 (by decide) (fun c_332 => ?_) (fun c_332 => ?_)
                  · skip
                    exact absurd (by rw [zreach_0, hrc2, hin]) c_332
                  · skip
                    refine lv_iconst (v := nI 1) hx hb dL_areConnections_335 rfl ?_
                    refine lv_goto (tgt := 340) hx hb dL_areConnections_336 (by decide) ?_
                    refine lv_istore hx hb dL_areConnections_340 hl (by decide) rfl (fun ls hl => ?_)
                    have hl : lv_has ls 12 [(4, .int (nI 1)), (0, .ref x), (1, .ref o), (2, .int (nI q)), (3, .int (nI d)), (5, .int (nI t)), (6, .int rc), (7, .int (nI i))] := hl
                    refine lv_iinc (v := nI (t + 1)) hx hb dL_areConnections_342 hl (k := 5) rfl (nI_add _ _) (by decide) rfl (fun ls hl => ?_)
                    have hl : lv_has ls 12 [(5, .int (nI (t + 1))), (4, .int (nI 1)), (0, .ref x), (1, .ref o), (2, .int (nI q)), (3, .int (nI d)), (6, .int rc), (7, .int (nI i))] := hl
                    refine lv_goto (tgt := 8) hx hb dL_areConnections_345 (by decide) ?_
                    refine W.widen (show _ ≤ 660 * (t + 1) by omega) (show _ ≤ 6600 * (t + 1) by omega) ?_
                    exact ih_8 (t + 1) d _ _ ls (by omega) (by rw [zlt_s, hd, hc, hin]) (by omega) hw (lv_sub hl [2, 3, 4, 5, 1, 0] rfl)
              · skip
                have n_32 : ¬ ((vH V).length) ≤ i := fun h => c_32 ((nI_leI (by omega) (by omega)).mpr h)
                refine lv_iload hx hb dL_areConnections_35 (lv_at hl 4 rfl) ?_
                refine lv_if_eq (tgt := 319) hx hb dL_areConnections_37 (by decide) (fun c_37 => ?_) (fun c_37 => ?_)
                · skip
                  have n_37 : 1 = 0 := (nI_eq (b := 0) (by omega) (by omega)).mp c_37
                  omega
                · skip
                  have n_37 : ¬ 1 = 0 := fun h => c_37 ((nI_eq (b := 0) (by omega) (by omega)).mpr h)
                  refine lv_iload hx hb dL_areConnections_40 (lv_at hl 7 rfl) ?_
                  refine lv_iload hx hb dL_areConnections_42 (lv_at hl 5 rfl) ?_
                  refine lv_icmp_eq (tgt := 313) hx hb dL_areConnections_44 (by decide) (fun c_44 => ?_) (fun c_44 => ?_)
                  · skip
                    have n_44 : i = t := (nI_eq (by omega) (by omega)).mp c_44
                    refine lv_iinc (v := nI (i + 1)) hx hb dL_areConnections_313 hl (k := 7) rfl (nI_add _ _) (by decide) rfl (fun ls hl => ?_)
                    have hl : lv_has ls 12 [(7, .int (nI (i + 1))), (0, .ref x), (1, .ref o), (2, .int (nI q)), (3, .int (nI d)), (4, .int (nI 1)), (5, .int (nI t)), (6, .int rc)] := hl
                    refine lv_goto (tgt := 27) hx hb dL_areConnections_316 (by decide) ?_
                    refine W.widen (show _ ≤ 660 * t + 80 * (i + 1) by omega) (show _ ≤ 6600 * t + 800 * (i + 1) by omega) ?_
                    exact ih_27 (i + 1) d rc _ _ ls (by omega) (by have hz := zlc_s V q t i; rw [show zpw V (zbit (nI q)) i t = false from by rw [n_44]; exact zpw_self V _ t] at hz; simp only [Bool.false_eq_true, if_false] at hz; omega) (by rw [zRp, if_neg (fun h => h.1 n_44)]; exact hrc2) (by omega) hw (lv_sub hl [1, 2, 3, 4, 5, 6, 7, 0] rfl)
                  · skip
                    have n_44 : ¬ i = t := fun h => c_44 ((nI_eq (by omega) (by omega)).mpr h)
                    refine lv_aload_n hx hb dL_areConnections_47 rfl (lv_at hl 0 rfl) ?_
                    refine lv_iload hx hb dL_areConnections_48 (lv_at hl 7 rfl) ?_
                    refine lv_iload hx hb dL_areConnections_50 (lv_at hl 5 rfl) ?_
                    refine z_goe hw.2 (z_runV Cx hw (c_q_ports E l _ C x V hl0 (hrc.grow (fun q hq => List.mem_append_right _ hq)) i t (by omega) (by omega) n_44 (by omega)) (cwV 2 Cx.1.2.2.2.2 gL_areConnections_X7_ports rfl rfl rfl (by decide +kernel) ⟨(Nat.le_of_ble_eq_true rfl), (Nat.le_of_ble_eq_true rfl)⟩) (z_recv Cx hw (r := (RX7, TX7, 5)) (List.mem_append_right _ hx0) rfl) rfl hl.1 rfl (Nat.le_of_ble_eq_true rfl) dL_areConnections_52 ⟨(show _ ≤ 5300 by omega), (show _ ≤ 53000 by omega)⟩) (fun H locs hw => ?_)
                    obtain ⟨P, hP, eP⟩ := zwork_nat V i t
                    rw [eP]
                    refine lv_istore hx hb dL_areConnections_55 hl (by decide) rfl (fun ls hl => ?_)
                    have hl : lv_has ls 12 [(8, .int (nI P)), (0, .ref x), (1, .ref o), (2, .int (nI q)), (3, .int (nI d)), (4, .int (nI 1)), (5, .int (nI t)), (6, .int rc), (7, .int (nI i))] := hl
                    refine lv_aload_n hx hb dL_areConnections_57 rfl (lv_at hl 1 rfl) ?_
                    refine lv_iload hx hb dL_areConnections_58 (lv_at hl 8 rfl) ?_
                    refine lv_iload hx hb dL_areConnections_60 (lv_at hl 6 rfl) ?_
                    refine lv_iload_n hx hb dL_areConnections_62 rfl (lv_at hl 3 rfl) ?_
                    refine z_goe hw.2 (z_runV Cx hw (c_q_blocks E l _ C x V hl0 (hrc.grow (fun q hq => List.mem_append_right _ hq)) i t q (by omega) (by omega) n_44 hq (by omega)) (cwV 3 Cx.1.2.2.2.2 gL_areConnections_X7_blocks rfl rfl rfl (by decide +kernel) ⟨(Nat.le_of_ble_eq_true rfl), (Nat.le_of_ble_eq_true rfl)⟩) (z_recv Cx hw (r := (RX7, TX7, 5)) (List.mem_append_right _ hx0) rfl) rfl hl.1 rfl (Nat.le_of_ble_eq_true rfl) dL_areConnections_63 ⟨(show _ ≤ 5300 by omega), (show _ ≤ 53000 by omega)⟩) (fun H locs hw => ?_)
                    rw [zblocks_e]
                    refine lv_istore hx hb dL_areConnections_66 hl (by decide) rfl (fun ls hl => ?_)
                    have hl : lv_has ls 12 [(9, .int (zSb8 V i t q)), (8, .int (nI P)), (0, .ref x), (1, .ref o), (2, .int (nI q)), (3, .int (nI d)), (4, .int (nI 1)), (5, .int (nI t)), (6, .int rc), (7, .int (nI i))] := hl
                    refine lv_aload_n hx hb dL_areConnections_68 rfl (lv_at hl 2 rfl) ?_
                    refine lv_iload hx hb dL_areConnections_69 (lv_at hl 9 rfl) ?_
                    refine lv_iload hx hb dL_areConnections_71 (lv_at hl 7 rfl) ?_
                    refine lv_iload_n hx hb dL_areConnections_73 rfl (lv_at hl 4 rfl) ?_
                    refine z_goe hw.2 (z_runV Cx hw (c_q_blockedBy E l _ C x V hl0 (hrc.grow (fun q hq => List.mem_append_right _ hq)) i t q (by omega) (by omega) n_44 hq (by omega)) (cwV 3 Cx.1.2.2.2.2 gL_areConnections_X7_blockedBy rfl rfl rfl (by decide +kernel) ⟨(Nat.le_of_ble_eq_true rfl), (Nat.le_of_ble_eq_true rfl)⟩) (z_recv Cx hw (r := (RX7, TX7, 5)) (List.mem_append_right _ hx0) rfl) rfl hl.1 rfl (Nat.le_of_ble_eq_true rfl) dL_areConnections_74 ⟨(show _ ≤ 5300 by omega), (show _ ≤ 53000 by omega)⟩) (fun H locs hw => ?_)
                    rw [zblocked_e]
                    have cut_127 : ∀ (d2 : Nat) (rc2 : Int32) (wk : Bool) (H : Heap) (locs : List Loc) (ls : Array Slot), (d2 = cn + zlc V q t (i + 1)) → (rc2 = zRp V t (i + 1)) → (wk = zWb8 V i t q) → zHA E ([(o, zci E f)] ++ Y) C s H locs → lv_has ls 12 [(0, .ref x), (1, .ref o), (2, .int (nI q)), (3, .int (nI d2)), (4, .int (nI 1)), (5, .int (nI t)), (6, .int rc2), (7, .int (nI i)), (8, .int (nI P)), (9, .int (zSb8 V i t q)), (10, .int (zFb8 V i t q)), (11, .int (zb wk))] → W p l e (zR 9 5300 53000) s m ([.ref x, .ref o, .int (nI q)] : List Value).toArray below meth c H locs (660 * t + 80 * i + 20 + 20 + 20) (6600 * t + 800 * i + 200 + 200 + 200) (MQ below (zqL E x o) ([.ref x, .ref o, .int (nI q)] : List Value).toArray s 5300 53000 (eA E)) (F0 m 127 ls []) := by
                      intro d2 rc2 wk H locs ls hd2 hrc3 hwk hw hl
                      obtain ⟨K11, K12, K13⟩ := zwS V i t q
                      obtain ⟨K21, K22⟩ := zwF V i t q
                      refine lv_iload hx hb dL_areConnections_127 (lv_at hl 8 rfl) ?_
                      refine lv_if_lt (tgt := 215) hx hb dL_areConnections_129 (by decide) (fun c_129 => ?_) (fun c_129 => ?_)
                      · skip
                        have n_129 : P < 0 := (nI_ltI (b := 0) (by omega) (by omega)).mp c_129
                        omega
                      · skip
                        have n_129 : ¬ P < 0 := fun h => c_129 ((nI_ltI (b := 0) (by omega) (by omega)).mpr h)
                        refine lv_iload hx hb dL_areConnections_132 (lv_at hl 8 rfl) ?_
                        refine lv_ldc hx hb Cx.1.2.2.2.1 (Cx.1.2.2.2.2 (Cond.constant RL 87 (65536)) (List.mem_of_getElem? (i := 1) rfl)) dL_areConnections_134 ?_
                        refine lv_topi (fun q_134 e_134 => ?_)
                        have f_134 : q_134 = nI 65536 := e_134
                        clear e_134
                        subst f_134
                        refine lv_icmp_ge (tgt := 215) hx hb dL_areConnections_136 (by decide) (fun c_136 => ?_) (fun c_136 => ?_)
                        · skip
                          have n_136 : 65536 ≤ P := (nI_leI (by omega) (by omega)).mp c_136
                          omega
                        · skip
                          have n_136 : ¬ 65536 ≤ P := fun h => c_136 ((nI_leI (by omega) (by omega)).mpr h)
                          refine lv_iload hx hb dL_areConnections_139 (lv_at hl 9 rfl) ?_
                          refine lv_iconst (v := nI 2) hx hb dL_areConnections_141 rfl ?_
                          refine lv_irem hx hb dL_areConnections_142 (nI_ne0 (by omega) (by omega)) ?_
                          refine lv_topi (fun q_142 e_142 => ?_)
                          have f_142 : q_142 = nI 0 := by
                            rw [e_142]; exact K11
                          clear e_142
                          subst f_142
                          refine lv_if_ne (tgt := 215) hx hb dL_areConnections_143 (by decide) (fun c_143 => ?_) (fun c_143 => ?_)
                          · skip
                            have n_143 : ¬ 0 = 0 := fun h => c_143 ((nI_eq (b := 0) (by omega) (by omega)).mpr h)
                            omega
                          · skip
                            have n_143 : 0 = 0 := (nI_eq (b := 0) (by omega) (by omega)).mp c_143
                            refine lv_iload hx hb dL_areConnections_146 (lv_at hl 9 rfl) ?_
                            refine lv_sipush (v := nI 512) hx hb dL_areConnections_148 rfl ?_
                            refine lv_icmp_ge (tgt := 215) hx hb dL_areConnections_151 (by decide) (fun c_151 => ?_) (fun c_151 => ?_)
                            · skip
                              exact absurd c_151 (Int32.not_le.mpr K12)
                            · skip
                              refine lv_iload hx hb dL_areConnections_154 (lv_at hl 11 rfl) ?_
                              refine lv_iload hx hb dL_areConnections_156 (lv_at hl 9 rfl) ?_
                              refine lv_if_ne (tgt := 165) hx hb dL_areConnections_158 (by decide) (fun c_158 => ?_) (fun c_158 => ?_)
                              · skip
                                have hwk2 : wk = false := by
                                  cases h9 : wk with
                                  | false => rfl
                                  | true => exact absurd (K13.mpr (hwk.symm.trans h9)) c_158
                                have K22 := K22 (hwk.symm.trans hwk2)
                                refine lv_iconst (v := zb false) hx hb dL_areConnections_165 rfl ?_
                                refine lv_icmp_ne (tgt := 215) hx hb dL_areConnections_166 (by decide) (fun c_166 => ?_) (fun c_166 => ?_)
                                · skip
                                  exact absurd (by rw [hwk2]) c_166
                                · skip
                                  refine lv_iload hx hb dL_areConnections_169 (lv_at hl 9 rfl) ?_
                                  refine lv_if_ne (tgt := 182) hx hb dL_areConnections_171 (by decide) (fun c_171 => ?_) (fun c_171 => ?_)
                                  · skip
                                    refine lv_iload hx hb dL_areConnections_182 (lv_at hl 10 rfl) ?_
                                    refine lv_iconst (v := nI 1) hx hb dL_areConnections_184 rfl ?_
                                    refine lv_icmp_lt (tgt := 215) hx hb dL_areConnections_185 (by decide) (fun c_185 => ?_) (fun c_185 => ?_)
                                    · skip
                                      exact absurd c_185 K22.1
                                    · skip
                                      refine lv_iload hx hb dL_areConnections_188 (lv_at hl 9 rfl) ?_
                                      refine lv_iload hx hb dL_areConnections_190 (lv_at hl 10 rfl) ?_
                                      refine lv_ishr hx hb dL_areConnections_192 ?_
                                      refine lv_iconst (v := nI 1) hx hb dL_areConnections_193 rfl ?_
                                      refine lv_iand hx hb dL_areConnections_194 ?_
                                      refine lv_iconst (v := nI 1) hx hb dL_areConnections_195 rfl ?_
                                      refine lv_icmp_ne (tgt := 215) hx hb dL_areConnections_196 (by decide) (fun c_196 => ?_) (fun c_196 => ?_)
                                      · skip
                                        exact absurd K22.2.1 c_196
                                      · skip
                                        refine lv_iload hx hb dL_areConnections_199 (lv_at hl 9 rfl) ?_
                                        refine lv_iconst (v := nI 1) hx hb dL_areConnections_201 rfl ?_
                                        refine lv_iload hx hb dL_areConnections_202 (lv_at hl 10 rfl) ?_
                                        refine lv_ishl hx hb dL_areConnections_204 ?_
                                        refine lv_iconst (v := nI 1) hx hb dL_areConnections_205 rfl ?_
                                        refine lv_isub hx hb dL_areConnections_206 ?_
                                        refine lv_iand hx hb dL_areConnections_207 ?_
                                        refine lv_if_ne (tgt := 215) hx hb dL_areConnections_208 (by decide) (fun c_208 => ?_) (fun c_208 => ?_)
                                        · skip
                                          exact absurd K22.2.2 c_208
                                        · skip
                                          refine lv_iconst (v := nI 1) hx hb dL_areConnections_211 rfl ?_
                                          refine lv_goto (tgt := 216) hx hb dL_areConnections_212 (by decide) ?_
                                          refine lv_istore hx hb dL_areConnections_216 hl (by decide) rfl (fun ls hl => ?_)
                                          have hl : lv_has ls 12 [(4, .int (nI 1)), (0, .ref x), (1, .ref o), (2, .int (nI q)), (3, .int (nI d2)), (5, .int (nI t)), (6, .int rc2), (7, .int (nI i)), (8, .int (nI P)), (9, .int (zSb8 V i t q)), (10, .int (zFb8 V i t q)), (11, .int (zb wk))] := hl
                                          have hai := zhost_at hL.1 (i := i) (by omega)
                                          have hat := zhost_at hL.1 (i := t) (by omega)
                                          refine lv_iload hx hb dL_areConnections_218 (lv_at hl 0 rfl) ?_
                                          refine lv_if_eq (tgt := 250) hx hb dL_areConnections_220 (by decide) (fun c_220 => ?_) (fun c_220 => ?_)
                                          · skip
                                            have n_220 : 1 = 0 := (nI_eq (b := 0) (by omega) (by omega)).mp c_220
                                            omega
                                          · skip
                                            have n_220 : ¬ 1 = 0 := fun h => c_220 ((nI_eq (b := 0) (by omega) (by omega)).mpr h)
                                            refine lv_aload_n hx hb dL_areConnections_223 rfl (lv_at hl 2 rfl) ?_
                                            refine lv_iconst (v := nI 4) hx hb dL_areConnections_224 rfl ?_
                                            refine lv_iload hx hb dL_areConnections_225 (lv_at hl 7 rfl) ?_
                                            refine lv_iadd hx hb dL_areConnections_227 ?_
                                            refine lv_topi (fun q_227 e_227 => ?_)
                                            rw [nI_add] at e_227
                                            subst e_227
                                            refine zc_iald Cx hw (by omega) (v := nI ((zhv V i).1)) (g3 i (zhv V i) (zhv_get (by omega))).1 dL_areConnections_228 ?_
                                            refine lv_aload_n hx hb dL_areConnections_229 rfl (lv_at hl 2 rfl) ?_
                                            refine lv_iconst (v := nI 4) hx hb dL_areConnections_230 rfl ?_
                                            refine lv_iload hx hb dL_areConnections_231 (lv_at hl 5 rfl) ?_
                                            refine lv_iadd hx hb dL_areConnections_233 ?_
                                            refine lv_topi (fun q_233 e_233 => ?_)
                                            rw [nI_add] at e_233
                                            subst e_233
                                            refine zc_iald Cx hw (by omega) (v := nI ((zhv V t).1)) (g3 t (zhv V t) (zhv_get (by omega))).1 dL_areConnections_234 ?_
                                            refine lv_icmp_ne (tgt := 246) hx hb dL_areConnections_235 (by decide) (fun c_235 => ?_) (fun c_235 => ?_)
                                            · skip
                                              have n_235 : ¬ ((zhv V i).1) = ((zhv V t).1) := fun h => c_235 ((nI_eq (by omega) (by omega)).mpr h)
                                              refine lv_iconst (v := nI 1) hx hb dL_areConnections_246 rfl ?_
                                              refine lv_goto (tgt := 251) hx hb dL_areConnections_247 (by decide) ?_
                                              refine lv_istore hx hb dL_areConnections_251 hl (by decide) rfl (fun ls hl => ?_)
                                              have hl : lv_has ls 12 [(4, .int (nI 1)), (0, .ref x), (1, .ref o), (2, .int (nI q)), (3, .int (nI d2)), (5, .int (nI t)), (6, .int rc2), (7, .int (nI i)), (8, .int (nI P)), (9, .int (zSb8 V i t q)), (10, .int (zFb8 V i t q)), (11, .int (zb wk))] := hl
                                              refine lv_iload hx hb dL_areConnections_253 (lv_at hl 0 rfl) ?_
                                              refine lv_if_eq (tgt := 310) hx hb dL_areConnections_255 (by decide) (fun c_255 => ?_) (fun c_255 => ?_)
                                              · skip
                                                have n_255 : 1 = 0 := (nI_eq (b := 0) (by omega) (by omega)).mp c_255
                                                omega
                                              · skip
                                                have n_255 : ¬ 1 = 0 := fun h => c_255 ((nI_eq (b := 0) (by omega) (by omega)).mpr h)
                                                refine lv_aload_n hx hb dL_areConnections_258 rfl (lv_at hl 2 rfl) ?_
                                                refine lv_iconst (v := nI 4) hx hb dL_areConnections_259 rfl ?_
                                                refine lv_iload hx hb dL_areConnections_260 (lv_at hl 7 rfl) ?_
                                                refine lv_iadd hx hb dL_areConnections_262 ?_
                                                refine lv_topi (fun q_262 e_262 => ?_)
                                                rw [nI_add] at e_262
                                                subst e_262
                                                refine zc_iald Cx hw (by omega) (v := nI ((zhv V i).1)) (g3 i (zhv V i) (zhv_get (by omega))).1 dL_areConnections_263 ?_
                                                refine lv_iconst (v := nI 2) hx hb dL_areConnections_264 rfl ?_
                                                refine lv_idiv hx hb dL_areConnections_265 (nI_ne0 (by omega) (by omega)) ?_
                                                refine lv_topi (fun q_265 e_265 => ?_)
                                                rw [pk_div (by omega) (by omega) (by omega)] at e_265
                                                subst e_265
                                                refine lv_aload_n hx hb dL_areConnections_266 rfl (lv_at hl 2 rfl) ?_
                                                refine lv_iconst (v := nI 4) hx hb dL_areConnections_267 rfl ?_
                                                refine lv_iload hx hb dL_areConnections_268 (lv_at hl 5 rfl) ?_
                                                refine lv_iadd hx hb dL_areConnections_270 ?_
                                                refine lv_topi (fun q_270 e_270 => ?_)
                                                rw [nI_add] at e_270
                                                subst e_270
                                                refine zc_iald Cx hw (by omega) (v := nI ((zhv V t).1)) (g3 t (zhv V t) (zhv_get (by omega))).1 dL_areConnections_271 ?_
                                                refine lv_iconst (v := nI 2) hx hb dL_areConnections_272 rfl ?_
                                                refine lv_idiv hx hb dL_areConnections_273 (nI_ne0 (by omega) (by omega)) ?_
                                                refine lv_topi (fun q_273 e_273 => ?_)
                                                rw [pk_div (by omega) (by omega) (by omega)] at e_273
                                                subst e_273
                                                refine lv_icmp_ne (tgt := 306) hx hb dL_areConnections_274 (by decide) (fun c_274 => ?_) (fun c_274 => ?_)
                                                · skip
                                                  have n_274 : ¬ (((zhv V i).1) / 2) = (((zhv V t).1) / 2) := fun h => c_274 ((nI_eq (by omega) (by omega)).mpr h)
                                                  refine lv_iconst (v := nI 1) hx hb dL_areConnections_306 rfl ?_
                                                  refine lv_goto (tgt := 311) hx hb dL_areConnections_307 (by decide) ?_
                                                  refine lv_istore hx hb dL_areConnections_311 hl (by decide) rfl (fun ls hl => ?_)
                                                  have hl : lv_has ls 12 [(4, .int (nI 1)), (0, .ref x), (1, .ref o), (2, .int (nI q)), (3, .int (nI d2)), (5, .int (nI t)), (6, .int rc2), (7, .int (nI i)), (8, .int (nI P)), (9, .int (zSb8 V i t q)), (10, .int (zFb8 V i t q)), (11, .int (zb wk))] := hl
                                                  refine lv_iinc (v := nI (i + 1)) hx hb dL_areConnections_313 hl (k := 7) rfl (nI_add _ _) (by decide) rfl (fun ls hl => ?_)
                                                  have hl : lv_has ls 12 [(7, .int (nI (i + 1))), (4, .int (nI 1)), (0, .ref x), (1, .ref o), (2, .int (nI q)), (3, .int (nI d2)), (5, .int (nI t)), (6, .int rc2), (8, .int (nI P)), (9, .int (zSb8 V i t q)), (10, .int (zFb8 V i t q)), (11, .int (zb wk))] := hl
                                                  refine lv_goto (tgt := 27) hx hb dL_areConnections_316 (by decide) ?_
                                                  refine W.widen (show _ ≤ 660 * t + 80 * (i + 1) by omega) (show _ ≤ 6600 * t + 800 * (i + 1) by omega) ?_
                                                  exact ih_27 (i + 1) d2 rc2 _ _ ls (by omega) hd2 hrc3 (by omega) hw (lv_sub hl [2, 3, 4, 5, 1, 6, 7, 0] rfl)
                                                · skip
                                                  have n_274 : (((zhv V i).1) / 2) = (((zhv V t).1) / 2) := (nI_eq (by omega) (by omega)).mp c_274
                                                  refine lv_aload_n hx hb dL_areConnections_277 rfl (lv_at hl 1 rfl) ?_
                                                  refine lv_aload_n hx hb dL_areConnections_278 rfl (lv_at hl 2 rfl) ?_
                                                  refine lv_iconst (v := nI 4) hx hb dL_areConnections_279 rfl ?_
                                                  refine lv_iload hx hb dL_areConnections_280 (lv_at hl 7 rfl) ?_
                                                  refine lv_iadd hx hb dL_areConnections_282 ?_
                                                  refine lv_topi (fun q_282 e_282 => ?_)
                                                  rw [nI_add] at e_282
                                                  subst e_282
                                                  refine zc_iald Cx hw (by omega) (v := nI ((zhv V i).1)) (g3 i (zhv V i) (zhv_get (by omega))).1 dL_areConnections_283 ?_
                                                  refine lv_aload_n hx hb dL_areConnections_284 rfl (lv_at hl 2 rfl) ?_
                                                  refine lv_bipush (v := nI 16) hx hb dL_areConnections_285 rfl ?_
                                                  refine lv_iload hx hb dL_areConnections_287 (lv_at hl 5 rfl) ?_
                                                  refine lv_iadd hx hb dL_areConnections_289 ?_
                                                  refine lv_topi (fun q_289 e_289 => ?_)
                                                  rw [nI_add] at e_289
                                                  subst e_289
                                                  refine zc_iald Cx hw (by omega) (v := (zhv V t).2.1) (g3 t (zhv V t) (zhv_get (by omega))).2 dL_areConnections_290 ?_
                                                  refine z_goe hw.2 (z_runV Cx hw (c_q_routeFor E l _ C x V hl0 (hrc.grow (fun q hq => List.mem_append_right _ hq)) (zhv V i).1 (zhv V t).2.1 (by omega) hat.2 (by omega)) (cwV 2 Cx.1.2.2.2.2 gL_areConnections_X7_routeFor rfl rfl rfl (by decide +kernel) ⟨(Nat.le_of_ble_eq_true rfl), (Nat.le_of_ble_eq_true rfl)⟩) (z_recv Cx hw (r := (RX7, TX7, 5)) (List.mem_append_right _ hx0) rfl) rfl hl.1 rfl (Nat.le_of_ble_eq_true rfl) dL_areConnections_291 ⟨(show _ ≤ 5300 by omega), (show _ ≤ 53000 by omega)⟩) (fun H locs hw => ?_)
                                                  refine lv_iconst (v := (-1)) hx hb dL_areConnections_294 rfl ?_
                                                  refine lv_icmp_ne (tgt := 306) hx hb dL_areConnections_295 (by decide) (fun c_295 => ?_) (fun c_295 => ?_)
                                                  · skip
                                                    refine lv_iconst (v := nI 1) hx hb dL_areConnections_306 rfl ?_
                                                    refine lv_goto (tgt := 311) hx hb dL_areConnections_307 (by decide) ?_
                                                    refine lv_istore hx hb dL_areConnections_311 hl (by decide) rfl (fun ls hl => ?_)
                                                    have hl : lv_has ls 12 [(4, .int (nI 1)), (0, .ref x), (1, .ref o), (2, .int (nI q)), (3, .int (nI d2)), (5, .int (nI t)), (6, .int rc2), (7, .int (nI i)), (8, .int (nI P)), (9, .int (zSb8 V i t q)), (10, .int (zFb8 V i t q)), (11, .int (zb wk))] := hl
                                                    refine lv_iinc (v := nI (i + 1)) hx hb dL_areConnections_313 hl (k := 7) rfl (nI_add _ _) (by decide) rfl (fun ls hl => ?_)
                                                    have hl : lv_has ls 12 [(7, .int (nI (i + 1))), (4, .int (nI 1)), (0, .ref x), (1, .ref o), (2, .int (nI q)), (3, .int (nI d2)), (5, .int (nI t)), (6, .int rc2), (8, .int (nI P)), (9, .int (zSb8 V i t q)), (10, .int (zFb8 V i t q)), (11, .int (zb wk))] := hl
                                                    refine lv_goto (tgt := 27) hx hb dL_areConnections_316 (by decide) ?_
                                                    refine W.widen (show _ ≤ 660 * t + 80 * (i + 1) by omega) (show _ ≤ 6600 * t + 800 * (i + 1) by omega) ?_
                                                    exact ih_27 (i + 1) d2 rc2 _ _ ls (by omega) hd2 hrc3 (by omega) hw (lv_sub hl [2, 3, 4, 5, 1, 6, 7, 0] rfl)
                                                  · skip
                                                    refine lv_iload hx hb dL_areConnections_298 (lv_at hl 9 rfl) ?_
                                                    refine lv_bipush (v := nI 8) hx hb dL_areConnections_300 rfl ?_
                                                    refine lv_iand hx hb dL_areConnections_302 ?_
                                                    refine lv_if_ne (tgt := 310) hx hb dL_areConnections_303 (by decide) (fun c_303 => ?_) (fun c_303 => ?_)
                                                    · skip
                                                      exact absurd (zblocks_route hq (zopen_local (by rw [zsv_1 hL.1 hai.1, zsv_1 hL.1 hat.1]; exact n_274) c_295)) c_303
                                                    · skip
                                                      refine lv_iconst (v := nI 1) hx hb dL_areConnections_306 rfl ?_
                                                      refine lv_goto (tgt := 311) hx hb dL_areConnections_307 (by decide) ?_
                                                      refine lv_istore hx hb dL_areConnections_311 hl (by decide) rfl (fun ls hl => ?_)
                                                      have hl : lv_has ls 12 [(4, .int (nI 1)), (0, .ref x), (1, .ref o), (2, .int (nI q)), (3, .int (nI d2)), (5, .int (nI t)), (6, .int rc2), (7, .int (nI i)), (8, .int (nI P)), (9, .int (zSb8 V i t q)), (10, .int (zFb8 V i t q)), (11, .int (zb wk))] := hl
                                                      refine lv_iinc (v := nI (i + 1)) hx hb dL_areConnections_313 hl (k := 7) rfl (nI_add _ _) (by decide) rfl (fun ls hl => ?_)
                                                      have hl : lv_has ls 12 [(7, .int (nI (i + 1))), (4, .int (nI 1)), (0, .ref x), (1, .ref o), (2, .int (nI q)), (3, .int (nI d2)), (5, .int (nI t)), (6, .int rc2), (8, .int (nI P)), (9, .int (zSb8 V i t q)), (10, .int (zFb8 V i t q)), (11, .int (zb wk))] := hl
                                                      refine lv_goto (tgt := 27) hx hb dL_areConnections_316 (by decide) ?_
                                                      refine W.widen (show _ ≤ 660 * t + 80 * (i + 1) by omega) (show _ ≤ 6600 * t + 800 * (i + 1) by omega) ?_
                                                      exact ih_27 (i + 1) d2 rc2 _ _ ls (by omega) hd2 hrc3 (by omega) hw (lv_sub hl [2, 3, 4, 5, 1, 6, 7, 0] rfl)
                                            · skip
                                              have n_235 : ((zhv V i).1) = ((zhv V t).1) := (nI_eq (by omega) (by omega)).mp c_235
                                              refine lv_iload hx hb dL_areConnections_238 (lv_at hl 9 rfl) ?_
                                              refine lv_bipush (v := (-35)) hx hb dL_areConnections_240 rfl ?_
                                              refine lv_iand hx hb dL_areConnections_242 ?_
                                              skip
                                              refine lv_if_ne (tgt := 250) hx hb dL_areConnections_243 (by decide) (fun c_243 => ?_) (fun c_243 => ?_)
                                              · skip
                                                exact absurd (zblocks_same hq n_235) c_243
                                              · skip
                                                refine lv_iconst (v := nI 1) hx hb dL_areConnections_246 rfl ?_
                                                refine lv_goto (tgt := 251) hx hb dL_areConnections_247 (by decide) ?_
                                                refine lv_istore hx hb dL_areConnections_251 hl (by decide) rfl (fun ls hl => ?_)
                                                have hl : lv_has ls 12 [(4, .int (nI 1)), (0, .ref x), (1, .ref o), (2, .int (nI q)), (3, .int (nI d2)), (5, .int (nI t)), (6, .int rc2), (7, .int (nI i)), (8, .int (nI P)), (9, .int (zSb8 V i t q)), (10, .int (zFb8 V i t q)), (11, .int (zb wk))] := hl
                                                refine lv_iload hx hb dL_areConnections_253 (lv_at hl 0 rfl) ?_
                                                refine lv_if_eq (tgt := 310) hx hb dL_areConnections_255 (by decide) (fun c_255 => ?_) (fun c_255 => ?_)
                                                · skip
                                                  have n_255 : 1 = 0 := (nI_eq (b := 0) (by omega) (by omega)).mp c_255
                                                  omega
                                                · skip
                                                  have n_255 : ¬ 1 = 0 := fun h => c_255 ((nI_eq (b := 0) (by omega) (by omega)).mpr h)
                                                  refine lv_aload_n hx hb dL_areConnections_258 rfl (lv_at hl 2 rfl) ?_
                                                  refine lv_iconst (v := nI 4) hx hb dL_areConnections_259 rfl ?_
                                                  refine lv_iload hx hb dL_areConnections_260 (lv_at hl 7 rfl) ?_
                                                  refine lv_iadd hx hb dL_areConnections_262 ?_
                                                  refine lv_topi (fun q_262 e_262 => ?_)
                                                  rw [nI_add] at e_262
                                                  subst e_262
                                                  refine zc_iald Cx hw (by omega) (v := nI ((zhv V i).1)) (g3 i (zhv V i) (zhv_get (by omega))).1 dL_areConnections_263 ?_
                                                  refine lv_iconst (v := nI 2) hx hb dL_areConnections_264 rfl ?_
                                                  refine lv_idiv hx hb dL_areConnections_265 (nI_ne0 (by omega) (by omega)) ?_
                                                  refine lv_topi (fun q_265 e_265 => ?_)
                                                  rw [pk_div (by omega) (by omega) (by omega)] at e_265
                                                  subst e_265
                                                  refine lv_aload_n hx hb dL_areConnections_266 rfl (lv_at hl 2 rfl) ?_
                                                  refine lv_iconst (v := nI 4) hx hb dL_areConnections_267 rfl ?_
                                                  refine lv_iload hx hb dL_areConnections_268 (lv_at hl 5 rfl) ?_
                                                  refine lv_iadd hx hb dL_areConnections_270 ?_
                                                  refine lv_topi (fun q_270 e_270 => ?_)
                                                  rw [nI_add] at e_270
                                                  subst e_270
                                                  refine zc_iald Cx hw (by omega) (v := nI ((zhv V t).1)) (g3 t (zhv V t) (zhv_get (by omega))).1 dL_areConnections_271 ?_
                                                  refine lv_iconst (v := nI 2) hx hb dL_areConnections_272 rfl ?_
                                                  refine lv_idiv hx hb dL_areConnections_273 (nI_ne0 (by omega) (by omega)) ?_
                                                  refine lv_topi (fun q_273 e_273 => ?_)
                                                  rw [pk_div (by omega) (by omega) (by omega)] at e_273
                                                  subst e_273
                                                  refine lv_icmp_ne (tgt := 306) hx hb dL_areConnections_274 (by decide) (fun c_274 => ?_) (fun c_274 => ?_)
                                                  · skip
                                                    have n_274 : ¬ (((zhv V i).1) / 2) = (((zhv V t).1) / 2) := fun h => c_274 ((nI_eq (by omega) (by omega)).mpr h)
                                                    refine lv_iconst (v := nI 1) hx hb dL_areConnections_306 rfl ?_
                                                    refine lv_goto (tgt := 311) hx hb dL_areConnections_307 (by decide) ?_
                                                    refine lv_istore hx hb dL_areConnections_311 hl (by decide) rfl (fun ls hl => ?_)
                                                    have hl : lv_has ls 12 [(4, .int (nI 1)), (0, .ref x), (1, .ref o), (2, .int (nI q)), (3, .int (nI d2)), (5, .int (nI t)), (6, .int rc2), (7, .int (nI i)), (8, .int (nI P)), (9, .int (zSb8 V i t q)), (10, .int (zFb8 V i t q)), (11, .int (zb wk))] := hl
                                                    refine lv_iinc (v := nI (i + 1)) hx hb dL_areConnections_313 hl (k := 7) rfl (nI_add _ _) (by decide) rfl (fun ls hl => ?_)
                                                    have hl : lv_has ls 12 [(7, .int (nI (i + 1))), (4, .int (nI 1)), (0, .ref x), (1, .ref o), (2, .int (nI q)), (3, .int (nI d2)), (5, .int (nI t)), (6, .int rc2), (8, .int (nI P)), (9, .int (zSb8 V i t q)), (10, .int (zFb8 V i t q)), (11, .int (zb wk))] := hl
                                                    refine lv_goto (tgt := 27) hx hb dL_areConnections_316 (by decide) ?_
                                                    refine W.widen (show _ ≤ 660 * t + 80 * (i + 1) by omega) (show _ ≤ 6600 * t + 800 * (i + 1) by omega) ?_
                                                    exact ih_27 (i + 1) d2 rc2 _ _ ls (by omega) hd2 hrc3 (by omega) hw (lv_sub hl [2, 3, 4, 5, 1, 6, 7, 0] rfl)
                                                  · skip
                                                    have n_274 : (((zhv V i).1) / 2) = (((zhv V t).1) / 2) := (nI_eq (by omega) (by omega)).mp c_274
                                                    refine lv_aload_n hx hb dL_areConnections_277 rfl (lv_at hl 1 rfl) ?_
                                                    refine lv_aload_n hx hb dL_areConnections_278 rfl (lv_at hl 2 rfl) ?_
                                                    refine lv_iconst (v := nI 4) hx hb dL_areConnections_279 rfl ?_
                                                    refine lv_iload hx hb dL_areConnections_280 (lv_at hl 7 rfl) ?_
                                                    refine lv_iadd hx hb dL_areConnections_282 ?_
                                                    refine lv_topi (fun q_282 e_282 => ?_)
                                                    rw [nI_add] at e_282
                                                    subst e_282
                                                    refine zc_iald Cx hw (by omega) (v := nI ((zhv V i).1)) (g3 i (zhv V i) (zhv_get (by omega))).1 dL_areConnections_283 ?_
                                                    refine lv_aload_n hx hb dL_areConnections_284 rfl (lv_at hl 2 rfl) ?_
                                                    refine lv_bipush (v := nI 16) hx hb dL_areConnections_285 rfl ?_
                                                    refine lv_iload hx hb dL_areConnections_287 (lv_at hl 5 rfl) ?_
                                                    refine lv_iadd hx hb dL_areConnections_289 ?_
                                                    refine lv_topi (fun q_289 e_289 => ?_)
                                                    rw [nI_add] at e_289
                                                    subst e_289
                                                    refine zc_iald Cx hw (by omega) (v := (zhv V t).2.1) (g3 t (zhv V t) (zhv_get (by omega))).2 dL_areConnections_290 ?_
                                                    refine z_goe hw.2 (z_runV Cx hw (c_q_routeFor E l _ C x V hl0 (hrc.grow (fun q hq => List.mem_append_right _ hq)) (zhv V i).1 (zhv V t).2.1 (by omega) hat.2 (by omega)) (cwV 2 Cx.1.2.2.2.2 gL_areConnections_X7_routeFor rfl rfl rfl (by decide +kernel) ⟨(Nat.le_of_ble_eq_true rfl), (Nat.le_of_ble_eq_true rfl)⟩) (z_recv Cx hw (r := (RX7, TX7, 5)) (List.mem_append_right _ hx0) rfl) rfl hl.1 rfl (Nat.le_of_ble_eq_true rfl) dL_areConnections_291 ⟨(show _ ≤ 5300 by omega), (show _ ≤ 53000 by omega)⟩) (fun H locs hw => ?_)
                                                    refine lv_iconst (v := (-1)) hx hb dL_areConnections_294 rfl ?_
                                                    refine lv_icmp_ne (tgt := 306) hx hb dL_areConnections_295 (by decide) (fun c_295 => ?_) (fun c_295 => ?_)
                                                    · skip
                                                      refine lv_iconst (v := nI 1) hx hb dL_areConnections_306 rfl ?_
                                                      refine lv_goto (tgt := 311) hx hb dL_areConnections_307 (by decide) ?_
                                                      refine lv_istore hx hb dL_areConnections_311 hl (by decide) rfl (fun ls hl => ?_)
                                                      have hl : lv_has ls 12 [(4, .int (nI 1)), (0, .ref x), (1, .ref o), (2, .int (nI q)), (3, .int (nI d2)), (5, .int (nI t)), (6, .int rc2), (7, .int (nI i)), (8, .int (nI P)), (9, .int (zSb8 V i t q)), (10, .int (zFb8 V i t q)), (11, .int (zb wk))] := hl
                                                      refine lv_iinc (v := nI (i + 1)) hx hb dL_areConnections_313 hl (k := 7) rfl (nI_add _ _) (by decide) rfl (fun ls hl => ?_)
                                                      have hl : lv_has ls 12 [(7, .int (nI (i + 1))), (4, .int (nI 1)), (0, .ref x), (1, .ref o), (2, .int (nI q)), (3, .int (nI d2)), (5, .int (nI t)), (6, .int rc2), (8, .int (nI P)), (9, .int (zSb8 V i t q)), (10, .int (zFb8 V i t q)), (11, .int (zb wk))] := hl
                                                      refine lv_goto (tgt := 27) hx hb dL_areConnections_316 (by decide) ?_
                                                      refine W.widen (show _ ≤ 660 * t + 80 * (i + 1) by omega) (show _ ≤ 6600 * t + 800 * (i + 1) by omega) ?_
                                                      exact ih_27 (i + 1) d2 rc2 _ _ ls (by omega) hd2 hrc3 (by omega) hw (lv_sub hl [2, 3, 4, 5, 1, 6, 7, 0] rfl)
                                                    · skip
                                                      refine lv_iload hx hb dL_areConnections_298 (lv_at hl 9 rfl) ?_
                                                      refine lv_bipush (v := nI 8) hx hb dL_areConnections_300 rfl ?_
                                                      refine lv_iand hx hb dL_areConnections_302 ?_
                                                      refine lv_if_ne (tgt := 310) hx hb dL_areConnections_303 (by decide) (fun c_303 => ?_) (fun c_303 => ?_)
                                                      · skip
                                                        exact absurd (zblocks_route hq (zopen_local (by rw [zsv_1 hL.1 hai.1, zsv_1 hL.1 hat.1]; exact n_274) c_295)) c_303
                                                      · skip
                                                        refine lv_iconst (v := nI 1) hx hb dL_areConnections_306 rfl ?_
                                                        refine lv_goto (tgt := 311) hx hb dL_areConnections_307 (by decide) ?_
                                                        refine lv_istore hx hb dL_areConnections_311 hl (by decide) rfl (fun ls hl => ?_)
                                                        have hl : lv_has ls 12 [(4, .int (nI 1)), (0, .ref x), (1, .ref o), (2, .int (nI q)), (3, .int (nI d2)), (5, .int (nI t)), (6, .int rc2), (7, .int (nI i)), (8, .int (nI P)), (9, .int (zSb8 V i t q)), (10, .int (zFb8 V i t q)), (11, .int (zb wk))] := hl
                                                        refine lv_iinc (v := nI (i + 1)) hx hb dL_areConnections_313 hl (k := 7) rfl (nI_add _ _) (by decide) rfl (fun ls hl => ?_)
                                                        have hl : lv_has ls 12 [(7, .int (nI (i + 1))), (4, .int (nI 1)), (0, .ref x), (1, .ref o), (2, .int (nI q)), (3, .int (nI d2)), (5, .int (nI t)), (6, .int rc2), (8, .int (nI P)), (9, .int (zSb8 V i t q)), (10, .int (zFb8 V i t q)), (11, .int (zb wk))] := hl
                                                        refine lv_goto (tgt := 27) hx hb dL_areConnections_316 (by decide) ?_
                                                        refine W.widen (show _ ≤ 660 * t + 80 * (i + 1) by omega) (show _ ≤ 6600 * t + 800 * (i + 1) by omega) ?_
                                                        exact ih_27 (i + 1) d2 rc2 _ _ ls (by omega) hd2 hrc3 (by omega) hw (lv_sub hl [2, 3, 4, 5, 1, 6, 7, 0] rfl)
                                  · skip
                                    exact absurd c_171 c_158
                              · skip
                                have hwk2 : wk = true := hwk.trans (K13.mp c_158)
                                have K21 := K21 (hwk.symm.trans hwk2)
                                refine lv_iconst (v := zb true) hx hb dL_areConnections_161 rfl ?_
                                refine lv_goto (tgt := 166) hx hb dL_areConnections_162 (by decide) ?_
                                refine lv_icmp_ne (tgt := 215) hx hb dL_areConnections_166 (by decide) (fun c_166 => ?_) (fun c_166 => ?_)
                                · skip
                                  exact absurd (by rw [hwk2]) c_166
                                · skip
                                  refine lv_iload hx hb dL_areConnections_169 (lv_at hl 9 rfl) ?_
                                  refine lv_if_ne (tgt := 182) hx hb dL_areConnections_171 (by decide) (fun c_171 => ?_) (fun c_171 => ?_)
                                  · skip
                                    exact absurd c_158 c_171
                                  · skip
                                    refine lv_iload hx hb dL_areConnections_174 (lv_at hl 10 rfl) ?_
                                    refine lv_if_ne (tgt := 215) hx hb dL_areConnections_176 (by decide) (fun c_176 => ?_) (fun c_176 => ?_)
                                    · skip
                                      exact absurd K21 c_176
                                    · skip
                                      refine lv_goto (tgt := 211) hx hb dL_areConnections_179 (by decide) ?_
                                      refine lv_iconst (v := nI 1) hx hb dL_areConnections_211 rfl ?_
                                      refine lv_goto (tgt := 216) hx hb dL_areConnections_212 (by decide) ?_
                                      refine lv_istore hx hb dL_areConnections_216 hl (by decide) rfl (fun ls hl => ?_)
                                      have hl : lv_has ls 12 [(4, .int (nI 1)), (0, .ref x), (1, .ref o), (2, .int (nI q)), (3, .int (nI d2)), (5, .int (nI t)), (6, .int rc2), (7, .int (nI i)), (8, .int (nI P)), (9, .int (zSb8 V i t q)), (10, .int (zFb8 V i t q)), (11, .int (zb wk))] := hl
                                      have hai := zhost_at hL.1 (i := i) (by omega)
                                      have hat := zhost_at hL.1 (i := t) (by omega)
                                      refine lv_iload hx hb dL_areConnections_218 (lv_at hl 0 rfl) ?_
                                      refine lv_if_eq (tgt := 250) hx hb dL_areConnections_220 (by decide) (fun c_220 => ?_) (fun c_220 => ?_)
                                      · skip
                                        have n_220 : 1 = 0 := (nI_eq (b := 0) (by omega) (by omega)).mp c_220
                                        omega
                                      · skip
                                        have n_220 : ¬ 1 = 0 := fun h => c_220 ((nI_eq (b := 0) (by omega) (by omega)).mpr h)
                                        refine lv_aload_n hx hb dL_areConnections_223 rfl (lv_at hl 2 rfl) ?_
                                        refine lv_iconst (v := nI 4) hx hb dL_areConnections_224 rfl ?_
                                        refine lv_iload hx hb dL_areConnections_225 (lv_at hl 7 rfl) ?_
                                        refine lv_iadd hx hb dL_areConnections_227 ?_
                                        refine lv_topi (fun q_227 e_227 => ?_)
                                        rw [nI_add] at e_227
                                        subst e_227
                                        refine zc_iald Cx hw (by omega) (v := nI ((zhv V i).1)) (g3 i (zhv V i) (zhv_get (by omega))).1 dL_areConnections_228 ?_
                                        refine lv_aload_n hx hb dL_areConnections_229 rfl (lv_at hl 2 rfl) ?_
                                        refine lv_iconst (v := nI 4) hx hb dL_areConnections_230 rfl ?_
                                        refine lv_iload hx hb dL_areConnections_231 (lv_at hl 5 rfl) ?_
                                        refine lv_iadd hx hb dL_areConnections_233 ?_
                                        refine lv_topi (fun q_233 e_233 => ?_)
                                        rw [nI_add] at e_233
                                        subst e_233
                                        refine zc_iald Cx hw (by omega) (v := nI ((zhv V t).1)) (g3 t (zhv V t) (zhv_get (by omega))).1 dL_areConnections_234 ?_
                                        refine lv_icmp_ne (tgt := 246) hx hb dL_areConnections_235 (by decide) (fun c_235 => ?_) (fun c_235 => ?_)
                                        · skip
                                          have n_235 : ¬ ((zhv V i).1) = ((zhv V t).1) := fun h => c_235 ((nI_eq (by omega) (by omega)).mpr h)
                                          refine lv_iconst (v := nI 1) hx hb dL_areConnections_246 rfl ?_
                                          refine lv_goto (tgt := 251) hx hb dL_areConnections_247 (by decide) ?_
                                          refine lv_istore hx hb dL_areConnections_251 hl (by decide) rfl (fun ls hl => ?_)
                                          have hl : lv_has ls 12 [(4, .int (nI 1)), (0, .ref x), (1, .ref o), (2, .int (nI q)), (3, .int (nI d2)), (5, .int (nI t)), (6, .int rc2), (7, .int (nI i)), (8, .int (nI P)), (9, .int (zSb8 V i t q)), (10, .int (zFb8 V i t q)), (11, .int (zb wk))] := hl
                                          refine lv_iload hx hb dL_areConnections_253 (lv_at hl 0 rfl) ?_
                                          refine lv_if_eq (tgt := 310) hx hb dL_areConnections_255 (by decide) (fun c_255 => ?_) (fun c_255 => ?_)
                                          · skip
                                            have n_255 : 1 = 0 := (nI_eq (b := 0) (by omega) (by omega)).mp c_255
                                            omega
                                          · skip
                                            have n_255 : ¬ 1 = 0 := fun h => c_255 ((nI_eq (b := 0) (by omega) (by omega)).mpr h)
                                            refine lv_aload_n hx hb dL_areConnections_258 rfl (lv_at hl 2 rfl) ?_
                                            refine lv_iconst (v := nI 4) hx hb dL_areConnections_259 rfl ?_
                                            refine lv_iload hx hb dL_areConnections_260 (lv_at hl 7 rfl) ?_
                                            refine lv_iadd hx hb dL_areConnections_262 ?_
                                            refine lv_topi (fun q_262 e_262 => ?_)
                                            rw [nI_add] at e_262
                                            subst e_262
                                            refine zc_iald Cx hw (by omega) (v := nI ((zhv V i).1)) (g3 i (zhv V i) (zhv_get (by omega))).1 dL_areConnections_263 ?_
                                            refine lv_iconst (v := nI 2) hx hb dL_areConnections_264 rfl ?_
                                            refine lv_idiv hx hb dL_areConnections_265 (nI_ne0 (by omega) (by omega)) ?_
                                            refine lv_topi (fun q_265 e_265 => ?_)
                                            rw [pk_div (by omega) (by omega) (by omega)] at e_265
                                            subst e_265
                                            refine lv_aload_n hx hb dL_areConnections_266 rfl (lv_at hl 2 rfl) ?_
                                            refine lv_iconst (v := nI 4) hx hb dL_areConnections_267 rfl ?_
                                            refine lv_iload hx hb dL_areConnections_268 (lv_at hl 5 rfl) ?_
                                            refine lv_iadd hx hb dL_areConnections_270 ?_
                                            refine lv_topi (fun q_270 e_270 => ?_)
                                            rw [nI_add] at e_270
                                            subst e_270
                                            refine zc_iald Cx hw (by omega) (v := nI ((zhv V t).1)) (g3 t (zhv V t) (zhv_get (by omega))).1 dL_areConnections_271 ?_
                                            refine lv_iconst (v := nI 2) hx hb dL_areConnections_272 rfl ?_
                                            refine lv_idiv hx hb dL_areConnections_273 (nI_ne0 (by omega) (by omega)) ?_
                                            refine lv_topi (fun q_273 e_273 => ?_)
                                            rw [pk_div (by omega) (by omega) (by omega)] at e_273
                                            subst e_273
                                            refine lv_icmp_ne (tgt := 306) hx hb dL_areConnections_274 (by decide) (fun c_274 => ?_) (fun c_274 => ?_)
                                            · skip
                                              have n_274 : ¬ (((zhv V i).1) / 2) = (((zhv V t).1) / 2) := fun h => c_274 ((nI_eq (by omega) (by omega)).mpr h)
                                              refine lv_iconst (v := nI 1) hx hb dL_areConnections_306 rfl ?_
                                              refine lv_goto (tgt := 311) hx hb dL_areConnections_307 (by decide) ?_
                                              refine lv_istore hx hb dL_areConnections_311 hl (by decide) rfl (fun ls hl => ?_)
                                              have hl : lv_has ls 12 [(4, .int (nI 1)), (0, .ref x), (1, .ref o), (2, .int (nI q)), (3, .int (nI d2)), (5, .int (nI t)), (6, .int rc2), (7, .int (nI i)), (8, .int (nI P)), (9, .int (zSb8 V i t q)), (10, .int (zFb8 V i t q)), (11, .int (zb wk))] := hl
                                              refine lv_iinc (v := nI (i + 1)) hx hb dL_areConnections_313 hl (k := 7) rfl (nI_add _ _) (by decide) rfl (fun ls hl => ?_)
                                              have hl : lv_has ls 12 [(7, .int (nI (i + 1))), (4, .int (nI 1)), (0, .ref x), (1, .ref o), (2, .int (nI q)), (3, .int (nI d2)), (5, .int (nI t)), (6, .int rc2), (8, .int (nI P)), (9, .int (zSb8 V i t q)), (10, .int (zFb8 V i t q)), (11, .int (zb wk))] := hl
                                              refine lv_goto (tgt := 27) hx hb dL_areConnections_316 (by decide) ?_
                                              refine W.widen (show _ ≤ 660 * t + 80 * (i + 1) by omega) (show _ ≤ 6600 * t + 800 * (i + 1) by omega) ?_
                                              exact ih_27 (i + 1) d2 rc2 _ _ ls (by omega) hd2 hrc3 (by omega) hw (lv_sub hl [2, 3, 4, 5, 1, 6, 7, 0] rfl)
                                            · skip
                                              have n_274 : (((zhv V i).1) / 2) = (((zhv V t).1) / 2) := (nI_eq (by omega) (by omega)).mp c_274
                                              refine lv_aload_n hx hb dL_areConnections_277 rfl (lv_at hl 1 rfl) ?_
                                              refine lv_aload_n hx hb dL_areConnections_278 rfl (lv_at hl 2 rfl) ?_
                                              refine lv_iconst (v := nI 4) hx hb dL_areConnections_279 rfl ?_
                                              refine lv_iload hx hb dL_areConnections_280 (lv_at hl 7 rfl) ?_
                                              refine lv_iadd hx hb dL_areConnections_282 ?_
                                              refine lv_topi (fun q_282 e_282 => ?_)
                                              rw [nI_add] at e_282
                                              subst e_282
                                              refine zc_iald Cx hw (by omega) (v := nI ((zhv V i).1)) (g3 i (zhv V i) (zhv_get (by omega))).1 dL_areConnections_283 ?_
                                              refine lv_aload_n hx hb dL_areConnections_284 rfl (lv_at hl 2 rfl) ?_
                                              refine lv_bipush (v := nI 16) hx hb dL_areConnections_285 rfl ?_
                                              refine lv_iload hx hb dL_areConnections_287 (lv_at hl 5 rfl) ?_
                                              refine lv_iadd hx hb dL_areConnections_289 ?_
                                              refine lv_topi (fun q_289 e_289 => ?_)
                                              rw [nI_add] at e_289
                                              subst e_289
                                              refine zc_iald Cx hw (by omega) (v := (zhv V t).2.1) (g3 t (zhv V t) (zhv_get (by omega))).2 dL_areConnections_290 ?_
                                              refine z_goe hw.2 (z_runV Cx hw (c_q_routeFor E l _ C x V hl0 (hrc.grow (fun q hq => List.mem_append_right _ hq)) (zhv V i).1 (zhv V t).2.1 (by omega) hat.2 (by omega)) (cwV 2 Cx.1.2.2.2.2 gL_areConnections_X7_routeFor rfl rfl rfl (by decide +kernel) ⟨(Nat.le_of_ble_eq_true rfl), (Nat.le_of_ble_eq_true rfl)⟩) (z_recv Cx hw (r := (RX7, TX7, 5)) (List.mem_append_right _ hx0) rfl) rfl hl.1 rfl (Nat.le_of_ble_eq_true rfl) dL_areConnections_291 ⟨(show _ ≤ 5300 by omega), (show _ ≤ 53000 by omega)⟩) (fun H locs hw => ?_)
                                              refine lv_iconst (v := (-1)) hx hb dL_areConnections_294 rfl ?_
                                              refine lv_icmp_ne (tgt := 306) hx hb dL_areConnections_295 (by decide) (fun c_295 => ?_) (fun c_295 => ?_)
                                              · skip
                                                refine lv_iconst (v := nI 1) hx hb dL_areConnections_306 rfl ?_
                                                refine lv_goto (tgt := 311) hx hb dL_areConnections_307 (by decide) ?_
                                                refine lv_istore hx hb dL_areConnections_311 hl (by decide) rfl (fun ls hl => ?_)
                                                have hl : lv_has ls 12 [(4, .int (nI 1)), (0, .ref x), (1, .ref o), (2, .int (nI q)), (3, .int (nI d2)), (5, .int (nI t)), (6, .int rc2), (7, .int (nI i)), (8, .int (nI P)), (9, .int (zSb8 V i t q)), (10, .int (zFb8 V i t q)), (11, .int (zb wk))] := hl
                                                refine lv_iinc (v := nI (i + 1)) hx hb dL_areConnections_313 hl (k := 7) rfl (nI_add _ _) (by decide) rfl (fun ls hl => ?_)
                                                have hl : lv_has ls 12 [(7, .int (nI (i + 1))), (4, .int (nI 1)), (0, .ref x), (1, .ref o), (2, .int (nI q)), (3, .int (nI d2)), (5, .int (nI t)), (6, .int rc2), (8, .int (nI P)), (9, .int (zSb8 V i t q)), (10, .int (zFb8 V i t q)), (11, .int (zb wk))] := hl
                                                refine lv_goto (tgt := 27) hx hb dL_areConnections_316 (by decide) ?_
                                                refine W.widen (show _ ≤ 660 * t + 80 * (i + 1) by omega) (show _ ≤ 6600 * t + 800 * (i + 1) by omega) ?_
                                                exact ih_27 (i + 1) d2 rc2 _ _ ls (by omega) hd2 hrc3 (by omega) hw (lv_sub hl [2, 3, 4, 5, 1, 6, 7, 0] rfl)
                                              · skip
                                                refine lv_iload hx hb dL_areConnections_298 (lv_at hl 9 rfl) ?_
                                                refine lv_bipush (v := nI 8) hx hb dL_areConnections_300 rfl ?_
                                                refine lv_iand hx hb dL_areConnections_302 ?_
                                                refine lv_if_ne (tgt := 310) hx hb dL_areConnections_303 (by decide) (fun c_303 => ?_) (fun c_303 => ?_)
                                                · skip
                                                  exact absurd (zblocks_route hq (zopen_local (by rw [zsv_1 hL.1 hai.1, zsv_1 hL.1 hat.1]; exact n_274) c_295)) c_303
                                                · skip
                                                  refine lv_iconst (v := nI 1) hx hb dL_areConnections_306 rfl ?_
                                                  refine lv_goto (tgt := 311) hx hb dL_areConnections_307 (by decide) ?_
                                                  refine lv_istore hx hb dL_areConnections_311 hl (by decide) rfl (fun ls hl => ?_)
                                                  have hl : lv_has ls 12 [(4, .int (nI 1)), (0, .ref x), (1, .ref o), (2, .int (nI q)), (3, .int (nI d2)), (5, .int (nI t)), (6, .int rc2), (7, .int (nI i)), (8, .int (nI P)), (9, .int (zSb8 V i t q)), (10, .int (zFb8 V i t q)), (11, .int (zb wk))] := hl
                                                  refine lv_iinc (v := nI (i + 1)) hx hb dL_areConnections_313 hl (k := 7) rfl (nI_add _ _) (by decide) rfl (fun ls hl => ?_)
                                                  have hl : lv_has ls 12 [(7, .int (nI (i + 1))), (4, .int (nI 1)), (0, .ref x), (1, .ref o), (2, .int (nI q)), (3, .int (nI d2)), (5, .int (nI t)), (6, .int rc2), (8, .int (nI P)), (9, .int (zSb8 V i t q)), (10, .int (zFb8 V i t q)), (11, .int (zb wk))] := hl
                                                  refine lv_goto (tgt := 27) hx hb dL_areConnections_316 (by decide) ?_
                                                  refine W.widen (show _ ≤ 660 * t + 80 * (i + 1) by omega) (show _ ≤ 6600 * t + 800 * (i + 1) by omega) ?_
                                                  exact ih_27 (i + 1) d2 rc2 _ _ ls (by omega) hd2 hrc3 (by omega) hw (lv_sub hl [2, 3, 4, 5, 1, 6, 7, 0] rfl)
                                        · skip
                                          have n_235 : ((zhv V i).1) = ((zhv V t).1) := (nI_eq (by omega) (by omega)).mp c_235
                                          refine lv_iload hx hb dL_areConnections_238 (lv_at hl 9 rfl) ?_
                                          refine lv_bipush (v := (-35)) hx hb dL_areConnections_240 rfl ?_
                                          refine lv_iand hx hb dL_areConnections_242 ?_
                                          skip
                                          refine lv_if_ne (tgt := 250) hx hb dL_areConnections_243 (by decide) (fun c_243 => ?_) (fun c_243 => ?_)
                                          · skip
                                            exact absurd (zblocks_same hq n_235) c_243
                                          · skip
                                            refine lv_iconst (v := nI 1) hx hb dL_areConnections_246 rfl ?_
                                            refine lv_goto (tgt := 251) hx hb dL_areConnections_247 (by decide) ?_
                                            refine lv_istore hx hb dL_areConnections_251 hl (by decide) rfl (fun ls hl => ?_)
                                            have hl : lv_has ls 12 [(4, .int (nI 1)), (0, .ref x), (1, .ref o), (2, .int (nI q)), (3, .int (nI d2)), (5, .int (nI t)), (6, .int rc2), (7, .int (nI i)), (8, .int (nI P)), (9, .int (zSb8 V i t q)), (10, .int (zFb8 V i t q)), (11, .int (zb wk))] := hl
                                            refine lv_iload hx hb dL_areConnections_253 (lv_at hl 0 rfl) ?_
                                            refine lv_if_eq (tgt := 310) hx hb dL_areConnections_255 (by decide) (fun c_255 => ?_) (fun c_255 => ?_)
                                            · skip
                                              have n_255 : 1 = 0 := (nI_eq (b := 0) (by omega) (by omega)).mp c_255
                                              omega
                                            · skip
                                              have n_255 : ¬ 1 = 0 := fun h => c_255 ((nI_eq (b := 0) (by omega) (by omega)).mpr h)
                                              refine lv_aload_n hx hb dL_areConnections_258 rfl (lv_at hl 2 rfl) ?_
                                              refine lv_iconst (v := nI 4) hx hb dL_areConnections_259 rfl ?_
                                              refine lv_iload hx hb dL_areConnections_260 (lv_at hl 7 rfl) ?_
                                              refine lv_iadd hx hb dL_areConnections_262 ?_
                                              refine lv_topi (fun q_262 e_262 => ?_)
                                              rw [nI_add] at e_262
                                              subst e_262
                                              refine zc_iald Cx hw (by omega) (v := nI ((zhv V i).1)) (g3 i (zhv V i) (zhv_get (by omega))).1 dL_areConnections_263 ?_
                                              refine lv_iconst (v := nI 2) hx hb dL_areConnections_264 rfl ?_
                                              refine lv_idiv hx hb dL_areConnections_265 (nI_ne0 (by omega) (by omega)) ?_
                                              refine lv_topi (fun q_265 e_265 => ?_)
                                              rw [pk_div (by omega) (by omega) (by omega)] at e_265
                                              subst e_265
                                              refine lv_aload_n hx hb dL_areConnections_266 rfl (lv_at hl 2 rfl) ?_
                                              refine lv_iconst (v := nI 4) hx hb dL_areConnections_267 rfl ?_
                                              refine lv_iload hx hb dL_areConnections_268 (lv_at hl 5 rfl) ?_
                                              refine lv_iadd hx hb dL_areConnections_270 ?_
                                              refine lv_topi (fun q_270 e_270 => ?_)
                                              rw [nI_add] at e_270
                                              subst e_270
                                              refine zc_iald Cx hw (by omega) (v := nI ((zhv V t).1)) (g3 t (zhv V t) (zhv_get (by omega))).1 dL_areConnections_271 ?_
                                              refine lv_iconst (v := nI 2) hx hb dL_areConnections_272 rfl ?_
                                              refine lv_idiv hx hb dL_areConnections_273 (nI_ne0 (by omega) (by omega)) ?_
                                              refine lv_topi (fun q_273 e_273 => ?_)
                                              rw [pk_div (by omega) (by omega) (by omega)] at e_273
                                              subst e_273
                                              refine lv_icmp_ne (tgt := 306) hx hb dL_areConnections_274 (by decide) (fun c_274 => ?_) (fun c_274 => ?_)
                                              · skip
                                                have n_274 : ¬ (((zhv V i).1) / 2) = (((zhv V t).1) / 2) := fun h => c_274 ((nI_eq (by omega) (by omega)).mpr h)
                                                refine lv_iconst (v := nI 1) hx hb dL_areConnections_306 rfl ?_
                                                refine lv_goto (tgt := 311) hx hb dL_areConnections_307 (by decide) ?_
                                                refine lv_istore hx hb dL_areConnections_311 hl (by decide) rfl (fun ls hl => ?_)
                                                have hl : lv_has ls 12 [(4, .int (nI 1)), (0, .ref x), (1, .ref o), (2, .int (nI q)), (3, .int (nI d2)), (5, .int (nI t)), (6, .int rc2), (7, .int (nI i)), (8, .int (nI P)), (9, .int (zSb8 V i t q)), (10, .int (zFb8 V i t q)), (11, .int (zb wk))] := hl
                                                refine lv_iinc (v := nI (i + 1)) hx hb dL_areConnections_313 hl (k := 7) rfl (nI_add _ _) (by decide) rfl (fun ls hl => ?_)
                                                have hl : lv_has ls 12 [(7, .int (nI (i + 1))), (4, .int (nI 1)), (0, .ref x), (1, .ref o), (2, .int (nI q)), (3, .int (nI d2)), (5, .int (nI t)), (6, .int rc2), (8, .int (nI P)), (9, .int (zSb8 V i t q)), (10, .int (zFb8 V i t q)), (11, .int (zb wk))] := hl
                                                refine lv_goto (tgt := 27) hx hb dL_areConnections_316 (by decide) ?_
                                                refine W.widen (show _ ≤ 660 * t + 80 * (i + 1) by omega) (show _ ≤ 6600 * t + 800 * (i + 1) by omega) ?_
                                                exact ih_27 (i + 1) d2 rc2 _ _ ls (by omega) hd2 hrc3 (by omega) hw (lv_sub hl [2, 3, 4, 5, 1, 6, 7, 0] rfl)
                                              · skip
                                                have n_274 : (((zhv V i).1) / 2) = (((zhv V t).1) / 2) := (nI_eq (by omega) (by omega)).mp c_274
                                                refine lv_aload_n hx hb dL_areConnections_277 rfl (lv_at hl 1 rfl) ?_
                                                refine lv_aload_n hx hb dL_areConnections_278 rfl (lv_at hl 2 rfl) ?_
                                                refine lv_iconst (v := nI 4) hx hb dL_areConnections_279 rfl ?_
                                                refine lv_iload hx hb dL_areConnections_280 (lv_at hl 7 rfl) ?_
                                                refine lv_iadd hx hb dL_areConnections_282 ?_
                                                refine lv_topi (fun q_282 e_282 => ?_)
                                                rw [nI_add] at e_282
                                                subst e_282
                                                refine zc_iald Cx hw (by omega) (v := nI ((zhv V i).1)) (g3 i (zhv V i) (zhv_get (by omega))).1 dL_areConnections_283 ?_
                                                refine lv_aload_n hx hb dL_areConnections_284 rfl (lv_at hl 2 rfl) ?_
                                                refine lv_bipush (v := nI 16) hx hb dL_areConnections_285 rfl ?_
                                                refine lv_iload hx hb dL_areConnections_287 (lv_at hl 5 rfl) ?_
                                                refine lv_iadd hx hb dL_areConnections_289 ?_
                                                refine lv_topi (fun q_289 e_289 => ?_)
                                                rw [nI_add] at e_289
                                                subst e_289
                                                refine zc_iald Cx hw (by omega) (v := (zhv V t).2.1) (g3 t (zhv V t) (zhv_get (by omega))).2 dL_areConnections_290 ?_
                                                refine z_goe hw.2 (z_runV Cx hw (c_q_routeFor E l _ C x V hl0 (hrc.grow (fun q hq => List.mem_append_right _ hq)) (zhv V i).1 (zhv V t).2.1 (by omega) hat.2 (by omega)) (cwV 2 Cx.1.2.2.2.2 gL_areConnections_X7_routeFor rfl rfl rfl (by decide +kernel) ⟨(Nat.le_of_ble_eq_true rfl), (Nat.le_of_ble_eq_true rfl)⟩) (z_recv Cx hw (r := (RX7, TX7, 5)) (List.mem_append_right _ hx0) rfl) rfl hl.1 rfl (Nat.le_of_ble_eq_true rfl) dL_areConnections_291 ⟨(show _ ≤ 5300 by omega), (show _ ≤ 53000 by omega)⟩) (fun H locs hw => ?_)
                                                refine lv_iconst (v := (-1)) hx hb dL_areConnections_294 rfl ?_
                                                refine lv_icmp_ne (tgt := 306) hx hb dL_areConnections_295 (by decide) (fun c_295 => ?_) (fun c_295 => ?_)
                                                · skip
                                                  refine lv_iconst (v := nI 1) hx hb dL_areConnections_306 rfl ?_
                                                  refine lv_goto (tgt := 311) hx hb dL_areConnections_307 (by decide) ?_
                                                  refine lv_istore hx hb dL_areConnections_311 hl (by decide) rfl (fun ls hl => ?_)
                                                  have hl : lv_has ls 12 [(4, .int (nI 1)), (0, .ref x), (1, .ref o), (2, .int (nI q)), (3, .int (nI d2)), (5, .int (nI t)), (6, .int rc2), (7, .int (nI i)), (8, .int (nI P)), (9, .int (zSb8 V i t q)), (10, .int (zFb8 V i t q)), (11, .int (zb wk))] := hl
                                                  refine lv_iinc (v := nI (i + 1)) hx hb dL_areConnections_313 hl (k := 7) rfl (nI_add _ _) (by decide) rfl (fun ls hl => ?_)
                                                  have hl : lv_has ls 12 [(7, .int (nI (i + 1))), (4, .int (nI 1)), (0, .ref x), (1, .ref o), (2, .int (nI q)), (3, .int (nI d2)), (5, .int (nI t)), (6, .int rc2), (8, .int (nI P)), (9, .int (zSb8 V i t q)), (10, .int (zFb8 V i t q)), (11, .int (zb wk))] := hl
                                                  refine lv_goto (tgt := 27) hx hb dL_areConnections_316 (by decide) ?_
                                                  refine W.widen (show _ ≤ 660 * t + 80 * (i + 1) by omega) (show _ ≤ 6600 * t + 800 * (i + 1) by omega) ?_
                                                  exact ih_27 (i + 1) d2 rc2 _ _ ls (by omega) hd2 hrc3 (by omega) hw (lv_sub hl [2, 3, 4, 5, 1, 6, 7, 0] rfl)
                                                · skip
                                                  refine lv_iload hx hb dL_areConnections_298 (lv_at hl 9 rfl) ?_
                                                  refine lv_bipush (v := nI 8) hx hb dL_areConnections_300 rfl ?_
                                                  refine lv_iand hx hb dL_areConnections_302 ?_
                                                  refine lv_if_ne (tgt := 310) hx hb dL_areConnections_303 (by decide) (fun c_303 => ?_) (fun c_303 => ?_)
                                                  · skip
                                                    exact absurd (zblocks_route hq (zopen_local (by rw [zsv_1 hL.1 hai.1, zsv_1 hL.1 hat.1]; exact n_274) c_295)) c_303
                                                  · skip
                                                    refine lv_iconst (v := nI 1) hx hb dL_areConnections_306 rfl ?_
                                                    refine lv_goto (tgt := 311) hx hb dL_areConnections_307 (by decide) ?_
                                                    refine lv_istore hx hb dL_areConnections_311 hl (by decide) rfl (fun ls hl => ?_)
                                                    have hl : lv_has ls 12 [(4, .int (nI 1)), (0, .ref x), (1, .ref o), (2, .int (nI q)), (3, .int (nI d2)), (5, .int (nI t)), (6, .int rc2), (7, .int (nI i)), (8, .int (nI P)), (9, .int (zSb8 V i t q)), (10, .int (zFb8 V i t q)), (11, .int (zb wk))] := hl
                                                    refine lv_iinc (v := nI (i + 1)) hx hb dL_areConnections_313 hl (k := 7) rfl (nI_add _ _) (by decide) rfl (fun ls hl => ?_)
                                                    have hl : lv_has ls 12 [(7, .int (nI (i + 1))), (4, .int (nI 1)), (0, .ref x), (1, .ref o), (2, .int (nI q)), (3, .int (nI d2)), (5, .int (nI t)), (6, .int rc2), (8, .int (nI P)), (9, .int (zSb8 V i t q)), (10, .int (zFb8 V i t q)), (11, .int (zb wk))] := hl
                                                    refine lv_goto (tgt := 27) hx hb dL_areConnections_316 (by decide) ?_
                                                    refine W.widen (show _ ≤ 660 * t + 80 * (i + 1) by omega) (show _ ≤ 6600 * t + 800 * (i + 1) by omega) ?_
                                                    exact ih_27 (i + 1) d2 rc2 _ _ ls (by omega) hd2 hrc3 (by omega) hw (lv_sub hl [2, 3, 4, 5, 1, 6, 7, 0] rfl)
                    refine lv_istore hx hb dL_areConnections_77 hl (by decide) rfl (fun ls hl => ?_)
                    have hl : lv_has ls 12 [(10, .int (zFb8 V i t q)), (9, .int (zSb8 V i t q)), (8, .int (nI P)), (0, .ref x), (1, .ref o), (2, .int (nI q)), (3, .int (nI d)), (4, .int (nI 1)), (5, .int (nI t)), (6, .int rc), (7, .int (nI i))] := hl
                    have K1 := zwS V i t q
                    have K2 := zwF V i t q
                    refine lv_iload hx hb dL_areConnections_79 (lv_at hl 2 rfl) ?_
                    refine lv_iload_n hx hb dL_areConnections_81 rfl (lv_at hl 5 rfl) ?_
                    refine lv_ishr hx hb dL_areConnections_82 ?_
                    refine lv_iconst (v := nI 1) hx hb dL_areConnections_83 rfl ?_
                    refine lv_iand hx hb dL_areConnections_84 ?_
                    refine lv_topi (fun q_84 e_84 => ?_)
                    have f_84 : q_84 = zb (zWb8 V i t q) := by
                      rw [e_84, ← eP]; exact (zbit_shr _ q (by omega)).trans (by rw [zW_e hq])
                    clear e_84
                    subst f_84
                    refine lv_iconst (v := nI 1) hx hb dL_areConnections_85 rfl ?_
                    refine lv_icmp_ne (tgt := 93) hx hb dL_areConnections_86 (by decide) (fun c_86 => ?_) (fun c_86 => ?_)
                    · skip
                      have hwk0 : zWb8 V i t q = false := by
                        cases h9 : zWb8 V i t q with
                        | false => rfl
                        | true => exact absurd (by rw [h9]; rfl) c_86
                      refine lv_iconst (v := zb false) hx hb dL_areConnections_93 rfl ?_
                      refine lv_istore hx hb dL_areConnections_94 hl (by decide) rfl (fun ls hl => ?_)
                      have hl : lv_has ls 12 [(11, .int (zb false)), (10, .int (zFb8 V i t q)), (9, .int (zSb8 V i t q)), (8, .int (nI P)), (0, .ref x), (1, .ref o), (2, .int (nI q)), (3, .int (nI d)), (4, .int (nI 1)), (5, .int (nI t)), (6, .int rc), (7, .int (nI i))] := hl
                      refine lv_iload_n hx hb dL_areConnections_96 rfl (lv_at hl 7 rfl) ?_
                      refine lv_iload hx hb dL_areConnections_97 (lv_at hl 0 rfl) ?_
                      refine lv_if_eq (tgt := 106) hx hb dL_areConnections_99 (by decide) (fun c_99 => ?_) (fun c_99 => ?_)
                      · skip
                        refine lv_iconst (v := nI 0) hx hb dL_areConnections_106 rfl ?_
                        refine lv_iadd hx hb dL_areConnections_107 ?_
                        refine lv_topi (fun q_107 e_107 => ?_)
                        rw [nI_add] at e_107
                        subst e_107
                        refine lv_istore_n hx hb dL_areConnections_108 rfl hl (by decide) rfl (fun ls hl => ?_)
                        have hl : lv_has ls 12 [(3, .int (nI (d + 0))), (11, .int (zb false)), (10, .int (zFb8 V i t q)), (9, .int (zSb8 V i t q)), (8, .int (nI P)), (0, .ref x), (1, .ref o), (2, .int (nI q)), (4, .int (nI 1)), (5, .int (nI t)), (6, .int rc), (7, .int (nI i))] := hl
                        refine lv_iload hx hb dL_areConnections_109 (lv_at hl 10 rfl) ?_
                        refine lv_iload hx hb dL_areConnections_111 (lv_at hl 4 rfl) ?_
                        refine lv_if_ne (tgt := 120) hx hb dL_areConnections_113 (by decide) (fun c_113 => ?_) (fun c_113 => ?_)
                        · skip
                          have n_113 : ¬ P = 0 := fun h => c_113 ((nI_eq (b := 0) (by omega) (by omega)).mpr h)
                          refine lv_iconst (v := nI 1) hx hb dL_areConnections_120 rfl ?_
                          refine lv_iload hx hb dL_areConnections_121 (lv_at hl 11 rfl) ?_
                          refine lv_ishl hx hb dL_areConnections_123 ?_
                          refine lv_ior hx hb dL_areConnections_124 ?_
                          refine lv_topi (fun q_124 e_124 => ?_)
                          have f_124 : q_124 = rc + zbit (nI i) := by
                            rw [e_124, hrc2]; exact zRp_or V t i (by omega)
                          clear e_124
                          subst f_124
                          refine lv_istore hx hb dL_areConnections_125 hl (by decide) rfl (fun ls hl => ?_)
                          have hl : lv_has ls 12 [(6, .int (rc + zbit (nI i))), (3, .int (nI (d + 0))), (11, .int (zb false)), (10, .int (zFb8 V i t q)), (9, .int (zSb8 V i t q)), (8, .int (nI P)), (0, .ref x), (1, .ref o), (2, .int (nI q)), (4, .int (nI 1)), (5, .int (nI t)), (7, .int (nI i))] := hl
                          exact cut_127 (d + 0) (rc + zbit (nI i)) false _ _ ls (by have hz := zlc_s V q t i; rw [zpw_e hq n_44, hwk0] at hz; simp only [if_true, Bool.false_eq_true, if_false] at hz; omega) (by rw [zRp, if_pos ⟨n_44, fun h => n_113 ((zn_e0 (by omega)).mp (eP.symm.trans h))⟩, hrc2]) hwk0.symm hw (lv_sub hl [6, 7, 8, 1, 9, 10, 0, 11, 5, 4, 3, 2] rfl)
                        · skip
                          have n_113 : P = 0 := (nI_eq (b := 0) (by omega) (by omega)).mp c_113
                          refine lv_iconst (v := nI 0) hx hb dL_areConnections_116 rfl ?_
                          refine lv_goto (tgt := 124) hx hb dL_areConnections_117 (by decide) ?_
                          refine lv_ior hx hb dL_areConnections_124 ?_
                          refine lv_topi (fun q_124 e_124 => ?_)
                          have f_124 : q_124 = rc := by
                            rw [e_124]; exact zx_or0 rc
                          clear e_124
                          rw [f_124]
                          refine lv_istore hx hb dL_areConnections_125 hl (by decide) rfl (fun ls hl => ?_)
                          have hl : lv_has ls 12 [(6, .int rc), (3, .int (nI (d + 0))), (11, .int (zb false)), (10, .int (zFb8 V i t q)), (9, .int (zSb8 V i t q)), (8, .int (nI P)), (0, .ref x), (1, .ref o), (2, .int (nI q)), (4, .int (nI 1)), (5, .int (nI t)), (7, .int (nI i))] := hl
                          exact cut_127 (d + 0) rc false _ _ ls (by have hz := zlc_s V q t i; rw [zpw_e hq n_44, hwk0] at hz; simp only [if_true, Bool.false_eq_true, if_false] at hz; omega) (by rw [zRp, if_neg (fun h => h.2 (by rw [eP, n_113]; rfl))]; exact hrc2) hwk0.symm hw (lv_sub hl [6, 7, 8, 1, 9, 10, 0, 11, 5, 4, 3, 2] rfl)
                      · skip
                        exact absurd rfl c_99
                    · skip
                      have hwk0 : zWb8 V i t q = true := (zn_one _).mp c_86
                      refine lv_iconst (v := zb true) hx hb dL_areConnections_89 rfl ?_
                      refine lv_goto (tgt := 94) hx hb dL_areConnections_90 (by decide) ?_
                      refine lv_istore hx hb dL_areConnections_94 hl (by decide) rfl (fun ls hl => ?_)
                      have hl : lv_has ls 12 [(11, .int (zb true)), (10, .int (zFb8 V i t q)), (9, .int (zSb8 V i t q)), (8, .int (nI P)), (0, .ref x), (1, .ref o), (2, .int (nI q)), (3, .int (nI d)), (4, .int (nI 1)), (5, .int (nI t)), (6, .int rc), (7, .int (nI i))] := hl
                      refine lv_iload_n hx hb dL_areConnections_96 rfl (lv_at hl 7 rfl) ?_
                      refine lv_iload hx hb dL_areConnections_97 (lv_at hl 0 rfl) ?_
                      refine lv_if_eq (tgt := 106) hx hb dL_areConnections_99 (by decide) (fun c_99 => ?_) (fun c_99 => ?_)
                      · skip
                        exact absurd c_99 (by decide)
                      · skip
                        refine lv_iconst (v := nI 1) hx hb dL_areConnections_102 rfl ?_
                        refine lv_goto (tgt := 107) hx hb dL_areConnections_103 (by decide) ?_
                        refine lv_iadd hx hb dL_areConnections_107 ?_
                        refine lv_topi (fun q_107 e_107 => ?_)
                        rw [nI_add] at e_107
                        subst e_107
                        refine lv_istore_n hx hb dL_areConnections_108 rfl hl (by decide) rfl (fun ls hl => ?_)
                        have hl : lv_has ls 12 [(3, .int (nI (d + 1))), (11, .int (zb true)), (10, .int (zFb8 V i t q)), (9, .int (zSb8 V i t q)), (8, .int (nI P)), (0, .ref x), (1, .ref o), (2, .int (nI q)), (4, .int (nI 1)), (5, .int (nI t)), (6, .int rc), (7, .int (nI i))] := hl
                        refine lv_iload hx hb dL_areConnections_109 (lv_at hl 10 rfl) ?_
                        refine lv_iload hx hb dL_areConnections_111 (lv_at hl 4 rfl) ?_
                        refine lv_if_ne (tgt := 120) hx hb dL_areConnections_113 (by decide) (fun c_113 => ?_) (fun c_113 => ?_)
                        · skip
                          have n_113 : ¬ P = 0 := fun h => c_113 ((nI_eq (b := 0) (by omega) (by omega)).mpr h)
                          refine lv_iconst (v := nI 1) hx hb dL_areConnections_120 rfl ?_
                          refine lv_iload hx hb dL_areConnections_121 (lv_at hl 11 rfl) ?_
                          refine lv_ishl hx hb dL_areConnections_123 ?_
                          refine lv_ior hx hb dL_areConnections_124 ?_
                          refine lv_topi (fun q_124 e_124 => ?_)
                          have f_124 : q_124 = rc + zbit (nI i) := by
                            rw [e_124, hrc2]; exact zRp_or V t i (by omega)
                          clear e_124
                          subst f_124
                          refine lv_istore hx hb dL_areConnections_125 hl (by decide) rfl (fun ls hl => ?_)
                          have hl : lv_has ls 12 [(6, .int (rc + zbit (nI i))), (3, .int (nI (d + 1))), (11, .int (zb true)), (10, .int (zFb8 V i t q)), (9, .int (zSb8 V i t q)), (8, .int (nI P)), (0, .ref x), (1, .ref o), (2, .int (nI q)), (4, .int (nI 1)), (5, .int (nI t)), (7, .int (nI i))] := hl
                          exact cut_127 (d + 1) (rc + zbit (nI i)) true _ _ ls (by have hz := zlc_s V q t i; rw [zpw_e hq n_44, hwk0] at hz; simp only [if_true, Bool.false_eq_true, if_false] at hz; omega) (by rw [zRp, if_pos ⟨n_44, fun h => n_113 ((zn_e0 (by omega)).mp (eP.symm.trans h))⟩, hrc2]) hwk0.symm hw (lv_sub hl [6, 7, 8, 1, 9, 10, 0, 11, 5, 4, 3, 2] rfl)
                        · skip
                          have n_113 : P = 0 := (nI_eq (b := 0) (by omega) (by omega)).mp c_113
                          refine lv_iconst (v := nI 0) hx hb dL_areConnections_116 rfl ?_
                          refine lv_goto (tgt := 124) hx hb dL_areConnections_117 (by decide) ?_
                          refine lv_ior hx hb dL_areConnections_124 ?_
                          refine lv_topi (fun q_124 e_124 => ?_)
                          have f_124 : q_124 = rc := by
                            rw [e_124]; exact zx_or0 rc
                          clear e_124
                          rw [f_124]
                          refine lv_istore hx hb dL_areConnections_125 hl (by decide) rfl (fun ls hl => ?_)
                          have hl : lv_has ls 12 [(6, .int rc), (3, .int (nI (d + 1))), (11, .int (zb true)), (10, .int (zFb8 V i t q)), (9, .int (zSb8 V i t q)), (8, .int (nI P)), (0, .ref x), (1, .ref o), (2, .int (nI q)), (4, .int (nI 1)), (5, .int (nI t)), (7, .int (nI i))] := hl
                          exact cut_127 (d + 1) rc true _ _ ls (by have hz := zlc_s V q t i; rw [zpw_e hq n_44, hwk0] at hz; simp only [if_true, Bool.false_eq_true, if_false] at hz; omega) (by rw [zRp, if_neg (fun h => h.2 (by rw [eP, n_113]; rfl))]; exact hrc2) hwk0.symm hw (lv_sub hl [6, 7, 8, 1, 9, 10, 0, 11, 5, 4, 3, 2] rfl)
          exact loop_27 (((vH V).length - 0) + 1) 0 cn 0 _ _ ls (Nat.zero_le _) rfl rfl (Nat.lt_succ_self _) hw (lv_sub hl [2, 3, 4, 5, 6, 7, 1, 0] rfl)
  exact loop_8 (((vH V).length - 0) + 1) 0 0 _ _ ls (Nat.zero_le _) rfl (Nat.lt_succ_self _) hw (lv_sub hl [3, 4, 5, 2, 1, 0] rfl)

