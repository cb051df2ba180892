set_option maxRecDepth 100000 in
set_option maxHeartbeats 4000000 in
/-- Subnet.listPorts -/
theorem c_X6_listPorts (E : zG) (l : Launch) (Z : va_W) (C : zLs) (a nw bk rt : Nat) (inw x : Int32) (q : Nat) (es : List Nat) (vs : List zRl) (hq : C q = some es) (hls : zls (zrl Z) es vs) (hn : es.length ≤ 1000) (hs : (a, Sum.inr (9, [.ref nw, .ref bk, .ref q, .ref rt])) ∈ Z)  : Met l yX6_listPorts wsX6_listPorts (zR 3 0 0) (zPre E [.ref a, .int inw, .int x] (zQ E Z C)) (zRi E (zQ E Z C) (zlp inw x vs 0 0 0)) 0 0 (eA E) := by
  refine z_of (cc := cX6_listPorts) (maxL := 8) (ret := (some .int)) (by decide) rfl rfl (Nat.le_of_ble_eq_true rfl) ?_
  intro p e s m below meth c ls Cx hr hnm hw hl
  have hx := Cx.1.1
  have hb := Cx.1.2.1
  have hl : lv_has ls 8 [(0, .ref a), (1, .int inw), (2, .int x)] := hl
  refine lv_iconst (v := 0) hx hb dX6_listPorts_0 (by decide) ?_
  refine lv_istore_n hx hb dX6_listPorts_1 rfl hl (by decide) rfl (fun ls hl => ?_)
  have hl : lv_has ls 8 [(3, _), (0, .ref a), (1, .int inw), (2, .int x)] := hl
  refine lv_iconst (v := 0) hx hb dX6_listPorts_2 (by decide) ?_
  refine lv_istore hx hb dX6_listPorts_3 hl (by decide) rfl (fun ls hl => ?_)
  have hl : lv_has ls 8 [(4, _), (3, _), (0, .ref a), (1, .int inw), (2, .int x)] := hl
  refine lv_iconst (v := 0) hx hb dX6_listPorts_5 (by decide) ?_
  refine lv_istore hx hb dX6_listPorts_6 hl (by decide) rfl (fun ls hl => ?_)
  have hl : lv_has ls 8 [(5, _), (4, _), (3, _), (0, .ref a), (1, .int inw), (2, .int x)] := hl
  refine lv_iconst (v := nI 0) hx hb dX6_listPorts_8 rfl ?_
  refine lv_istore hx hb dX6_listPorts_9 hl (by decide) rfl (fun ls hl => ?_)
  have hl : lv_has ls 8 [(6, .int (nI 0)), (5, _), (4, _), (3, _), (0, .ref a), (1, .int inw), (2, .int x)] := hl
  have loop_11 : ∀ (nn : Nat) (i : Nat) (kk dd oo : Int32) (H : Heap) (locs : List Loc) (ls : Array Slot), (i ≤ es.length) → (zlp inw x (vs.drop i) kk dd oo = zlp inw x vs 0 0 0) → es.length - i < nn → zHw E (zQ E Z C) s H locs → lv_has ls 8 [(0, .ref a), (1, .int inw), (2, .int x), (3, .int kk), (4, .int dd), (5, .int oo), (6, .int (nI i))] → W p l e (zR 3 0 0) s m ([.ref a, .int inw, .int x] : List Value).toArray below meth c H locs 0 0 (MQ below (zRi E (zQ E Z C) (zlp inw x vs 0 0 0)) ([.ref a, .int inw, .int x] : List Value).toArray s 0 0 (eA E)) (F0 m 11 ls []) := by
    intro nn
    induction nn with
    | zero => intro i kk dd oo H locs ls hi hacc hm; exact absurd hm (Nat.not_lt_zero _)
    | succ nn ih =>
      intro i kk dd oo H locs ls hi hacc hm hw hl
      refine lv_iload hx hb dX6_listPorts_11 (lv_at hl 6 rfl) ?_
      refine lv_aload_n hx hb dX6_listPorts_13 rfl (lv_at hl 0 rfl) ?_
      refine z_get Cx hw (T := TX6) (N := 4) (ci := 9) (fun _ h => List.mem_cons_of_mem _ (List.mem_append_left _ (List.mem_append_left _ (List.mem_append_left _ (List.mem_append_right _ (h)))))) hs rfl 2 (by decide) (List.mem_of_getElem? (i := 1) rfl) rfl rfl dX6_listPorts_14 ?_
      refine z_goe hw.2 (z_runV Cx hw (c_al_size E l Z C q es hq) (cwV 0 Cx.1.2.2.2.2 gX6_listPorts_Jx4a65c_size_8abf5 rfl rfl rfl (by decide +kernel) ⟨Nat.le_of_ble_eq_true rfl, Nat.le_of_ble_eq_true rfl⟩) (z_recvL Cx hw hq) rfl hl.1 rfl (Nat.le_of_ble_eq_true rfl) dX6_listPorts_17 ⟨Nat.le_of_ble_eq_true rfl, Nat.le_of_ble_eq_true rfl⟩) (fun H locs hw => ?_)
      refine lv_icmp_ge (tgt := 103) hx hb dX6_listPorts_20 (by decide) (fun c_20 => ?_) (fun c_20 => ?_)
      · skip
        rw [z_end hls hi c_20 hn, zlp] at hacc
        refine lv_iload_n hx hb dX6_listPorts_103 rfl (lv_at hl 3 rfl) ?_
        refine lv_if_eq (tgt := 112) hx hb dX6_listPorts_104 (by decide) (fun c_104 => ?_) (fun c_104 => ?_)
        · skip
          refine lv_ldc hx hb Cx.1.2.2.2.1 (Cx.1.2.2.2.2 (Cond.constant RX6 53 (65535)) (List.mem_of_getElem? (i := 6) rfl)) dX6_listPorts_112 ?_
          exact (z_ie Cx hr rfl (Nat.le_of_ble_eq_true rfl) (Nat.le_of_ble_eq_true rfl) hw dX6_listPorts_114 (by first | (rw [if_pos c_104] at hacc; exact hacc) | (rw [if_neg c_104] at hacc; exact hacc)))
        · skip
          refine lv_iload hx hb dX6_listPorts_107 (lv_at hl 5 rfl) ?_
          refine lv_goto (tgt := 114) hx hb dX6_listPorts_109 (by decide) ?_
          exact (z_ie Cx hr rfl (Nat.le_of_ble_eq_true rfl) (Nat.le_of_ble_eq_true rfl) hw dX6_listPorts_114 (by first | (rw [if_pos c_104] at hacc; exact hacc) | (rw [if_neg c_104] at hacc; exact hacc)))
      · skip
        have hi2 := z_lt hi c_20 hn
        obtain ⟨ai, v, ha, hv, hp, hd⟩ := z_at hls hi2
        rw [hd] at hacc
        obtain ⟨bi, hb1, hb2⟩ := hp
        refine lv_aload_n hx hb dX6_listPorts_23 rfl (lv_at hl 0 rfl) ?_
        refine z_get Cx hw (T := TX6) (N := 4) (ci := 9) (fun _ h => List.mem_cons_of_mem _ (List.mem_append_left _ (List.mem_append_left _ (List.mem_append_left _ (List.mem_append_right _ (h)))))) hs rfl 2 (by decide) (List.mem_of_getElem? (i := 1) rfl) rfl rfl dX6_listPorts_24 ?_
        refine lv_iload hx hb dX6_listPorts_27 (lv_at hl 6 rfl) ?_
        refine z_goer hw.2 (z_runV Cx hw (c_al_get E l Z C q es hq i ai ha) (cwV 1 Cx.1.2.2.2.2 gX6_listPorts_Jx4a65c_get_915e3 rfl rfl rfl (by decide +kernel) ⟨Nat.le_of_ble_eq_true rfl, Nat.le_of_ble_eq_true rfl⟩) (z_recvL Cx hw hq) rfl hl.1 rfl (Nat.le_of_ble_eq_true rfl) dX6_listPorts_29 ⟨Nat.le_of_ble_eq_true rfl, Nat.le_of_ble_eq_true rfl⟩) (fun H locs hw => ?_)
        refine z_cast Cx hw (r := (RX5, TX5, 4)) hb1 rfl (List.mem_of_getElem? (i := 2) rfl) dX6_listPorts_32 ?_
        refine lv_astore hx hb dX6_listPorts_35 hl (by decide) rfl (fun ls hl => ?_)
        have hl : lv_has ls 8 [(7, .ref ai), (0, .ref a), (1, .int inw), (2, .int x), (3, .int kk), (4, .int dd), (5, .int oo), (6, .int (nI i))] := hl
        refine lv_iload_n hx hb dX6_listPorts_37 rfl (lv_at hl 4 rfl) ?_
        refine lv_aload hx hb dX6_listPorts_38 (lv_at hl 0 rfl) ?_
        refine z_get Cx hw (T := TX5) (N := 4) (ci := 8) (fun _ h => List.mem_cons_of_mem _ (List.mem_append_left _ (List.mem_append_left _ (List.mem_append_right _ (h))))) hb1 rfl 0 (by decide) (List.mem_of_getElem? (i := 3) rfl) rfl rfl dX6_listPorts_40 ?_
        refine lv_iload_n hx hb dX6_listPorts_43 rfl (lv_at hl 2 rfl) ?_
        refine lv_icmp_ne (tgt := 51) hx hb dX6_listPorts_44 (by decide) (fun c_44 => ?_) (fun c_44 => ?_)
        · skip
          have e_44 : (0 : Int32) = zb (decide (v.1 = inw)) := by rw [decide_eq_false c_44]; rfl
          refine lv_iconst (v := 0) hx hb dX6_listPorts_51 (by decide) ?_
          refine lv_ior hx hb dX6_listPorts_52 ?_
          refine lv_topi (fun x_52 ex_52 => ?_)
          rw [e_44] at ex_52
          refine lv_istore_n hx hb dX6_listPorts_53 rfl hl (by decide) rfl (fun ls hl => ?_)
          have hl : lv_has ls 8 [(3, _), (7, .ref ai), (0, .ref a), (1, .int inw), (2, .int x), (4, .int dd), (5, .int oo), (6, .int (nI i))] := hl
          refine lv_aload hx hb dX6_listPorts_54 (lv_at hl 1 rfl) ?_
          refine lv_iload_n hx hb dX6_listPorts_56 rfl (lv_at hl 3 rfl) ?_
          refine lv_iload_n hx hb dX6_listPorts_57 rfl (lv_at hl 4 rfl) ?_
          refine z_goe hw.2 (z_runV Cx hw (c_X5_isFor E l Z C ai v inw x ⟨bi, hb1, hb2⟩) (cwV 2 Cx.1.2.2.2.2 gX6_listPorts_X5_isFor rfl rfl rfl (by decide +kernel) ⟨Nat.le_of_ble_eq_true rfl, Nat.le_of_ble_eq_true rfl⟩) (z_recv Cx hw (r := (RX5, TX5, 4)) hb1 rfl) rfl hl.1 rfl (Nat.le_of_ble_eq_true rfl) dX6_listPorts_58 ⟨Nat.le_of_ble_eq_true rfl, Nat.le_of_ble_eq_true rfl⟩) (fun H locs hw => ?_)
          refine lv_if_eq (tgt := 97) hx hb dX6_listPorts_61 (by decide) (fun c_61 => ?_) (fun c_61 => ?_)
          · skip
            have c_62 := (zb_0 _).mp c_61
            have hacc2 : zlp inw x (vs.drop (i + 1)) x_52 dd oo = zlp inw x vs 0 0 0 := by rw [← hacc, zlp, c_62, ex_52]; rfl
            refine lv_iinc (v := nI (i + 1)) hx hb dX6_listPorts_97 hl (k := 7) rfl (nI_1 i) (by decide) rfl (fun ls hl => ?_)
            have hl : lv_has ls 8 [(6, .int (nI (i + 1))), (3, _), (7, .ref ai), (0, .ref a), (1, .int inw), (2, .int x), (4, .int dd), (5, .int oo)] := hl
            refine lv_goto (tgt := 11) hx hb dX6_listPorts_100 (by decide) ?_
            exact ih (i + 1) _ _ _ H _ ls (by omega) hacc2 (by omega) hw (lv_sub hl [3, 4, 5, 1, 6, 7, 0] rfl)
          · skip
            have c_62 := (zb_1 _).mp c_61
            refine lv_aload hx hb dX6_listPorts_64 (lv_at hl 1 rfl) ?_
            refine z_get Cx hw (T := TX5) (N := 4) (ci := 8) (fun _ h => List.mem_cons_of_mem _ (List.mem_append_left _ (List.mem_append_left _ (List.mem_append_right _ (h))))) hb1 rfl 1 (by decide) (List.mem_of_getElem? (i := 4) rfl) rfl rfl dX6_listPorts_66 ?_
            refine lv_if_eq (tgt := 87) hx hb dX6_listPorts_69 (by decide) (fun c_69 => ?_) (fun c_69 => ?_)
            · skip
              have hacc2 : zlp inw x (vs.drop (i + 1)) x_52 (dd ||| v.2.2.2) oo = zlp inw x vs 0 0 0 := by rw [← hacc, zlp, c_62, if_pos rfl, if_pos c_69, ex_52]
              refine lv_iload hx hb dX6_listPorts_87 (lv_at hl 5 rfl) ?_
              refine lv_aload hx hb dX6_listPorts_89 (lv_at hl 1 rfl) ?_
              refine z_get Cx hw (T := TX5) (N := 4) (ci := 8) (fun _ h => List.mem_cons_of_mem _ (List.mem_append_left _ (List.mem_append_left _ (List.mem_append_right _ (h))))) hb1 rfl 3 (by decide) (List.mem_of_getElem? (i := 5) rfl) rfl rfl dX6_listPorts_91 ?_
              refine lv_ior hx hb dX6_listPorts_94 ?_
              refine lv_istore hx hb dX6_listPorts_95 hl (by decide) rfl (fun ls hl => ?_)
              have hl : lv_has ls 8 [(4, _), (3, _), (7, .ref ai), (0, .ref a), (1, .int inw), (2, .int x), (5, .int oo), (6, .int (nI i))] := hl
              refine lv_iinc (v := nI (i + 1)) hx hb dX6_listPorts_97 hl (k := 7) rfl (nI_1 i) (by decide) rfl (fun ls hl => ?_)
              have hl : lv_has ls 8 [(6, .int (nI (i + 1))), (4, _), (3, _), (7, .ref ai), (0, .ref a), (1, .int inw), (2, .int x), (5, .int oo)] := hl
              refine lv_goto (tgt := 11) hx hb dX6_listPorts_100 (by decide) ?_
              exact ih (i + 1) _ _ _ H _ ls (by omega) hacc2 (by omega) hw (lv_sub hl [4, 5, 6, 2, 1, 7, 0] rfl)
            · skip
              have hacc2 : zlp inw x (vs.drop (i + 1)) x_52 (dd ||| v.2.2.2) (oo ||| (v.2.2.2 &&& (dd ^^^ -1))) = zlp inw x vs 0 0 0 := by rw [← hacc, zlp, c_62, if_pos rfl, if_neg c_69, ex_52]
              refine lv_iload hx hb dX6_listPorts_72 (lv_at hl 6 rfl) ?_
              refine lv_aload hx hb dX6_listPorts_74 (lv_at hl 1 rfl) ?_
              refine z_get Cx hw (T := TX5) (N := 4) (ci := 8) (fun _ h => List.mem_cons_of_mem _ (List.mem_append_left _ (List.mem_append_left _ (List.mem_append_right _ (h))))) hb1 rfl 3 (by decide) (List.mem_of_getElem? (i := 5) rfl) rfl rfl dX6_listPorts_76 ?_
              refine lv_iload hx hb dX6_listPorts_79 (lv_at hl 5 rfl) ?_
              refine lv_iconst (v := -1) hx hb dX6_listPorts_81 (by decide) ?_
              refine lv_ixor hx hb dX6_listPorts_82 ?_
              refine lv_iand hx hb dX6_listPorts_83 ?_
              refine lv_ior hx hb dX6_listPorts_84 ?_
              refine lv_istore hx hb dX6_listPorts_85 hl (by decide) rfl (fun ls hl => ?_)
              have hl : lv_has ls 8 [(5, _), (3, _), (7, .ref ai), (0, .ref a), (1, .int inw), (2, .int x), (4, .int dd), (6, .int (nI i))] := hl
              refine lv_iload hx hb dX6_listPorts_87 (lv_at hl 6 rfl) ?_
              refine lv_aload hx hb dX6_listPorts_89 (lv_at hl 2 rfl) ?_
              refine z_get Cx hw (T := TX5) (N := 4) (ci := 8) (fun _ h => List.mem_cons_of_mem _ (List.mem_append_left _ (List.mem_append_left _ (List.mem_append_right _ (h))))) hb1 rfl 3 (by decide) (List.mem_of_getElem? (i := 5) rfl) rfl rfl dX6_listPorts_91 ?_
              refine lv_ior hx hb dX6_listPorts_94 ?_
              refine lv_istore hx hb dX6_listPorts_95 hl (by decide) rfl (fun ls hl => ?_)
              have hl : lv_has ls 8 [(4, _), (5, _), (3, _), (7, .ref ai), (0, .ref a), (1, .int inw), (2, .int x), (6, .int (nI i))] := hl
              refine lv_iinc (v := nI (i + 1)) hx hb dX6_listPorts_97 hl (k := 7) rfl (nI_1 i) (by decide) rfl (fun ls hl => ?_)
              have hl : lv_has ls 8 [(6, .int (nI (i + 1))), (4, _), (5, _), (3, _), (7, .ref ai), (0, .ref a), (1, .int inw), (2, .int x)] := hl
              refine lv_goto (tgt := 11) hx hb dX6_listPorts_100 (by decide) ?_
              exact ih (i + 1) _ _ _ H _ ls (by omega) hacc2 (by omega) hw (lv_sub hl [5, 6, 7, 3, 1, 2, 0] rfl)
        · skip
          have e_44 : (1 : Int32) = zb (decide (v.1 = inw)) := by rw [decide_eq_true c_44]; rfl
          refine lv_iconst (v := 1) hx hb dX6_listPorts_47 (by decide) ?_
          refine lv_goto (tgt := 52) hx hb dX6_listPorts_48 (by decide) ?_
          refine lv_ior hx hb dX6_listPorts_52 ?_
          refine lv_topi (fun x_52 ex_52 => ?_)
          rw [e_44] at ex_52
          refine lv_istore_n hx hb dX6_listPorts_53 rfl hl (by decide) rfl (fun ls hl => ?_)
          have hl : lv_has ls 8 [(3, _), (7, .ref ai), (0, .ref a), (1, .int inw), (2, .int x), (4, .int dd), (5, .int oo), (6, .int (nI i))] := hl
          refine lv_aload hx hb dX6_listPorts_54 (lv_at hl 1 rfl) ?_
          refine lv_iload_n hx hb dX6_listPorts_56 rfl (lv_at hl 3 rfl) ?_
          refine lv_iload_n hx hb dX6_listPorts_57 rfl (lv_at hl 4 rfl) ?_
          refine z_goe hw.2 (z_runV Cx hw (c_X5_isFor E l Z C ai v inw x ⟨bi, hb1, hb2⟩) (cwV 2 Cx.1.2.2.2.2 gX6_listPorts_X5_isFor rfl rfl rfl (by decide +kernel) ⟨Nat.le_of_ble_eq_true rfl, Nat.le_of_ble_eq_true rfl⟩) (z_recv Cx hw (r := (RX5, TX5, 4)) hb1 rfl) rfl hl.1 rfl (Nat.le_of_ble_eq_true rfl) dX6_listPorts_58 ⟨Nat.le_of_ble_eq_true rfl, Nat.le_of_ble_eq_true rfl⟩) (fun H locs hw => ?_)
          refine lv_if_eq (tgt := 97) hx hb dX6_listPorts_61 (by decide) (fun c_61 => ?_) (fun c_61 => ?_)
          · skip
            have c_62 := (zb_0 _).mp c_61
            have hacc2 : zlp inw x (vs.drop (i + 1)) x_52 dd oo = zlp inw x vs 0 0 0 := by rw [← hacc, zlp, c_62, ex_52]; rfl
            refine lv_iinc (v := nI (i + 1)) hx hb dX6_listPorts_97 hl (k := 7) rfl (nI_1 i) (by decide) rfl (fun ls hl => ?_)
            have hl : lv_has ls 8 [(6, .int (nI (i + 1))), (3, _), (7, .ref ai), (0, .ref a), (1, .int inw), (2, .int x), (4, .int dd), (5, .int oo)] := hl
            refine lv_goto (tgt := 11) hx hb dX6_listPorts_100 (by decide) ?_
            exact ih (i + 1) _ _ _ H _ ls (by omega) hacc2 (by omega) hw (lv_sub hl [3, 4, 5, 1, 6, 7, 0] rfl)
          · skip
            have c_62 := (zb_1 _).mp c_61
            refine lv_aload hx hb dX6_listPorts_64 (lv_at hl 1 rfl) ?_
            refine z_get Cx hw (T := TX5) (N := 4) (ci := 8) (fun _ h => List.mem_cons_of_mem _ (List.mem_append_left _ (List.mem_append_left _ (List.mem_append_right _ (h))))) hb1 rfl 1 (by decide) (List.mem_of_getElem? (i := 4) rfl) rfl rfl dX6_listPorts_66 ?_
            refine lv_if_eq (tgt := 87) hx hb dX6_listPorts_69 (by decide) (fun c_69 => ?_) (fun c_69 => ?_)
            · skip
              have hacc2 : zlp inw x (vs.drop (i + 1)) x_52 (dd ||| v.2.2.2) oo = zlp inw x vs 0 0 0 := by rw [← hacc, zlp, c_62, if_pos rfl, if_pos c_69, ex_52]
              refine lv_iload hx hb dX6_listPorts_87 (lv_at hl 5 rfl) ?_
              refine lv_aload hx hb dX6_listPorts_89 (lv_at hl 1 rfl) ?_
              refine z_get Cx hw (T := TX5) (N := 4) (ci := 8) (fun _ h => List.mem_cons_of_mem _ (List.mem_append_left _ (List.mem_append_left _ (List.mem_append_right _ (h))))) hb1 rfl 3 (by decide) (List.mem_of_getElem? (i := 5) rfl) rfl rfl dX6_listPorts_91 ?_
              refine lv_ior hx hb dX6_listPorts_94 ?_
              refine lv_istore hx hb dX6_listPorts_95 hl (by decide) rfl (fun ls hl => ?_)
              have hl : lv_has ls 8 [(4, _), (3, _), (7, .ref ai), (0, .ref a), (1, .int inw), (2, .int x), (5, .int oo), (6, .int (nI i))] := hl
              refine lv_iinc (v := nI (i + 1)) hx hb dX6_listPorts_97 hl (k := 7) rfl (nI_1 i) (by decide) rfl (fun ls hl => ?_)
              have hl : lv_has ls 8 [(6, .int (nI (i + 1))), (4, _), (3, _), (7, .ref ai), (0, .ref a), (1, .int inw), (2, .int x), (5, .int oo)] := hl
              refine lv_goto (tgt := 11) hx hb dX6_listPorts_100 (by decide) ?_
              exact ih (i + 1) _ _ _ H _ ls (by omega) hacc2 (by omega) hw (lv_sub hl [4, 5, 6, 2, 1, 7, 0] rfl)
            · skip
              have hacc2 : zlp inw x (vs.drop (i + 1)) x_52 (dd ||| v.2.2.2) (oo ||| (v.2.2.2 &&& (dd ^^^ -1))) = zlp inw x vs 0 0 0 := by rw [← hacc, zlp, c_62, if_pos rfl, if_neg c_69, ex_52]
              refine lv_iload hx hb dX6_listPorts_72 (lv_at hl 6 rfl) ?_
              refine lv_aload hx hb dX6_listPorts_74 (lv_at hl 1 rfl) ?_
              refine z_get Cx hw (T := TX5) (N := 4) (ci := 8) (fun _ h => List.mem_cons_of_mem _ (List.mem_append_left _ (List.mem_append_left _ (List.mem_append_right _ (h))))) hb1 rfl 3 (by decide) (List.mem_of_getElem? (i := 5) rfl) rfl rfl dX6_listPorts_76 ?_
              refine lv_iload hx hb dX6_listPorts_79 (lv_at hl 5 rfl) ?_
              refine lv_iconst (v := -1) hx hb dX6_listPorts_81 (by decide) ?_
              refine lv_ixor hx hb dX6_listPorts_82 ?_
              refine lv_iand hx hb dX6_listPorts_83 ?_
              refine lv_ior hx hb dX6_listPorts_84 ?_
              refine lv_istore hx hb dX6_listPorts_85 hl (by decide) rfl (fun ls hl => ?_)
              have hl : lv_has ls 8 [(5, _), (3, _), (7, .ref ai), (0, .ref a), (1, .int inw), (2, .int x), (4, .int dd), (6, .int (nI i))] := hl
              refine lv_iload hx hb dX6_listPorts_87 (lv_at hl 6 rfl) ?_
              refine lv_aload hx hb dX6_listPorts_89 (lv_at hl 2 rfl) ?_
              refine z_get Cx hw (T := TX5) (N := 4) (ci := 8) (fun _ h => List.mem_cons_of_mem _ (List.mem_append_left _ (List.mem_append_left _ (List.mem_append_right _ (h))))) hb1 rfl 3 (by decide) (List.mem_of_getElem? (i := 5) rfl) rfl rfl dX6_listPorts_91 ?_
              refine lv_ior hx hb dX6_listPorts_94 ?_
              refine lv_istore hx hb dX6_listPorts_95 hl (by decide) rfl (fun ls hl => ?_)
              have hl : lv_has ls 8 [(4, _), (5, _), (3, _), (7, .ref ai), (0, .ref a), (1, .int inw), (2, .int x), (6, .int (nI i))] := hl
              refine lv_iinc (v := nI (i + 1)) hx hb dX6_listPorts_97 hl (k := 7) rfl (nI_1 i) (by decide) rfl (fun ls hl => ?_)
              have hl : lv_has ls 8 [(6, .int (nI (i + 1))), (4, _), (5, _), (3, _), (7, .ref ai), (0, .ref a), (1, .int inw), (2, .int x)] := hl
              refine lv_goto (tgt := 11) hx hb dX6_listPorts_100 (by decide) ?_
              exact ih (i + 1) _ _ _ H _ ls (by omega) hacc2 (by omega) hw (lv_sub hl [5, 6, 7, 3, 1, 2, 0] rfl)
  exact loop_11 ((es.length - 0) + 1) 0 0 0 0 _ _ ls (Nat.zero_le _) rfl (Nat.lt_succ_self _) hw (lv_sub hl [4, 5, 6, 3, 2, 1, 0] rfl)

set_option maxRecDepth 100000 in
set_option maxHeartbeats 4000000 in
/-- Subnet.routePlace -/
theorem c_X6_routePlace (E : zG) (l : Launch) (Z : va_W) (C : zLs) (a nw bk rl : Nat) (w : Nat) (b k : Int32) (hw0 : (w, Sum.inr (3, [.int b, .int k])) ∈ Z) (q : Nat) (es : List Nat) (vs : List zRt) (hq : C q = some es) (hls : zls (zrt Z) es vs) (hn : es.length ≤ 1000) (hs : (a, Sum.inr (9, [.ref nw, .ref bk, .ref rl, .ref q])) ∈ Z)  : Met l yX6_routePlace wsX6_routePlace (zR 3 0 0) (zPre E [.ref a, .ref w] (zQ E Z C)) (zRi E (zQ E Z C) (zrp b k vs 0)) 0 0 (eA E) := by
  refine z_of (cc := cX6_routePlace) (maxL := 3) (ret := (some .int)) (by decide) rfl rfl (Nat.le_of_ble_eq_true rfl) ?_
  intro p e s m below meth c ls Cx hr hnm hw hl
  have hx := Cx.1.1
  have hb := Cx.1.2.1
  have hl : lv_has ls 3 [(0, .ref a), (1, .ref w)] := hl
  refine lv_iconst (v := nI 0) hx hb dX6_routePlace_0 rfl ?_
  refine lv_istore_n hx hb dX6_routePlace_1 rfl hl (by decide) rfl (fun ls hl => ?_)
  have hl : lv_has ls 3 [(2, .int (nI 0)), (0, .ref a), (1, .ref w)] := hl
  have loop_2 : ∀ (nn : Nat) (i : Nat) (H : Heap) (locs : List Loc) (ls : Array Slot), (i ≤ es.length) → (zrp b k (vs.drop i) i = zrp b k vs 0) → es.length - i < nn → zHw E (zQ E Z C) s H locs → lv_has ls 3 [(0, .ref a), (1, .ref w), (2, .int (nI i))] → W p l e (zR 3 0 0) s m ([.ref a, .ref w] : List Value).toArray below meth c H locs 0 0 (MQ below (zRi E (zQ E Z C) (zrp b k vs 0)) ([.ref a, .ref w] : List Value).toArray s 0 0 (eA E)) (F0 m 2 ls []) := by
    intro nn
    induction nn with
    | zero => intro i H locs ls hi hacc hm; exact absurd hm (Nat.not_lt_zero _)
    | succ nn ih =>
      intro i H locs ls hi hacc hm hw hl
      refine lv_iload_n hx hb dX6_routePlace_2 rfl (lv_at hl 2 rfl) ?_
      refine lv_aload_n hx hb dX6_routePlace_3 rfl (lv_at hl 0 rfl) ?_
      refine z_get Cx hw (T := TX6) (N := 4) (ci := 9) (fun _ h => List.mem_cons_of_mem _ (List.mem_append_left _ (List.mem_append_left _ (List.mem_append_left _ (List.mem_append_right _ (h)))))) hs rfl 3 (by decide) (List.mem_of_getElem? (i := 1) rfl) rfl rfl dX6_routePlace_4 ?_
      refine z_goe hw.2 (z_runV Cx hw (c_al_size E l Z C q es hq) (cwV 0 Cx.1.2.2.2.2 gX6_routePlace_Jx4a65c_size_8abf5 rfl rfl rfl (by decide +kernel) ⟨Nat.le_of_ble_eq_true rfl, Nat.le_of_ble_eq_true rfl⟩) (z_recvL Cx hw hq) rfl hl.1 rfl (Nat.le_of_ble_eq_true rfl) dX6_routePlace_7 ⟨Nat.le_of_ble_eq_true rfl, Nat.le_of_ble_eq_true rfl⟩) (fun H locs hw => ?_)
      refine lv_icmp_ge (tgt := 42) hx hb dX6_routePlace_10 (by decide) (fun c_10 => ?_) (fun c_10 => ?_)
      · skip
        refine lv_iconst (v := -1) hx hb dX6_routePlace_42 (by decide) ?_
        exact (z_ie Cx hr rfl (Nat.le_of_ble_eq_true rfl) (Nat.le_of_ble_eq_true rfl) hw dX6_routePlace_43 (by rw [← hacc, z_end hls hi c_10 hn, zrp]))
      · skip
        have hi2 := z_lt hi c_10 hn
        obtain ⟨ai, v, ha, hv, hp, hd⟩ := z_at hls hi2
        rw [hd] at hacc
        obtain ⟨bi, hb1, hb2⟩ := hp
        refine lv_aload_n hx hb dX6_routePlace_13 rfl (lv_at hl 0 rfl) ?_
        refine z_get Cx hw (T := TX6) (N := 4) (ci := 9) (fun _ h => List.mem_cons_of_mem _ (List.mem_append_left _ (List.mem_append_left _ (List.mem_append_left _ (List.mem_append_right _ (h)))))) hs rfl 3 (by decide) (List.mem_of_getElem? (i := 1) rfl) rfl rfl dX6_routePlace_14 ?_
        refine lv_iload_n hx hb dX6_routePlace_17 rfl (lv_at hl 2 rfl) ?_
        refine z_goer hw.2 (z_runV Cx hw (c_al_get E l Z C q es hq i ai ha) (cwV 1 Cx.1.2.2.2.2 gX6_routePlace_Jx4a65c_get_915e3 rfl rfl rfl (by decide +kernel) ⟨Nat.le_of_ble_eq_true rfl, Nat.le_of_ble_eq_true rfl⟩) (z_recvL Cx hw hq) rfl hl.1 rfl (Nat.le_of_ble_eq_true rfl) dX6_routePlace_18 ⟨Nat.le_of_ble_eq_true rfl, Nat.le_of_ble_eq_true rfl⟩) (fun H locs hw => ?_)
        refine z_cast Cx hw (r := (RX4, TX4, 2)) hb1 rfl (List.mem_of_getElem? (i := 2) rfl) dX6_routePlace_21 ?_
        refine z_get Cx hw (T := TX4) (N := 2) (ci := 7) (fun _ h => List.mem_cons_of_mem _ (List.mem_append_left _ (List.mem_append_left _ (List.mem_append_right _ (h))))) hb1 rfl 0 (by decide) (List.mem_of_getElem? (i := 3) rfl) rfl rfl dX6_routePlace_24 ?_
        refine lv_aload_n hx hb dX6_routePlace_27 rfl (lv_at hl 1 rfl) ?_
        refine z_goe hw.2 (z_runV Cx hw (c_X0_isSame E l Z C bi v.1.1 v.1.2 w b k hb2 hw0) (cwV 1 Cx.1.2.2.2.2 gX6_routePlace_X0_isSame rfl rfl rfl (by decide +kernel) ⟨Nat.le_of_ble_eq_true rfl, Nat.le_of_ble_eq_true rfl⟩) (z_recv Cx hw (r := (RX0, TX0, 2)) hb2 rfl) rfl hl.1 rfl (Nat.le_of_ble_eq_true rfl) dX6_routePlace_28 ⟨Nat.le_of_ble_eq_true rfl, Nat.le_of_ble_eq_true rfl⟩) (fun H locs hw => ?_)
        refine lv_if_eq (tgt := 36) hx hb dX6_routePlace_31 (by decide) (fun c_31 => ?_) (fun c_31 => ?_)
        · skip
          have c_32 := (zb_0 _).mp c_31
          have hacc2 : zrp b k (vs.drop (i + 1)) (i + 1) = zrp b k vs 0 := by rw [← hacc, zrp, if_neg (of_decide_eq_false c_32)]
          refine lv_iinc (v := nI (i + 1)) hx hb dX6_routePlace_36 hl (k := 2) rfl (nI_1 i) (by decide) rfl (fun ls hl => ?_)
          have hl : lv_has ls 3 [(2, .int (nI (i + 1))), (0, .ref a), (1, .ref w)] := hl
          refine lv_goto (tgt := 2) hx hb dX6_routePlace_39 (by decide) ?_
          exact ih (i + 1) H _ ls (by omega) hacc2 (by omega) hw (lv_sub hl [1, 2, 0] rfl)
        · skip
          have c_32 := (zb_1 _).mp c_31
          refine lv_iload_n hx hb dX6_routePlace_34 rfl (lv_at hl 2 rfl) ?_
          exact (z_ie Cx hr rfl (Nat.le_of_ble_eq_true rfl) (Nat.le_of_ble_eq_true rfl) hw dX6_routePlace_35 (by rw [← hacc, zrp, if_pos (of_decide_eq_true c_32)]))
  exact loop_2 ((es.length - 0) + 1) 0 _ _ ls (Nat.zero_le _) rfl (Nat.lt_succ_self _) hw (lv_sub hl [1, 2, 0] rfl)

set_option maxRecDepth 100000 in
set_option maxHeartbeats 4000000 in
/-- Subnet.routeNumber -/
theorem c_X6_routeNumber (E : zG) (l : Launch) (Z : va_W) (C : zLs) (a nw bk rl : Nat) (x nb nk : Int32) (hnw : (nw, Sum.inr (3, [.int nb, .int nk])) ∈ Z) (q : Nat) (es : List Nat) (vs : List zRt) (hq : C q = some es) (hls : zls (zrt Z) es vs) (hn : es.length ≤ 1000) (hs : (a, Sum.inr (9, [.ref nw, .ref bk, .ref rl, .ref q])) ∈ Z)  : Met l yX6_routeNumber wsX6_routeNumber (zR 3 0 0) (zPre E [.ref a, .int x] (zQ E Z C)) (zRi E (zQ E Z C) (if zhs nb nk x = true then zrn x vs (-1) nk else zrn x vs (-2) 11)) 0 0 (eA E) := by
  refine z_of (cc := cX6_routeNumber) (maxL := 6) (ret := (some .int)) (by decide) rfl rfl (Nat.le_of_ble_eq_true rfl) ?_
  intro p e s m below meth c ls Cx hr hnm hw hl
  have hx := Cx.1.1
  have hb := Cx.1.2.1
  have hl : lv_has ls 6 [(0, .ref a), (1, .int x)] := hl
  refine lv_bipush (v := -2) hx hb dX6_routeNumber_0 (by decide) ?_
  refine lv_istore_n hx hb dX6_routeNumber_2 rfl hl (by decide) rfl (fun ls hl => ?_)
  have hl : lv_has ls 6 [(2, _), (0, .ref a), (1, .int x)] := hl
  refine lv_bipush (v := 11) hx hb dX6_routeNumber_3 (by decide) ?_
  refine lv_istore_n hx hb dX6_routeNumber_5 rfl hl (by decide) rfl (fun ls hl => ?_)
  have hl : lv_has ls 6 [(3, _), (2, _), (0, .ref a), (1, .int x)] := hl
  refine lv_aload_n hx hb dX6_routeNumber_6 rfl (lv_at hl 2 rfl) ?_
  refine z_get Cx hw (T := TX6) (N := 4) (ci := 9) (fun _ h => List.mem_cons_of_mem _ (List.mem_append_left _ (List.mem_append_left _ (List.mem_append_left _ (List.mem_append_right _ (h)))))) hs rfl 0 (by decide) (List.mem_of_getElem? (i := 1) rfl) rfl rfl dX6_routeNumber_7 ?_
  refine lv_iload_n hx hb dX6_routeNumber_10 rfl (lv_at hl 3 rfl) ?_
  refine z_goe hw.2 (z_runV Cx hw (c_X0_has E l Z C nw nb nk x hnw) (cwV 1 Cx.1.2.2.2.2 gX6_routeNumber_X0_has rfl rfl rfl (by decide +kernel) ⟨Nat.le_of_ble_eq_true rfl, Nat.le_of_ble_eq_true rfl⟩) (z_recv Cx hw (r := (RX0, TX0, 2)) hnw rfl) rfl hl.1 rfl (Nat.le_of_ble_eq_true rfl) dX6_routeNumber_11 ⟨Nat.le_of_ble_eq_true rfl, Nat.le_of_ble_eq_true rfl⟩) (fun H locs hw => ?_)
  refine lv_if_eq (tgt := 27) hx hb dX6_routeNumber_14 (by decide) (fun c_14 => ?_) (fun c_14 => ?_)
  · skip
    have hT : zrn x vs (-2) 11 = (if zhs nb nk x = true then zrn x vs (-1) nk else zrn x vs (-2) 11) := by rw [if_neg (by rw [(zb_0 _).mp c_14]; decide)]
    refine lv_iconst (v := nI 0) hx hb dX6_routeNumber_27 rfl ?_
    refine lv_istore hx hb dX6_routeNumber_28 hl (by decide) rfl (fun ls hl => ?_)
    have hl : lv_has ls 6 [(4, .int (nI 0)), (3, _), (2, _), (0, .ref a), (1, .int x)] := hl
    have loop_30 : ∀ (nn : Nat) (i : Nat) (nu sm : Int32) (H : Heap) (locs : List Loc) (ls : Array Slot), (i ≤ es.length) → (zrn x (vs.drop i) nu sm = (if zhs nb nk x = true then zrn x vs (-1) nk else zrn x vs (-2) 11)) → es.length - i < nn → zHw E (zQ E Z C) s H locs → lv_has ls 6 [(0, .ref a), (1, .int x), (2, .int nu), (3, .int sm), (4, .int (nI i))] → W p l e (zR 3 0 0) s m ([.ref a, .int x] : List Value).toArray below meth c H locs 0 0 (MQ below (zRi E (zQ E Z C) (if zhs nb nk x = true then zrn x vs (-1) nk else zrn x vs (-2) 11)) ([.ref a, .int x] : List Value).toArray s 0 0 (eA E)) (F0 m 30 ls []) := by
      intro nn
      induction nn with
      | zero => intro i nu sm H locs ls hi hacc hm; exact absurd hm (Nat.not_lt_zero _)
      | succ nn ih =>
        intro i nu sm H locs ls hi hacc hm hw hl
        refine lv_iload hx hb dX6_routeNumber_30 (lv_at hl 4 rfl) ?_
        refine lv_aload_n hx hb dX6_routeNumber_32 rfl (lv_at hl 0 rfl) ?_
        refine z_get Cx hw (T := TX6) (N := 4) (ci := 9) (fun _ h => List.mem_cons_of_mem _ (List.mem_append_left _ (List.mem_append_left _ (List.mem_append_left _ (List.mem_append_right _ (h)))))) hs rfl 3 (by decide) (List.mem_of_getElem? (i := 3) rfl) rfl rfl dX6_routeNumber_33 ?_
        refine z_goe hw.2 (z_runV Cx hw (c_al_size E l Z C q es hq) (cwV 0 Cx.1.2.2.2.2 gX6_routeNumber_Jx4a65c_size_8abf5 rfl rfl rfl (by decide +kernel) ⟨Nat.le_of_ble_eq_true rfl, Nat.le_of_ble_eq_true rfl⟩) (z_recvL Cx hw hq) rfl hl.1 rfl (Nat.le_of_ble_eq_true rfl) dX6_routeNumber_36 ⟨Nat.le_of_ble_eq_true rfl, Nat.le_of_ble_eq_true rfl⟩) (fun H locs hw => ?_)
        refine lv_icmp_ge (tgt := 101) hx hb dX6_routeNumber_39 (by decide) (fun c_39 => ?_) (fun c_39 => ?_)
        · skip
          refine lv_iload_n hx hb dX6_routeNumber_101 rfl (lv_at hl 2 rfl) ?_
          exact (z_ie Cx hr rfl (Nat.le_of_ble_eq_true rfl) (Nat.le_of_ble_eq_true rfl) hw dX6_routeNumber_102 (by rw [← hacc, z_end hls hi c_39 hn, zrn]))
        · skip
          have hi2 := z_lt hi c_39 hn
          obtain ⟨ai, v, ha, hv, hp, hd⟩ := z_at hls hi2
          rw [hd] at hacc
          obtain ⟨bi, hb1, hb2⟩ := hp
          refine lv_aload_n hx hb dX6_routeNumber_42 rfl (lv_at hl 0 rfl) ?_
          refine z_get Cx hw (T := TX6) (N := 4) (ci := 9) (fun _ h => List.mem_cons_of_mem _ (List.mem_append_left _ (List.mem_append_left _ (List.mem_append_left _ (List.mem_append_right _ (h)))))) hs rfl 3 (by decide) (List.mem_of_getElem? (i := 3) rfl) rfl rfl dX6_routeNumber_43 ?_
          refine lv_iload hx hb dX6_routeNumber_46 (lv_at hl 4 rfl) ?_
          refine z_goer hw.2 (z_runV Cx hw (c_al_get E l Z C q es hq i ai ha) (cwV 1 Cx.1.2.2.2.2 gX6_routeNumber_Jx4a65c_get_915e3 rfl rfl rfl (by decide +kernel) ⟨Nat.le_of_ble_eq_true rfl, Nat.le_of_ble_eq_true rfl⟩) (z_recvL Cx hw hq) rfl hl.1 rfl (Nat.le_of_ble_eq_true rfl) dX6_routeNumber_48 ⟨Nat.le_of_ble_eq_true rfl, Nat.le_of_ble_eq_true rfl⟩) (fun H locs hw => ?_)
          refine z_cast Cx hw (r := (RX4, TX4, 2)) hb1 rfl (List.mem_of_getElem? (i := 4) rfl) dX6_routeNumber_51 ?_
          refine lv_astore hx hb dX6_routeNumber_54 hl (by decide) rfl (fun ls hl => ?_)
          have hl : lv_has ls 6 [(5, .ref ai), (0, .ref a), (1, .int x), (2, .int nu), (3, .int sm), (4, .int (nI i))] := hl
          refine lv_aload hx hb dX6_routeNumber_56 (lv_at hl 0 rfl) ?_
          refine z_get Cx hw (T := TX4) (N := 2) (ci := 7) (fun _ h => List.mem_cons_of_mem _ (List.mem_append_left _ (List.mem_append_right _ (h)))) hb1 rfl 0 (by decide) (List.mem_of_getElem? (i := 5) rfl) rfl rfl dX6_routeNumber_58 ?_
          refine z_get Cx hw (T := TX0) (N := 2) (ci := 3) (fun _ h => List.mem_cons_of_mem _ (List.mem_append_left _ (List.mem_append_left _ (List.mem_append_right _ (h))))) hb2 rfl 1 (by decide) (List.mem_of_getElem? (i := 2) rfl) rfl rfl dX6_routeNumber_61 ?_
          refine lv_iload_n hx hb dX6_routeNumber_64 rfl (lv_at hl 4 rfl) ?_
          refine lv_icmp_ge (tgt := 95) hx hb dX6_routeNumber_65 (by decide) (fun c_65 => ?_) (fun c_65 => ?_)
          · skip
            have hacc2 : zrn x (vs.drop (i + 1)) nu sm = (if zhs nb nk x = true then zrn x vs (-1) nk else zrn x vs (-2) 11) := by rw [← hacc, zrn, if_neg (fun h => Int32.not_lt.mpr c_65 h.1)]
            refine lv_iinc (v := nI (i + 1)) hx hb dX6_routeNumber_95 hl (k := 5) rfl (nI_1 i) (by decide) rfl (fun ls hl => ?_)
            have hl : lv_has ls 6 [(4, .int (nI (i + 1))), (5, .ref ai), (0, .ref a), (1, .int x), (2, .int nu), (3, .int sm)] := hl
            refine lv_goto (tgt := 30) hx hb dX6_routeNumber_98 (by decide) ?_
            exact ih (i + 1) _ _ H _ ls (by omega) hacc2 (by omega) hw (lv_sub hl [2, 3, 4, 5, 0] rfl)
          · skip
            have c_66 := Int32.not_le.mp c_65
            refine lv_aload hx hb dX6_routeNumber_68 (lv_at hl 0 rfl) ?_
            refine z_get Cx hw (T := TX4) (N := 2) (ci := 7) (fun _ h => List.mem_cons_of_mem _ (List.mem_append_left _ (List.mem_append_right _ (h)))) hb1 rfl 0 (by decide) (List.mem_of_getElem? (i := 5) rfl) rfl rfl dX6_routeNumber_70 ?_
            refine lv_iload_n hx hb dX6_routeNumber_73 rfl (lv_at hl 2 rfl) ?_
            refine z_goe hw.2 (z_runV Cx hw (c_X0_has E l Z C bi v.1.1 v.1.2 x hb2) (cwV 1 Cx.1.2.2.2.2 gX6_routeNumber_X0_has rfl rfl rfl (by decide +kernel) ⟨Nat.le_of_ble_eq_true rfl, Nat.le_of_ble_eq_true rfl⟩) (z_recv Cx hw (r := (RX0, TX0, 2)) hb2 rfl) rfl hl.1 rfl (Nat.le_of_ble_eq_true rfl) dX6_routeNumber_74 ⟨Nat.le_of_ble_eq_true rfl, Nat.le_of_ble_eq_true rfl⟩) (fun H locs hw => ?_)
            refine lv_if_eq (tgt := 95) hx hb dX6_routeNumber_77 (by decide) (fun c_77 => ?_) (fun c_77 => ?_)
            · skip
              have hacc2 : zrn x (vs.drop (i + 1)) nu sm = (if zhs nb nk x = true then zrn x vs (-1) nk else zrn x vs (-2) 11) := by rw [← hacc, zrn, if_neg (fun h => by rw [(zb_0 _).mp c_77] at h; exact absurd h.2 (by decide))]
              refine lv_iinc (v := nI (i + 1)) hx hb dX6_routeNumber_95 hl (k := 5) rfl (nI_1 i) (by decide) rfl (fun ls hl => ?_)
              have hl : lv_has ls 6 [(4, .int (nI (i + 1))), (5, .ref ai), (0, .ref a), (1, .int x), (2, .int nu), (3, .int sm)] := hl
              refine lv_goto (tgt := 30) hx hb dX6_routeNumber_98 (by decide) ?_
              exact ih (i + 1) _ _ H _ ls (by omega) hacc2 (by omega) hw (lv_sub hl [2, 3, 4, 5, 0] rfl)
            · skip
              have hacc2 : zrn x (vs.drop (i + 1)) v.2 v.1.2 = (if zhs nb nk x = true then zrn x vs (-1) nk else zrn x vs (-2) 11) := by rw [← hacc, zrn, if_pos ⟨c_66, (zb_1 _).mp c_77⟩]
              refine lv_aload hx hb dX6_routeNumber_80 (lv_at hl 0 rfl) ?_
              refine z_get Cx hw (T := TX4) (N := 2) (ci := 7) (fun _ h => List.mem_cons_of_mem _ (List.mem_append_left _ (List.mem_append_right _ (h)))) hb1 rfl 1 (by decide) (List.mem_of_getElem? (i := 6) rfl) rfl rfl dX6_routeNumber_82 ?_
              refine lv_istore_n hx hb dX6_routeNumber_85 rfl hl (by decide) rfl (fun ls hl => ?_)
              have hl : lv_has ls 6 [(2, _), (5, .ref ai), (0, .ref a), (1, .int x), (3, .int sm), (4, .int (nI i))] := hl
              refine lv_aload hx hb dX6_routeNumber_86 (lv_at hl 1 rfl) ?_
              refine z_get Cx hw (T := TX4) (N := 2) (ci := 7) (fun _ h => List.mem_cons_of_mem _ (List.mem_append_left _ (List.mem_append_right _ (h)))) hb1 rfl 0 (by decide) (List.mem_of_getElem? (i := 5) rfl) rfl rfl dX6_routeNumber_88 ?_
              refine z_get Cx hw (T := TX0) (N := 2) (ci := 3) (fun _ h => List.mem_cons_of_mem _ (List.mem_append_left _ (List.mem_append_left _ (List.mem_append_right _ (h))))) hb2 rfl 1 (by decide) (List.mem_of_getElem? (i := 2) rfl) rfl rfl dX6_routeNumber_91 ?_
              refine lv_istore_n hx hb dX6_routeNumber_94 rfl hl (by decide) rfl (fun ls hl => ?_)
              have hl : lv_has ls 6 [(3, _), (2, _), (5, .ref ai), (0, .ref a), (1, .int x), (4, .int (nI i))] := hl
              refine lv_iinc (v := nI (i + 1)) hx hb dX6_routeNumber_95 hl (k := 5) rfl (nI_1 i) (by decide) rfl (fun ls hl => ?_)
              have hl : lv_has ls 6 [(4, .int (nI (i + 1))), (3, _), (2, _), (5, .ref ai), (0, .ref a), (1, .int x)] := hl
              refine lv_goto (tgt := 30) hx hb dX6_routeNumber_98 (by decide) ?_
              exact ih (i + 1) _ _ H _ ls (by omega) hacc2 (by omega) hw (lv_sub hl [4, 5, 2, 1, 0] rfl)
    exact loop_30 ((es.length - 0) + 1) 0 _ _ _ _ ls (Nat.zero_le _) hT (Nat.lt_succ_self _) hw (lv_sub hl [3, 4, 2, 1, 0] rfl)
  · skip
    have hT : zrn x vs (-1) nk = (if zhs nb nk x = true then zrn x vs (-1) nk else zrn x vs (-2) 11) := by rw [if_pos ((zb_1 _).mp c_14)]
    refine lv_iconst (v := -1) hx hb dX6_routeNumber_17 (by decide) ?_
    refine lv_istore_n hx hb dX6_routeNumber_18 rfl hl (by decide) rfl (fun ls hl => ?_)
    have hl : lv_has ls 6 [(2, _), (3, _), (0, .ref a), (1, .int x)] := hl
    refine lv_aload_n hx hb dX6_routeNumber_19 rfl (lv_at hl 2 rfl) ?_
    refine z_get Cx hw (T := TX6) (N := 4) (ci := 9) (fun _ h => List.mem_cons_of_mem _ (List.mem_append_left _ (List.mem_append_left _ (List.mem_append_left _ (List.mem_append_right _ (h)))))) hs rfl 0 (by decide) (List.mem_of_getElem? (i := 1) rfl) rfl rfl dX6_routeNumber_20 ?_
    refine z_get Cx hw (T := TX0) (N := 2) (ci := 3) (fun _ h => List.mem_cons_of_mem _ (List.mem_append_left _ (List.mem_append_left _ (List.mem_append_right _ (h))))) hnw rfl 1 (by decide) (List.mem_of_getElem? (i := 2) rfl) rfl rfl dX6_routeNumber_23 ?_
    refine lv_istore_n hx hb dX6_routeNumber_26 rfl hl (by decide) rfl (fun ls hl => ?_)
    have hl : lv_has ls 6 [(3, _), (2, _), (0, .ref a), (1, .int x)] := hl
    refine lv_iconst (v := nI 0) hx hb dX6_routeNumber_27 rfl ?_
    refine lv_istore hx hb dX6_routeNumber_28 hl (by decide) rfl (fun ls hl => ?_)
    have hl : lv_has ls 6 [(4, .int (nI 0)), (3, _), (2, _), (0, .ref a), (1, .int x)] := hl
    have loop_30 : ∀ (nn : Nat) (i : Nat) (nu sm : Int32) (H : Heap) (locs : List Loc) (ls : Array Slot), (i ≤ es.length) → (zrn x (vs.drop i) nu sm = (if zhs nb nk x = true then zrn x vs (-1) nk else zrn x vs (-2) 11)) → es.length - i < nn → zHw E (zQ E Z C) s H locs → lv_has ls 6 [(0, .ref a), (1, .int x), (2, .int nu), (3, .int sm), (4, .int (nI i))] → W p l e (zR 3 0 0) s m ([.ref a, .int x] : List Value).toArray below meth c H locs 0 0 (MQ below (zRi E (zQ E Z C) (if zhs nb nk x = true then zrn x vs (-1) nk else zrn x vs (-2) 11)) ([.ref a, .int x] : List Value).toArray s 0 0 (eA E)) (F0 m 30 ls []) := by
      intro nn
      induction nn with
      | zero => intro i nu sm H locs ls hi hacc hm; exact absurd hm (Nat.not_lt_zero _)
      | succ nn ih =>
        intro i nu sm H locs ls hi hacc hm hw hl
        refine lv_iload hx hb dX6_routeNumber_30 (lv_at hl 4 rfl) ?_
        refine lv_aload_n hx hb dX6_routeNumber_32 rfl (lv_at hl 0 rfl) ?_
        refine z_get Cx hw (T := TX6) (N := 4) (ci := 9) (fun _ h => List.mem_cons_of_mem _ (List.mem_append_left _ (List.mem_append_left _ (List.mem_append_left _ (List.mem_append_right _ (h)))))) hs rfl 3 (by decide) (List.mem_of_getElem? (i := 3) rfl) rfl rfl dX6_routeNumber_33 ?_
        refine z_goe hw.2 (z_runV Cx hw (c_al_size E l Z C q es hq) (cwV 0 Cx.1.2.2.2.2 gX6_routeNumber_Jx4a65c_size_8abf5 rfl rfl rfl (by decide +kernel) ⟨Nat.le_of_ble_eq_true rfl, Nat.le_of_ble_eq_true rfl⟩) (z_recvL Cx hw hq) rfl hl.1 rfl (Nat.le_of_ble_eq_true rfl) dX6_routeNumber_36 ⟨Nat.le_of_ble_eq_true rfl, Nat.le_of_ble_eq_true rfl⟩) (fun H locs hw => ?_)
        refine lv_icmp_ge (tgt := 101) hx hb dX6_routeNumber_39 (by decide) (fun c_39 => ?_) (fun c_39 => ?_)
        · skip
          refine lv_iload_n hx hb dX6_routeNumber_101 rfl (lv_at hl 2 rfl) ?_
          exact (z_ie Cx hr rfl (Nat.le_of_ble_eq_true rfl) (Nat.le_of_ble_eq_true rfl) hw dX6_routeNumber_102 (by rw [← hacc, z_end hls hi c_39 hn, zrn]))
        · skip
          have hi2 := z_lt hi c_39 hn
          obtain ⟨ai, v, ha, hv, hp, hd⟩ := z_at hls hi2
          rw [hd] at hacc
          obtain ⟨bi, hb1, hb2⟩ := hp
          refine lv_aload_n hx hb dX6_routeNumber_42 rfl (lv_at hl 0 rfl) ?_
          refine z_get Cx hw (T := TX6) (N := 4) (ci := 9) (fun _ h => List.mem_cons_of_mem _ (List.mem_append_left _ (List.mem_append_left _ (List.mem_append_left _ (List.mem_append_right _ (h)))))) hs rfl 3 (by decide) (List.mem_of_getElem? (i := 3) rfl) rfl rfl dX6_routeNumber_43 ?_
          refine lv_iload hx hb dX6_routeNumber_46 (lv_at hl 4 rfl) ?_
          refine z_goer hw.2 (z_runV Cx hw (c_al_get E l Z C q es hq i ai ha) (cwV 1 Cx.1.2.2.2.2 gX6_routeNumber_Jx4a65c_get_915e3 rfl rfl rfl (by decide +kernel) ⟨Nat.le_of_ble_eq_true rfl, Nat.le_of_ble_eq_true rfl⟩) (z_recvL Cx hw hq) rfl hl.1 rfl (Nat.le_of_ble_eq_true rfl) dX6_routeNumber_48 ⟨Nat.le_of_ble_eq_true rfl, Nat.le_of_ble_eq_true rfl⟩) (fun H locs hw => ?_)
          refine z_cast Cx hw (r := (RX4, TX4, 2)) hb1 rfl (List.mem_of_getElem? (i := 4) rfl) dX6_routeNumber_51 ?_
          refine lv_astore hx hb dX6_routeNumber_54 hl (by decide) rfl (fun ls hl => ?_)
          have hl : lv_has ls 6 [(5, .ref ai), (0, .ref a), (1, .int x), (2, .int nu), (3, .int sm), (4, .int (nI i))] := hl
          refine lv_aload hx hb dX6_routeNumber_56 (lv_at hl 0 rfl) ?_
          refine z_get Cx hw (T := TX4) (N := 2) (ci := 7) (fun _ h => List.mem_cons_of_mem _ (List.mem_append_left _ (List.mem_append_right _ (h)))) hb1 rfl 0 (by decide) (List.mem_of_getElem? (i := 5) rfl) rfl rfl dX6_routeNumber_58 ?_
          refine z_get Cx hw (T := TX0) (N := 2) (ci := 3) (fun _ h => List.mem_cons_of_mem _ (List.mem_append_left _ (List.mem_append_left _ (List.mem_append_right _ (h))))) hb2 rfl 1 (by decide) (List.mem_of_getElem? (i := 2) rfl) rfl rfl dX6_routeNumber_61 ?_
          refine lv_iload_n hx hb dX6_routeNumber_64 rfl (lv_at hl 4 rfl) ?_
          refine lv_icmp_ge (tgt := 95) hx hb dX6_routeNumber_65 (by decide) (fun c_65 => ?_) (fun c_65 => ?_)
          · skip
            have hacc2 : zrn x (vs.drop (i + 1)) nu sm = (if zhs nb nk x = true then zrn x vs (-1) nk else zrn x vs (-2) 11) := by rw [← hacc, zrn, if_neg (fun h => Int32.not_lt.mpr c_65 h.1)]
            refine lv_iinc (v := nI (i + 1)) hx hb dX6_routeNumber_95 hl (k := 5) rfl (nI_1 i) (by decide) rfl (fun ls hl => ?_)
            have hl : lv_has ls 6 [(4, .int (nI (i + 1))), (5, .ref ai), (0, .ref a), (1, .int x), (2, .int nu), (3, .int sm)] := hl
            refine lv_goto (tgt := 30) hx hb dX6_routeNumber_98 (by decide) ?_
            exact ih (i + 1) _ _ H _ ls (by omega) hacc2 (by omega) hw (lv_sub hl [2, 3, 4, 5, 0] rfl)
          · skip
            have c_66 := Int32.not_le.mp c_65
            refine lv_aload hx hb dX6_routeNumber_68 (lv_at hl 0 rfl) ?_
            refine z_get Cx hw (T := TX4) (N := 2) (ci := 7) (fun _ h => List.mem_cons_of_mem _ (List.mem_append_left _ (List.mem_append_right _ (h)))) hb1 rfl 0 (by decide) (List.mem_of_getElem? (i := 5) rfl) rfl rfl dX6_routeNumber_70 ?_
            refine lv_iload_n hx hb dX6_routeNumber_73 rfl (lv_at hl 2 rfl) ?_
            refine z_goe hw.2 (z_runV Cx hw (c_X0_has E l Z C bi v.1.1 v.1.2 x hb2) (cwV 1 Cx.1.2.2.2.2 gX6_routeNumber_X0_has rfl rfl rfl (by decide +kernel) ⟨Nat.le_of_ble_eq_true rfl, Nat.le_of_ble_eq_true rfl⟩) (z_recv Cx hw (r := (RX0, TX0, 2)) hb2 rfl) rfl hl.1 rfl (Nat.le_of_ble_eq_true rfl) dX6_routeNumber_74 ⟨Nat.le_of_ble_eq_true rfl, Nat.le_of_ble_eq_true rfl⟩) (fun H locs hw => ?_)
            refine lv_if_eq (tgt := 95) hx hb dX6_routeNumber_77 (by decide) (fun c_77 => ?_) (fun c_77 => ?_)
            · skip
              have hacc2 : zrn x (vs.drop (i + 1)) nu sm = (if zhs nb nk x = true then zrn x vs (-1) nk else zrn x vs (-2) 11) := by rw [← hacc, zrn, if_neg (fun h => by rw [(zb_0 _).mp c_77] at h; exact absurd h.2 (by decide))]
              refine lv_iinc (v := nI (i + 1)) hx hb dX6_routeNumber_95 hl (k := 5) rfl (nI_1 i) (by decide) rfl (fun ls hl => ?_)
              have hl : lv_has ls 6 [(4, .int (nI (i + 1))), (5, .ref ai), (0, .ref a), (1, .int x), (2, .int nu), (3, .int sm)] := hl
              refine lv_goto (tgt := 30) hx hb dX6_routeNumber_98 (by decide) ?_
              exact ih (i + 1) _ _ H _ ls (by omega) hacc2 (by omega) hw (lv_sub hl [2, 3, 4, 5, 0] rfl)
            · skip
              have hacc2 : zrn x (vs.drop (i + 1)) v.2 v.1.2 = (if zhs nb nk x = true then zrn x vs (-1) nk else zrn x vs (-2) 11) := by rw [← hacc, zrn, if_pos ⟨c_66, (zb_1 _).mp c_77⟩]
              refine lv_aload hx hb dX6_routeNumber_80 (lv_at hl 0 rfl) ?_
              refine z_get Cx hw (T := TX4) (N := 2) (ci := 7) (fun _ h => List.mem_cons_of_mem _ (List.mem_append_left _ (List.mem_append_right _ (h)))) hb1 rfl 1 (by decide) (List.mem_of_getElem? (i := 6) rfl) rfl rfl dX6_routeNumber_82 ?_
              refine lv_istore_n hx hb dX6_routeNumber_85 rfl hl (by decide) rfl (fun ls hl => ?_)
              have hl : lv_has ls 6 [(2, _), (5, .ref ai), (0, .ref a), (1, .int x), (3, .int sm), (4, .int (nI i))] := hl
              refine lv_aload hx hb dX6_routeNumber_86 (lv_at hl 1 rfl) ?_
              refine z_get Cx hw (T := TX4) (N := 2) (ci := 7) (fun _ h => List.mem_cons_of_mem _ (List.mem_append_left _ (List.mem_append_right _ (h)))) hb1 rfl 0 (by decide) (List.mem_of_getElem? (i := 5) rfl) rfl rfl dX6_routeNumber_88 ?_
              refine z_get Cx hw (T := TX0) (N := 2) (ci := 3) (fun _ h => List.mem_cons_of_mem _ (List.mem_append_left _ (List.mem_append_left _ (List.mem_append_right _ (h))))) hb2 rfl 1 (by decide) (List.mem_of_getElem? (i := 2) rfl) rfl rfl dX6_routeNumber_91 ?_
              refine lv_istore_n hx hb dX6_routeNumber_94 rfl hl (by decide) rfl (fun ls hl => ?_)
              have hl : lv_has ls 6 [(3, _), (2, _), (5, .ref ai), (0, .ref a), (1, .int x), (4, .int (nI i))] := hl
              refine lv_iinc (v := nI (i + 1)) hx hb dX6_routeNumber_95 hl (k := 5) rfl (nI_1 i) (by decide) rfl (fun ls hl => ?_)
              have hl : lv_has ls 6 [(4, .int (nI (i + 1))), (3, _), (2, _), (5, .ref ai), (0, .ref a), (1, .int x)] := hl
              refine lv_goto (tgt := 30) hx hb dX6_routeNumber_98 (by decide) ?_
              exact ih (i + 1) _ _ H _ ls (by omega) hacc2 (by omega) hw (lv_sub hl [4, 5, 2, 1, 0] rfl)
    exact loop_30 ((es.length - 0) + 1) 0 _ _ _ _ ls (Nat.zero_le _) hT (Nat.lt_succ_self _) hw (lv_sub hl [3, 4, 2, 1, 0] rfl)

def zleft (inw x : Int32) : List zRl → Int32 → Int32
  | [], o => o
  | v :: vs, o => zleft inw x vs (if zrHas v inw x = true then o &&& (v.2.2.2 ^^^ -1) else o)
theorem zleft_app (inw x : Int32) : ∀ (as bs : List zRl) (o : Int32), zleft inw x (as ++ bs) o = zleft inw x bs (zleft inw x as o)
  | [], _, _ => rfl
  | _ :: as, bs, _ => zleft_app inw x as bs _
/-- a packet meets rule v, at an address x, behind the rules us -/
def zmet (us : List zRl) (v : zRl) (x : Int32) : Bool := zhs v.2.2.1.1 v.2.2.1.2 x && !decide (zleft v.1 x us v.2.2.2 = 0)
theorem z_take {α : Type} {vs : List α} {i : Nat} {v : α} (h : vs[i]? = some v) : vs.take (i + 1) = vs.take i ++ [v] := by
  rw [List.take_add_one, h]
  rfl
theorem z_ltj {es : List Nat} {i j a ai : Nat} (hnd : es.Nodup) (hij : i ≤ j) (hj : es[j]? = some a) (hi : es[i]? = some ai) (hne : ¬ (some ai = some a)) : i < j := by
  rcases Nat.lt_or_ge i j with h | h
  · exact h
  · have : i = j := by omega
    subst this
    exact absurd (hi.symm.trans hj) hne
theorem z_eqj {es : List Nat} {i j a ai : Nat} (hnd : es.Nodup) (hj : es[j]? = some a) (hi : es[i]? = some ai) (he : some ai = some a) : i = j := by
  cases he
  obtain ⟨h1, e1⟩ := List.getElem?_eq_some_iff.mp hi
  obtain ⟨h2, e2⟩ := List.getElem?_eq_some_iff.mp hj
  rw [List.Nodup, List.pairwise_iff_getElem] at hnd
  rcases Nat.lt_trichotomy i j with c | c | c
  · exact absurd (e1.trans e2.symm) (hnd i j h1 h2 c)
  · exact c
  · exact absurd (e2.trans e1.symm) (hnd j i h2 h1 c)
set_option maxRecDepth 100000 in
set_option maxHeartbeats 4000000 in
/-- Subnet.isMetAt -/
theorem c_X6_isMetAt (E : zG) (l : Launch) (Z : va_W) (C : zLs) (a nw bk rt : Nat) (x : Int32) (q : Nat) (es : List Nat) (vs : List zRl) (hq : C q = some es) (hls : zls (zrl Z) es vs) (hn : es.length ≤ 1000) (hs : (a, Sum.inr (9, [.ref nw, .ref bk, .ref q, .ref rt])) ∈ Z) (j ra : Nat) (rv : zRl) (hja : es[j]? = some ra) (hjv : vs[j]? = some rv) (hnd : es.Nodup)  : Met l yX6_isMetAt wsX6_isMetAt (zR 3 0 0) (zPre E [.ref a, .ref ra, .int x] (zQ E Z C)) (zRi E (zQ E Z C) (zb (zmet (vs.take j) rv x))) 0 0 (eA E) := by
  refine z_of (cc := cX6_isMetAt) (maxL := 6) (ret := (some .boolean)) (by decide) rfl rfl (Nat.le_of_ble_eq_true rfl) ?_
  intro p e s m below meth c ls Cx hr hnm hw hl
  have hx := Cx.1.1
  have hb := Cx.1.2.1
  have hjl : j ≤ es.length := Nat.le_of_lt (List.getElem?_eq_some_iff.mp hja).1
  obtain ⟨rb, hr1, hr2⟩ := hls.2 j ra rv hja hjv
  have hl : lv_has ls 6 [(0, .ref a), (1, .ref ra), (2, .int x)] := hl
  refine lv_aload_n hx hb dX6_isMetAt_0 rfl (lv_at hl 1 rfl) ?_
  refine z_get Cx hw (T := TX5) (N := 4) (ci := 8) (fun _ h => List.mem_cons_of_mem _ (List.mem_append_left _ (List.mem_append_left _ (List.mem_append_left _ (List.mem_append_right _ (h)))))) hr1 rfl 2 (by decide) (List.mem_of_getElem? (i := 1) rfl) rfl rfl dX6_isMetAt_1 ?_
  refine lv_iload_n hx hb dX6_isMetAt_4 rfl (lv_at hl 2 rfl) ?_
  refine z_goe hw.2 (z_runV Cx hw (c_X0_has E l Z C rb rv.2.2.1.1 rv.2.2.1.2 x hr2) (cwV 1 Cx.1.2.2.2.2 gX6_isMetAt_X0_has rfl rfl rfl (by decide +kernel) ⟨Nat.le_of_ble_eq_true rfl, Nat.le_of_ble_eq_true rfl⟩) (z_recv Cx hw (r := (RX0, TX0, 2)) hr2 rfl) rfl hl.1 rfl (Nat.le_of_ble_eq_true rfl) dX6_isMetAt_5 ⟨Nat.le_of_ble_eq_true rfl, Nat.le_of_ble_eq_true rfl⟩) (fun H locs hw => ?_)
  refine lv_if_ne (tgt := 13) hx hb dX6_isMetAt_8 (by decide) (fun c_8 => ?_) (fun c_8 => ?_)
  · skip
    have c_9 := (zb_1 _).mp c_8
    refine lv_aload_n hx hb dX6_isMetAt_13 rfl (lv_at hl 1 rfl) ?_
    refine z_get Cx hw (T := TX5) (N := 4) (ci := 8) (fun _ h => List.mem_cons_of_mem _ (List.mem_append_left _ (List.mem_append_left _ (List.mem_append_left _ (List.mem_append_right _ (h)))))) hr1 rfl 3 (by decide) (List.mem_of_getElem? (i := 2) rfl) rfl rfl dX6_isMetAt_14 ?_
    refine lv_istore_n hx hb dX6_isMetAt_17 rfl hl (by decide) rfl (fun ls hl => ?_)
    have hl : lv_has ls 6 [(3, _), (0, .ref a), (1, .ref ra), (2, .int x)] := hl
    refine lv_iconst (v := nI 0) hx hb dX6_isMetAt_18 rfl ?_
    refine lv_istore hx hb dX6_isMetAt_19 hl (by decide) rfl (fun ls hl => ?_)
    have hl : lv_has ls 6 [(4, .int (nI 0)), (3, _), (0, .ref a), (1, .ref ra), (2, .int x)] := hl
    have loop_21 : ∀ (nn : Nat) (i : Nat) (o : Int32) (H : Heap) (locs : List Loc) (ls : Array Slot), (i ≤ j) → (zleft rv.1 x (vs.take i) rv.2.2.2 = o) → j - i < nn → zHw E (zQ E Z C) s H locs → lv_has ls 6 [(0, .ref a), (1, .ref ra), (2, .int x), (3, .int o), (4, .int (nI i))] → W p l e (zR 3 0 0) s m ([.ref a, .ref ra, .int x] : List Value).toArray below meth c H locs 0 0 (MQ below (zRi E (zQ E Z C) (zb (zmet (vs.take j) rv x))) ([.ref a, .ref ra, .int x] : List Value).toArray s 0 0 (eA E)) (F0 m 21 ls []) := by
      intro nn
      induction nn with
      | zero => intro i o H locs ls hi hacc hm; exact absurd hm (Nat.not_lt_zero _)
      | succ nn ih =>
        intro i o H locs ls hi hacc hm hw hl
        refine lv_iload hx hb dX6_isMetAt_21 (lv_at hl 4 rfl) ?_
        refine lv_aload_n hx hb dX6_isMetAt_23 rfl (lv_at hl 0 rfl) ?_
        refine z_get Cx hw (T := TX6) (N := 4) (ci := 9) (fun _ h => List.mem_cons_of_mem _ (List.mem_append_left _ (List.mem_append_left _ (List.mem_append_right _ (h))))) hs rfl 2 (by decide) (List.mem_of_getElem? (i := 3) rfl) rfl rfl dX6_isMetAt_24 ?_
        refine z_goe hw.2 (z_runV Cx hw (c_al_size E l Z C q es hq) (cwV 0 Cx.1.2.2.2.2 gX6_isMetAt_Jx4a65c_size_8abf5 rfl rfl rfl (by decide +kernel) ⟨Nat.le_of_ble_eq_true rfl, Nat.le_of_ble_eq_true rfl⟩) (z_recvL Cx hw hq) rfl hl.1 rfl (Nat.le_of_ble_eq_true rfl) dX6_isMetAt_27 ⟨Nat.le_of_ble_eq_true rfl, Nat.le_of_ble_eq_true rfl⟩) (fun H locs hw => ?_)
        refine lv_icmp_ge (tgt := 89) hx hb dX6_isMetAt_30 (by decide) (fun c_30 => ?_) (fun c_30 => ?_)
        · skip
          have c_31 : i = j := by
            have h1 := (nI_leI (by omega) (by omega)).mp c_30
            have h2 := (List.getElem?_eq_some_iff.mp hja).1
            omega
          subst c_31
          refine lv_iload_n hx hb dX6_isMetAt_89 rfl (lv_at hl 3 rfl) ?_
          refine lv_if_eq (tgt := 97) hx hb dX6_isMetAt_90 (by decide) (fun c_90 => ?_) (fun c_90 => ?_)
          · skip
            refine lv_iconst (v := 0) hx hb dX6_isMetAt_97 (by decide) ?_
            exact (z_ie Cx hr rfl (Nat.le_of_ble_eq_true rfl) (Nat.le_of_ble_eq_true rfl) hw dX6_isMetAt_98 (by rw [zmet, c_9, hacc]; simp [c_90]))
          · skip
            refine lv_iconst (v := 1) hx hb dX6_isMetAt_93 (by decide) ?_
            refine lv_goto (tgt := 98) hx hb dX6_isMetAt_94 (by decide) ?_
            exact (z_ie Cx hr rfl (Nat.le_of_ble_eq_true rfl) (Nat.le_of_ble_eq_true rfl) hw dX6_isMetAt_98 (by rw [zmet, c_9, hacc]; simp [c_90]))
        · skip
          have hi2 := z_lt (Nat.le_trans hi hjl) c_30 hn
          obtain ⟨ai, v, ha, hv, hp, hd⟩ := z_at hls hi2
          obtain ⟨bi, hb1, hb2⟩ := hp
          refine lv_aload_n hx hb dX6_isMetAt_33 rfl (lv_at hl 0 rfl) ?_
          refine z_get Cx hw (T := TX6) (N := 4) (ci := 9) (fun _ h => List.mem_cons_of_mem _ (List.mem_append_left _ (List.mem_append_left _ (List.mem_append_right _ (h))))) hs rfl 2 (by decide) (List.mem_of_getElem? (i := 3) rfl) rfl rfl dX6_isMetAt_34 ?_
          refine lv_iload hx hb dX6_isMetAt_37 (lv_at hl 4 rfl) ?_
          refine z_goer hw.2 (z_runV Cx hw (c_al_get E l Z C q es hq i ai ha) (cwV 1 Cx.1.2.2.2.2 gX6_isMetAt_Jx4a65c_get_915e3 rfl rfl rfl (by decide +kernel) ⟨Nat.le_of_ble_eq_true rfl, Nat.le_of_ble_eq_true rfl⟩) (z_recvL Cx hw hq) rfl hl.1 rfl (Nat.le_of_ble_eq_true rfl) dX6_isMetAt_39 ⟨Nat.le_of_ble_eq_true rfl, Nat.le_of_ble_eq_true rfl⟩) (fun H locs hw => ?_)
          refine lv_aload_n hx hb dX6_isMetAt_42 rfl (lv_at hl 1 rfl) ?_
          refine lv_acmp_eq (rx := some ai) (ry := some ra) (tgt := 89) hx hb dX6_isMetAt_43 (by decide) (fun c_43 => ?_) (fun c_43 => ?_)
          · skip
            have c_31 := z_eqj hnd hja ha c_43
            subst c_31
            refine lv_iload_n hx hb dX6_isMetAt_89 rfl (lv_at hl 3 rfl) ?_
            refine lv_if_eq (tgt := 97) hx hb dX6_isMetAt_90 (by decide) (fun c_90 => ?_) (fun c_90 => ?_)
            · skip
              refine lv_iconst (v := 0) hx hb dX6_isMetAt_97 (by decide) ?_
              exact (z_ie Cx hr rfl (Nat.le_of_ble_eq_true rfl) (Nat.le_of_ble_eq_true rfl) hw dX6_isMetAt_98 (by rw [zmet, c_9, hacc]; simp [c_90]))
            · skip
              refine lv_iconst (v := 1) hx hb dX6_isMetAt_93 (by decide) ?_
              refine lv_goto (tgt := 98) hx hb dX6_isMetAt_94 (by decide) ?_
              exact (z_ie Cx hr rfl (Nat.le_of_ble_eq_true rfl) (Nat.le_of_ble_eq_true rfl) hw dX6_isMetAt_98 (by rw [zmet, c_9, hacc]; simp [c_90]))
          · skip
            have hij := z_ltj hnd hi hja ha c_43
            refine lv_aload_n hx hb dX6_isMetAt_46 rfl (lv_at hl 0 rfl) ?_
            refine z_get Cx hw (T := TX6) (N := 4) (ci := 9) (fun _ h => List.mem_cons_of_mem _ (List.mem_append_left _ (List.mem_append_left _ (List.mem_append_right _ (h))))) hs rfl 2 (by decide) (List.mem_of_getElem? (i := 3) rfl) rfl rfl dX6_isMetAt_47 ?_
            refine lv_iload hx hb dX6_isMetAt_50 (lv_at hl 4 rfl) ?_
            refine z_goer hw.2 (z_runV Cx hw (c_al_get E l Z C q es hq i ai ha) (cwV 1 Cx.1.2.2.2.2 gX6_isMetAt_Jx4a65c_get_915e3 rfl rfl rfl (by decide +kernel) ⟨Nat.le_of_ble_eq_true rfl, Nat.le_of_ble_eq_true rfl⟩) (z_recvL Cx hw hq) rfl hl.1 rfl (Nat.le_of_ble_eq_true rfl) dX6_isMetAt_52 ⟨Nat.le_of_ble_eq_true rfl, Nat.le_of_ble_eq_true rfl⟩) (fun H locs hw => ?_)
            refine z_cast Cx hw (r := (RX5, TX5, 4)) hb1 rfl (List.mem_of_getElem? (i := 4) rfl) dX6_isMetAt_55 ?_
            refine lv_astore hx hb dX6_isMetAt_58 hl (by decide) rfl (fun ls hl => ?_)
            have hl : lv_has ls 6 [(5, .ref ai), (0, .ref a), (1, .ref ra), (2, .int x), (3, .int o), (4, .int (nI i))] := hl
            refine lv_aload hx hb dX6_isMetAt_60 (lv_at hl 0 rfl) ?_
            refine lv_aload_n hx hb dX6_isMetAt_62 rfl (lv_at hl 2 rfl) ?_
            refine z_get Cx hw (T := TX5) (N := 4) (ci := 8) (fun _ h => List.mem_cons_of_mem _ (List.mem_append_left _ (List.mem_append_left _ (List.mem_append_left _ (List.mem_append_right _ (h)))))) hr1 rfl 0 (by decide) (List.mem_of_getElem? (i := 5) rfl) rfl rfl dX6_isMetAt_63 ?_
            refine lv_iload_n hx hb dX6_isMetAt_66 rfl (lv_at hl 3 rfl) ?_
            refine z_goe hw.2 (z_runV Cx hw (c_X5_isFor E l Z C ai v rv.1 x ⟨bi, hb1, hb2⟩) (cwV 2 Cx.1.2.2.2.2 gX6_isMetAt_X5_isFor rfl rfl rfl (by decide +kernel) ⟨Nat.le_of_ble_eq_true rfl, Nat.le_of_ble_eq_true rfl⟩) (z_recv Cx hw (r := (RX5, TX5, 4)) hb1 rfl) rfl hl.1 rfl (Nat.le_of_ble_eq_true rfl) dX6_isMetAt_67 ⟨Nat.le_of_ble_eq_true rfl, Nat.le_of_ble_eq_true rfl⟩) (fun H locs hw => ?_)
            refine lv_if_eq (tgt := 83) hx hb dX6_isMetAt_70 (by decide) (fun c_70 => ?_) (fun c_70 => ?_)
            · skip
              have hacc2 : zleft rv.1 x (vs.take (i + 1)) rv.2.2.2 = o := by rw [z_take hv, zleft_app, hacc, zleft, zleft, (zb_0 _).mp c_70]; rfl
              refine lv_iinc (v := nI (i + 1)) hx hb dX6_isMetAt_83 hl (k := 5) rfl (nI_1 i) (by decide) rfl (fun ls hl => ?_)
              have hl : lv_has ls 6 [(4, .int (nI (i + 1))), (5, .ref ai), (0, .ref a), (1, .ref ra), (2, .int x), (3, .int o)] := hl
              refine lv_goto (tgt := 21) hx hb dX6_isMetAt_86 (by decide) ?_
              exact ih (i + 1) _ H _ ls (by omega) hacc2 (by omega) hw (lv_sub hl [2, 3, 4, 5, 0] rfl)
            · skip
              have hacc2 : zleft rv.1 x (vs.take (i + 1)) rv.2.2.2 = o &&& (v.2.2.2 ^^^ -1) := by rw [z_take hv, zleft_app, hacc, zleft, zleft, (zb_1 _).mp c_70]; rfl
              refine lv_iload_n hx hb dX6_isMetAt_73 rfl (lv_at hl 4 rfl) ?_
              refine lv_aload hx hb dX6_isMetAt_74 (lv_at hl 0 rfl) ?_
              refine z_get Cx hw (T := TX5) (N := 4) (ci := 8) (fun _ h => List.mem_cons_of_mem _ (List.mem_append_left _ (List.mem_append_left _ (List.mem_append_left _ (List.mem_append_right _ (h)))))) hb1 rfl 3 (by decide) (List.mem_of_getElem? (i := 2) rfl) rfl rfl dX6_isMetAt_76 ?_
              refine lv_iconst (v := -1) hx hb dX6_isMetAt_79 (by decide) ?_
              refine lv_ixor hx hb dX6_isMetAt_80 ?_
              refine lv_iand hx hb dX6_isMetAt_81 ?_
              refine lv_istore_n hx hb dX6_isMetAt_82 rfl hl (by decide) rfl (fun ls hl => ?_)
              have hl : lv_has ls 6 [(3, _), (5, .ref ai), (0, .ref a), (1, .ref ra), (2, .int x), (4, .int (nI i))] := hl
              refine lv_iinc (v := nI (i + 1)) hx hb dX6_isMetAt_83 hl (k := 5) rfl (nI_1 i) (by decide) rfl (fun ls hl => ?_)
              have hl : lv_has ls 6 [(4, .int (nI (i + 1))), (3, _), (5, .ref ai), (0, .ref a), (1, .ref ra), (2, .int x)] := hl
              refine lv_goto (tgt := 21) hx hb dX6_isMetAt_86 (by decide) ?_
              exact ih (i + 1) _ H _ ls (by omega) hacc2 (by omega) hw (lv_sub hl [3, 4, 5, 1, 0] rfl)
    exact loop_21 ((j - 0) + 1) 0 _ _ _ ls (Nat.zero_le _) rfl (Nat.lt_succ_self _) hw (lv_sub hl [2, 3, 4, 1, 0] rfl)
  · skip
    have c_9 := (zb_0 _).mp c_8
    refine lv_iconst (v := 0) hx hb dX6_isMetAt_11 (by decide) ?_
    exact (z_ie Cx hr rfl (Nat.le_of_ble_eq_true rfl) (Nat.le_of_ble_eq_true rfl) hw dX6_isMetAt_12 (by rw [zmet, c_9]; rfl))

/-- no packet meets rule v behind the rules us: at its base, and right behind each earlier block -/
def zidle (us : List zRl) (v : zRl) : Bool := !zmet us v v.2.2.1.1 && us.all (fun u => !zmet us v (u.2.2.1.1 + (1 : Int32) <<< (u.2.2.1.2 &&& 31)))
set_option maxRecDepth 100000 in
set_option maxHeartbeats 4000000 in
/-- Subnet.isIdle -/
theorem c_X6_isIdle (E : zG) (l : Launch) (Z : va_W) (C : zLs) (a nw bk rt : Nat) (q : Nat) (es : List Nat) (vs : List zRl) (hq : C q = some es) (hls : zls (zrl Z) es vs) (hn : es.length ≤ 1000) (hs : (a, Sum.inr (9, [.ref nw, .ref bk, .ref q, .ref rt])) ∈ Z) (j ra : Nat) (rv : zRl) (hja : es[j]? = some ra) (hjv : vs[j]? = some rv) (hnd : es.Nodup)  : Met l yX6_isIdle wsX6_isIdle (zR 4 0 0) (zPre E [.ref a, .ref ra] (zQ E Z C)) (zRi E (zQ E Z C) (zb (zidle (vs.take j) rv))) 0 0 (eA E) := by
  refine z_of (cc := cX6_isIdle) (maxL := 3) (ret := (some .boolean)) (by decide) rfl rfl (Nat.le_of_ble_eq_true rfl) ?_
  intro p e s m below meth c ls Cx hr hnm hw hl
  have hx := Cx.1.1
  have hb := Cx.1.2.1
  have hjl : j ≤ es.length := Nat.le_of_lt (List.getElem?_eq_some_iff.mp hja).1
  obtain ⟨rb, hr1, hr2⟩ := hls.2 j ra rv hja hjv
  have hl : lv_has ls 3 [(0, .ref a), (1, .ref ra)] := hl
  refine lv_aload_n hx hb dX6_isIdle_0 rfl (lv_at hl 0 rfl) ?_
  refine lv_aload_n hx hb dX6_isIdle_1 rfl (lv_at hl 1 rfl) ?_
  refine lv_aload_n hx hb dX6_isIdle_2 rfl (lv_at hl 1 rfl) ?_
  refine z_get Cx hw (T := TX5) (N := 4) (ci := 8) (fun _ h => List.mem_cons_of_mem _ (List.mem_append_left _ (List.mem_append_left _ (List.mem_append_left _ (List.mem_append_right _ (h)))))) hr1 rfl 2 (by decide) (List.mem_of_getElem? (i := 1) rfl) rfl rfl dX6_isIdle_3 ?_
  refine z_get Cx hw (T := TX0) (N := 2) (ci := 3) (fun _ h => List.mem_cons_of_mem _ (List.mem_append_left _ (List.mem_append_left _ (List.mem_append_right _ (h))))) hr2 rfl 0 (by decide) (List.mem_of_getElem? (i := 2) rfl) rfl rfl dX6_isIdle_6 ?_
  refine z_goe hw.2 (z_runV Cx hw (c_X6_isMetAt E l Z C a nw bk rt rv.2.2.1.1 q es vs hq hls hn hs j ra rv hja hjv hnd) (cwV 2 Cx.1.2.2.2.2 gX6_isIdle_X6_isMetAt rfl rfl rfl (by decide +kernel) ⟨Nat.le_of_ble_eq_true rfl, Nat.le_of_ble_eq_true rfl⟩) (z_recv Cx hw (r := (RX6, TX6, 4)) hs rfl) rfl hl.1 rfl (Nat.le_of_ble_eq_true rfl) dX6_isIdle_9 ⟨Nat.le_of_ble_eq_true rfl, Nat.le_of_ble_eq_true rfl⟩) (fun H locs hw => ?_)
  refine lv_if_eq (tgt := 17) hx hb dX6_isIdle_12 (by decide) (fun c_12 => ?_) (fun c_12 => ?_)
  · skip
    have c_13 := (zb_0 _).mp c_12
    refine lv_iconst (v := nI 0) hx hb dX6_isIdle_17 rfl ?_
    refine lv_istore_n hx hb dX6_isIdle_18 rfl hl (by decide) rfl (fun ls hl => ?_)
    have hl : lv_has ls 3 [(2, .int (nI 0)), (0, .ref a), (1, .ref ra)] := hl
    have loop_19 : ∀ (nn : Nat) (i : Nat) (H : Heap) (locs : List Loc) (ls : Array Slot), (i ≤ j) → ((vs.take i).all (fun u => !zmet (vs.take j) rv (u.2.2.1.1 + (1 : Int32) <<< (u.2.2.1.2 &&& 31))) = true) → j - i < nn → zHw E (zQ E Z C) s H locs → lv_has ls 3 [(0, .ref a), (1, .ref ra), (2, .int (nI i))] → W p l e (zR 4 0 0) s m ([.ref a, .ref ra] : List Value).toArray below meth c H locs 0 0 (MQ below (zRi E (zQ E Z C) (zb (zidle (vs.take j) rv))) ([.ref a, .ref ra] : List Value).toArray s 0 0 (eA E)) (F0 m 19 ls []) := by
      intro nn
      induction nn with
      | zero => intro i H locs ls hi hacc hm; exact absurd hm (Nat.not_lt_zero _)
      | succ nn ih =>
        intro i H locs ls hi hacc hm hw hl
        refine lv_iload_n hx hb dX6_isIdle_19 rfl (lv_at hl 2 rfl) ?_
        refine lv_aload_n hx hb dX6_isIdle_20 rfl (lv_at hl 0 rfl) ?_
        refine z_get Cx hw (T := TX6) (N := 4) (ci := 9) (fun _ h => List.mem_cons_of_mem _ (List.mem_append_left _ (List.mem_append_right _ (h)))) hs rfl 2 (by decide) (List.mem_of_getElem? (i := 3) rfl) rfl rfl dX6_isIdle_21 ?_
        refine z_goe hw.2 (z_runV Cx hw (c_al_size E l Z C q es hq) (cwV 0 Cx.1.2.2.2.2 gX6_isIdle_Jx4a65c_size_8abf5 rfl rfl rfl (by decide +kernel) ⟨Nat.le_of_ble_eq_true rfl, Nat.le_of_ble_eq_true rfl⟩) (z_recvL Cx hw hq) rfl hl.1 rfl (Nat.le_of_ble_eq_true rfl) dX6_isIdle_24 ⟨Nat.le_of_ble_eq_true rfl, Nat.le_of_ble_eq_true rfl⟩) (fun H locs hw => ?_)
        refine lv_icmp_ge (tgt := 75) hx hb dX6_isIdle_27 (by decide) (fun c_27 => ?_) (fun c_27 => ?_)
        · skip
          have c_31 : i = j := by
            have h1 := (nI_leI (by omega) (by omega)).mp c_27
            have h2 := (List.getElem?_eq_some_iff.mp hja).1
            omega
          subst c_31
          refine lv_iconst (v := 1) hx hb dX6_isIdle_75 (by decide) ?_
          exact (z_ie Cx hr rfl (Nat.le_of_ble_eq_true rfl) (Nat.le_of_ble_eq_true rfl) hw dX6_isIdle_76 (by rw [zidle, c_13, hacc]; rfl))
        · skip
          have hi2 := z_lt (Nat.le_trans hi hjl) c_27 hn
          obtain ⟨ai, v, ha, hv, hp, hd⟩ := z_at hls hi2
          obtain ⟨bi, hb1, hb2⟩ := hp
          refine lv_aload_n hx hb dX6_isIdle_30 rfl (lv_at hl 0 rfl) ?_
          refine z_get Cx hw (T := TX6) (N := 4) (ci := 9) (fun _ h => List.mem_cons_of_mem _ (List.mem_append_left _ (List.mem_append_right _ (h)))) hs rfl 2 (by decide) (List.mem_of_getElem? (i := 3) rfl) rfl rfl dX6_isIdle_31 ?_
          refine lv_iload_n hx hb dX6_isIdle_34 rfl (lv_at hl 2 rfl) ?_
          refine z_goer hw.2 (z_runV Cx hw (c_al_get E l Z C q es hq i ai ha) (cwV 1 Cx.1.2.2.2.2 gX6_isIdle_Jx4a65c_get_915e3 rfl rfl rfl (by decide +kernel) ⟨Nat.le_of_ble_eq_true rfl, Nat.le_of_ble_eq_true rfl⟩) (z_recvL Cx hw hq) rfl hl.1 rfl (Nat.le_of_ble_eq_true rfl) dX6_isIdle_35 ⟨Nat.le_of_ble_eq_true rfl, Nat.le_of_ble_eq_true rfl⟩) (fun H locs hw => ?_)
          refine lv_aload_n hx hb dX6_isIdle_38 rfl (lv_at hl 1 rfl) ?_
          refine lv_acmp_eq (rx := some ai) (ry := some ra) (tgt := 75) hx hb dX6_isIdle_39 (by decide) (fun c_39 => ?_) (fun c_39 => ?_)
          · skip
            have c_31 := z_eqj hnd hja ha c_39
            subst c_31
            refine lv_iconst (v := 1) hx hb dX6_isIdle_75 (by decide) ?_
            exact (z_ie Cx hr rfl (Nat.le_of_ble_eq_true rfl) (Nat.le_of_ble_eq_true rfl) hw dX6_isIdle_76 (by rw [zidle, c_13, hacc]; rfl))
          · skip
            have hij := z_ltj hnd hi hja ha c_39
            refine lv_aload_n hx hb dX6_isIdle_42 rfl (lv_at hl 0 rfl) ?_
            refine lv_aload_n hx hb dX6_isIdle_43 rfl (lv_at hl 1 rfl) ?_
            refine lv_aload_n hx hb dX6_isIdle_44 rfl (lv_at hl 0 rfl) ?_
            refine z_get Cx hw (T := TX6) (N := 4) (ci := 9) (fun _ h => List.mem_cons_of_mem _ (List.mem_append_left _ (List.mem_append_right _ (h)))) hs rfl 2 (by decide) (List.mem_of_getElem? (i := 3) rfl) rfl rfl dX6_isIdle_45 ?_
            refine lv_iload_n hx hb dX6_isIdle_48 rfl (lv_at hl 2 rfl) ?_
            refine z_goer hw.2 (z_runV Cx hw (c_al_get E l Z C q es hq i ai ha) (cwV 1 Cx.1.2.2.2.2 gX6_isIdle_Jx4a65c_get_915e3 rfl rfl rfl (by decide +kernel) ⟨Nat.le_of_ble_eq_true rfl, Nat.le_of_ble_eq_true rfl⟩) (z_recvL Cx hw hq) rfl hl.1 rfl (Nat.le_of_ble_eq_true rfl) dX6_isIdle_49 ⟨Nat.le_of_ble_eq_true rfl, Nat.le_of_ble_eq_true rfl⟩) (fun H locs hw => ?_)
            refine z_cast Cx hw (r := (RX5, TX5, 4)) hb1 rfl (List.mem_of_getElem? (i := 4) rfl) dX6_isIdle_52 ?_
            refine z_get Cx hw (T := TX5) (N := 4) (ci := 8) (fun _ h => List.mem_cons_of_mem _ (List.mem_append_left _ (List.mem_append_left _ (List.mem_append_left _ (List.mem_append_right _ (h)))))) hb1 rfl 2 (by decide) (List.mem_of_getElem? (i := 1) rfl) rfl rfl dX6_isIdle_55 ?_
            refine z_goe hw.2 (z_runV Cx hw (c_X0_end E l Z C bi v.2.2.1.1 v.2.2.1.2 hb2) (cwV 0 Cx.1.2.2.2.2 gX6_isIdle_X0_end rfl rfl rfl (by decide +kernel) ⟨Nat.le_of_ble_eq_true rfl, Nat.le_of_ble_eq_true rfl⟩) (z_recv Cx hw (r := (RX0, TX0, 2)) hb2 rfl) rfl hl.1 rfl (Nat.le_of_ble_eq_true rfl) dX6_isIdle_58 ⟨Nat.le_of_ble_eq_true rfl, Nat.le_of_ble_eq_true rfl⟩) (fun H locs hw => ?_)
            refine z_goe hw.2 (z_runV Cx hw (c_X6_isMetAt E l Z C a nw bk rt (v.2.2.1.1 + (1 : Int32) <<< (v.2.2.1.2 &&& 31)) q es vs hq hls hn hs j ra rv hja hjv hnd) (cwV 2 Cx.1.2.2.2.2 gX6_isIdle_X6_isMetAt rfl rfl rfl (by decide +kernel) ⟨Nat.le_of_ble_eq_true rfl, Nat.le_of_ble_eq_true rfl⟩) (z_recv Cx hw (r := (RX6, TX6, 4)) hs rfl) rfl hl.1 rfl (Nat.le_of_ble_eq_true rfl) dX6_isIdle_61 ⟨Nat.le_of_ble_eq_true rfl, Nat.le_of_ble_eq_true rfl⟩) (fun H locs hw => ?_)
            refine lv_if_eq (tgt := 69) hx hb dX6_isIdle_64 (by decide) (fun c_64 => ?_) (fun c_64 => ?_)
            · skip
              have c_65 := (zb_0 _).mp c_64
              have hacc2 : (vs.take (i + 1)).all (fun u => !zmet (vs.take j) rv (u.2.2.1.1 + (1 : Int32) <<< (u.2.2.1.2 &&& 31))) = true := by rw [z_take hv, List.all_append, hacc]; simp [c_65]
              refine lv_iinc (v := nI (i + 1)) hx hb dX6_isIdle_69 hl (k := 2) rfl (nI_1 i) (by decide) rfl (fun ls hl => ?_)
              have hl : lv_has ls 3 [(2, .int (nI (i + 1))), (0, .ref a), (1, .ref ra)] := hl
              refine lv_goto (tgt := 19) hx hb dX6_isIdle_72 (by decide) ?_
              exact ih (i + 1) H _ ls (by omega) hacc2 (by omega) hw (lv_sub hl [1, 2, 0] rfl)
            · skip
              have c_65 := (zb_1 _).mp c_64
              refine lv_iconst (v := 0) hx hb dX6_isIdle_67 (by decide) ?_
              exact (z_ie Cx hr rfl (Nat.le_of_ble_eq_true rfl) (Nat.le_of_ble_eq_true rfl) hw dX6_isIdle_68 (by
                have h1 : (vs.take j).all (fun u => !zmet (vs.take j) rv (u.2.2.1.1 + (1 : Int32) <<< (u.2.2.1.2 &&& 31))) = false := by
                  rw [List.all_eq_false]
                  refine ⟨v, List.mem_of_getElem? (i := i) ?_, by rw [c_65]; decide⟩
                  rw [List.getElem?_take_of_lt hij]
                  exact hv
                rw [zidle, h1, Bool.and_false]; rfl))
    exact loop_19 ((j - 0) + 1) 0 _ _ ls (Nat.zero_le _) rfl (Nat.lt_succ_self _) hw (lv_sub hl [1, 2, 0] rfl)
  · skip
    have c_13 := (zb_1 _).mp c_12
    refine lv_iconst (v := 0) hx hb dX6_isIdle_15 (by decide) ?_
    exact (z_ie Cx hr rfl (Nat.le_of_ble_eq_true rfl) (Nat.le_of_ble_eq_true rfl) hw dX6_isIdle_16 (by rw [zidle, c_13]; rfl))

/-- how many of the rules no packet meets -/
def zidles (us : List zRl) : List zRl → Nat
  | [] => 0
  | v :: vs => (if zidle us v = true then 1 else 0) + zidles (us ++ [v]) vs
theorem zidles_le (us : List zRl) : ∀ vs : List zRl, zidles us vs ≤ vs.length := by
  intro vs
  induction vs generalizing us with
  | nil => exact Nat.le_refl 0
  | cons v vs ih =>
    have := ih (us ++ [v])
    rw [zidles, List.length_cons]
    by_cases c : zidle us v = true
    · rw [if_pos c]; omega
    · rw [if_neg c]; omega
set_option maxRecDepth 100000 in
set_option maxHeartbeats 4000000 in
/-- Subnet.countIdleRules -/
theorem c_X6_countIdle (E : zG) (l : Launch) (Z : va_W) (C : zLs) (a nw bk rt : Nat) (q : Nat) (es : List Nat) (vs : List zRl) (hq : C q = some es) (hls : zls (zrl Z) es vs) (hn : es.length ≤ 1000) (hs : (a, Sum.inr (9, [.ref nw, .ref bk, .ref q, .ref rt])) ∈ Z) (hnd : es.Nodup)  : Met l yX6_countIdleRules wsX6_countIdleRules (zR 5 0 0) (zPre E [.ref a] (zQ E Z C)) (zRi E (zQ E Z C) (nI (zidles [] vs))) 0 0 (eA E) := by
  refine z_of (cc := cX6_countIdleRules) (maxL := 3) (ret := (some .int)) (by decide) rfl rfl (Nat.le_of_ble_eq_true rfl) ?_
  intro p e s m below meth c ls Cx hr hnm hw hl
  have hx := Cx.1.1
  have hb := Cx.1.2.1
  have hl : lv_has ls 3 [(0, .ref a)] := hl
  refine lv_iconst (v := nI 0) hx hb dX6_countIdleRules_0 rfl ?_
  refine lv_istore_n hx hb dX6_countIdleRules_1 rfl hl (by decide) rfl (fun ls hl => ?_)
  have hl : lv_has ls 3 [(1, .int (nI 0)), (0, .ref a)] := hl
  refine lv_iconst (v := nI 0) hx hb dX6_countIdleRules_2 rfl ?_
  refine lv_istore_n hx hb dX6_countIdleRules_3 rfl hl (by decide) rfl (fun ls hl => ?_)
  have hl : lv_has ls 3 [(2, .int (nI 0)), (1, .int (nI 0)), (0, .ref a)] := hl
  have loop_4 : ∀ (nn : Nat) (i o : Nat) (H : Heap) (locs : List Loc) (ls : Array Slot), (i ≤ es.length) → (o + zidles (vs.take i) (vs.drop i) = zidles [] vs) → es.length - i < nn → zHw E (zQ E Z C) s H locs → lv_has ls 3 [(0, .ref a), (1, .int (nI o)), (2, .int (nI i))] → W p l e (zR 5 0 0) s m ([.ref a] : List Value).toArray below meth c H locs 0 0 (MQ below (zRi E (zQ E Z C) (nI (zidles [] vs))) ([.ref a] : List Value).toArray s 0 0 (eA E)) (F0 m 4 ls []) := by
    intro nn
    induction nn with
    | zero => intro i o H locs ls hi hacc hm; exact absurd hm (Nat.not_lt_zero _)
    | succ nn ih =>
      intro i o H locs ls hi hacc hm hw hl
      refine lv_iload_n hx hb dX6_countIdleRules_4 rfl (lv_at hl 2 rfl) ?_
      refine lv_aload_n hx hb dX6_countIdleRules_5 rfl (lv_at hl 0 rfl) ?_
      refine z_get Cx hw (T := TX6) (N := 4) (ci := 9) (fun _ h => List.mem_cons_of_mem _ (List.mem_append_left _ (List.mem_append_left _ (List.mem_append_left _ (List.mem_append_right _ (h)))))) hs rfl 2 (by decide) (List.mem_of_getElem? (i := 1) rfl) rfl rfl dX6_countIdleRules_6 ?_
      refine z_goe hw.2 (z_runV Cx hw (c_al_size E l Z C q es hq) (cwV 0 Cx.1.2.2.2.2 gX6_countIdleRules_Jx4a65c_size_8abf5 rfl rfl rfl (by decide +kernel) ⟨Nat.le_of_ble_eq_true rfl, Nat.le_of_ble_eq_true rfl⟩) (z_recvL Cx hw hq) rfl hl.1 rfl (Nat.le_of_ble_eq_true rfl) dX6_countIdleRules_9 ⟨Nat.le_of_ble_eq_true rfl, Nat.le_of_ble_eq_true rfl⟩) (fun H locs hw => ?_)
      refine lv_icmp_ge (tgt := 42) hx hb dX6_countIdleRules_12 (by decide) (fun c_12 => ?_) (fun c_12 => ?_)
      · skip
        refine lv_iload_n hx hb dX6_countIdleRules_42 rfl (lv_at hl 1 rfl) ?_
        exact (z_ie Cx hr rfl (Nat.le_of_ble_eq_true rfl) (Nat.le_of_ble_eq_true rfl) hw dX6_countIdleRules_43 (by rw [← hacc, z_end hls hi c_12 hn]; rfl))
      · skip
        have hi2 := z_lt hi c_12 hn
        obtain ⟨ai, v, ha, hv, hp, hd⟩ := z_at hls hi2
        rw [hd] at hacc
        obtain ⟨bi, hb1, hb2⟩ := hp
        refine lv_aload_n hx hb dX6_countIdleRules_15 rfl (lv_at hl 0 rfl) ?_
        refine lv_aload_n hx hb dX6_countIdleRules_16 rfl (lv_at hl 0 rfl) ?_
        refine z_get Cx hw (T := TX6) (N := 4) (ci := 9) (fun _ h => List.mem_cons_of_mem _ (List.mem_append_left _ (List.mem_append_left _ (List.mem_append_left _ (List.mem_append_right _ (h)))))) hs rfl 2 (by decide) (List.mem_of_getElem? (i := 1) rfl) rfl rfl dX6_countIdleRules_17 ?_
        refine lv_iload_n hx hb dX6_countIdleRules_20 rfl (lv_at hl 2 rfl) ?_
        refine z_goer hw.2 (z_runV Cx hw (c_al_get E l Z C q es hq i ai ha) (cwV 1 Cx.1.2.2.2.2 gX6_countIdleRules_Jx4a65c_get_915e3 rfl rfl rfl (by decide +kernel) ⟨Nat.le_of_ble_eq_true rfl, Nat.le_of_ble_eq_true rfl⟩) (z_recvL Cx hw hq) rfl hl.1 rfl (Nat.le_of_ble_eq_true rfl) dX6_countIdleRules_21 ⟨Nat.le_of_ble_eq_true rfl, Nat.le_of_ble_eq_true rfl⟩) (fun H locs hw => ?_)
        refine z_cast Cx hw (r := (RX5, TX5, 4)) hb1 rfl (List.mem_of_getElem? (i := 2) rfl) dX6_countIdleRules_24 ?_
        refine z_goe hw.2 (z_runV Cx hw (c_X6_isIdle E l Z C a nw bk rt q es vs hq hls hn hs i ai v ha hv hnd) (cwV 1 Cx.1.2.2.2.2 gX6_countIdleRules_X6_isIdle rfl rfl rfl (by decide +kernel) ⟨Nat.le_of_ble_eq_true rfl, Nat.le_of_ble_eq_true rfl⟩) (z_recv Cx hw (r := (RX6, TX6, 4)) hs rfl) rfl hl.1 rfl (Nat.le_of_ble_eq_true rfl) dX6_countIdleRules_27 ⟨Nat.le_of_ble_eq_true rfl, Nat.le_of_ble_eq_true rfl⟩) (fun H locs hw => ?_)
        refine lv_if_eq (tgt := 36) hx hb dX6_countIdleRules_30 (by decide) (fun c_30 => ?_) (fun c_30 => ?_)
        · skip
          have hacc2 : o + zidles (vs.take (i + 1)) (vs.drop (i + 1)) = zidles [] vs := by rw [← hacc, zidles, (zb_0 _).mp c_30, z_take hv, if_neg (by decide)]; omega
          refine lv_iinc (v := nI (i + 1)) hx hb dX6_countIdleRules_36 hl (k := 2) rfl (nI_1 i) (by decide) rfl (fun ls hl => ?_)
          have hl : lv_has ls 3 [(2, .int (nI (i + 1))), (0, .ref a), (1, .int (nI o))] := hl
          refine lv_goto (tgt := 4) hx hb dX6_countIdleRules_39 (by decide) ?_
          exact ih (i + 1) _ H _ ls (by omega) hacc2 (by omega) hw (lv_sub hl [1, 2, 0] rfl)
        · skip
          have hacc2 : (o + 1) + zidles (vs.take (i + 1)) (vs.drop (i + 1)) = zidles [] vs := by rw [← hacc, zidles, (zb_1 _).mp c_30, z_take hv, if_pos rfl]; omega
          refine lv_iinc (v := nI (o + 1)) hx hb dX6_countIdleRules_33 hl (k := 1) rfl (nI_1 o) (by decide) rfl (fun ls hl => ?_)
          have hl : lv_has ls 3 [(1, .int (nI (o + 1))), (0, .ref a), (2, .int (nI i))] := hl
          refine lv_iinc (v := nI (i + 1)) hx hb dX6_countIdleRules_36 hl (k := 2) rfl (nI_1 i) (by decide) rfl (fun ls hl => ?_)
          have hl : lv_has ls 3 [(2, .int (nI (i + 1))), (1, .int (nI (o + 1))), (0, .ref a)] := hl
          refine lv_goto (tgt := 4) hx hb dX6_countIdleRules_39 (by decide) ?_
          exact ih (i + 1) _ H _ ls (by omega) hacc2 (by omega) hw (lv_sub hl [2, 1, 0] rfl)
  exact loop_4 ((es.length - 0) + 1) 0 0 _ _ ls (Nat.zero_le _) (Nat.zero_add _) (Nat.lt_succ_self _) hw (lv_sub hl [2, 1, 0] rfl)

set_option maxRecDepth 100000 in
set_option maxHeartbeats 4000000 in
/-- Host.isInGroup -/
theorem c_X2_isInGroup (E : zG) (l : Launch) (Z : va_W) (C : zLs) (a sb : Nat) (ad gs x : Int32) (h : (a, Sum.inr (5, [.ref sb, .int ad, .int gs])) ∈ Z)  : Met l yX2_isInGroup wsX2_isInGroup (zR 0 0 0) (zPre E [.ref a, .int x] (zQ E Z C)) (zRi E (zQ E Z C) (zb (!decide (gs &&& (1 : Int32) <<< (x &&& 31) = 0)))) 0 0 (eA E) := by
  refine z_of (cc := cX2_isInGroup) (maxL := 2) (ret := (some .boolean)) (by decide) rfl rfl (Nat.le_of_ble_eq_true rfl) ?_
  intro p e s m below meth c ls Cx hr hnm hw hl
  have hx := Cx.1.1
  have hb := Cx.1.2.1
  have hl : lv_has ls 2 [(0, .ref a), (1, .int x)] := hl
  refine lv_aload_n hx hb dX2_isInGroup_0 rfl (lv_at hl 0 rfl) ?_
  refine z_get Cx hw (T := TX2) (N := 3) (ci := 5) (fun _ h => List.mem_cons_of_mem _ (List.mem_append_right _ (h))) h rfl 2 (by decide) (List.mem_of_getElem? (i := 1) rfl) rfl rfl dX2_isInGroup_1 ?_
  refine lv_iconst (v := 1) hx hb dX2_isInGroup_4 (by decide) ?_
  refine lv_iload_n hx hb dX2_isInGroup_5 rfl (lv_at hl 1 rfl) ?_
  refine lv_ishl hx hb dX2_isInGroup_6 ?_
  refine lv_iand hx hb dX2_isInGroup_7 ?_
  refine lv_if_eq (tgt := 15) hx hb dX2_isInGroup_8 (by decide) (fun c_8 => ?_) (fun c_8 => ?_)
  · skip
    refine lv_iconst (v := 0) hx hb dX2_isInGroup_15 (by decide) ?_
    exact (z_ie Cx hr rfl (Nat.le_of_ble_eq_true rfl) (Nat.le_of_ble_eq_true rfl) hw dX2_isInGroup_16 (by simp_all))
  · skip
    refine lv_iconst (v := 1) hx hb dX2_isInGroup_11 (by decide) ?_
    refine lv_goto (tgt := 16) hx hb dX2_isInGroup_12 (by decide) ?_
    exact (z_ie Cx hr rfl (Nat.le_of_ble_eq_true rfl) (Nat.le_of_ble_eq_true rfl) hw dX2_isInGroup_16 (by simp_all))

set_option maxRecDepth 100000 in
set_option maxHeartbeats 4000000 in
/-- Peering.joins -/
theorem c_X3_joins (E : zG) (l : Launch) (Z : va_W) (C : zLs) (a o1 o2 w1 w2 : Nat) (h : (a, Sum.inr (6, [.ref o1, .ref o2])) ∈ Z)  : Met l yX3_joins wsX3_joins (zR 0 0 0) (zPre E [.ref a, .ref w1, .ref w2] (zQ E Z C)) (zRi E (zQ E Z C) (zb (decide ((o1 = w1 ∧ o2 = w2) ∨ (o1 = w2 ∧ o2 = w1))))) 0 0 (eA E) := by
  refine z_of (cc := cX3_joins) (maxL := 3) (ret := (some .boolean)) (by decide) rfl rfl (Nat.le_of_ble_eq_true rfl) ?_
  intro p e s m below meth c ls Cx hr hnm hw hl
  have hx := Cx.1.1
  have hb := Cx.1.2.1
  have hl : lv_has ls 3 [(0, .ref a), (1, .ref w1), (2, .ref w2)] := hl
  refine lv_aload_n hx hb dX3_joins_0 rfl (lv_at hl 0 rfl) ?_
  refine z_get Cx hw (T := TX3) (N := 2) (ci := 6) (fun _ h => List.mem_cons_of_mem _ (List.mem_append_right _ (h))) h rfl 0 (by decide) (List.mem_of_getElem? (i := 1) rfl) rfl rfl dX3_joins_1 ?_
  refine lv_aload_n hx hb dX3_joins_4 rfl (lv_at hl 1 rfl) ?_
  refine lv_acmp_ne (rx := some o1) (ry := some w1) (tgt := 16) hx hb dX3_joins_5 (by decide) (fun c_5 => ?_) (fun c_5 => ?_)
  · skip
    refine lv_aload_n hx hb dX3_joins_16 rfl (lv_at hl 0 rfl) ?_
    refine z_get Cx hw (T := TX3) (N := 2) (ci := 6) (fun _ h => List.mem_cons_of_mem _ (List.mem_append_right _ (h))) h rfl 0 (by decide) (List.mem_of_getElem? (i := 1) rfl) rfl rfl dX3_joins_17 ?_
    refine lv_aload_n hx hb dX3_joins_20 rfl (lv_at hl 2 rfl) ?_
    refine lv_acmp_ne (rx := some o1) (ry := some w2) (tgt := 36) hx hb dX3_joins_21 (by decide) (fun c_21 => ?_) (fun c_21 => ?_)
    · skip
      refine lv_iconst (v := 0) hx hb dX3_joins_36 (by decide) ?_
      exact (z_ie Cx hr rfl (Nat.le_of_ble_eq_true rfl) (Nat.le_of_ble_eq_true rfl) hw dX3_joins_37 (by simp_all))
    · skip
      refine lv_aload_n hx hb dX3_joins_24 rfl (lv_at hl 0 rfl) ?_
      refine z_get Cx hw (T := TX3) (N := 2) (ci := 6) (fun _ h => List.mem_cons_of_mem _ (List.mem_append_right _ (h))) h rfl 1 (by decide) (List.mem_of_getElem? (i := 2) rfl) rfl rfl dX3_joins_25 ?_
      refine lv_aload_n hx hb dX3_joins_28 rfl (lv_at hl 1 rfl) ?_
      refine lv_acmp_ne (rx := some o2) (ry := some w1) (tgt := 36) hx hb dX3_joins_29 (by decide) (fun c_29 => ?_) (fun c_29 => ?_)
      · skip
        refine lv_iconst (v := 0) hx hb dX3_joins_36 (by decide) ?_
        exact (z_ie Cx hr rfl (Nat.le_of_ble_eq_true rfl) (Nat.le_of_ble_eq_true rfl) hw dX3_joins_37 (by simp_all))
      · skip
        refine lv_iconst (v := 1) hx hb dX3_joins_32 (by decide) ?_
        refine lv_goto (tgt := 37) hx hb dX3_joins_33 (by decide) ?_
        exact (z_ie Cx hr rfl (Nat.le_of_ble_eq_true rfl) (Nat.le_of_ble_eq_true rfl) hw dX3_joins_37 (by simp_all))
  · skip
    refine lv_aload_n hx hb dX3_joins_8 rfl (lv_at hl 0 rfl) ?_
    refine z_get Cx hw (T := TX3) (N := 2) (ci := 6) (fun _ h => List.mem_cons_of_mem _ (List.mem_append_right _ (h))) h rfl 1 (by decide) (List.mem_of_getElem? (i := 2) rfl) rfl rfl dX3_joins_9 ?_
    refine lv_aload_n hx hb dX3_joins_12 rfl (lv_at hl 2 rfl) ?_
    refine lv_acmp_eq (rx := some o2) (ry := some w2) (tgt := 32) hx hb dX3_joins_13 (by decide) (fun c_13 => ?_) (fun c_13 => ?_)
    · skip
      refine lv_iconst (v := 1) hx hb dX3_joins_32 (by decide) ?_
      refine lv_goto (tgt := 37) hx hb dX3_joins_33 (by decide) ?_
      exact (z_ie Cx hr rfl (Nat.le_of_ble_eq_true rfl) (Nat.le_of_ble_eq_true rfl) hw dX3_joins_37 (by simp_all))
    · skip
      refine lv_aload_n hx hb dX3_joins_16 rfl (lv_at hl 0 rfl) ?_
      refine z_get Cx hw (T := TX3) (N := 2) (ci := 6) (fun _ h => List.mem_cons_of_mem _ (List.mem_append_right _ (h))) h rfl 0 (by decide) (List.mem_of_getElem? (i := 1) rfl) rfl rfl dX3_joins_17 ?_
      refine lv_aload_n hx hb dX3_joins_20 rfl (lv_at hl 2 rfl) ?_
      refine lv_acmp_ne (rx := some o1) (ry := some w2) (tgt := 36) hx hb dX3_joins_21 (by decide) (fun c_21 => ?_) (fun c_21 => ?_)
      · skip
        refine lv_iconst (v := 0) hx hb dX3_joins_36 (by decide) ?_
        exact (z_ie Cx hr rfl (Nat.le_of_ble_eq_true rfl) (Nat.le_of_ble_eq_true rfl) hw dX3_joins_37 (by simp_all))
      · skip
        refine lv_aload_n hx hb dX3_joins_24 rfl (lv_at hl 0 rfl) ?_
        refine z_get Cx hw (T := TX3) (N := 2) (ci := 6) (fun _ h => List.mem_cons_of_mem _ (List.mem_append_right _ (h))) h rfl 1 (by decide) (List.mem_of_getElem? (i := 2) rfl) rfl rfl dX3_joins_25 ?_
        refine lv_aload_n hx hb dX3_joins_28 rfl (lv_at hl 1 rfl) ?_
        refine lv_acmp_ne (rx := some o2) (ry := some w1) (tgt := 36) hx hb dX3_joins_29 (by decide) (fun c_29 => ?_) (fun c_29 => ?_)
        · skip
          refine lv_iconst (v := 0) hx hb dX3_joins_36 (by decide) ?_
          exact (z_ie Cx hr rfl (Nat.le_of_ble_eq_true rfl) (Nat.le_of_ble_eq_true rfl) hw dX3_joins_37 (by simp_all))
        · skip
          refine lv_iconst (v := 1) hx hb dX3_joins_32 (by decide) ?_
          refine lv_goto (tgt := 37) hx hb dX3_joins_33 (by decide) ?_
          exact (z_ie Cx hr rfl (Nat.le_of_ble_eq_true rfl) (Nat.le_of_ble_eq_true rfl) hw dX3_joins_37 (by simp_all))

