/-! the law: its loop, its start -/
set_option maxRecDepth 100000 in
set_option maxHeartbeats 4000000 in
theorem law_disp {p : Program} {l : Launch} {e : Env} {s : State} {m : MethodId} {below : List Frame} {meth : Method} {c : Code} {Q : State → Prop} {E : zG} {b L : Nat} {xs : Nat → Int32} (hl0 : l.stackTraces = false) (Cx : zC E p s m #[Value.ref b] meth c RL cL_law wsL_law 7) (hnc : zNc s) (hX : va_X b L xs s s.heap) (hbl : b < s.heap.size) (hbA : ¬ eA E b) {n y x o cells slots : Nat} {ad : Nat → Nat} {sc : Nat → Int32} {g : Nat → Nat → Int32} {ov : Nat → Int64} {Y : va_W} {C : zLs} {V V2 : zCl} {H : Heap} {locs : List Loc} {ls : Array Slot} (hn : n + 9 ≤ L) (hL : L ≤ 4608) (hc : cells + 20 ≤ room_1.cells) (hs : slots + 200 ≤ room_1.slots) (St : zSt E y x o ad s sc g ov Y C V V2 H locs) (hl : lv_has ls 7 [(0, .ref b), (1, .ref x), (2, .ref y), (3, .ref o), (4, .int (nI n))]) {j : Nat} (hj : j < 32)
    (kk : zKK p l e s m b below meth c Q E y x o ad n (cells + 20) (slots + 200) 1551) : W p l e room_1 s m #[Value.ref b] below meth c H locs cells slots Q (F0 m 40 ls [.int (nI j)]) := by
  have hx := Cx.1.1
  have hb := Cx.1.2.1
  rcases (show j = 0 ∨ j = 1 ∨ j = 2 ∨ j = 3 ∨ j = 4 ∨ j = 5 ∨ j = 6 ∨ j = 7 ∨ j = 8 ∨ j = 9 ∨ j = 10 ∨ j = 11 ∨ j = 12 ∨ j = 13 ∨ j = 14 ∨ j = 15 ∨ j = 16 ∨ j = 17 ∨ 18 ≤ j by omega) with rfl | rfl | rfl | rfl | rfl | rfl | rfl | rfl | rfl | rfl | rfl | rfl | rfl | rfl | rfl | rfl | rfl | rfl | h
  · exact lv_tableIn (off := 88) (tgt := 128) hx hb dL_law_40 (by decide) (by decide) rfl (by decide) (law_addNetwork hl0 Cx hnc hX hbl hbA hn hL hc hs St hl kk)
  · exact lv_tableIn (off := 156) (tgt := 196) hx hb dL_law_40 (by decide) (by decide) rfl (by decide) (law_addSubnet hl0 Cx hnc hX hbl hbA hn hL hc hs St hl kk)
  · exact lv_tableIn (off := 236) (tgt := 276) hx hb dL_law_40 (by decide) (by decide) rfl (by decide) (law_addHost hl0 Cx hnc hX hbl hbA hn hL hc hs St hl kk)
  · exact lv_tableIn (off := 304) (tgt := 344) hx hb dL_law_40 (by decide) (by decide) rfl (by decide) (law_addPeering hl0 Cx hnc hX hbl hbA hn hL hc hs St hl kk)
  · exact lv_tableIn (off := 372) (tgt := 412) hx hb dL_law_40 (by decide) (by decide) rfl (by decide) (law_addGroup hl0 Cx hnc hX hbl hbA hn hL hc hs St hl kk)
  · exact lv_tableIn (off := 416) (tgt := 456) hx hb dL_law_40 (by decide) (by decide) rfl (by decide) (law_allow hl0 Cx hnc hX hbl hbA hn hL hc hs St hl kk)
  · exact lv_tableIn (off := 550) (tgt := 590) hx hb dL_law_40 (by decide) (by decide) rfl (by decide) (law_clearGroup hl0 Cx hnc hX hbl hbA hn hL hc hs St hl kk)
  · exact lv_tableIn (off := 606) (tgt := 646) hx hb dL_law_40 (by decide) (by decide) rfl (by decide) (law_setGroup hl0 Cx hnc hX hbl hbA hn hL hc hs St hl kk)
  · exact lv_tableIn (off := 709) (tgt := 749) hx hb dL_law_40 (by decide) (by decide) rfl (by decide) (law_putRule hl0 Cx hnc hX hbl hbA hn hL hc hs St hl kk)
  · exact lv_tableIn (off := 887) (tgt := 927) hx hb dL_law_40 (by decide) (by decide) rfl (by decide) (law_removeRule hl0 Cx hnc hX hbl hbA hn hL hc hs St hl kk)
  · exact lv_tableIn (off := 955) (tgt := 995) hx hb dL_law_40 (by decide) (by decide) rfl (by decide) (law_setRoute hl0 Cx hnc hX hbl hbA hn hL hc hs St hl kk)
  · exact lv_tableIn (off := 1047) (tgt := 1087) hx hb dL_law_40 (by decide) (by decide) rfl (by decide) (law_routeFor hl0 Cx hnc hX hbl hbA hn hL hc hs St hl kk)
  · exact lv_tableIn (off := 1115) (tgt := 1155) hx hb dL_law_40 (by decide) (by decide) rfl (by decide) (law_ports hl0 Cx hnc hX hbl hbA hn hL hc hs St hl kk)
  · exact lv_tableIn (off := 1183) (tgt := 1223) hx hb dL_law_40 (by decide) (by decide) rfl (by decide) (law_blockedBy hl0 Cx hnc hX hbl hbA hn hL hc hs St hl kk)
  · exact lv_tableIn (off := 1263) (tgt := 1303) hx hb dL_law_40 (by decide) (by decide) rfl (by decide) (law_blocks hl0 Cx hnc hX hbl hbA hn hL hc hs St hl kk)
  · exact lv_tableIn (off := 1343) (tgt := 1383) hx hb dL_law_40 (by decide) (by decide) rfl (by decide) (law_pairs hl0 Cx hnc hX hbl hbA hn hL hc hs St hl kk)
  · exact lv_tableIn (off := 1399) (tgt := 1439) hx hb dL_law_40 (by decide) (by decide) rfl (by decide) (law_reachedFrom hl0 Cx hnc hX hbl hbA hn hL hc hs St hl kk)
  · exact lv_tableIn (off := 1455) (tgt := 1495) hx hb dL_law_40 (by decide) (by decide) rfl (by decide) (law_idleRules hl0 Cx hnc hX hbl hbA hn hL hc hs St hl kk)
  · refine lv_tableOut (tgt := 1551) hx hb dL_law_40 (Or.inr ?_) (by decide) ?_
    · rw [nI_toInt (by omega)]
      omega
    · exact W.widen (Nat.le_add_right _ _) (Nat.le_add_right _ _) (kk _ _ _ _ _ _ _ _ _ ls St hl)
theorem law_end {p : Program} {l : Launch} {e : Env} {s : State} {m : MethodId} {below : List Frame} {meth : Method} {c : Code} {E : zG} {b : Nat} {cells slots : Nat} {H : Heap} {locs : List Loc} {ls : Array Slot} (hx : p.tables.exec = Jvm.exec) (hb : c.code = code) (hr : meth.sig.returnType = ret) (hlk : meth.locks = false) (hEA : eA E = fun q => s.heap.size ≤ q) (hS : va_S (eA E) s.heap H locs) (hc : cells ≤ 863521) (hs : slots ≤ 6505541) : W p l e room_1 s m #[Value.ref b] below meth c H locs cells slots (lw_Z below #[Value.ref b] s) (F0 m 1557 ls []) := by
  refine va_forget (fun q hq => ?_) ?_
  · have h := hS.2.2 q hq
    rw [hEA] at h
    exact h
  · refine W.widen hc hs ?_
    refine lv_iconst (v := 1) hx hb dL_law_1557 (by decide) ?_
    exact lw_ret hx hb hr hlk dL_law_1558
set_option maxRecDepth 100000 in
set_option maxHeartbeats 4000000 in
theorem law_iter {p : Program} {l : Launch} {e : Env} {s : State} {m : MethodId} {below : List Frame} {meth : Method} {c : Code} {Q : State → Prop} {E : zG} {b L : Nat} {xs : Nat → Int32} (hl0 : l.stackTraces = false) (Cx : zC E p s m #[Value.ref b] meth c RL cL_law wsL_law 7) (hnc : zNc s) (hX : va_X b L xs s s.heap) (hbl : b < s.heap.size) (hbA : ¬ eA E b) {i y x o cells slots : Nat} {ad : Nat → Nat} {sc : Nat → Int32} {g : Nat → Nat → Int32} {ov : Nat → Int64} {Y : va_W} {C : zLs} {V V2 : zCl} {H : Heap} {locs : List Loc} {ls : Array Slot} (hi : i ≤ 4608) (hL : L ≤ 4608) (hc : i + 9 ≤ L → cells + 20 ≤ room_1.cells ∧ slots + 200 ≤ room_1.slots) (St : zSt E y x o ad s sc g ov Y C V V2 H locs) (hl : lv_has ls 7 [(0, .ref b), (1, .ref x), (2, .ref y), (3, .ref o), (4, .int (nI i))])
    (kk : i + 9 ≤ L → zKK p l e s m b below meth c Q E y x o ad i (cells + 20) (slots + 200) 1551) (ke : W p l e room_1 s m #[Value.ref b] below meth c H locs cells slots Q (F0 m 1557 ls [])) : W p l e room_1 s m #[Value.ref b] below meth c H locs cells slots Q (F0 m 23 ls []) := by
  have hx := Cx.1.1
  have hb := Cx.1.2.1
  refine lv_iload hx hb dL_law_23 (lv_at hl 4 rfl) ?_
  refine lv_aload_n hx hb dL_law_25 rfl (lv_at hl 0 rfl) ?_
  refine va_slen hx hb hX hbl hbA St.1.2 dL_law_26 ?_
  refine lv_bipush (v := nI 9) hx hb dL_law_27 (by decide) ?_
  refine lv_isub hx hb dL_law_29 ?_
  refine lv_icmp_gt (tgt := 1557) hx hb dL_law_30 (by decide) (fun _ => ke) (fun h => ?_)
  have hn : i + 9 ≤ L := by
    rw [Int32.lt_iff_toInt_lt, nI_toInt (by omega), show Int32.ofNat L - nI 9 = nI L - nI 9 from rfl, pk_sub_toInt (by omega) (by omega)] at h
    omega
  refine lv_aload_n hx hb dL_law_33 rfl (lv_at hl 0 rfl) ?_
  refine lv_iload hx hb dL_law_34 (lv_at hl 4 rfl) ?_
  refine zl_sld Cx hX hbl hbA St.1 (show i < L by omega) hL dL_law_36 ?_
  refine lv_bipush (v := 31) hx hb dL_law_37 (by decide) ?_
  refine lv_iand hx hb dL_law_39 ?_
  obtain ⟨j, hj, ej⟩ := pk_andE (xs i) (m := 31) 5 (by decide)
  rw [ej]
  exact law_disp hl0 Cx hnc hX hbl hbA hn hL (hc hn).1 (hc hn).2 St hl hj (kk hn)
set_option maxRecDepth 100000 in
set_option maxHeartbeats 4000000 in
theorem law_loop {p : Program} {l : Launch} {e : Env} {s : State} {m : MethodId} {below : List Frame} {meth : Method} {c : Code} {E : zG} {b L : Nat} {xs : Nat → Int32} (hl0 : l.stackTraces = false) (Cx : zC E p s m #[Value.ref b] meth c RL cL_law wsL_law 7) (hnc : zNc s) (hX : va_X b L xs s s.heap) (hbl : b < s.heap.size) (hbA : ¬ eA E b) (hEA : eA E = fun q => s.heap.size ≤ q) (hr : meth.sig.returnType = ret) (hL : L ≤ 4608) {y x o : Nat} {ad : Nat → Nat} : ∀ (k n i : Nat) (sc : Nat → Int32) (g : Nat → Nat → Int32) (ov : Nat → Int64) (Y : va_W) (C : zLs) (V V2 : zCl) (H : Heap) (locs : List Loc) (ls : Array Slot), i = 9 * n → L ≤ i + k → i ≤ 4608 → zSt E y x o ad s sc g ov Y C V V2 H locs → lv_has ls 7 [(0, .ref b), (1, .ref x), (2, .ref y), (3, .ref o), (4, .int (nI i))] → W p l e room_1 s m #[Value.ref b] below meth c H locs (28 + 20 * n) (829 + 200 * n) (lw_Z below #[Value.ref b] s) (F0 m 23 ls []) := by
  intro k
  have hx := Cx.1.1
  have hb := Cx.1.2.1
  induction k with
  | zero =>
    intro n i sc g ov Y C V V2 H locs ls hin hk hi St hl
    exact law_iter hl0 Cx hnc hX hbl hbA hi hL (fun h => absurd h (by omega)) St hl (fun h => absurd h (by omega)) (law_end hx hb hr Cx.2.2 hEA St.1.2 (by omega) (by omega))
  | succ k ih =>
    intro n i sc g ov Y C V V2 H locs ls hin hk hi St hl
    refine law_iter hl0 Cx hnc hX hbl hbA hi hL (fun h => ⟨show 28 + 20 * n + 20 ≤ 863521 by omega, show 829 + 200 * n + 200 ≤ 6505541 by omega⟩) St hl (fun h => ?_) (law_end hx hb hr Cx.2.2 hEA St.1.2 (by omega) (by omega))
    intro sc g ov Y C V V2 H locs ls St hl
    refine lv_iinc (v := nI (i + 9)) hx hb dL_law_1551 hl (k := 4) rfl (nI_add i 9) (by decide) rfl (fun ls hl => ?_)
    refine lv_goto (tgt := 23) hx hb dL_law_1554 (by decide) ?_
    rw [show 28 + 20 * n + 20 = 28 + 20 * (n + 1) by omega, show 829 + 200 * n + 200 = 829 + 200 * (n + 1) by omega]
    exact ih (n + 1) (i + 9) sc g ov Y C V V2 H locs ls (by omega) (by omega) (by omega) St (lv_sub hl [1, 2, 3, 4, 0] rfl)
theorem z_perm3 {A M O : va_W} : ((A ++ M) ++ O).Perm ((M ++ O) ++ A) := by
  rw [List.append_assoc]
  exact List.perm_append_comm
theorem zRC_init {x q0 q1 q2 q3 q4 : Nat} {C : zLs} (h1 : (va_up C q0 (some [])) q1 = none) (h2 : (va_up (va_up C q0 (some [])) q1 (some [])) q2 = none) (h3 : (va_up (va_up (va_up C q0 (some [])) q1 (some [])) q2 (some [])) q3 = none) (h4 : (va_up (va_up (va_up (va_up C q0 (some [])) q1 (some [])) q2 (some [])) q3 (some [])) q4 = none) : zRC [(x, Sum.inr (10, [.ref q0, .ref q1, .ref q2, .ref q3, .ref q4]))] (va_up (va_up (va_up (va_up (va_up C q0 (some [])) q1 (some [])) q2 (some [])) q3 (some [])) q4 (some [])) x ([], [], [], [], []) := by
  have hd : ∀ {C : zLs} {a d : Nat}, (va_up C a (some [])) d = none → d ≠ a ∧ C d = none := by
    intro C a d h
    by_cases e : d = a
    · subst e
      rw [va_up_self] at h
      cases h
    · rw [va_up_ne _ _ e] at h
      exact ⟨e, h⟩
  have a1 := hd h1
  have a2 := hd h2
  have b2 := hd a2.2
  have a3 := hd h3
  have b3 := hd a3.2
  have c3 := hd b3.2
  have a4 := hd h4
  have b4 := hd a4.2
  have c4 := hd b4.2
  have d4 := hd c4.2
  refine ⟨q0, q1, q2, q3, q4, [], [], [], [], [], va_up (va_up (va_up (va_up (va_up (fun _ => (0, 0)) q0 (0, 0)) q1 (0, 1)) q2 (0, 2)) q3 (0, 3)) q4 (0, 4), fun _ => 0, List.mem_cons_self, ⟨?_, ?_, ?_, ?_, va_up_self _ _ _⟩, ⟨⟨rfl, fun i a v h => z_nil h⟩, ⟨rfl, fun i a v h => z_nil h⟩, ⟨rfl, fun i a v h => z_nil h⟩, ⟨rfl, fun i a v h => z_nil h⟩, ⟨rfl, fun i a v h => z_nil h⟩⟩, ⟨List.nodup_nil, List.nodup_nil, List.nodup_nil, List.nodup_nil⟩, ⟨?_, ?_, ?_, ?_, va_up_self _ _ _⟩, ⟨Nat.zero_le _, Nat.zero_le _, Nat.zero_le _, Nat.zero_le _, Nat.zero_le _⟩⟩
  · rw [va_up_ne _ _ (Ne.symm d4.1), va_up_ne _ _ (Ne.symm c3.1), va_up_ne _ _ (Ne.symm b2.1), va_up_ne _ _ (Ne.symm a1.1), va_up_self]
  · rw [va_up_ne _ _ (Ne.symm c4.1), va_up_ne _ _ (Ne.symm b3.1), va_up_ne _ _ (Ne.symm a2.1), va_up_self]
  · rw [va_up_ne _ _ (Ne.symm b4.1), va_up_ne _ _ (Ne.symm a3.1), va_up_self]
  · rw [va_up_ne _ _ (Ne.symm a4.1), va_up_self]
  · rw [va_up_ne _ _ (Ne.symm d4.1), va_up_ne _ _ (Ne.symm c3.1), va_up_ne _ _ (Ne.symm b2.1), va_up_ne _ _ (Ne.symm a1.1), va_up_self]
  · rw [va_up_ne _ _ (Ne.symm c4.1), va_up_ne _ _ (Ne.symm b3.1), va_up_ne _ _ (Ne.symm a2.1), va_up_self]
  · rw [va_up_ne _ _ (Ne.symm b4.1), va_up_ne _ _ (Ne.symm a3.1), va_up_self]
  · rw [va_up_ne _ _ (Ne.symm a4.1), va_up_self]
set_option maxRecDepth 100000 in
set_option maxHeartbeats 4000000 in
theorem whole_start {p : Program} {e : Env} {s : State} {m : MethodId} {below : List Frame} {meth : Method} {c : Code} (l : Launch) (hflags : l.flags = flags0) {b L : Nat} {xs : Nat → Int32} (hL : L ≤ 4608) (C0 : lw_At p s m meth c b L xs) : W p l e room_1 s m #[Value.ref b] below meth c s.heap [] 0 0 (lw_Z below #[Value.ref b] s) (entryFrame m ([Value.ref b] : List Value).toArray 7) := by
  obtain ⟨hx, hb, hr, hml, hown, hts, hX, hbl, hlk, hgv⟩ := C0
  obtain ⟨E, hEA, hK, hnc⟩ := z_env hts hgv
  have hl0 : l.stackTraces = false := by
    unfold Launch.stackTraces
    rw [hflags]
    decide
  have hbA : ¬ eA E b := by
    rw [hEA]
    exact Nat.not_le.mpr hbl
  have Cx : zC E p s m #[Value.ref b] meth c RL cL_law wsL_law 7 := ⟨⟨hx, hb, hml, hown, fun w h => hts w (wsL_law_in w h)⟩, hK, hlk⟩
  have hl : lv_has _ 7 [(0, .ref b)] := lv_entry [Value.ref b] (n := 7) (Nat.le_of_ble_eq_true rfl)
  rw [lg_entry_eq]
  revert hl
  generalize ((lg_sl [Value.ref b] ++ List.replicate (7 - (lg_sl [Value.ref b]).length) Slot.unset).toArray) = ls
  intro hl
  have hw : zHA E ([] ++ []) (fun _ => none) s s.heap [] := ⟨⟨[], ⟨fun k q h => z_nil h, ⟨fun i j p q h => z_nil h, fun k q h => z_nil h⟩⟩, fun _ => 0, fun q es h => nomatch h⟩, va_S.rf⟩
  refine z_new Cx hw (T := TX7) (N := 5) (ci := 10) (fs := [.null, .null, .null, .null, .null]) inlX7 tyX7 tyX7_ok (List.mem_of_getElem? (i := 0) (by decide +kernel)) (List.mem_of_getElem? (i := 1) (by decide +kernel)) (List.mem_of_getElem? (i := 2) (by decide +kernel)) rfl (fun j hj => by rcases (show j = 0 ∨ j = 1 ∨ j = 2 ∨ j = 3 ∨ j = 4 by omega) with rfl | rfl | rfl | rfl | rfl <;> rfl) (Nat.le_of_ble_eq_true rfl) (Nat.le_of_ble_eq_true rfl) dL_law_0 (fun x H hfr hw => ?_)
  refine lv_dup hx hb dL_law_3 rfl ?_
  refine z_gov (wf := fun (u : Nat × Nat × Nat × Nat × Nat) => zQ E ([] ++ ([] ++ [(x, Sum.inr (10, [.ref u.1, .ref u.2.1, .ref u.2.2.1, .ref u.2.2.2.1, .ref u.2.2.2.2]))])) (va_up (va_up (va_up (va_up (va_up (fun _ => none) u.1 (some [])) u.2.1 (some [])) u.2.2.1 (some [])) u.2.2.2.1 (some [])) u.2.2.2.2 (some []))) hw.2 (z_runI Cx hw (c_X7_init E l [] [] (fun _ => none) x (fun _ h => nomatch h)) (cwI 0 Cx.1.2.2.2.2 gL_law_X7_init rfl rfl rfl (Cx.1.2.2.2.2 (.initialized RX7) (List.mem_of_getElem? (i := 2) (by decide +kernel))) (Cx.1.2.2.2.2 (.methodLink RL 77 yX7_init) (List.mem_of_getElem? (i := 7) (by decide +kernel))) (Cx.1.2.2.2.2 (.instanceMethod yX7_init) (List.mem_of_getElem? (i := 8) (by decide +kernel))) rfl (by decide +kernel) ⟨(Nat.le_of_ble_eq_true rfl), (Nat.le_of_ble_eq_true rfl)⟩) rfl hl.1 rfl (Nat.le_of_ble_eq_true rfl) dL_law_4 ⟨(Nat.le_of_ble_eq_true rfl), (Nat.le_of_ble_eq_true rfl)⟩) (fun u H locs hp hw => ?_)
  obtain ⟨q0, q1, q2, q3, q4⟩ := u
  have hrc := zRC_init (x := x) hp.2.1 hp.2.2.1 hp.2.2.2.1 hp.2.2.2.2
  obtain ⟨C, hC⟩ : ∃ C : zLs, C = va_up (va_up (va_up (va_up (va_up (fun _ => none) q0 (some [])) q1 (some [])) q2 (some [])) q3 (some [])) q4 (some []) := ⟨_, rfl⟩
  have hw : zHA E ([] ++ [(x, Sum.inr (10, [.ref q0, .ref q1, .ref q2, .ref q3, .ref q4]))]) C s H locs := by
    rw [hC]
    exact hw
  rw [← hC] at hrc
  refine lv_astore_n hx hb dL_law_7 rfl hl (by decide) rfl (fun ls hl => ?_)
  have hl : lv_has ls 7 [(1, .ref x), (0, .ref b)] := hl
  refine z_new Cx hw (T := TX8) (N := 26) (ci := 11) (fs := [.int 0, .int 0, .null, .int 0, .null, .null, .int 0, .null, .null, .null, .int 0, .null, .null, .int 0, .null, .null, .null, .null, .null, .null, .null, .null, .null, .null, .null, .null]) inlX8 tyX8 tyX8_ok (List.mem_of_getElem? (i := 3) (by decide +kernel)) (List.mem_of_getElem? (i := 4) (by decide +kernel)) (List.mem_of_getElem? (i := 5) (by decide +kernel)) rfl (fun j hj => by rcases (show j = 0 ∨ j = 1 ∨ j = 2 ∨ j = 3 ∨ j = 4 ∨ j = 5 ∨ j = 6 ∨ j = 7 ∨ j = 8 ∨ j = 9 ∨ j = 10 ∨ j = 11 ∨ j = 12 ∨ j = 13 ∨ j = 14 ∨ j = 15 ∨ j = 16 ∨ j = 17 ∨ j = 18 ∨ j = 19 ∨ j = 20 ∨ j = 21 ∨ j = 22 ∨ j = 23 ∨ j = 24 ∨ j = 25 by omega) with rfl | rfl | rfl | rfl | rfl | rfl | rfl | rfl | rfl | rfl | rfl | rfl | rfl | rfl | rfl | rfl | rfl | rfl | rfl | rfl | rfl | rfl | rfl | rfl | rfl | rfl <;> rfl) (Nat.le_of_ble_eq_true rfl) (Nat.le_of_ble_eq_true rfl) dL_law_8 (fun y H hfr hw => ?_)
  refine lv_dup hx hb dL_law_11 rfl ?_
  have hw : zHA E ([(x, Sum.inr (10, [.ref q0, .ref q1, .ref q2, .ref q3, .ref q4]))] ++ [(y, Sum.inr (11, [.int 0, .int 0, .null, .int 0, .null, .null, .int 0, .null, .null, .null, .int 0, .null, .null, .int 0, .null, .null, .null, .null, .null, .null, .null, .null, .null, .null, .null, .null]))]) C s H locs := hw
  refine z_gov (wf := fun (u : Nat → Nat) => zQ E ([(x, Sum.inr (10, [.ref q0, .ref q1, .ref q2, .ref q3, .ref q4]))] ++ zMw E y u (fun _ => 0) (fun _ _ => 0)) C) hw.2 (z_runI Cx hw (c_m_init E l [(x, Sum.inr (10, [.ref q0, .ref q1, .ref q2, .ref q3, .ref q4]))] C y) (cwI 0 Cx.1.2.2.2.2 gL_law_X8_init rfl rfl rfl (Cx.1.2.2.2.2 (.initialized RX8) (List.mem_of_getElem? (i := 5) (by decide +kernel))) (Cx.1.2.2.2.2 (.methodLink RL 80 yX8_init) (List.mem_of_getElem? (i := 36) (by decide +kernel))) (Cx.1.2.2.2.2 (.instanceMethod yX8_init) (List.mem_of_getElem? (i := 37) (by decide +kernel))) rfl (by decide +kernel) ⟨(Nat.le_of_ble_eq_true rfl), (Nat.le_of_ble_eq_true rfl)⟩) rfl hl.1 rfl (Nat.le_of_ble_eq_true rfl) dL_law_12 ⟨(Nat.le_of_ble_eq_true rfl), (Nat.le_of_ble_eq_true rfl)⟩) (fun ad H locs _ hw => ?_)
  refine lv_astore_n hx hb dL_law_15 rfl hl (by decide) rfl (fun ls hl => ?_)
  have hl : lv_has ls 7 [(2, .ref y), (1, .ref x), (0, .ref b)] := hl
  refine lv_iconst (v := nI 1) hx hb dL_law_16 rfl ?_
  refine z_newa Cx hw (ty := .long) (i0 := 3) (a0 := (1, .inr (.inl (fun _ => 0)))) rfl rfl (List.mem_of_getElem? (i := 6) (by decide +kernel)) (fun _ => rfl) (Nat.le_of_ble_eq_true rfl) (Nat.le_of_ble_eq_true rfl) (fun _ h => nomatch h) (Nat.le_of_ble_eq_true rfl) (Nat.le_of_ble_eq_true rfl) dL_law_17 (fun o H hfr hw => ?_)
  refine lv_astore_n hx hb dL_law_19 rfl hl (by decide) rfl (fun ls hl => ?_)
  have hl : lv_has ls 7 [(3, .ref o), (2, .ref y), (1, .ref x), (0, .ref b)] := hl
  refine lv_iconst (v := nI 0) hx hb dL_law_20 rfl ?_
  refine lv_istore hx hb dL_law_21 hl (by decide) rfl (fun ls hl => ?_)
  have hl : lv_has ls 7 [(4, .int (nI 0)), (3, .ref o), (2, .ref y), (1, .ref x), (0, .ref b)] := hl
  have hw : zHA E ((zMw E y ad (fun _ => 0) (fun _ _ => 0) ++ [(o, zoc E (fun _ => 0))]) ++ [(x, Sum.inr (10, [.ref q0, .ref q1, .ref q2, .ref q3, .ref q4]))]) C s H locs := ⟨zQ.perm (Z := ([(x, Sum.inr (10, [.ref q0, .ref q1, .ref q2, .ref q3, .ref q4]))] ++ zMw E y ad (fun _ => 0) (fun _ _ => 0)) ++ [(o, zoc E (fun _ => 0))]) hw.1 z_perm3, hw.2⟩
  exact law_loop hl0 Cx hnc hX hbl hbA hEA hr hL L 0 0 _ _ _ _ C _ _ H locs ls rfl (Nat.le_of_eq (Nat.zero_add L).symm) (Nat.zero_le _) ⟨hw, hrc, zMT_init, zInv_init, zEqv.refl _⟩ (lv_sub hl [4, 3, 2, 1, 0] rfl)
