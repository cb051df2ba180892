theorem zRC_init {x q0 q1 q2 q3 q4 : Nat} {C : zLs} (h1 : (va_up C q0 (some [])) q1 = none) (h2 : (va_up (va_up C q0 (some [])) q1 (some [])) q2 = none) (h3 : (va_up (va_up (va_up C q0 (some [])) q1 (some [])) q2 (some [])) q3 = none) (h4 : (va_up (va_up (va_up (va_up C q0 (some [])) q1 (some [])) q2 (some [])) q3 (some [])) q4 = none) : zRC [(x, Sum.inr (10, [.ref q0, .ref q1, .ref q2, .ref q3, .ref q4]))] (va_up (va_up (va_up (va_up (va_up C q0 (some [])) q1 (some [])) q2 (some [])) q3 (some [])) q4 (some [])) x ([], [], [], [], []) := by
  have hd : ∀ {C : zLs} {a d : Nat}, (va_up C a (some [])) d = none → d ≠ a ∧ C d = none := by
    intro C a d h
    by_cases e : d = a
    · subst e
      rw [va_up_self] at h
      cases h
    · rw [va_up_ne _ _ e] at h
      exact ⟨e, h⟩
  have a1 := hd h1
  have a2 := hd h2
  have b2 := hd a2.2
  have a3 := hd h3
  have b3 := hd a3.2
  have c3 := hd b3.2
  have a4 := hd h4
  have b4 := hd a4.2
  have c4 := hd b4.2
  have d4 := hd c4.2
  refine ⟨q0, q1, q2, q3, q4, [], [], [], [], [], va_up (va_up (va_up (va_up (va_up (fun _ => (0, 0)) q0 (0, 0)) q1 (0, 1)) q2 (0, 2)) q3 (0, 3)) q4 (0, 4), fun _ => 0, List.mem_cons_self, ⟨?_, ?_, ?_, ?_, va_up_self _ _ _⟩, ⟨⟨rfl, fun i a v h => z_nil h⟩, ⟨rfl, fun i a v h => z_nil h⟩, ⟨rfl, fun i a v h => z_nil h⟩, ⟨rfl, fun i a v h => z_nil h⟩, ⟨rfl, fun i a v h => z_nil h⟩⟩, ⟨List.nodup_nil, List.nodup_nil, List.nodup_nil, List.nodup_nil⟩, ⟨?_, ?_, ?_, ?_, va_up_self _ _ _⟩, ⟨Nat.zero_le _, Nat.zero_le _, Nat.zero_le _, Nat.zero_le _, Nat.zero_le _⟩⟩
  · rw [va_up_ne _ _ (Ne.symm d4.1), va_up_ne _ _ (Ne.symm c3.1), va_up_ne _ _ (Ne.symm b2.1), va_up_ne _ _ (Ne.symm a1.1), va_up_self]
  · rw [va_up_ne _ _ (Ne.symm c4.1), va_up_ne _ _ (Ne.symm b3.1), va_up_ne _ _ (Ne.symm a2.1), va_up_self]
  · rw [va_up_ne _ _ (Ne.symm b4.1), va_up_ne _ _ (Ne.symm a3.1), va_up_self]
  · rw [va_up_ne _ _ (Ne.symm a4.1), va_up_self]
  · rw [va_up_ne _ _ (Ne.symm d4.1), va_up_ne _ _ (Ne.symm c3.1), va_up_ne _ _ (Ne.symm b2.1), va_up_ne _ _ (Ne.symm a1.1), va_up_self]
  · rw [va_up_ne _ _ (Ne.symm c4.1), va_up_ne _ _ (Ne.symm b3.1), va_up_ne _ _ (Ne.symm a2.1), va_up_self]
  · rw [va_up_ne _ _ (Ne.symm b4.1), va_up_ne _ _ (Ne.symm a3.1), va_up_self]
  · rw [va_up_ne _ _ (Ne.symm a4.1), va_up_self]
set_option maxRecDepth 100000 in
set_option maxHeartbeats 4000000 in
theorem whole_start {p : Program} {e : Env} {s : State} {m : MethodId} {below : List Frame} {meth : Method} {c : Code} (l : Launch) (hflags : l.flags = flags0) {b L : Nat} {xs : Nat → Int32} (hL : L ≤ 260) (C0 : lw_At p s m meth c b L xs) : W p l e room_1 s m #[Value.ref b] below meth c s.heap [] 0 0 (lw_Z below #[Value.ref b] s) (entryFrame m ([Value.ref b] : List Value).toArray 7) := by
  obtain ⟨hx, hb, hr, hml, hown, hts, hX, hbl, hlk, hgv⟩ := C0
  obtain ⟨E, hEA, hK⟩ := z_env hts hgv
  have hl0 : l.stackTraces = false := by
    unfold Launch.stackTraces
    rw [hflags]
    decide
  have hbA : ¬ eA E b := by
    rw [hEA]
    exact Nat.not_le.mpr hbl
  have Cx : zC E p s m #[Value.ref b] meth c RL cL_law wsLs 7 := ⟨⟨hx, hb, hml, hown, fun w h => hts w (wsLs_in w h)⟩, hK, hlk⟩
  have hl : lv_has _ 7 [(0, .ref b)] := lv_entry [Value.ref b] (n := 7) (Nat.le_of_ble_eq_true rfl)
  rw [lg_entry_eq]
  revert hl
  generalize ((lg_sl [Value.ref b] ++ List.replicate (7 - (lg_sl [Value.ref b]).length) Slot.unset).toArray) = ls
  intro hl
  have hw : zHA E ([] ++ []) (fun _ => none) s s.heap [] := ⟨⟨[], ⟨fun k q h => z_nil h, ⟨fun i j p q h => z_nil h, fun k q h => z_nil h⟩⟩, fun _ => 0, fun q es h => nomatch h⟩, va_S.rf⟩
  refine z_new Cx hw (T := TX7) (N := 5) (ci := 10) (fs := [.null, .null, .null, .null, .null]) (fun w h => List.mem_append_left _ (inlX7 w h)) tyX7 tyX7_ok (List.mem_append_left _ (List.mem_of_getElem? (i := 0) (by decide +kernel))) (List.mem_append_left _ (List.mem_of_getElem? (i := 1) (by decide +kernel))) (List.mem_append_left _ (List.mem_of_getElem? (i := 2) (by decide +kernel))) rfl (fun j hj => by rcases (show j = 0 ∨ j = 1 ∨ j = 2 ∨ j = 3 ∨ j = 4 by omega) with rfl | rfl | rfl | rfl | rfl <;> rfl) (Nat.le_of_ble_eq_true rfl) (Nat.le_of_ble_eq_true rfl) dL_law_0 (fun x H hfr hw => ?_)
  refine lv_dup hx hb dL_law_3 rfl ?_
  refine z_gov (wf := fun (u : Nat × Nat × Nat × Nat × Nat) => zQ E ([] ++ ([] ++ [(x, Sum.inr (10, [.ref u.1, .ref u.2.1, .ref u.2.2.1, .ref u.2.2.2.1, .ref u.2.2.2.2]))])) (va_up (va_up (va_up (va_up (va_up (fun _ => none) u.1 (some [])) u.2.1 (some [])) u.2.2.1 (some [])) u.2.2.2.1 (some [])) u.2.2.2.2 (some []))) hw.2 (z_runI Cx hw (c_X7_init E l [] [] (fun _ => none) x (fun _ h => nomatch h)) (cwI 0 Cx.1.2.2.2.2 (zgm gL_law_X7_init) rfl rfl rfl (Cx.1.2.2.2.2 (.initialized RX7) (List.mem_append_left _ (List.mem_of_getElem? (i := 2) (by decide +kernel)))) (Cx.1.2.2.2.2 (.methodLink RL 88 yX7_init) (List.mem_append_left _ (List.mem_of_getElem? (i := 4) (by decide +kernel)))) (Cx.1.2.2.2.2 (.instanceMethod yX7_init) (List.mem_append_left _ (List.mem_of_getElem? (i := 5) (by decide +kernel)))) rfl (by decide +kernel) ⟨(Nat.le_of_ble_eq_true rfl), (Nat.le_of_ble_eq_true rfl)⟩) rfl hl.1 rfl (Nat.le_of_ble_eq_true rfl) dL_law_4 ⟨(Nat.le_of_ble_eq_true rfl), (Nat.le_of_ble_eq_true rfl)⟩) (fun u H locs hp hw => ?_)
  obtain ⟨q0, q1, q2, q3, q4⟩ := u
  have hrc := zRC_init (x := x) hp.2.1 hp.2.2.1 hp.2.2.2.1 hp.2.2.2.2
  obtain ⟨C, hC⟩ : ∃ C : zLs, C = va_up (va_up (va_up (va_up (va_up (fun _ => none) q0 (some [])) q1 (some [])) q2 (some [])) q3 (some [])) q4 (some []) := ⟨_, rfl⟩
  have hw : zHA E ([] ++ [(x, Sum.inr (10, [.ref q0, .ref q1, .ref q2, .ref q3, .ref q4]))]) C s H locs := by
    rw [hC]
    exact hw
  rw [← hC] at hrc
  refine lv_astore_n hx hb dL_law_7 rfl hl (by decide) rfl (fun ls hl => ?_)
  have hl : lv_has ls 7 [(1, .ref x), (0, .ref b)] := hl
  refine lv_bipush (v := nI 40) hx hb dL_law_8 rfl ?_
  refine z_newa Cx hw (ty := .int) (i0 := 0) (a0 := (40, .inl (fun _ => 0))) rfl rfl (List.mem_append_left _ (List.mem_of_getElem? (i := 3) (by decide +kernel))) (fun _ => rfl) (Nat.le_of_ble_eq_true rfl) (Nat.le_of_ble_eq_true rfl) (fun _ h => nomatch h) (Nat.le_of_ble_eq_true rfl) (Nat.le_of_ble_eq_true rfl) dL_law_10 (fun o H hfr hw => ?_)
  refine lv_astore_n hx hb dL_law_12 rfl hl (by decide) rfl (fun ls hl => ?_)
  have hl : lv_has ls 7 [(2, .ref o), (1, .ref x), (0, .ref b)] := hl
  have hw : zHA E ([(o, zci E (fun _ => 0))] ++ [(x, Sum.inr (10, [.ref q0, .ref q1, .ref q2, .ref q3, .ref q4]))]) C s H locs := ⟨zQ.perm (Z := [(x, Sum.inr (10, [.ref q0, .ref q1, .ref q2, .ref q3, .ref q4]))] ++ [(o, zci E (fun _ => 0))]) hw.1 List.perm_append_comm, hw.2⟩
  refine W.widen (show _ ≤ 600 by omega) (show _ ≤ 10000 by omega) ?_
  exact law_begin hl0 Cx ⟨hX, hbl⟩ hbA hEA hr hL hw hrc (lv_sub hl [2, 1, 0] rfl)
