/-! the law: its words, its start, its loop -/
def wsLs : List Cond := wsL_law ++ (wsL_step ++ wsL_areConnections)
theorem wsLs_in : ∀ w ∈ wsLs, w ∈ lw_tbl := fun w h => (List.mem_append.mp h).elim (fun h => wsL_law_in w h) (fun h => (List.mem_append.mp h).elim (fun h => wsL_step_in w h) (fun h => wsL_areConnections_in w h))
theorem zgm {big ws x : List Cond} (h : GoodIn big ws) : GoodIn (big ++ x) ws := fun w hw => ⟨List.mem_append_left _ (h w hw).1, (h w hw).2⟩
theorem gS_step : GoodIn wsLs (va_wsS RL 99 yL_step wsL_step) := goodIn_app (zgm (goodIn_of _ (by decide +kernel))) (goodIn_sub (fun _ h => List.mem_append_right _ (List.mem_append_left _ h)) wsL_step_good)
theorem gS_area : GoodIn wsLs (va_wsS RL 103 yL_areConnections wsL_areConnections) := goodIn_app (zgm (goodIn_of _ (by decide +kernel))) (goodIn_sub (fun _ h => List.mem_append_right _ (List.mem_append_right _ h)) wsL_areConnections_good)
def zU1 : zCl := ([(nI 0, nI 8)], [], [], [], [])
def zU2 : zCl := ([(nI 0, nI 8)], [(0, (nI 0, nI 6), [], [])], [], [], [])
def zU3 : zCl := ([(nI 0, nI 8)], [(0, (nI 0, nI 6), [], []), (0, (nI 64, nI 6), [], [])], [], [], [])
def zU4 : zCl := ([(nI 0, nI 8), (nI 256, nI 8)], [(0, (nI 0, nI 6), [], []), (0, (nI 64, nI 6), [], [])], [], [], [])
def zU5 : zCl := ([(nI 0, nI 8), (nI 256, nI 8)], [(0, (nI 0, nI 6), [], []), (0, (nI 64, nI 6), [], []), (1, (nI 256, nI 6), [], [])], [], [], [])
def zU6 : zCl := ([(nI 0, nI 8), (nI 256, nI 8)], [(0, (nI 0, nI 6), [], []), (0, (nI 64, nI 6), [], []), (1, (nI 256, nI 6), [], []), (1, (nI 320, nI 6), [], [])], [], [], [])
def zU7 : zCl := ([(nI 0, nI 8), (nI 256, nI 8), (nI 512, nI 8)], [(0, (nI 0, nI 6), [], []), (0, (nI 64, nI 6), [], []), (1, (nI 256, nI 6), [], []), (1, (nI 320, nI 6), [], [])], [], [], [])
def zU8 : zCl := ([(nI 0, nI 8), (nI 256, nI 8), (nI 512, nI 8)], [(0, (nI 0, nI 6), [], []), (0, (nI 64, nI 6), [], []), (1, (nI 256, nI 6), [], []), (1, (nI 320, nI 6), [], []), (2, (nI 512, nI 6), [], [])], [], [], [])
def zU9 : zCl := ([(nI 0, nI 8), (nI 256, nI 8), (nI 512, nI 8)], [(0, (nI 0, nI 6), [], []), (0, (nI 64, nI 6), [], []), (1, (nI 256, nI 6), [], []), (1, (nI 320, nI 6), [], []), (2, (nI 512, nI 6), [], []), (2, (nI 576, nI 6), [], [])], [], [], [])
theorem z_nil {α : Type} {i : Nat} {v : α} {P : Prop} (h : ([] : List α)[i]? = some v) : P := by
  rw [List.getElem?_nil] at h
  cases h
def zUe : zCl := ([], [], [], [], [])
theorem zInv_e : zInv zUe := ⟨⟨fun w h => (List.not_mem_nil h).elim, fun i j v w x h => z_nil h⟩, fun v h => (List.not_mem_nil h).elim, fun v h => (List.not_mem_nil h).elim, fun v h => (List.not_mem_nil h).elim, Nat.zero_le _⟩
theorem zbk_n {B K : Nat} (hK : K ≤ 10) (hB : B < 1024) (h : B % 2 ^ K = 0) : zbok (nI B) (nI K) := (zbok_iff (by omega) hK).mpr ⟨hB, h⟩
theorem zA_net {V V' : zCl} {b z r : Int32} (h1 : zbok b z) (h2 : (vN V).length < 4) (h3 : (vN V).any (fun w => zovl w (b, z)) = false) (hr : r = nI (vN V).length) (hV : V' = (vN V ++ [(b, z)], V.2)) : zA_addNetwork V b z 0 r V' := Or.inr ⟨h1, Or.inr ⟨⟨h2, h3⟩, rfl, hV, hr⟩⟩
theorem zA_sub {V V' : zCl} {k : Nat} {w : zBk} {b z r : Int32} (hk : (vN V)[k]? = some w) (h1 : zbok b z) (h2 : zwin w b z = true) (h3 : (vS V).length < 8) (h4 : (vS V).any (fun (s : zSb) => zovl s.2.1 (b, z)) = false) (hr : r = nI (vS V).length) (hV : V' = (vN V, vS V ++ [(k, (b, z), [], [])], V.2.2)) : zA_addSubnet V (nI k) b z 0 r V' := Or.inr ⟨⟨k, (List.getElem?_eq_some_iff.mp hk).1, rfl⟩, k, w, rfl, hk, Or.inr ⟨⟨h1, h2⟩, Or.inr ⟨⟨h3, h4⟩, rfl, hV, hr⟩⟩⟩
theorem zInv_1 : zInv zU1 := zk_addNetwork (b := nI 0) (z := nI 8) (c := 0) (r := nI (vN zUe).length) zInv_e (zA_net (zbk_n (by omega) (by omega) (by omega)) (by decide +kernel) (by decide +kernel) rfl rfl)
theorem zInv_2 : zInv zU2 := zk_addSubnet (f := nI 0) (b := nI 0) (z := nI 6) (c := 0) (r := nI (vS zU1).length) zInv_1 (zA_sub (k := 0) (w := (nI 0, nI 8)) rfl (zbk_n (by omega) (by omega) (by omega)) (by decide +kernel) (by decide +kernel) (by decide +kernel) rfl rfl)
theorem zInv_3 : zInv zU3 := zk_addSubnet (f := nI 0) (b := nI 64) (z := nI 6) (c := 0) (r := nI (vS zU2).length) zInv_2 (zA_sub (k := 0) (w := (nI 0, nI 8)) rfl (zbk_n (by omega) (by omega) (by omega)) (by decide +kernel) (by decide +kernel) (by decide +kernel) rfl rfl)
theorem zInv_4 : zInv zU4 := zk_addNetwork (b := nI 256) (z := nI 8) (c := 0) (r := nI (vN zU3).length) zInv_3 (zA_net (zbk_n (by omega) (by omega) (by omega)) (by decide +kernel) (by decide +kernel) rfl rfl)
theorem zInv_5 : zInv zU5 := zk_addSubnet (f := nI 1) (b := nI 256) (z := nI 6) (c := 0) (r := nI (vS zU4).length) zInv_4 (zA_sub (k := 1) (w := (nI 256, nI 8)) rfl (zbk_n (by omega) (by omega) (by omega)) (by decide +kernel) (by decide +kernel) (by decide +kernel) rfl rfl)
theorem zInv_6 : zInv zU6 := zk_addSubnet (f := nI 1) (b := nI 320) (z := nI 6) (c := 0) (r := nI (vS zU5).length) zInv_5 (zA_sub (k := 1) (w := (nI 256, nI 8)) rfl (zbk_n (by omega) (by omega) (by omega)) (by decide +kernel) (by decide +kernel) (by decide +kernel) rfl rfl)
theorem zInv_7 : zInv zU7 := zk_addNetwork (b := nI 512) (z := nI 8) (c := 0) (r := nI (vN zU6).length) zInv_6 (zA_net (zbk_n (by omega) (by omega) (by omega)) (by decide +kernel) (by decide +kernel) rfl rfl)
theorem zInv_8 : zInv zU8 := zk_addSubnet (f := nI 2) (b := nI 512) (z := nI 6) (c := 0) (r := nI (vS zU7).length) zInv_7 (zA_sub (k := 2) (w := (nI 512, nI 8)) rfl (zbk_n (by omega) (by omega) (by omega)) (by decide +kernel) (by decide +kernel) (by decide +kernel) rfl rfl)
theorem zInv_9 : zInv zU9 := zk_addSubnet (f := nI 2) (b := nI 576) (z := nI 6) (c := 0) (r := nI (vS zU8).length) zInv_8 (zA_sub (k := 2) (w := (nI 512, nI 8)) rfl (zbk_n (by omega) (by omega) (by omega)) (by decide +kernel) (by decide +kernel) (by decide +kernel) rfl rfl)
theorem zLw_9 : zLw zU9 (fun _ => 0) := by
  refine ⟨⟨zInv_9, rfl, rfl, fun s v hv => ?_, Nat.zero_le _, Nat.zero_le _, fun v h => (List.not_mem_nil h).elim⟩, rfl, rfl, rfl, fun i h hh => z_nil hh, fun g _ => ?_, fun s v hv => ?_⟩
  · have hs : s < 6 := (List.getElem?_eq_some_iff.mp hv).1
    rcases (show s = 0 ∨ s = 1 ∨ s = 2 ∨ s = 3 ∨ s = 4 ∨ s = 5 by omega) with rfl | rfl | rfl | rfl | rfl | rfl <;> (cases hv; exact ⟨rfl, rfl, Nat.zero_le _, fun _ h => (List.not_mem_nil h).elim, fun _ h => (List.not_mem_nil h).elim⟩)
  · rw [zgl_out (Nat.zero_le g)]
    rfl
  · have hs : s < 6 := (List.getElem?_eq_some_iff.mp hv).1
    rcases (show s = 0 ∨ s = 1 ∨ s = 2 ∨ s = 3 ∨ s = 4 ∨ s = 5 by omega) with rfl | rfl | rfl | rfl | rfl | rfl <;> (cases hv; rfl)
set_option maxRecDepth 100000 in
set_option maxHeartbeats 4000000 in
theorem law_exit {p : Program} {l : Launch} {e : Env} {s : State} {m : MethodId} {below : List Frame} {meth : Method} {c : Code} {E : zG} {b L : Nat} {xs : Nat → Int32} (hl0 : l.stackTraces = false) (Cx : zC E p s m #[Value.ref b] meth c RL cL_law wsLs 7) (hX : zXs b L xs s) (hbA : ¬ eA E b) (hEA : eA E = fun q => s.heap.size ≤ q) (hr : meth.sig.returnType = ret) (hL260 : L ≤ 260) {x o : Nat} {cells slots st k : Nat} {f : Nat → Int32} {Y : va_W} {C : zLs} {V : zCl} {H : Heap} {locs : List Loc} {ls : Array Slot} (hroom : cells + 20 ≤ room_1.cells ∧ slots + 200 ≤ room_1.slots) (hroom2 : cells + 20 + 20 ≤ room_1.cells ∧ slots + 200 + 200 ≤ room_1.slots) (hcl : cells + 20 + 20 ≤ 600056) (hsl : slots + 200 + 200 ≤ 7301712) (hw : zHA E ([(o, zci E f)] ++ Y) C s H locs) (hrc : zRC Y C x V) (hL : zLw V f) (hl : lv_has ls 7 [(0, .ref b), (1, .ref x), (2, .ref o), (3, .int (nI 1)), (4, .int (nI st)), (5, .int (nI k))]) : W p l e room_1 s m #[Value.ref b] below meth c H locs cells slots (lw_Z below #[Value.ref b] s) (F0 m 211 ls []) := by
  have hx := Cx.1.1
  have hb := Cx.1.2.1
  obtain ⟨xf, hx0⟩ := hrc.x
  have hH8 := hL.1.2.2.2.2.1
  have hS6 := hL.1.2.2.1
  refine lv_iload_n hx hb dL_law_211 rfl (lv_at hl 3 rfl) ?_
  refine lv_if_eq (tgt := 237) hx hb dL_law_212 (by decide) (fun c_212 => ?_) (fun c_212 => ?_)
  · skip
    have n_212 : 1 = 0 := (nI_eq (b := 0) (by omega) (by omega)).mp c_212
    omega
  · skip
    have n_212 : ¬ 1 = 0 := fun h => c_212 ((nI_eq (b := 0) (by omega) (by omega)).mpr h)
    refine lv_aload_n hx hb dL_law_215 rfl (lv_at hl 1 rfl) ?_
    refine lv_iconst (v := nI 0) hx hb dL_law_216 rfl ?_
    have hpl := zpairs_lt V (zbit (nI 0)) (N := (vH V).length) (by omega)
    refine z_goe hw.2 (z_runV Cx hw (c_q_pairs E l _ C x V hl0 (hrc.grow (fun q hq => List.mem_append_right _ hq)) 0 (by omega)) (cwV 1 Cx.1.2.2.2.2 (zgm gL_law_X7_pairs) rfl rfl rfl (by decide +kernel) ⟨(Nat.le_of_ble_eq_true rfl), (Nat.le_of_ble_eq_true rfl)⟩) (z_recv Cx hw (r := (RX7, TX7, 5)) (List.mem_append_right _ hx0) rfl) rfl hl.1 rfl (Nat.le_of_ble_eq_true rfl) dL_law_217 hroom) (fun H locs hw => ?_)
    refine lv_if_lt (tgt := 237) hx hb dL_law_220 (by decide) (fun c_220 => ?_) (fun c_220 => ?_)
    · skip
      have n_220 : (zpairsO V (zbit (nI 0)) (vH V).length (vH V).length 0 0) < 0 := (nI_ltI (b := 0) (by omega) (by omega)).mp c_220
      omega
    · skip
      have n_220 : ¬ (zpairsO V (zbit (nI 0)) (vH V).length (vH V).length 0 0) < 0 := fun h => c_220 ((nI_ltI (b := 0) (by omega) (by omega)).mpr h)
      refine lv_aload_n hx hb dL_law_223 rfl (lv_at hl 1 rfl) ?_
      refine lv_iconst (v := nI 0) hx hb dL_law_224 rfl ?_
      refine lv_iconst (v := nI 0) hx hb dL_law_225 rfl ?_
      refine z_goe hw.2 (z_runV Cx hw (c_q_routeFor E l _ C x V hl0 (hrc.grow (fun q hq => List.mem_append_right _ hq)) 0 (nI 0) (by omega) (zadr_n (by omega)) (by omega)) (cwV 2 Cx.1.2.2.2.2 (zgm gL_law_X7_routeFor) rfl rfl rfl (by decide +kernel) ⟨(Nat.le_of_ble_eq_true rfl), (Nat.le_of_ble_eq_true rfl)⟩) (z_recv Cx hw (r := (RX7, TX7, 5)) (List.mem_append_right _ hx0) rfl) rfl hl.1 rfl (Nat.le_of_ble_eq_true rfl) dL_law_226 hroom2) (fun H locs hw => ?_)
      refine lv_iconst (v := (-1)) hx hb dL_law_229 rfl ?_
      refine lv_icmp_lt (tgt := 237) hx hb dL_law_230 (by decide) (fun c_230 => ?_) (fun c_230 => ?_)
      · skip
        exact absurd c_230 (zroute_ge hL.1 (by omega) (by rw [show nI (256 * (0 / 2)) = nI 0 from rfl]; decide +kernel))
      · skip
        refine lv_iconst (v := nI 1) hx hb dL_law_233 rfl ?_
        refine lv_goto (tgt := 238) hx hb dL_law_234 (by decide) ?_
        refine va_forget (fun q hq => ?_) ?_
        · have h := hw.2.2.2 q hq
          rw [hEA] at h
          exact h
        · refine W.widen hcl hsl ?_
          exact lw_ret hx hb hr Cx.2.2 dL_law_238
set_option maxRecDepth 100000 in
set_option maxHeartbeats 4000000 in
theorem law_loop {p : Program} {l : Launch} {e : Env} {s : State} {m : MethodId} {below : List Frame} {meth : Method} {c : Code} {E : zG} {b L : Nat} {xs : Nat → Int32} (hl0 : l.stackTraces = false) (Cx : zC E p s m #[Value.ref b] meth c RL cL_law wsLs 7) (hX : zXs b L xs s) (hbA : ¬ eA E b) (hEA : eA E = fun q => s.heap.size ≤ q) (hr : meth.sig.returnType = ret) (hL260 : L ≤ 260) {x o : Nat} {st : Nat} (hst : st ≤ 60) (hst3 : 3 * st ≤ L) : ∀ (n k : Nat) (f : Nat → Int32) (Y : va_W) (C : zLs) (V : zCl) (H : Heap) (locs : List Loc) (ls : Array Slot), st ≤ k + n → k ≤ st → zHA E ([(o, zci E f)] ++ Y) C s H locs → zRC Y C x V → zLw V f → lv_has ls 7 [(0, .ref b), (1, .ref x), (2, .ref o), (3, .int (nI 1)), (4, .int (nI st)), (5, .int (nI k))] → W p l e room_1 s m #[Value.ref b] below meth c H locs (1000 + 5400 * k) (20000 + 54000 * k) (lw_Z below #[Value.ref b] s) (F0 m 127 ls []) := by
  intro n
  induction n with
  | zero =>
    intro k f Y C V H locs ls hn hk hw hrc hL hl
    have hx := Cx.1.1
    have hb := Cx.1.2.1
    refine lv_iload hx hb dL_law_127 (lv_at hl 5 rfl) ?_
    refine lv_iload hx hb dL_law_129 (lv_at hl 4 rfl) ?_
    refine lv_icmp_ge (tgt := 211) hx hb dL_law_131 (by decide) (fun c_131 => ?_) (fun c_131 => ?_)
    · skip
      have n_131 : st ≤ k := (nI_leI (by omega) (by omega)).mp c_131
      exact law_exit hl0 Cx hX hbA hEA hr hL260 ⟨(show _ ≤ 600056 by omega), (show _ ≤ 7301712 by omega)⟩ ⟨(show _ ≤ 600056 by omega), (show _ ≤ 7301712 by omega)⟩ (by omega) (by omega) hw hrc hL hl
    · skip
      have n_131 : ¬ st ≤ k := fun h => c_131 ((nI_leI (by omega) (by omega)).mpr h)
      omega
  | succ n ih =>
    intro k f Y C V H locs ls hn hk hw hrc hL hl
    have hx := Cx.1.1
    have hb := Cx.1.2.1
    refine lv_iload hx hb dL_law_127 (lv_at hl 5 rfl) ?_
    refine lv_iload hx hb dL_law_129 (lv_at hl 4 rfl) ?_
    refine lv_icmp_ge (tgt := 211) hx hb dL_law_131 (by decide) (fun c_131 => ?_) (fun c_131 => ?_)
    · skip
      have n_131 : st ≤ k := (nI_leI (by omega) (by omega)).mp c_131
      exact law_exit hl0 Cx hX hbA hEA hr hL260 ⟨(show _ ≤ 600056 by omega), (show _ ≤ 7301712 by omega)⟩ ⟨(show _ ≤ 600056 by omega), (show _ ≤ 7301712 by omega)⟩ (by omega) (by omega) hw hrc hL hl
    · skip
      have n_131 : ¬ st ≤ k := fun h => c_131 ((nI_leI (by omega) (by omega)).mpr h)
      refine lv_iload_n hx hb dL_law_134 rfl (lv_at hl 3 rfl) ?_
      refine lv_if_eq (tgt := 211) hx hb dL_law_135 (by decide) (fun c_135 => ?_) (fun c_135 => ?_)
      · skip
        have n_135 : 1 = 0 := (nI_eq (b := 0) (by omega) (by omega)).mp c_135
        omega
      · skip
        have n_135 : ¬ 1 = 0 := fun h => c_135 ((nI_eq (b := 0) (by omega) (by omega)).mpr h)
        refine lv_aload_n hx hb dL_law_138 rfl (lv_at hl 0 rfl) ?_
        refine lv_iconst (v := nI 3) hx hb dL_law_139 rfl ?_
        refine lv_iload hx hb dL_law_140 (lv_at hl 5 rfl) ?_
        refine lv_imul hx hb dL_law_142 ?_
        refine lv_topi (fun q_142 e_142 => ?_)
        rw [pk_mul] at e_142
        subst e_142
        refine lv_iconst (v := nI 2) hx hb dL_law_143 rfl ?_
        refine lv_iadd hx hb dL_law_144 ?_
        refine lv_topi (fun q_144 e_144 => ?_)
        rw [nI_add] at e_144
        subst e_144
        refine z_goe hw.2 (z_runSN Cx hw (zXs_at hX hbA hw) zXs_calling (c_L_draw E l (zQ E ([(o, zci E f)] ++ Y) C) b L (3 * k + 2) xs (by omega) (by omega) hbA) (va_cwS 2 Cx.1.2.2.2.2 (zgm gL_law_L_draw) rfl rfl rfl (by decide +kernel) ⟨(Nat.le_of_ble_eq_true rfl), (Nat.le_of_ble_eq_true rfl)⟩) rfl hl.1 rfl (Nat.le_of_ble_eq_true rfl) dL_law_145 ⟨(show _ ≤ 600056 by omega), (show _ ≤ 7301712 by omega)⟩) (fun H locs hw => ?_)
        obtain ⟨j2, hj2, ej2⟩ := pk_andE (xs (3 * k + 2)) (m := 2147483647) 31 (by decide)
        rw [ej2]
        refine lv_istore hx hb dL_law_148 hl (by decide) rfl (fun ls hl => ?_)
        have hl : lv_has ls 7 [(6, .int (nI j2)), (0, .ref b), (1, .ref x), (2, .ref o), (3, .int (nI 1)), (4, .int (nI st)), (5, .int (nI k))] := hl
        refine lv_aload_n hx hb dL_law_150 rfl (lv_at hl 2 rfl) ?_
        refine lv_aload_n hx hb dL_law_151 rfl (lv_at hl 3 rfl) ?_
        refine lv_aload_n hx hb dL_law_152 rfl (lv_at hl 1 rfl) ?_
        refine lv_iconst (v := nI 3) hx hb dL_law_153 rfl ?_
        refine lv_iload hx hb dL_law_154 (lv_at hl 6 rfl) ?_
        refine lv_imul hx hb dL_law_156 ?_
        refine lv_topi (fun q_156 e_156 => ?_)
        rw [pk_mul] at e_156
        subst e_156
        refine z_goe hw.2 (z_runSN Cx hw (zXs_at hX hbA hw) zXs_calling (c_L_draw E l (zQ E ([(o, zci E f)] ++ Y) C) b L (3 * k) xs (by omega) (by omega) hbA) (va_cwS 2 Cx.1.2.2.2.2 (zgm gL_law_L_draw) rfl rfl rfl (by decide +kernel) ⟨(Nat.le_of_ble_eq_true rfl), (Nat.le_of_ble_eq_true rfl)⟩) rfl hl.1 rfl (Nat.le_of_ble_eq_true rfl) dL_law_157 ⟨(show _ ≤ 600056 by omega), (show _ ≤ 7301712 by omega)⟩) (fun H locs hw => ?_)
        obtain ⟨j0, hj0, ej0⟩ := pk_andE (xs (3 * k)) (m := 2147483647) 31 (by decide)
        rw [ej0]
        refine lv_aload_n hx hb dL_law_160 rfl (lv_at hl 1 rfl) ?_
        refine lv_iconst (v := nI 3) hx hb dL_law_161 rfl ?_
        refine lv_iload hx hb dL_law_162 (lv_at hl 6 rfl) ?_
        refine lv_imul hx hb dL_law_164 ?_
        refine lv_topi (fun q_164 e_164 => ?_)
        rw [pk_mul] at e_164
        subst e_164
        refine lv_iconst (v := nI 1) hx hb dL_law_165 rfl ?_
        refine lv_iadd hx hb dL_law_166 ?_
        refine lv_topi (fun q_166 e_166 => ?_)
        rw [nI_add] at e_166
        subst e_166
        refine z_goe hw.2 (z_runSN Cx hw (zXs_at hX hbA hw) zXs_calling (c_L_draw E l (zQ E ([(o, zci E f)] ++ Y) C) b L (3 * k + 1) xs (by omega) (by omega) hbA) (va_cwS 2 Cx.1.2.2.2.2 (zgm gL_law_L_draw) rfl rfl rfl (by decide +kernel) ⟨(Nat.le_of_ble_eq_true rfl), (Nat.le_of_ble_eq_true rfl)⟩) rfl hl.1 rfl (Nat.le_of_ble_eq_true rfl) dL_law_167 ⟨(show _ ≤ 600056 by omega), (show _ ≤ 7301712 by omega)⟩) (fun H locs hw => ?_)
        obtain ⟨j1, hj1, ej1⟩ := pk_andE (xs (3 * k + 1)) (m := 2147483647) 31 (by decide)
        rw [ej1]
        refine lv_iload hx hb dL_law_170 (lv_at hl 0 rfl) ?_
        refine z_goi (wf := fun (u : zUw) => zQ E ([(o, zci E u.2.1)] ++ u.1.1) u.1.2) hw.2 (z_runS Cx hw (c_L_step E l hl0 x o f Y C V hrc hL j0 j1 j2 hj0 hj1 hj2) (va_cwS 5 Cx.1.2.2.2.2 gS_step rfl rfl rfl (by decide +kernel) ⟨(Nat.le_of_ble_eq_true rfl), (Nat.le_of_ble_eq_true rfl)⟩) rfl hl.1 rfl (Nat.le_of_ble_eq_true rfl) dL_law_172 ⟨(show _ ≤ 600056 by omega), (show _ ≤ 7301712 by omega)⟩) (fun r_172 u_172 H locs hp hw => ?_)
        obtain ⟨⟨Y1, C1⟩, f1, V1⟩ := u_172
        obtain ⟨hr_172, hrc, hL⟩ := hp
        have hr_172 : r_172 = nI 1 := hr_172
        subst hr_172
        have hrc : zRC Y1 C1 x V1 := hrc
        have hL : zLw V1 f1 := hL
        have hw : zHA E ([(o, zci E f1)] ++ Y1) C1 s H locs := hw
        obtain ⟨xf, hx0⟩ := hrc.x
        refine lv_if_eq (tgt := 203) hx hb dL_law_175 (by decide) (fun c_175 => ?_) (fun c_175 => ?_)
        · skip
          have n_175 : 1 = 0 := (nI_eq (b := 0) (by omega) (by omega)).mp c_175
          omega
        · skip
          have n_175 : ¬ 1 = 0 := fun h => c_175 ((nI_eq (b := 0) (by omega) (by omega)).mpr h)
          refine lv_iload hx hb dL_law_178 (lv_at hl 6 rfl) ?_
          refine lv_iconst (v := nI 5) hx hb dL_law_180 rfl ?_
          refine lv_irem hx hb dL_law_181 (nI_ne0 (by omega) (by omega)) ?_
          refine lv_topi (fun q_181 e_181 => ?_)
          rw [pk_rem (by omega) (by omega) (by omega)] at e_181
          subst e_181
          refine lv_iconst (v := nI 4) hx hb dL_law_182 rfl ?_
          refine lv_icmp_lt (tgt := 199) hx hb dL_law_183 (by decide) (fun c_183 => ?_) (fun c_183 => ?_)
          · skip
            have n_183 : (k % 5) < 4 := (nI_ltI (by omega) (by omega)).mp c_183
            refine lv_iconst (v := nI 1) hx hb dL_law_199 rfl ?_
            refine lv_goto (tgt := 204) hx hb dL_law_200 (by decide) ?_
            refine lv_istore_n hx hb dL_law_204 rfl hl (by decide) rfl (fun ls hl => ?_)
            have hl : lv_has ls 7 [(3, .int (nI 1)), (6, .int (nI j2)), (0, .ref b), (1, .ref x), (2, .ref o), (4, .int (nI st)), (5, .int (nI k))] := hl
            refine lv_iinc (v := nI (k + 1)) hx hb dL_law_205 hl (k := 6) rfl (nI_add _ _) (by decide) rfl (fun ls hl => ?_)
            have hl : lv_has ls 7 [(5, .int (nI (k + 1))), (3, .int (nI 1)), (6, .int (nI j2)), (0, .ref b), (1, .ref x), (2, .ref o), (4, .int (nI st))] := hl
            refine lv_goto (tgt := 127) hx hb dL_law_208 (by decide) ?_
            refine W.widen (show _ ≤ 1000 + 5400 * (k + 1) by omega) (show _ ≤ 20000 + 54000 * (k + 1) by omega) ?_
            exact ih (k + 1) f1 Y1 C1 V1 _ _ ls (by omega) (by omega) hw hrc hL (lv_sub hl [3, 4, 5, 1, 6, 0] rfl)
          · skip
            have n_183 : ¬ (k % 5) < 4 := fun h => c_183 ((nI_ltI (by omega) (by omega)).mpr h)
            refine lv_aload_n hx hb dL_law_186 rfl (lv_at hl 2 rfl) ?_
            refine lv_aload_n hx hb dL_law_187 rfl (lv_at hl 3 rfl) ?_
            refine lv_iload hx hb dL_law_188 (lv_at hl 0 rfl) ?_
            refine lv_bipush (v := nI 16) hx hb dL_law_190 rfl ?_
            refine lv_irem hx hb dL_law_192 (nI_ne0 (by omega) (by omega)) ?_
            refine lv_topi (fun q_192 e_192 => ?_)
            rw [pk_rem (by omega) (by omega) (by omega)] at e_192
            subst e_192
            refine z_goi (wf := fun (u : zUw) => zQ E ([(o, zci E u.2.1)] ++ u.1.1) u.1.2) hw.2 (z_runS Cx hw (c_L_areConnections E l hl0 x o f1 Y1 C1 V1 hrc hL (j2 % 16) (by omega)) (va_cwS 3 Cx.1.2.2.2.2 gS_area rfl rfl rfl (by decide +kernel) ⟨(Nat.le_of_ble_eq_true rfl), (Nat.le_of_ble_eq_true rfl)⟩) rfl hl.1 rfl (Nat.le_of_ble_eq_true rfl) dL_law_193 ⟨(show _ ≤ 600056 by omega), (show _ ≤ 7301712 by omega)⟩) (fun r_193 u_193 H locs hp hw => ?_)
            obtain ⟨⟨Y2, C2⟩, f2, V2⟩ := u_193
            obtain ⟨hr_193, hrc, hL⟩ := hp
            have hr_193 : r_193 = nI 1 := hr_193
            subst hr_193
            have hrc : zRC Y2 C2 x V2 := hrc
            have hL : zLw V2 f2 := hL
            have hw : zHA E ([(o, zci E f2)] ++ Y2) C2 s H locs := hw
            obtain ⟨xf, hx0⟩ := hrc.x
            refine lv_if_eq (tgt := 203) hx hb dL_law_196 (by decide) (fun c_196 => ?_) (fun c_196 => ?_)
            · skip
              have n_196 : 1 = 0 := (nI_eq (b := 0) (by omega) (by omega)).mp c_196
              omega
            · skip
              have n_196 : ¬ 1 = 0 := fun h => c_196 ((nI_eq (b := 0) (by omega) (by omega)).mpr h)
              refine lv_iconst (v := nI 1) hx hb dL_law_199 rfl ?_
              refine lv_goto (tgt := 204) hx hb dL_law_200 (by decide) ?_
              refine lv_istore_n hx hb dL_law_204 rfl hl (by decide) rfl (fun ls hl => ?_)
              have hl : lv_has ls 7 [(3, .int (nI 1)), (6, .int (nI j2)), (0, .ref b), (1, .ref x), (2, .ref o), (4, .int (nI st)), (5, .int (nI k))] := hl
              refine lv_iinc (v := nI (k + 1)) hx hb dL_law_205 hl (k := 6) rfl (nI_add _ _) (by decide) rfl (fun ls hl => ?_)
              have hl : lv_has ls 7 [(5, .int (nI (k + 1))), (3, .int (nI 1)), (6, .int (nI j2)), (0, .ref b), (1, .ref x), (2, .ref o), (4, .int (nI st))] := hl
              refine lv_goto (tgt := 127) hx hb dL_law_208 (by decide) ?_
              refine W.widen (show _ ≤ 1000 + 5400 * (k + 1) by omega) (show _ ≤ 20000 + 54000 * (k + 1) by omega) ?_
              exact ih (k + 1) f2 Y2 C2 V2 _ _ ls (by omega) (by omega) hw hrc hL (lv_sub hl [3, 4, 5, 1, 6, 0] rfl)
set_option maxRecDepth 100000 in
set_option maxHeartbeats 4000000 in
theorem law_begin {p : Program} {l : Launch} {e : Env} {s : State} {m : MethodId} {below : List Frame} {meth : Method} {c : Code} {E : zG} {b L : Nat} {xs : Nat → Int32} (hl0 : l.stackTraces = false) (Cx : zC E p s m #[Value.ref b] meth c RL cL_law wsLs 7) (hX : zXs b L xs s) (hbA : ¬ eA E b) (hEA : eA E = fun q => s.heap.size ≤ q) (hr : meth.sig.returnType = ret) (hL260 : L ≤ 260) {x o : Nat} {Y : va_W} {C : zLs} {H : Heap} {locs : List Loc} {ls : Array Slot} (hw : zHA E ([(o, zci E (fun _ => 0))] ++ Y) C s H locs) (hrc : zRC Y C x zUe) (hl : lv_has ls 7 [(0, .ref b), (1, .ref x), (2, .ref o)]) : W p l e room_1 s m #[Value.ref b] below meth c H locs 600 10000 (lw_Z below #[Value.ref b] s) (F0 m 13 ls []) := by
  have hx := Cx.1.1
  have hb := Cx.1.2.1
  obtain ⟨xf, hx0⟩ := hrc.x
  refine lv_iconst (v := nI 1) hx hb dL_law_13 rfl ?_
  refine lv_istore_n hx hb dL_law_14 rfl hl (by decide) rfl (fun ls hl => ?_)
  have hl : lv_has ls 7 [(3, .int (nI 1)), (0, .ref b), (1, .ref x), (2, .ref o)] := hl
  refine lv_iconst (v := nI 0) hx hb dL_law_15 rfl ?_
  refine lv_istore hx hb dL_law_16 hl (by decide) rfl (fun ls hl => ?_)
  have hl : lv_has ls 7 [(4, .int (nI 0)), (3, .int (nI 1)), (0, .ref b), (1, .ref x), (2, .ref o)] := hl
  refine lv_iload hx hb dL_law_18 (lv_at hl 0 rfl) ?_
  refine lv_iconst (v := nI 3) hx hb dL_law_20 rfl ?_
  refine lv_icmp_ge (tgt := 104) hx hb dL_law_21 (by decide) (fun c_21 => ?_) (fun c_21 => ?_)
  · skip
    have n_21 : 3 ≤ 0 := (nI_leI (by omega) (by omega)).mp c_21
    omega
  · skip
    have n_21 : ¬ 3 ≤ 0 := fun h => c_21 ((nI_leI (by omega) (by omega)).mpr h)
    refine lv_iload_n hx hb dL_law_24 rfl (lv_at hl 1 rfl) ?_
    refine lv_if_eq (tgt := 96) hx hb dL_law_25 (by decide) (fun c_25 => ?_) (fun c_25 => ?_)
    · skip
      have n_25 : 1 = 0 := (nI_eq (b := 0) (by omega) (by omega)).mp c_25
      omega
    · skip
      have n_25 : ¬ 1 = 0 := fun h => c_25 ((nI_eq (b := 0) (by omega) (by omega)).mpr h)
      refine lv_aload_n hx hb dL_law_28 rfl (lv_at hl 3 rfl) ?_
      refine lv_sipush (v := nI 256) hx hb dL_law_29 rfl ?_
      refine lv_iload hx hb dL_law_32 (lv_at hl 0 rfl) ?_
      refine lv_imul hx hb dL_law_34 ?_
      refine lv_topi (fun q_34 e_34 => ?_)
      rw [pk_mul] at e_34
      subst e_34
      refine lv_bipush (v := nI 8) hx hb dL_law_35 rfl ?_
      refine z_goi (wf := fun (u : va_W × zLs) => zQ E ([(o, zci E (fun _ => 0))] ++ u.1) u.2) hw.2 (z_runV Cx hw (c_q_addNetwork E l [(o, zci E (fun _ => 0))] Y C x zUe hl0 hrc (nI 0) (nI 8) (zbk_n (by omega) (by omega) (by omega)) (by decide +kernel) (by decide +kernel)) (cwV 2 Cx.1.2.2.2.2 (zgm gL_law_X7_addNetwork) rfl rfl rfl (by decide +kernel) ⟨(Nat.le_of_ble_eq_true rfl), (Nat.le_of_ble_eq_true rfl)⟩) (z_recv Cx hw (r := (RX7, TX7, 5)) (List.mem_append_right _ hx0) rfl) rfl hl.1 rfl (Nat.le_of_ble_eq_true rfl) dL_law_37 ⟨(Nat.le_of_ble_eq_true rfl), (Nat.le_of_ble_eq_true rfl)⟩) (fun r_37 u_37 H locs hp hw => ?_)
      obtain ⟨Y_37, C_37⟩ := u_37
      obtain ⟨hr_37, hrc⟩ := hp
      have hr_37 : r_37 = nI 0 := hr_37
      subst hr_37
      have hrc : zRC Y_37 C_37 x zU1 := hrc
      have hw : zHA E ([(o, zci E (fun _ => 0))] ++ Y_37) C_37 s H locs := hw
      obtain ⟨xf, hx0⟩ := hrc.x
      refine lv_iload hx hb dL_law_40 (lv_at hl 0 rfl) ?_
      refine lv_icmp_ne (tgt := 96) hx hb dL_law_42 (by decide) (fun c_42 => ?_) (fun c_42 => ?_)
      · skip
        have n_42 : ¬ 0 = 0 := fun h => c_42 ((nI_eq (by omega) (by omega)).mpr h)
        exact absurd rfl n_42
      · skip
        have n_42 : 0 = 0 := (nI_eq (by omega) (by omega)).mp c_42
        refine lv_aload_n hx hb dL_law_45 rfl (lv_at hl 3 rfl) ?_
        refine lv_iload hx hb dL_law_46 (lv_at hl 0 rfl) ?_
        refine lv_sipush (v := nI 256) hx hb dL_law_48 rfl ?_
        refine lv_iload hx hb dL_law_51 (lv_at hl 0 rfl) ?_
        refine lv_imul hx hb dL_law_53 ?_
        refine lv_topi (fun q_53 e_53 => ?_)
        rw [pk_mul] at e_53
        subst e_53
        refine lv_bipush (v := nI 6) hx hb dL_law_54 rfl ?_
        refine z_goi (wf := fun (u : va_W × zLs) => zQ E ([(o, zci E (fun _ => 0))] ++ u.1) u.2) hw.2 (z_runV Cx hw (c_q_addSubnet E l [(o, zci E (fun _ => 0))] Y_37 C_37 x zU1 hl0 hrc 0 (nI 0, nI 8) (nI 0) (nI 6) rfl (zbk_n (by omega) (by omega) (by omega)) (by decide +kernel) (by decide +kernel) (by decide +kernel) (by decide +kernel)) (cwV 3 Cx.1.2.2.2.2 (zgm gL_law_X7_addSubnet) rfl rfl rfl (by decide +kernel) ⟨(Nat.le_of_ble_eq_true rfl), (Nat.le_of_ble_eq_true rfl)⟩) (z_recv Cx hw (r := (RX7, TX7, 5)) (List.mem_append_right _ hx0) rfl) rfl hl.1 rfl (Nat.le_of_ble_eq_true rfl) dL_law_56 ⟨(Nat.le_of_ble_eq_true rfl), (Nat.le_of_ble_eq_true rfl)⟩) (fun r_56 u_56 H locs hp hw => ?_)
        obtain ⟨Y_56, C_56⟩ := u_56
        obtain ⟨hr_56, hrc⟩ := hp
        have hr_56 : r_56 = nI 0 := hr_56
        subst hr_56
        have hrc : zRC Y_56 C_56 x zU2 := hrc
        have hw : zHA E ([(o, zci E (fun _ => 0))] ++ Y_56) C_56 s H locs := hw
        obtain ⟨xf, hx0⟩ := hrc.x
        refine lv_iconst (v := nI 2) hx hb dL_law_59 rfl ?_
        refine lv_iload hx hb dL_law_60 (lv_at hl 0 rfl) ?_
        refine lv_imul hx hb dL_law_62 ?_
        refine lv_topi (fun q_62 e_62 => ?_)
        rw [pk_mul] at e_62
        subst e_62
        refine lv_icmp_ne (tgt := 96) hx hb dL_law_63 (by decide) (fun c_63 => ?_) (fun c_63 => ?_)
        · skip
          have n_63 : ¬ 0 = (2 * 0) := fun h => c_63 ((nI_eq (by omega) (by omega)).mpr h)
          exact absurd rfl n_63
        · skip
          have n_63 : 0 = (2 * 0) := (nI_eq (by omega) (by omega)).mp c_63
          refine lv_aload_n hx hb dL_law_66 rfl (lv_at hl 3 rfl) ?_
          refine lv_iload hx hb dL_law_67 (lv_at hl 0 rfl) ?_
          refine lv_sipush (v := nI 256) hx hb dL_law_69 rfl ?_
          refine lv_iload hx hb dL_law_72 (lv_at hl 0 rfl) ?_
          refine lv_imul hx hb dL_law_74 ?_
          refine lv_topi (fun q_74 e_74 => ?_)
          rw [pk_mul] at e_74
          subst e_74
          refine lv_bipush (v := nI 64) hx hb dL_law_75 rfl ?_
          refine lv_iadd hx hb dL_law_77 ?_
          refine lv_topi (fun q_77 e_77 => ?_)
          rw [nI_add] at e_77
          subst e_77
          refine lv_bipush (v := nI 6) hx hb dL_law_78 rfl ?_
          refine z_goi (wf := fun (u : va_W × zLs) => zQ E ([(o, zci E (fun _ => 0))] ++ u.1) u.2) hw.2 (z_runV Cx hw (c_q_addSubnet E l [(o, zci E (fun _ => 0))] Y_56 C_56 x zU2 hl0 hrc 0 (nI 0, nI 8) (nI 64) (nI 6) rfl (zbk_n (by omega) (by omega) (by omega)) (by decide +kernel) (by decide +kernel) (by decide +kernel) (by decide +kernel)) (cwV 3 Cx.1.2.2.2.2 (zgm gL_law_X7_addSubnet) rfl rfl rfl (by decide +kernel) ⟨(Nat.le_of_ble_eq_true rfl), (Nat.le_of_ble_eq_true rfl)⟩) (z_recv Cx hw (r := (RX7, TX7, 5)) (List.mem_append_right _ hx0) rfl) rfl hl.1 rfl (Nat.le_of_ble_eq_true rfl) dL_law_80 ⟨(Nat.le_of_ble_eq_true rfl), (Nat.le_of_ble_eq_true rfl)⟩) (fun r_80 u_80 H locs hp hw => ?_)
          obtain ⟨Y_80, C_80⟩ := u_80
          obtain ⟨hr_80, hrc⟩ := hp
          have hr_80 : r_80 = nI 1 := hr_80
          subst hr_80
          have hrc : zRC Y_80 C_80 x zU3 := hrc
          have hw : zHA E ([(o, zci E (fun _ => 0))] ++ Y_80) C_80 s H locs := hw
          obtain ⟨xf, hx0⟩ := hrc.x
          refine lv_iconst (v := nI 2) hx hb dL_law_83 rfl ?_
          refine lv_iload hx hb dL_law_84 (lv_at hl 0 rfl) ?_
          refine lv_imul hx hb dL_law_86 ?_
          refine lv_topi (fun q_86 e_86 => ?_)
          rw [pk_mul] at e_86
          subst e_86
          refine lv_iconst (v := nI 1) hx hb dL_law_87 rfl ?_
          refine lv_iadd hx hb dL_law_88 ?_
          refine lv_topi (fun q_88 e_88 => ?_)
          rw [nI_add] at e_88
          subst e_88
          refine lv_icmp_ne (tgt := 96) hx hb dL_law_89 (by decide) (fun c_89 => ?_) (fun c_89 => ?_)
          · skip
            have n_89 : ¬ 1 = ((2 * 0) + 1) := fun h => c_89 ((nI_eq (by omega) (by omega)).mpr h)
            exact absurd rfl n_89
          · skip
            have n_89 : 1 = ((2 * 0) + 1) := (nI_eq (by omega) (by omega)).mp c_89
            refine lv_iconst (v := nI 1) hx hb dL_law_92 rfl ?_
            refine lv_goto (tgt := 97) hx hb dL_law_93 (by decide) ?_
            refine lv_istore_n hx hb dL_law_97 rfl hl (by decide) rfl (fun ls hl => ?_)
            have hl : lv_has ls 7 [(3, .int (nI 1)), (4, .int (nI 0)), (0, .ref b), (1, .ref x), (2, .ref o)] := hl
            refine lv_iinc (v := nI (1)) hx hb dL_law_98 hl (k := 1) rfl (nI_add _ _) (by decide) rfl (fun ls hl => ?_)
            have hl : lv_has ls 7 [(4, .int (nI 1)), (3, .int (nI 1)), (0, .ref b), (1, .ref x), (2, .ref o)] := hl
            refine lv_goto (tgt := 18) hx hb dL_law_101 (by decide) ?_
            refine lv_iload hx hb dL_law_18 (lv_at hl 0 rfl) ?_
            refine lv_iconst (v := nI 3) hx hb dL_law_20 rfl ?_
            refine lv_icmp_ge (tgt := 104) hx hb dL_law_21 (by decide) (fun c_21 => ?_) (fun c_21 => ?_)
            · skip
              have n_21 : 3 ≤ 1 := (nI_leI (by omega) (by omega)).mp c_21
              omega
            · skip
              have n_21 : ¬ 3 ≤ 1 := fun h => c_21 ((nI_leI (by omega) (by omega)).mpr h)
              refine lv_iload_n hx hb dL_law_24 rfl (lv_at hl 1 rfl) ?_
              refine lv_if_eq (tgt := 96) hx hb dL_law_25 (by decide) (fun c_25 => ?_) (fun c_25 => ?_)
              · skip
                have n_25 : 1 = 0 := (nI_eq (b := 0) (by omega) (by omega)).mp c_25
                omega
              · skip
                have n_25 : ¬ 1 = 0 := fun h => c_25 ((nI_eq (b := 0) (by omega) (by omega)).mpr h)
                refine lv_aload_n hx hb dL_law_28 rfl (lv_at hl 3 rfl) ?_
                refine lv_sipush (v := nI 256) hx hb dL_law_29 rfl ?_
                refine lv_iload hx hb dL_law_32 (lv_at hl 0 rfl) ?_
                refine lv_imul hx hb dL_law_34 ?_
                refine lv_topi (fun q_34 e_34 => ?_)
                rw [pk_mul] at e_34
                subst e_34
                refine lv_bipush (v := nI 8) hx hb dL_law_35 rfl ?_
                refine z_goi (wf := fun (u : va_W × zLs) => zQ E ([(o, zci E (fun _ => 0))] ++ u.1) u.2) hw.2 (z_runV Cx hw (c_q_addNetwork E l [(o, zci E (fun _ => 0))] Y_80 C_80 x zU3 hl0 hrc (nI 256) (nI 8) (zbk_n (by omega) (by omega) (by omega)) (by decide +kernel) (by decide +kernel)) (cwV 2 Cx.1.2.2.2.2 (zgm gL_law_X7_addNetwork) rfl rfl rfl (by decide +kernel) ⟨(Nat.le_of_ble_eq_true rfl), (Nat.le_of_ble_eq_true rfl)⟩) (z_recv Cx hw (r := (RX7, TX7, 5)) (List.mem_append_right _ hx0) rfl) rfl hl.1 rfl (Nat.le_of_ble_eq_true rfl) dL_law_37 ⟨(Nat.le_of_ble_eq_true rfl), (Nat.le_of_ble_eq_true rfl)⟩) (fun r_37 u_37 H locs hp hw => ?_)
                obtain ⟨Y_37, C_37⟩ := u_37
                obtain ⟨hr_37, hrc⟩ := hp
                have hr_37 : r_37 = nI 1 := hr_37
                subst hr_37
                have hrc : zRC Y_37 C_37 x zU4 := hrc
                have hw : zHA E ([(o, zci E (fun _ => 0))] ++ Y_37) C_37 s H locs := hw
                obtain ⟨xf, hx0⟩ := hrc.x
                refine lv_iload hx hb dL_law_40 (lv_at hl 0 rfl) ?_
                refine lv_icmp_ne (tgt := 96) hx hb dL_law_42 (by decide) (fun c_42 => ?_) (fun c_42 => ?_)
                · skip
                  have n_42 : ¬ 1 = 1 := fun h => c_42 ((nI_eq (by omega) (by omega)).mpr h)
                  exact absurd rfl n_42
                · skip
                  have n_42 : 1 = 1 := (nI_eq (by omega) (by omega)).mp c_42
                  refine lv_aload_n hx hb dL_law_45 rfl (lv_at hl 3 rfl) ?_
                  refine lv_iload hx hb dL_law_46 (lv_at hl 0 rfl) ?_
                  refine lv_sipush (v := nI 256) hx hb dL_law_48 rfl ?_
                  refine lv_iload hx hb dL_law_51 (lv_at hl 0 rfl) ?_
                  refine lv_imul hx hb dL_law_53 ?_
                  refine lv_topi (fun q_53 e_53 => ?_)
                  rw [pk_mul] at e_53
                  subst e_53
                  refine lv_bipush (v := nI 6) hx hb dL_law_54 rfl ?_
                  refine z_goi (wf := fun (u : va_W × zLs) => zQ E ([(o, zci E (fun _ => 0))] ++ u.1) u.2) hw.2 (z_runV Cx hw (c_q_addSubnet E l [(o, zci E (fun _ => 0))] Y_37 C_37 x zU4 hl0 hrc 1 (nI 256, nI 8) (nI 256) (nI 6) rfl (zbk_n (by omega) (by omega) (by omega)) (by decide +kernel) (by decide +kernel) (by decide +kernel) (by decide +kernel)) (cwV 3 Cx.1.2.2.2.2 (zgm gL_law_X7_addSubnet) rfl rfl rfl (by decide +kernel) ⟨(Nat.le_of_ble_eq_true rfl), (Nat.le_of_ble_eq_true rfl)⟩) (z_recv Cx hw (r := (RX7, TX7, 5)) (List.mem_append_right _ hx0) rfl) rfl hl.1 rfl (Nat.le_of_ble_eq_true rfl) dL_law_56 ⟨(Nat.le_of_ble_eq_true rfl), (Nat.le_of_ble_eq_true rfl)⟩) (fun r_56 u_56 H locs hp hw => ?_)
                  obtain ⟨Y_56, C_56⟩ := u_56
                  obtain ⟨hr_56, hrc⟩ := hp
                  have hr_56 : r_56 = nI 2 := hr_56
                  subst hr_56
                  have hrc : zRC Y_56 C_56 x zU5 := hrc
                  have hw : zHA E ([(o, zci E (fun _ => 0))] ++ Y_56) C_56 s H locs := hw
                  obtain ⟨xf, hx0⟩ := hrc.x
                  refine lv_iconst (v := nI 2) hx hb dL_law_59 rfl ?_
                  refine lv_iload hx hb dL_law_60 (lv_at hl 0 rfl) ?_
                  refine lv_imul hx hb dL_law_62 ?_
                  refine lv_topi (fun q_62 e_62 => ?_)
                  rw [pk_mul] at e_62
                  subst e_62
                  refine lv_icmp_ne (tgt := 96) hx hb dL_law_63 (by decide) (fun c_63 => ?_) (fun c_63 => ?_)
                  · skip
                    have n_63 : ¬ 2 = (2 * 1) := fun h => c_63 ((nI_eq (by omega) (by omega)).mpr h)
                    exact absurd rfl n_63
                  · skip
                    have n_63 : 2 = (2 * 1) := (nI_eq (by omega) (by omega)).mp c_63
                    refine lv_aload_n hx hb dL_law_66 rfl (lv_at hl 3 rfl) ?_
                    refine lv_iload hx hb dL_law_67 (lv_at hl 0 rfl) ?_
                    refine lv_sipush (v := nI 256) hx hb dL_law_69 rfl ?_
                    refine lv_iload hx hb dL_law_72 (lv_at hl 0 rfl) ?_
                    refine lv_imul hx hb dL_law_74 ?_
                    refine lv_topi (fun q_74 e_74 => ?_)
                    rw [pk_mul] at e_74
                    subst e_74
                    refine lv_bipush (v := nI 64) hx hb dL_law_75 rfl ?_
                    refine lv_iadd hx hb dL_law_77 ?_
                    refine lv_topi (fun q_77 e_77 => ?_)
                    rw [nI_add] at e_77
                    subst e_77
                    refine lv_bipush (v := nI 6) hx hb dL_law_78 rfl ?_
                    refine z_goi (wf := fun (u : va_W × zLs) => zQ E ([(o, zci E (fun _ => 0))] ++ u.1) u.2) hw.2 (z_runV Cx hw (c_q_addSubnet E l [(o, zci E (fun _ => 0))] Y_56 C_56 x zU5 hl0 hrc 1 (nI 256, nI 8) (nI 320) (nI 6) rfl (zbk_n (by omega) (by omega) (by omega)) (by decide +kernel) (by decide +kernel) (by decide +kernel) (by decide +kernel)) (cwV 3 Cx.1.2.2.2.2 (zgm gL_law_X7_addSubnet) rfl rfl rfl (by decide +kernel) ⟨(Nat.le_of_ble_eq_true rfl), (Nat.le_of_ble_eq_true rfl)⟩) (z_recv Cx hw (r := (RX7, TX7, 5)) (List.mem_append_right _ hx0) rfl) rfl hl.1 rfl (Nat.le_of_ble_eq_true rfl) dL_law_80 ⟨(Nat.le_of_ble_eq_true rfl), (Nat.le_of_ble_eq_true rfl)⟩) (fun r_80 u_80 H locs hp hw => ?_)
                    obtain ⟨Y_80, C_80⟩ := u_80
                    obtain ⟨hr_80, hrc⟩ := hp
                    have hr_80 : r_80 = nI 3 := hr_80
                    subst hr_80
                    have hrc : zRC Y_80 C_80 x zU6 := hrc
                    have hw : zHA E ([(o, zci E (fun _ => 0))] ++ Y_80) C_80 s H locs := hw
                    obtain ⟨xf, hx0⟩ := hrc.x
                    refine lv_iconst (v := nI 2) hx hb dL_law_83 rfl ?_
                    refine lv_iload hx hb dL_law_84 (lv_at hl 0 rfl) ?_
                    refine lv_imul hx hb dL_law_86 ?_
                    refine lv_topi (fun q_86 e_86 => ?_)
                    rw [pk_mul] at e_86
                    subst e_86
                    refine lv_iconst (v := nI 1) hx hb dL_law_87 rfl ?_
                    refine lv_iadd hx hb dL_law_88 ?_
                    refine lv_topi (fun q_88 e_88 => ?_)
                    rw [nI_add] at e_88
                    subst e_88
                    refine lv_icmp_ne (tgt := 96) hx hb dL_law_89 (by decide) (fun c_89 => ?_) (fun c_89 => ?_)
                    · skip
                      have n_89 : ¬ 3 = ((2 * 1) + 1) := fun h => c_89 ((nI_eq (by omega) (by omega)).mpr h)
                      exact absurd rfl n_89
                    · skip
                      have n_89 : 3 = ((2 * 1) + 1) := (nI_eq (by omega) (by omega)).mp c_89
                      refine lv_iconst (v := nI 1) hx hb dL_law_92 rfl ?_
                      refine lv_goto (tgt := 97) hx hb dL_law_93 (by decide) ?_
                      refine lv_istore_n hx hb dL_law_97 rfl hl (by decide) rfl (fun ls hl => ?_)
                      have hl : lv_has ls 7 [(3, .int (nI 1)), (4, .int (nI 1)), (0, .ref b), (1, .ref x), (2, .ref o)] := hl
                      refine lv_iinc (v := nI (2)) hx hb dL_law_98 hl (k := 1) rfl (nI_add _ _) (by decide) rfl (fun ls hl => ?_)
                      have hl : lv_has ls 7 [(4, .int (nI 2)), (3, .int (nI 1)), (0, .ref b), (1, .ref x), (2, .ref o)] := hl
                      refine lv_goto (tgt := 18) hx hb dL_law_101 (by decide) ?_
                      refine lv_iload hx hb dL_law_18 (lv_at hl 0 rfl) ?_
                      refine lv_iconst (v := nI 3) hx hb dL_law_20 rfl ?_
                      refine lv_icmp_ge (tgt := 104) hx hb dL_law_21 (by decide) (fun c_21 => ?_) (fun c_21 => ?_)
                      · skip
                        have n_21 : 3 ≤ 2 := (nI_leI (by omega) (by omega)).mp c_21
                        omega
                      · skip
                        have n_21 : ¬ 3 ≤ 2 := fun h => c_21 ((nI_leI (by omega) (by omega)).mpr h)
                        refine lv_iload_n hx hb dL_law_24 rfl (lv_at hl 1 rfl) ?_
                        refine lv_if_eq (tgt := 96) hx hb dL_law_25 (by decide) (fun c_25 => ?_) (fun c_25 => ?_)
                        · skip
                          have n_25 : 1 = 0 := (nI_eq (b := 0) (by omega) (by omega)).mp c_25
                          omega
                        · skip
                          have n_25 : ¬ 1 = 0 := fun h => c_25 ((nI_eq (b := 0) (by omega) (by omega)).mpr h)
                          refine lv_aload_n hx hb dL_law_28 rfl (lv_at hl 3 rfl) ?_
                          refine lv_sipush (v := nI 256) hx hb dL_law_29 rfl ?_
                          refine lv_iload hx hb dL_law_32 (lv_at hl 0 rfl) ?_
                          refine lv_imul hx hb dL_law_34 ?_
                          refine lv_topi (fun q_34 e_34 => ?_)
                          rw [pk_mul] at e_34
                          subst e_34
                          refine lv_bipush (v := nI 8) hx hb dL_law_35 rfl ?_
                          refine z_goi (wf := fun (u : va_W × zLs) => zQ E ([(o, zci E (fun _ => 0))] ++ u.1) u.2) hw.2 (z_runV Cx hw (c_q_addNetwork E l [(o, zci E (fun _ => 0))] Y_80 C_80 x zU6 hl0 hrc (nI 512) (nI 8) (zbk_n (by omega) (by omega) (by omega)) (by decide +kernel) (by decide +kernel)) (cwV 2 Cx.1.2.2.2.2 (zgm gL_law_X7_addNetwork) rfl rfl rfl (by decide +kernel) ⟨(Nat.le_of_ble_eq_true rfl), (Nat.le_of_ble_eq_true rfl)⟩) (z_recv Cx hw (r := (RX7, TX7, 5)) (List.mem_append_right _ hx0) rfl) rfl hl.1 rfl (Nat.le_of_ble_eq_true rfl) dL_law_37 ⟨(Nat.le_of_ble_eq_true rfl), (Nat.le_of_ble_eq_true rfl)⟩) (fun r_37 u_37 H locs hp hw => ?_)
                          obtain ⟨Y_37, C_37⟩ := u_37
                          obtain ⟨hr_37, hrc⟩ := hp
                          have hr_37 : r_37 = nI 2 := hr_37
                          subst hr_37
                          have hrc : zRC Y_37 C_37 x zU7 := hrc
                          have hw : zHA E ([(o, zci E (fun _ => 0))] ++ Y_37) C_37 s H locs := hw
                          obtain ⟨xf, hx0⟩ := hrc.x
                          refine lv_iload hx hb dL_law_40 (lv_at hl 0 rfl) ?_
                          refine lv_icmp_ne (tgt := 96) hx hb dL_law_42 (by decide) (fun c_42 => ?_) (fun c_42 => ?_)
                          · skip
                            have n_42 : ¬ 2 = 2 := fun h => c_42 ((nI_eq (by omega) (by omega)).mpr h)
                            exact absurd rfl n_42
                          · skip
                            have n_42 : 2 = 2 := (nI_eq (by omega) (by omega)).mp c_42
                            refine lv_aload_n hx hb dL_law_45 rfl (lv_at hl 3 rfl) ?_
                            refine lv_iload hx hb dL_law_46 (lv_at hl 0 rfl) ?_
                            refine lv_sipush (v := nI 256) hx hb dL_law_48 rfl ?_
                            refine lv_iload hx hb dL_law_51 (lv_at hl 0 rfl) ?_
                            refine lv_imul hx hb dL_law_53 ?_
                            refine lv_topi (fun q_53 e_53 => ?_)
                            rw [pk_mul] at e_53
                            subst e_53
                            refine lv_bipush (v := nI 6) hx hb dL_law_54 rfl ?_
                            refine z_goi (wf := fun (u : va_W × zLs) => zQ E ([(o, zci E (fun _ => 0))] ++ u.1) u.2) hw.2 (z_runV Cx hw (c_q_addSubnet E l [(o, zci E (fun _ => 0))] Y_37 C_37 x zU7 hl0 hrc 2 (nI 512, nI 8) (nI 512) (nI 6) rfl (zbk_n (by omega) (by omega) (by omega)) (by decide +kernel) (by decide +kernel) (by decide +kernel) (by decide +kernel)) (cwV 3 Cx.1.2.2.2.2 (zgm gL_law_X7_addSubnet) rfl rfl rfl (by decide +kernel) ⟨(Nat.le_of_ble_eq_true rfl), (Nat.le_of_ble_eq_true rfl)⟩) (z_recv Cx hw (r := (RX7, TX7, 5)) (List.mem_append_right _ hx0) rfl) rfl hl.1 rfl (Nat.le_of_ble_eq_true rfl) dL_law_56 ⟨(Nat.le_of_ble_eq_true rfl), (Nat.le_of_ble_eq_true rfl)⟩) (fun r_56 u_56 H locs hp hw => ?_)
                            obtain ⟨Y_56, C_56⟩ := u_56
                            obtain ⟨hr_56, hrc⟩ := hp
                            have hr_56 : r_56 = nI 4 := hr_56
                            subst hr_56
                            have hrc : zRC Y_56 C_56 x zU8 := hrc
                            have hw : zHA E ([(o, zci E (fun _ => 0))] ++ Y_56) C_56 s H locs := hw
                            obtain ⟨xf, hx0⟩ := hrc.x
                            refine lv_iconst (v := nI 2) hx hb dL_law_59 rfl ?_
                            refine lv_iload hx hb dL_law_60 (lv_at hl 0 rfl) ?_
                            refine lv_imul hx hb dL_law_62 ?_
                            refine lv_topi (fun q_62 e_62 => ?_)
                            rw [pk_mul] at e_62
                            subst e_62
                            refine lv_icmp_ne (tgt := 96) hx hb dL_law_63 (by decide) (fun c_63 => ?_) (fun c_63 => ?_)
                            · skip
                              have n_63 : ¬ 4 = (2 * 2) := fun h => c_63 ((nI_eq (by omega) (by omega)).mpr h)
                              exact absurd rfl n_63
                            · skip
                              have n_63 : 4 = (2 * 2) := (nI_eq (by omega) (by omega)).mp c_63
                              refine lv_aload_n hx hb dL_law_66 rfl (lv_at hl 3 rfl) ?_
                              refine lv_iload hx hb dL_law_67 (lv_at hl 0 rfl) ?_
                              refine lv_sipush (v := nI 256) hx hb dL_law_69 rfl ?_
                              refine lv_iload hx hb dL_law_72 (lv_at hl 0 rfl) ?_
                              refine lv_imul hx hb dL_law_74 ?_
                              refine lv_topi (fun q_74 e_74 => ?_)
                              rw [pk_mul] at e_74
                              subst e_74
                              refine lv_bipush (v := nI 64) hx hb dL_law_75 rfl ?_
                              refine lv_iadd hx hb dL_law_77 ?_
                              refine lv_topi (fun q_77 e_77 => ?_)
                              rw [nI_add] at e_77
                              subst e_77
                              refine lv_bipush (v := nI 6) hx hb dL_law_78 rfl ?_
                              refine z_goi (wf := fun (u : va_W × zLs) => zQ E ([(o, zci E (fun _ => 0))] ++ u.1) u.2) hw.2 (z_runV Cx hw (c_q_addSubnet E l [(o, zci E (fun _ => 0))] Y_56 C_56 x zU8 hl0 hrc 2 (nI 512, nI 8) (nI 576) (nI 6) rfl (zbk_n (by omega) (by omega) (by omega)) (by decide +kernel) (by decide +kernel) (by decide +kernel) (by decide +kernel)) (cwV 3 Cx.1.2.2.2.2 (zgm gL_law_X7_addSubnet) rfl rfl rfl (by decide +kernel) ⟨(Nat.le_of_ble_eq_true rfl), (Nat.le_of_ble_eq_true rfl)⟩) (z_recv Cx hw (r := (RX7, TX7, 5)) (List.mem_append_right _ hx0) rfl) rfl hl.1 rfl (Nat.le_of_ble_eq_true rfl) dL_law_80 ⟨(Nat.le_of_ble_eq_true rfl), (Nat.le_of_ble_eq_true rfl)⟩) (fun r_80 u_80 H locs hp hw => ?_)
                              obtain ⟨Y_80, C_80⟩ := u_80
                              obtain ⟨hr_80, hrc⟩ := hp
                              have hr_80 : r_80 = nI 5 := hr_80
                              subst hr_80
                              have hrc : zRC Y_80 C_80 x zU9 := hrc
                              have hw : zHA E ([(o, zci E (fun _ => 0))] ++ Y_80) C_80 s H locs := hw
                              obtain ⟨xf, hx0⟩ := hrc.x
                              refine lv_iconst (v := nI 2) hx hb dL_law_83 rfl ?_
                              refine lv_iload hx hb dL_law_84 (lv_at hl 0 rfl) ?_
                              refine lv_imul hx hb dL_law_86 ?_
                              refine lv_topi (fun q_86 e_86 => ?_)
                              rw [pk_mul] at e_86
                              subst e_86
                              refine lv_iconst (v := nI 1) hx hb dL_law_87 rfl ?_
                              refine lv_iadd hx hb dL_law_88 ?_
                              refine lv_topi (fun q_88 e_88 => ?_)
                              rw [nI_add] at e_88
                              subst e_88
                              refine lv_icmp_ne (tgt := 96) hx hb dL_law_89 (by decide) (fun c_89 => ?_) (fun c_89 => ?_)
                              · skip
                                have n_89 : ¬ 5 = ((2 * 2) + 1) := fun h => c_89 ((nI_eq (by omega) (by omega)).mpr h)
                                exact absurd rfl n_89
                              · skip
                                have n_89 : 5 = ((2 * 2) + 1) := (nI_eq (by omega) (by omega)).mp c_89
                                refine lv_iconst (v := nI 1) hx hb dL_law_92 rfl ?_
                                refine lv_goto (tgt := 97) hx hb dL_law_93 (by decide) ?_
                                refine lv_istore_n hx hb dL_law_97 rfl hl (by decide) rfl (fun ls hl => ?_)
                                have hl : lv_has ls 7 [(3, .int (nI 1)), (4, .int (nI 2)), (0, .ref b), (1, .ref x), (2, .ref o)] := hl
                                refine lv_iinc (v := nI (3)) hx hb dL_law_98 hl (k := 1) rfl (nI_add _ _) (by decide) rfl (fun ls hl => ?_)
                                have hl : lv_has ls 7 [(4, .int (nI 3)), (3, .int (nI 1)), (0, .ref b), (1, .ref x), (2, .ref o)] := hl
                                refine lv_goto (tgt := 18) hx hb dL_law_101 (by decide) ?_
                                refine lv_iload hx hb dL_law_18 (lv_at hl 0 rfl) ?_
                                refine lv_iconst (v := nI 3) hx hb dL_law_20 rfl ?_
                                refine lv_icmp_ge (tgt := 104) hx hb dL_law_21 (by decide) (fun c_21 => ?_) (fun c_21 => ?_)
                                · skip
                                  have n_21 : 3 ≤ 3 := (nI_leI (by omega) (by omega)).mp c_21
                                  refine lv_aload_n hx hb dL_law_104 rfl (lv_at hl 2 rfl) ?_
                                  refine va_slen hx hb hX.1 hX.2 hbA hw.2 dL_law_105 ?_
                                  refine lv_topi (fun q_105 e_105 => ?_)
                                  have f_105 : q_105 = nI L := e_105
                                  clear e_105
                                  subst f_105
                                  refine lv_iconst (v := nI 3) hx hb dL_law_106 rfl ?_
                                  refine lv_idiv hx hb dL_law_107 (nI_ne0 (by omega) (by omega)) ?_
                                  refine lv_topi (fun q_107 e_107 => ?_)
                                  rw [pk_div (by omega) (by omega) (by omega)] at e_107
                                  subst e_107
                                  refine lv_bipush (v := nI 60) hx hb dL_law_108 rfl ?_
                                  refine lv_icmp_le (tgt := 118) hx hb dL_law_110 (by decide) (fun c_110 => ?_) (fun c_110 => ?_)
                                  · skip
                                    have n_110 : (L / 3) ≤ 60 := (nI_leI (by omega) (by omega)).mp c_110
                                    refine lv_aload_n hx hb dL_law_118 rfl (lv_at hl 2 rfl) ?_
                                    refine va_slen hx hb hX.1 hX.2 hbA hw.2 dL_law_119 ?_
                                    refine lv_topi (fun q_119 e_119 => ?_)
                                    have f_119 : q_119 = nI L := e_119
                                    clear e_119
                                    subst f_119
                                    refine lv_iconst (v := nI 3) hx hb dL_law_120 rfl ?_
                                    refine lv_idiv hx hb dL_law_121 (nI_ne0 (by omega) (by omega)) ?_
                                    refine lv_topi (fun q_121 e_121 => ?_)
                                    rw [pk_div (by omega) (by omega) (by omega)] at e_121
                                    subst e_121
                                    refine lv_istore hx hb dL_law_122 hl (by decide) rfl (fun ls hl => ?_)
                                    have hl : lv_has ls 7 [(4, .int (nI (L / 3))), (3, .int (nI 1)), (0, .ref b), (1, .ref x), (2, .ref o)] := hl
                                    refine lv_iconst (v := nI 0) hx hb dL_law_124 rfl ?_
                                    refine lv_istore hx hb dL_law_125 hl (by decide) rfl (fun ls hl => ?_)
                                    have hl : lv_has ls 7 [(5, .int (nI 0)), (4, .int (nI (L / 3))), (3, .int (nI 1)), (0, .ref b), (1, .ref x), (2, .ref o)] := hl
                                    refine W.widen (show _ ≤ 1000 + 5400 * 0 by omega) (show _ ≤ 20000 + 54000 * 0 by omega) ?_
                                    exact law_loop hl0 Cx hX hbA hEA hr hL260 (st := (L / 3)) (by omega) (by omega) (L / 3) 0 (fun _ => 0) Y_80 C_80 zU9 _ _ ls (by omega) (Nat.zero_le _) hw hrc zLw_9 (lv_sub hl [3, 4, 5, 2, 1, 0] rfl)
                                  · skip
                                    have n_110 : ¬ (L / 3) ≤ 60 := fun h => c_110 ((nI_leI (by omega) (by omega)).mpr h)
                                    refine lv_bipush (v := nI 60) hx hb dL_law_113 rfl ?_
                                    refine lv_goto (tgt := 122) hx hb dL_law_115 (by decide) ?_
                                    refine lv_istore hx hb dL_law_122 hl (by decide) rfl (fun ls hl => ?_)
                                    have hl : lv_has ls 7 [(4, .int (nI 60)), (3, .int (nI 1)), (0, .ref b), (1, .ref x), (2, .ref o)] := hl
                                    refine lv_iconst (v := nI 0) hx hb dL_law_124 rfl ?_
                                    refine lv_istore hx hb dL_law_125 hl (by decide) rfl (fun ls hl => ?_)
                                    have hl : lv_has ls 7 [(5, .int (nI 0)), (4, .int (nI 60)), (3, .int (nI 1)), (0, .ref b), (1, .ref x), (2, .ref o)] := hl
                                    refine W.widen (show _ ≤ 1000 + 5400 * 0 by omega) (show _ ≤ 20000 + 54000 * 0 by omega) ?_
                                    exact law_loop hl0 Cx hX hbA hEA hr hL260 (st := (60)) (by omega) (by omega) (60) 0 (fun _ => 0) Y_80 C_80 zU9 _ _ ls (by omega) (Nat.zero_le _) hw hrc zLw_9 (lv_sub hl [3, 4, 5, 2, 1, 0] rfl)
                                · skip
                                  have n_21 : ¬ 3 ≤ 3 := fun h => c_21 ((nI_leI (by omega) (by omega)).mpr h)
                                  omega
