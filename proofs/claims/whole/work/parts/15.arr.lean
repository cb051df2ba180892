theorem zr_arrcl {p : Program} {s : State} {m : MethodId} {args : Array Value} {meth : Method} {c : Code} {H : Heap} {locs : List Loc} {E : zG} {own : String} {cc : ByteArray} {Ts : List Cond} {nL : Nat} {ws : va_W} {t n : Nat} {row : Nat → Option Nat} (Cx : zC E p s m args meth c own cc Ts nL) (hw : zH E ws s H locs) (ht : (t, zoa E n row) ∈ ws) : ∃ cell : Cell, H[t]? = some cell ∧ cell.vm.isStatics = false ∧ s.vm.findClass "[Ljava/lang/Object;" = some cell.cls := by
  obtain ⟨q0, hq0⟩ := List.getElem?_of_mem ht
  have h1 : H[t]? = some (vp_cell (eO E) (n, .inr (.inr (.inr (.inr row))))) := hw.1.1 q0 _ hq0
  refine ⟨_, h1, rfl, ?_⟩
  obtain ⟨_, _, _, _, _, h⟩ := (Cx.2.1.1.2 2 _ rfl).2
  exact h
