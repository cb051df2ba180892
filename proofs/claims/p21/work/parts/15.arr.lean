theorem zr_arrcl {p : Program} {s : State} {m : MethodId} {args : Array Value} {meth : Method} {c : Code} {H : Heap} {locs : List Loc} {E : zG} {own : String} {cc : ByteArray} {Ts : List Cond} {nL : Nat} {ws : va_W} {t n : Nat} {row : Nat → Option Nat} (Cx : zC E p s m args meth c own cc Ts nL) (hw : zH E ws s H locs) (ht : (t, zoa E n row) ∈ ws) : ∃ cell : Cell, H[t]? = some cell ∧ cell.vm.isStatics = false ∧ s.vm.findClass "[Ljava/lang/Object;" = some cell.cls := by
  obtain ⟨q0, hq0⟩ := List.getElem?_of_mem ht
  have h1 : H[t]? = some (vp_cell (eO E) (n, .inr (.inr (.inr (.inr row))))) := hw.1.1 q0 _ hq0
  refine ⟨_, h1, rfl, ?_⟩
  obtain ⟨_, _, _, _, _, h⟩ := (Cx.2.1.1.2 2 _ rfl).2
  exact h
/-- by cases, and by what follows -/
theorem z_cases {l : Launch} {y : MethodName} {ws : List Cond} {rm : Room} {Pc : Array Value → State → Prop} {Qc : Array Value → State → Outcome → State → Prop} {mc ms : Nat} {free : Addr → Prop}
    (h : ∀ (U : State) (a : Array Value), Pc a U → ∃ (Pc' : Array Value → State → Prop) (Qc' : Array Value → State → Outcome → State → Prop), Met l y ws rm Pc' Qc' mc ms free ∧ Pc' a U ∧ ∀ o t, Qc' a U o t → Qc a U o t) : Met l y ws rm Pc Qc mc ms free := by
  intro p e ha hf hc s m args below hfr happ hP hK
  obtain ⟨Pc', Qc', hM, hP', hQ⟩ := h s args hP
  obtain ⟨n, o, h1, h2, h3, h4, h5⟩ := hM p e ha hf hc s m args below hfr happ hP' hK
  exact ⟨n, o, h1, h2, h3, hQ o _ h4, h5⟩
theorem zd_3 {E : zG} {R : va_W} {x y z : Nat × va_E} {s : State} {H : Heap} {locs : List Loc} (h : zH E ((R ++ [x, y]) ++ [z]) s H locs) : zH E (R ++ [x, z]) s H locs := by
  refine ⟨h.1.drop ?_, h.2⟩
  rw [List.append_assoc]
  exact List.Sublist.append (List.Sublist.refl R) (List.Sublist.cons_cons x (List.Sublist.cons y (List.Sublist.refl _)))
theorem zd_2 {E : zG} {R : va_W} {x z : Nat × va_E} {s : State} {H : Heap} {locs : List Loc} (h : zH E ((R ++ [x]) ++ [z]) s H locs) : zH E (R ++ [x, z]) s H locs := by
  rw [List.append_assoc] at h
  exact h
