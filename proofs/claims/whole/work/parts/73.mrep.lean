/-! the reference holds a value W (its routes in its own order) -/
def zbi (w : zBk) : Int32 := 16 * w.1 + w.2
def zMN (sc : Nat → Int32) (g : Nat → Nat → Int32) (W : zCl) : Prop := sc 1 = nI (vN W).length ∧ (vN W).length ≤ 4 ∧ ∀ (i : Nat) (w : zBk), (vN W)[i]? = some w → g 2 i = zbi w
/-- a rule at place k of four arrays; a route at place k of two -/
def zMl (g : Nat → Nat → Int32) (k : Nat) (r : zRl) : Prop := g 19 k = r.1 ∧ g 20 k = r.2.1 ∧ g 21 k = zbi r.2.2.1 ∧ g 22 k = r.2.2.2
def zMt (g : Nat → Nat → Int32) (k : Nat) (r : zRt) : Prop := g 24 k = zbi r.1 ∧ g 25 k = r.2
def zMg (g : Nat → Nat → Int32) (k : Nat) (r : zRl) : Prop := g 15 k = r.1 ∧ g 16 k = zbi r.2.2.1 ∧ g 17 k = r.2.2.2
def zMsub (g : Nat → Nat → Int32) (W : zCl) (i : Nat) (v : zSb) : Prop := (g 4 i = nI v.1 ∧ v.1 < (vN W).length) ∧ g 5 i = zbi v.2.1 ∧ (g 18 i = nI v.2.2.1.length ∧ v.2.2.1.length ≤ 12 ∧ ∀ (j : Nat) (r : zRl), v.2.2.1[j]? = some r → zMl g (12 * i + j) r) ∧ (g 23 i = nI v.2.2.2.length ∧ v.2.2.2.length ≤ 8 ∧ ∀ (j : Nat) (r : zRt), v.2.2.2[j]? = some r → zMt g (8 * i + j) r)
def zMS (sc : Nat → Int32) (g : Nat → Nat → Int32) (W : zCl) : Prop := sc 3 = nI (vS W).length ∧ (vS W).length ≤ 8 ∧ ∀ (i : Nat) (v : zSb), (vS W)[i]? = some v → zMsub g W i v
def zMH (sc : Nat → Int32) (g : Nat → Nat → Int32) (W : zCl) : Prop := sc 6 = nI (vH W).length ∧ (vH W).length ≤ 12 ∧ ∀ (i : Nat) (h : zHo), (vH W)[i]? = some h → (g 7 i = nI h.1 ∧ h.1 < (vS W).length) ∧ g 8 i = h.2.1 ∧ g 9 i = h.2.2
def zMP (sc : Nat → Int32) (g : Nat → Nat → Int32) (W : zCl) : Prop := sc 10 = nI (vP W).length ∧ (vP W).length ≤ 6 ∧ ∀ (i : Nat) (q : Nat × Nat), (vP W)[i]? = some q → (g 11 i = nI q.1 ∧ q.1 < (vN W).length) ∧ g 12 i = nI q.2 ∧ q.2 < (vN W).length
def zMG (sc : Nat → Int32) (g : Nat → Nat → Int32) (W : zCl) : Prop := sc 13 = nI (vG W).length ∧ (vG W).length ≤ 6 ∧ ∀ (i : Nat) (v : List zRl), (vG W)[i]? = some v → g 14 i = nI v.length ∧ v.length ≤ 10 ∧ ∀ (j : Nat) (r : zRl), v[j]? = some r → zMg g (10 * i + j) r
def zMR (sc : Nat → Int32) (g : Nat → Nat → Int32) (W : zCl) : Prop := zMN sc g W ∧ zMS sc g W ∧ zMH sc g W ∧ zMP sc g W ∧ zMG sc g W
/-- the same cloud, the routes of each subnet in any order -/
def zEqv (V W : zCl) : Prop := vN V = vN W ∧ ((vS V).length = (vS W).length ∧ ∀ (i : Nat) (v w : zSb), (vS V)[i]? = some v → (vS W)[i]? = some w → v.1 = w.1 ∧ v.2.1 = w.2.1 ∧ v.2.2.1 = w.2.2.1 ∧ v.2.2.2.Perm w.2.2.2) ∧ vH V = vH W ∧ vP V = vP W ∧ vG V = vG W
/-- what the reference answers, from W -/
def zmRHas (v : zRl) (inw x : Int32) : Bool := decide (v.1 = inw) && zmhas (zbi v.2.2.1) x
/-- byList: (open, hasRule, set) -/
def zmlp (inw x : Int32) : List zRl → Int32 → Int32 → Int32 → Int32
  | [], o, k, s => if k = 0 then 65535 else s
  | v :: vs, o, k, s => zmlp inw x vs (o &&& ((if zmRHas v inw x = true then o &&& v.2.2.2 else 0) ^^^ -1)) (if k = 0 then zb (decide (v.1 = inw)) else 1) (s ||| (if v.2.1 = 0 then 0 else (if zmRHas v inw x = true then o &&& v.2.2.2 else 0)))
/-- byGroups -/
def zmgp (inw x : Int32) : List zRl → Int32 → Int32
  | [], s => s
  | v :: vs, s => zmgp inw x vs (s ||| (if zmRHas v inw x = true then v.2.2.2 else 0))
/-- routeOf -/
def zmrn (x : Int32) : List zRt → Int32 → Int32 → Int32
  | [], f, _ => f
  | v :: vs, f, z => if zmhas (zbi v.1) x = true ∧ zbi v.1 - zbi v.1 / 16 * 16 < z then zmrn x vs v.2 (zbi v.1 - zbi v.1 / 16 * 16) else zmrn x vs f z
theorem zi_mul (a b : Nat) : nI a * nI b = nI (a * b) := (Int32.ofNat_mul a b).symm
