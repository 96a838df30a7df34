/-! THE CLASS'S WORLD: twelve cells at their places, then what is not its own (tl), then rows and objects that come and go (dy) -/
def cW (cy : Nat → ClassId) (ad : Nat → Nat) (eb es : Nat) (mb mz : Int32) (tp os bits F G u nb ns T M id : Nat) (ft fo : Nat → UInt8) (g : Nat → Int32) (dq : Nat → Nat) : va_W :=
  [(ad 0, .inr (8, [.ref (ad 1), .ref (ad 3), .ref (ad 5), .ref (ad 6), .ref (ad 8), .ref (ad 11), .int (nI M), .int (nI id)])),
   (ad 1, .inr (2, [.ref (ad 2), .int (nI tp)])), (ad 2, .inl (cy 0, 1600, .inl (bt ft))), (ad 3, .inr (2, [.ref (ad 4), .int (nI os)])), (ad 4, .inl (cy 0, 1620, .inl (bt fo))),
   (ad 5, .inr (6, [.long (lN F), .long (lN G), .int (nI bits), .int (nI (bits - 32))])), (ad 6, .inr (4, [.ref (ad 7), .int (nI u)])), (ad 7, .inl (cy 1, 4, .inl g)),
   (ad 8, .inr (7, [.ref (ad 9), .ref (ad 10), .long (lN T)])), (ad 9, .inr (0, [.int mb, .ref eb, .int (nI nb)])), (ad 10, .inr (0, [.int mz, .ref es, .int (nI ns)])), (ad 11, .inl (cy 1, 6, .inl (ni dq)))]
def DY (cy : Nat → ClassId) (e0 : Nat) (dy : va_W) (eb es nb ns : Nat) (ba sa pt ih il ip pn op so fa fp st en : Nat → Nat) : Prop :=
  TB1 cy dy e0 eb nb ba pt ih il ip pn op ∧ TS1 cy dy e0 es ns nb ba sa so fa fp st en ∧ (eb = es → eb = e0)
theorem AD.ext {cy : Nat → ClassId} {z dy : va_W} {e0 ea N n : Nat} {f : Nat → Option Nat} (h : AD cy dy e0 ea N f n) : AD cy (dy ++ z) e0 ea N f n := by
  rcases h with h | ⟨k, h1, h2⟩
  · exact Or.inl h
  · exact Or.inr ⟨k, app_l h1, h2⟩
theorem AD.in {cy : Nat → ClassId} {dy : va_W} {e0 ea N n : Nat} {f : Nat → Option Nat} (h : AD cy dy e0 ea N f n) : ea = e0 ∨ ∃ q ∈ dy, q.1 = ea := by
  rcases h with h | ⟨k, h1, h2⟩
  · exact Or.inl h.1
  · exact Or.inr ⟨_, List.mem_of_getElem? h1, rfl⟩
theorem AD.kp {cy : Nat → ClassId} {dy dy2 : va_W} {e0 ea eo N n : Nat} {f : Nat → Option Nat} (h : AD cy dy e0 ea N f n) (hK : KP eo dy dy2) (hne : eo = ea → ea = e0) (he : ∀ q ∈ dy, q.1 ≠ e0) : AD cy dy2 e0 ea N f n := by
  rcases h with h | ⟨k, h1, h2⟩
  · exact Or.inl h
  · refine Or.inr ⟨k, hK k _ h1 (Or.inr (fun e => ?_)), h2⟩
    exact he _ (List.mem_of_getElem? h1) (hne e.symm)
section DD
variable {cy : Nat → ClassId} {ws dy dy2 pre z : va_W} {e0 eb es nb ns : Nat} {ba pt ih il ip pn op sa so fa fp st en : Nat → Nat}
theorem TB1.ext (h : TB1 cy dy e0 eb nb ba pt ih il ip pn op) : TB1 cy (dy ++ z) e0 eb nb ba pt ih il ip pn op := by
  obtain ⟨N, f, h1, h2, h3, h4⟩ := h
  refine ⟨N, f, h1.ext, h2, fun i hi => ?_, h4⟩
  obtain ⟨g1, k, g2⟩ := h3 i hi
  exact ⟨g1, k, app_l g2⟩
theorem TS1.ext (h : TS1 cy dy e0 es ns nb ba sa so fa fp st en) : TS1 cy (dy ++ z) e0 es ns nb ba sa so fa fp st en := by
  obtain ⟨N, f, h1, h2, h3, h4⟩ := h
  refine ⟨N, f, h1.ext, h2, fun i hi => ?_, h4⟩
  obtain ⟨g1, g0, k, g2⟩ := h3 i hi
  exact ⟨g1, g0, k, app_l g2⟩
theorem DY.ext (h : DY cy e0 dy eb es nb ns ba sa pt ih il ip pn op so fa fp st en) : DY cy e0 (dy ++ z) eb es nb ns ba sa pt ih il ip pn op so fa fp st en := ⟨h.1.ext, h.2.1.ext, h.2.2⟩
theorem TB1.kp (h : TB1 cy dy e0 eb nb ba pt ih il ip pn op) {eo : Nat} (hK : KP eo dy dy2) (hne : eo = eb → eb = e0) (he : ∀ q ∈ dy, q.1 ≠ e0) : TB1 cy dy2 e0 eb nb ba pt ih il ip pn op := by
  obtain ⟨N, f, h1, h2, h3, h4⟩ := h
  refine ⟨N, f, h1.kp hK hne he, h2, fun i hi => ?_, h4⟩
  obtain ⟨g1, k, g2⟩ := h3 i hi
  exact ⟨g1, k, hK k _ g2 (Or.inl ⟨_, rfl⟩)⟩
theorem TS1.kp (h : TS1 cy dy e0 es ns nb ba sa so fa fp st en) {eo : Nat} (hK : KP eo dy dy2) (hne : eo = es → es = e0) (he : ∀ q ∈ dy, q.1 ≠ e0) : TS1 cy dy2 e0 es ns nb ba sa so fa fp st en := by
  obtain ⟨N, f, h1, h2, h3, h4⟩ := h
  refine ⟨N, f, h1.kp hK hne he, h2, fun i hi => ?_, h4⟩
  obtain ⟨g1, g0, k, g2⟩ := h3 i hi
  exact ⟨g1, g0, k, hK k _ g2 (Or.inl ⟨_, rfl⟩)⟩
theorem TB1.obj {N : Nat} {f : Nat → Option Nat} (h3 : ∀ i, i < nb → f i = some (ba i) ∧ ∃ k : Nat, dy[k]? = some (bE (ba i) (pt i) (ih i) (il i) (ip i) (pn i) (op i))) : ∀ j, j < nb → ∃ (y k : Nat) (vs : List Value), f j = some y ∧ dy[k]? = some (y, .inr (1, vs)) := fun j hj => by
  obtain ⟨g1, k, g2⟩ := h3 j hj
  exact ⟨_, k, _, g1, g2⟩
theorem TS1.obj {N : Nat} {f : Nat → Option Nat} (h3 : ∀ j, j < ns → f j = some (sa j) ∧ so j < nb ∧ ∃ k : Nat, dy[k]? = some (sE (sa j) (ba (so j)) (fa j) (fp j) (st j) (en j))) : ∀ j, j < ns → ∃ (y k : Nat) (vs : List Value), f j = some y ∧ dy[k]? = some (y, .inr (5, vs)) := fun j hj => by
  obtain ⟨g1, -, k, g2⟩ := h3 j hj
  exact ⟨_, k, _, g1, g2⟩
/-- one more binding -/
theorem TB1.add {N : Nat} {f : Nat → Option Nat} (h3 : ∀ i, i < nb → f i = some (ba i) ∧ ∃ k : Nat, dy[k]? = some (bE (ba i) (pt i) (ih i) (il i) (ip i) (pn i) (op i))) (h4 : ∀ i j, i < nb → j < nb → ba i = ba j → i = j) (hn : nb < 64) {kx x a1 a2 a3 a4 a5 a6 : Nat} (hx : dy[kx]? = some (bE x a1 a2 a3 a4 a5 a6)) (hfr : ∀ i, i < nb → ba i ≠ x) {u : Nat × Nat × (Nat → Option Nat) × va_W} (hu : PA cy e0 pre dy eb nb f x u) :
    TB1 cy u.2.2.2 e0 u.1 (nb + 1) (va_up ba nb x) (va_up pt nb a1) (va_up ih nb a2) (va_up il nb a3) (va_up ip nb a4) (va_up pn nb a5) (va_up op nb a6) := by
  obtain ⟨⟨kr, p1⟩, p2, p3, p4, p5, p6, p7, -⟩ := hu
  refine ⟨u.2.1, u.2.2.1, Or.inr ⟨kr, p1, p2, p3, p4⟩, by omega, fun i hi => ?_, fun i j hi hj e => ?_⟩
  · by_cases e : i = nb
    · subst e
      simp only [va_up_self]
      exact ⟨p6, kx, p7 kx _ hx (Or.inl ⟨_, rfl⟩)⟩
    · simp only [va_up_ne _ _ e]
      obtain ⟨g1, k, g2⟩ := h3 i (by omega)
      exact ⟨by rw [p5 i (by omega)]; exact g1, k, p7 k _ g2 (Or.inl ⟨_, rfl⟩)⟩
  · by_cases e1 : i = nb <;> by_cases e2 : j = nb
    · omega
    · rw [e1, va_up_self, va_up_ne _ _ e2] at e
      exact absurd e.symm (hfr j (by omega))
    · rw [e2, va_up_self, va_up_ne _ _ e1] at e
      exact absurd e (hfr i (by omega))
    · rw [va_up_ne _ _ e1, va_up_ne _ _ e2] at e
      exact h4 i j (by omega) (by omega) e
/-- one more session -/
theorem TS1.add {N : Nat} {f : Nat → Option Nat} (h3 : ∀ j, j < ns → f j = some (sa j) ∧ so j < nb ∧ ∃ k : Nat, dy[k]? = some (sE (sa j) (ba (so j)) (fa j) (fp j) (st j) (en j))) (h4 : ∀ i j, i < ns → j < ns → sa i = sa j → i = j) (hn : ns < 128) {kx x b a2 a3 a4 a5 : Nat} (hb : b < nb) (hx : dy[kx]? = some (sE x (ba b) a2 a3 a4 a5)) (hfr : ∀ i, i < ns → sa i ≠ x) {u : Nat × Nat × (Nat → Option Nat) × va_W} (hu : PA cy e0 pre dy es ns f x u) :
    TS1 cy u.2.2.2 e0 u.1 (ns + 1) nb ba (va_up sa ns x) (va_up so ns b) (va_up fa ns a2) (va_up fp ns a3) (va_up st ns a4) (va_up en ns a5) := by
  obtain ⟨⟨kr, p1⟩, p2, p3, p4, p5, p6, p7, -⟩ := hu
  refine ⟨u.2.1, u.2.2.1, Or.inr ⟨kr, p1, p2, p3, p4⟩, by omega, fun i hi => ?_, fun i j hi hj e => ?_⟩
  · by_cases e : i = ns
    · subst e
      simp only [va_up_self]
      exact ⟨p6, hb, kx, p7 kx _ hx (Or.inl ⟨_, rfl⟩)⟩
    · simp only [va_up_ne _ _ e]
      obtain ⟨g1, g0, k, g2⟩ := h3 i (by omega)
      exact ⟨by rw [p5 i (by omega)]; exact g1, g0, k, p7 k _ g2 (Or.inl ⟨_, rfl⟩)⟩
  · by_cases e1 : i = ns <;> by_cases e2 : j = ns
    · omega
    · rw [e1, va_up_self, va_up_ne _ _ e2] at e
      exact absurd e.symm (hfr j (by omega))
    · rw [e2, va_up_self, va_up_ne _ _ e1] at e
      exact absurd e (hfr i (by omega))
    · rw [va_up_ne _ _ e1, va_up_ne _ _ e2] at e
      exact h4 i j (by omega) (by omega) e
/-- the sessions stay when there is one more binding -/
theorem TS1.more (h : TS1 cy dy e0 es ns nb ba sa so fa fp st en) {x : Nat} : TS1 cy dy e0 es ns (nb + 1) (va_up ba nb x) sa so fa fp st en := by
  obtain ⟨N, f, h1, h2, h3, h4⟩ := h
  refine ⟨N, f, h1, h2, fun i hi => ?_, h4⟩
  obtain ⟨g1, g0, k, g2⟩ := h3 i hi
  exact ⟨g1, by omega, k, by rw [va_up_ne _ _ (by omega)]; exact g2⟩
/-- a session's state and end anew -/
theorem TS1.meet (h : TS1 cy dy e0 es ns nb ba sa so fa fp st en) {j k s2 e2 : Nat} (hj : j < ns) (hk : dy[k]? = some (sE (sa j) (ba (so j)) (fa j) (fp j) (st j) (en j))) : TS1 cy (dy.set k (sE (sa j) (ba (so j)) (fa j) (fp j) s2 e2)) e0 es ns nb ba sa so fa fp (va_up st j s2) (va_up en j e2) := by
  obtain ⟨N, f, h1, h2, h3, h4⟩ := h
  refine ⟨N, f, ?_, h2, fun i hi => ?_, h4⟩
  · rcases h1 with h1 | ⟨ka, g1, g2⟩
    · exact Or.inl h1
    · exact Or.inr ⟨ka, (List.getElem?_set_ne (lst_ne hk g1 (by intro h9; cases h9))).trans g1, g2⟩
  · obtain ⟨g1, g0, k2, g2⟩ := h3 i hi
    refine ⟨g1, g0, ?_⟩
    by_cases e : i = j
    · subst e
      exact ⟨k, by rw [List.getElem?_set_self (lst_lt hk), va_up_self, va_up_self]⟩
    · refine ⟨k2, ?_⟩
      rw [va_up_ne _ _ e, va_up_ne _ _ e, List.getElem?_set_ne (fun z => ?_), g2]
      subst z
      rw [hk] at g2
      injection g2 with g2
      injection g2 with g2
      exact e (h4 i j hi hj g2.symm)
theorem TB1.setS (h : TB1 cy dy e0 eb nb ba pt ih il ip pn op) {k : Nat} {x y : Nat × va_E} {vs : List Value} {a : Nat} (hk : dy[k]? = some (a, .inr (5, vs))) : TB1 cy (dy.set k y) e0 eb nb ba pt ih il ip pn op := by
  obtain ⟨N, f, h1, h2, h3, h4⟩ := h
  refine ⟨N, f, ?_, h2, fun i hi => ?_, h4⟩
  · rcases h1 with h1 | ⟨ka, g1, g2⟩
    · exact Or.inl h1
    · exact Or.inr ⟨ka, (List.getElem?_set_ne (lst_ne hk g1 (by intro h9; cases h9))).trans g1, g2⟩
  · obtain ⟨g1, k2, g2⟩ := h3 i hi
    exact ⟨g1, k2, (List.getElem?_set_ne (lst_ne hk g2 (by intro h9; injection h9 with _ h8; injection h8 with h7; injection h7 with h6; cases h6))).trans g2⟩
/-- the same state, told by functions that agree below the counts -/
theorem DY.ne_add (h : DY cy e0 dy eb es nb ns ba sa pt ih il ip pn op so fa fp st en) {n x : Nat} {f : Nat → Option Nat} {u : Nat × Nat × (Nat → Option Nat) × va_W} {dz : va_W} (hdz : ∀ q ∈ dy, q ∈ dz) (hu : PA cy e0 pre dz eb n f x u) : u.1 = es → u.1 = e0 := by
  intro e
  obtain ⟨-, -, -, -, -, -, -, p8⟩ := hu
  rcases p8 with p8 | ⟨p8, p9⟩
  · rw [p8] at e ⊢; exact h.2.2 e
  · obtain ⟨N, g, h1, -⟩ := h.2.1
    rcases h1.in with h9 | ⟨q, hq, hq2⟩
    · exact absurd (e.trans h9) p8
    · exact absurd (hq2.trans e.symm) (p9 q (List.mem_append_right _ (hdz q hq)))
theorem DY.ne_addS (h : DY cy e0 dy eb es nb ns ba sa pt ih il ip pn op so fa fp st en) {n x : Nat} {f : Nat → Option Nat} {u : Nat × Nat × (Nat → Option Nat) × va_W} {dz : va_W} (hdz : ∀ q ∈ dy, q ∈ dz) (hu : PA cy e0 pre dz es n f x u) : eb = u.1 → eb = e0 := by
  intro e
  obtain ⟨-, -, -, -, -, -, -, p8⟩ := hu
  rcases p8 with p8 | ⟨p8, p9⟩
  · rw [p8] at e; exact h.2.2 e
  · obtain ⟨N, g, h1, -⟩ := h.1
    rcases h1.in with h9 | ⟨q, hq, hq2⟩
    · exact h9
    · exact absurd (hq2.trans e) (p9 q (List.mem_append_right _ (hdz q hq)))
end DD
