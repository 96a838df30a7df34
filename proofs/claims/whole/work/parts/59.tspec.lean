/-! THE TABLE: bindings and sessions as objects of the world's tail, by their numbers -/
abbrev bE (a pt ih il ip pn op : Nat) : Nat × va_E := (a, .inr (1, [.int (nI pt), .long (lN ih), .long (lN il), .int (nI ip), .int (nI pn), .int (nI op)]))
abbrev sE (a ow fa fp st en : Nat) : Nat × va_E := (a, .inr (5, [.ref ow, .int (nI fa), .int (nI fp), .int (nI st), .long (lN en)]))
abbrev fE (a : Nat) (ins : Bool) (q port fa fp ev : Nat) : Nat × va_E := (a, .inr (3, [.int (bI ins), .int (nI q), .int (nI port), .int (nI fa), .int (nI fp), .int (nI ev)]))
abbrev tE (a lb ls T : Nat) : Nat × va_E := (a, .inr (7, [.ref lb, .ref ls, .long (lN T)]))
def TB1 (cy : Nat → ClassId) (dy : va_W) (e0 eb nb : Nat) (ba pt ih il ip pn op : Nat → Nat) : Prop :=
  ∃ (N : Nat) (f : Nat → Option Nat), AD cy dy e0 eb N f nb ∧ nb ≤ 64 ∧ (∀ i, i < nb → f i = some (ba i) ∧ ∃ k : Nat, dy[k]? = some (bE (ba i) (pt i) (ih i) (il i) (ip i) (pn i) (op i))) ∧ ∀ i j, i < nb → j < nb → ba i = ba j → i = j
def TS1 (cy : Nat → ClassId) (dy : va_W) (e0 es ns nb : Nat) (ba sa so fa fp st en : Nat → Nat) : Prop :=
  ∃ (N : Nat) (f : Nat → Option Nat), AD cy dy e0 es N f ns ∧ ns ≤ 128 ∧ (∀ j, j < ns → f j = some (sa j) ∧ so j < nb ∧ ∃ k : Nat, dy[k]? = some (sE (sa j) (ba (so j)) (fa j) (fp j) (st j) (en j))) ∧ ∀ i j, i < ns → j < ns → sa i = sa j → i = j
theorem AD.app {cy : Nat → ClassId} {pre dy : va_W} {e0 ea N n : Nat} {f : Nat → Option Nat} (h : AD cy dy e0 ea N f n) : AD cy (pre ++ dy) e0 ea N f n := by
  rcases h with h | ⟨k, h1, h2⟩
  · exact Or.inl h
  · exact Or.inr ⟨pre.length + k, app_r h1, h2⟩
section TT
variable {cy : Nat → ClassId} {ws dy pre : va_W} {e0 eb es nb ns : Nat} {ba pt ih il ip pn op sa so fa fp st en : Nat → Nat}
theorem TB1.app (h : TB1 cy dy e0 eb nb ba pt ih il ip pn op) : TB1 cy (pre ++ dy) e0 eb nb ba pt ih il ip pn op := by
  obtain ⟨N, f, h1, h2, h3, h4⟩ := h
  refine ⟨N, f, h1.app, h2, fun i hi => ?_, h4⟩
  obtain ⟨g1, k, g2⟩ := h3 i hi
  exact ⟨g1, pre.length + k, app_r g2⟩
theorem TS1.app (h : TS1 cy dy e0 es ns nb ba sa so fa fp st en) : TS1 cy (pre ++ dy) e0 es ns nb ba sa so fa fp st en := by
  obtain ⟨N, f, h1, h2, h3, h4⟩ := h
  refine ⟨N, f, h1.app, h2, fun i hi => ?_, h4⟩
  obtain ⟨g1, g0, k, g2⟩ := h3 i hi
  exact ⟨g1, g0, pre.length + k, app_r g2⟩
theorem TB1.le (h : TB1 cy dy e0 eb nb ba pt ih il ip pn op) : nb ≤ 64 := by obtain ⟨N, f, h1, h2, h3, h4⟩ := h; exact h2
theorem TS1.le (h : TS1 cy dy e0 es ns nb ba sa so fa fp st en) : ns ≤ 128 := by obtain ⟨N, f, h1, h2, h3, h4⟩ := h; exact h2
theorem TB1.at (h : TB1 cy dy e0 eb nb ba pt ih il ip pn op) {i : Nat} (hi : i < nb) : ∃ k : Nat, dy[k]? = some (bE (ba i) (pt i) (ih i) (il i) (ip i) (pn i) (op i)) := by obtain ⟨N, f, h1, h2, h3, h4⟩ := h; exact (h3 i hi).2
theorem TS1.at (h : TS1 cy dy e0 es ns nb ba sa so fa fp st en) {i : Nat} (hi : i < ns) : ∃ k : Nat, dy[k]? = some (sE (sa i) (ba (so i)) (fa i) (fp i) (st i) (en i)) := by obtain ⟨N, f, h1, h2, h3, h4⟩ := h; exact (h3 i hi).2.2
theorem TS1.own (h : TS1 cy dy e0 es ns nb ba sa so fa fp st en) {i : Nat} (hi : i < ns) : so i < nb := by obtain ⟨N, f, h1, h2, h3, h4⟩ := h; exact (h3 i hi).2.1
theorem TB1.inj (h : TB1 cy dy e0 eb nb ba pt ih il ip pn op) {i j : Nat} (hi : i < nb) (hj : j < nb) (e : ba i = ba j) : i = j := by obtain ⟨N, f, h1, h2, h3, h4⟩ := h; exact h4 i j hi hj e
theorem c_getB {l : Launch} {D : va_G} {kl lb : Nat} {mo : Int32} (hL : ws[kl]? = some (aL lb mo eb nb)) (hB : TB1 cy ws e0 eb nb ba pt ih il ip pn op) {i : Nat} (hi : i < nb) : RO l yJx4a65c_get_915e3 cJx4a65c_get_915e3 2 (some (.object "java/lang/Object")) 2 43 [.ref lb, .int (nI i)] D cy ws (.ref (ba i)) := by
  obtain ⟨N, f, h1, h2, h3, h4⟩ := hB
  rcases h1 with h1 | ⟨ka, h1, h5, h6, h7⟩
  · omega
  · have h := c_Jx4a65c_get_915e3 (l := l) (D := D) hL h1 h5 h7 hi
    rw [(h3 i hi).1] at h
    exact h
theorem c_getS {l : Launch} {D : va_G} {kl ls : Nat} {mo : Int32} (hL : ws[kl]? = some (aL ls mo es ns)) (hB : TS1 cy ws e0 es ns nb ba sa so fa fp st en) {i : Nat} (hi : i < ns) : RO l yJx4a65c_get_915e3 cJx4a65c_get_915e3 2 (some (.object "java/lang/Object")) 2 43 [.ref ls, .int (nI i)] D cy ws (.ref (sa i)) := by
  obtain ⟨N, f, h1, h2, h3, h4⟩ := hB
  rcases h1 with h1 | ⟨ka, h1, h5, h6, h7⟩
  · omega
  · have h := c_Jx4a65c_get_915e3 (l := l) (D := D) hL h1 h5 h7 hi
    rw [(h3 i hi).1] at h
    exact h
end TT
/-- what stands at the first k < n with q k; none without one -/
def tg_at (ba : Nat → Nat) (q : Nat → Bool) (n : Nat) : Option Nat := if tg_first q n < n then some (ba (tg_first q n)) else none
theorem tg_at_some {ba : Nat → Nat} {q : Nat → Bool} {i n : Nat} (hi : i < n) (hq : q i = true) (hno : ∀ j, j < i → q j = false) : tg_at ba q n = some (ba i) := by
  unfold tg_at
  rw [tg_first_at hq hno hi, if_pos hi]
theorem tg_at_none {ba : Nat → Nat} {q : Nat → Bool} {n : Nat} (hno : ∀ j, j < n → q j = false) : tg_at ba q n = none := by
  unfold tg_at
  rw [tg_first_none hno, if_neg (by omega)]
theorem tg_at_first {ba : Nat → Nat} {q : Nat → Bool} {n : Nat} (h : tg_first q n < n) : tg_at ba q n = some (ba (tg_first q n)) := if_pos h
theorem tg_at_nf {ba : Nat → Nat} {q : Nat → Bool} {n : Nat} (h : ¬ tg_first q n < n) : tg_at ba q n = none := if_neg h
theorem sinj {a b : Nat} (h : some a = some b) : a = b := Option.some.inj h
