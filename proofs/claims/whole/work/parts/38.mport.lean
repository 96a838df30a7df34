/-! the port of a new binding (fb_holes began as a starting text of the laws) -/
theorem fb_holes : ∀ (m n : Nat) (f : Nat → Nat), (∀ i, i < n → f i < m) → (∀ i j, i < j → j < n → f i ≠ f j) → n ≤ m := by
  intro m
  induction m with
  | zero =>
    intro n f h1 _
    rcases Nat.eq_zero_or_pos n with h | h
    · omega
    · exact absurd (h1 0 h) (Nat.not_lt_zero _)
  | succ m ih =>
    intro n f h1 h2
    by_cases hx : ∃ i, i < n ∧ f i = m
    · obtain ⟨a, ha, hfa⟩ := hx
      have hg := ih (n - 1) (fun i => if i < a then f i else f (i + 1)) (by
        intro i hi
        by_cases q : i < a
        · simp only [if_pos q]
          have b1 := h1 i (by omega)
          have b2 := h2 i a q ha
          omega
        · simp only [if_neg q]
          have b1 := h1 (i + 1) (by omega)
          have b2 := h2 a (i + 1) (by omega) (by omega)
          omega) (by
        intro i j hij hj
        by_cases q : i < a
        · by_cases r : j < a
          · simp only [if_pos q, if_pos r]
            exact h2 i j hij (by omega)
          · simp only [if_pos q, if_neg r]
            exact h2 i (j + 1) (by omega) (by omega)
        · have r : ¬ j < a := by omega
          simp only [if_neg q, if_neg r]
          exact h2 (i + 1) (j + 1) (by omega) (by omega))
      omega
    · have hg := ih n f (fun i hi => by
        have b1 := h1 i hi
        have b2 : f i ≠ m := fun e => hx ⟨i, hi, e⟩
        omega) h2
      omega
def tg_sp (q : Nat) : Nat := if q = 1 then 1 else 2
def tg_v0 (q port : Nat) : Nat := if q = 1 then 0 else if port < 1024 then (if port % 2 = 0 then 2 else 1) else (if port % 2 = 0 then 1024 else 1025)
/-- a binding of the protocol q has the pool number num and the port v -/
def tg_used (pt pn op : Nat → Nat) (nb q num v : Nat) : Bool := decide (tg_first (fun k => decide (pt k = q ∧ pn k = num ∧ op k = v)) nb < nb)
def tg_port (pt pn op : Nat → Nat) (nb q num port : Nat) : Nat := tg_v0 q port + tg_sp q * tg_first (fun j => !tg_used pt pn op nb q num (tg_v0 q port + tg_sp q * j)) 64
theorem tg_pig {pt pn op : Nat → Nat} {nb q num v0 sp j : Nat} (hs : 0 < sp) (h : ∀ i, i < j → tg_used pt pn op nb q num (v0 + sp * i) = true) : j ≤ nb := by
  refine fb_holes nb j (fun i => tg_first (fun k => decide (pt k = q ∧ pn k = num ∧ op k = v0 + sp * i)) nb) (fun i hi => of_decide_eq_true (h i hi)) ?_
  intro i i2 hlt hi2 e
  have h1 := of_decide_eq_true (tg_first_is (of_decide_eq_true (h i (by omega))))
  have h2 := of_decide_eq_true (tg_first_is (of_decide_eq_true (h i2 hi2)))
  rw [e] at h1
  have h3 : v0 + sp * i = v0 + sp * i2 := h1.2.2.symm.trans h2.2.2
  have h4 : sp * i = sp * i2 := by omega
  have h5 := Nat.eq_of_mul_eq_mul_left hs h4
  omega
theorem tg_port_at {pt pn op : Nat → Nat} {nb q num port j : Nat} (hj : j < 64) (h : ∀ i, i < j → tg_used pt pn op nb q num (tg_v0 q port + tg_sp q * i) = true) (hn : tg_used pt pn op nb q num (tg_v0 q port + tg_sp q * j) = false) : tg_port pt pn op nb q num port = tg_v0 q port + tg_sp q * j := by
  unfold tg_port
  rw [tg_first_at (k := j) (by rw [hn]; rfl) (fun i hi => by rw [h i hi]; rfl) hj]
theorem tg_v0_le (q port : Nat) : tg_v0 q port ≤ 1025 := by unfold tg_v0; (repeat' split) <;> omega
theorem tg_sp_le (q : Nat) : 1 ≤ tg_sp q ∧ tg_sp q ≤ 2 := by unfold tg_sp; split <;> omega
theorem used_f {pt pn op : Nat → Nat} {nb q num v : Nat} (hu : nb < 2 ^ 31) (h : tg_num (tg_first (fun k => decide (pt k = q ∧ pn k = num ∧ op k = v)) nb) nb < 0) : tg_used pt pn op nb q num v = false := num_f hu h
theorem used_t {pt pn op : Nat → Nat} {nb q num v : Nat} (hu : nb < 2 ^ 31) (h : ¬ tg_num (tg_first (fun k => decide (pt k = q ∧ pn k = num ∧ op k = v)) nb) nb < 0) : tg_used pt pn op nb q num v = true := num_t hu h
theorem tg_best_lt {ih il pn : Nat → Nat} {nb u hi lo : Nat} (hp : ∀ i, pn i < 4) (hu0 : 1 ≤ u) (hu : u ≤ 4) : tg_best ih il pn nb u hi lo < 4 := by
  unfold tg_best
  split
  · exact hp _
  · have := tg_few_le (fun z => tg_cnt (fun k => decide (pn k = z)) nb) (u - 1)
    omega
