theorem tg_pl_lt {bits i : Nat} (hi : i < 4) (hb : bits = 32 ∨ bits = 40 ∨ bits = 48 ∨ bits = 56 ∨ bits = 64 ∨ bits = 96) : tg_pl bits i < 16 := by
  unfold tg_pl
  split <;> omega
theorem of_96 {bits F G hi lo : Nat} (hb : bits = 96) (hh : hi < 2 ^ 64) (hl : lo < 2 ^ 64) (hF : F < 2 ^ 64) (hG : G < 2 ^ 64) (h1 : lN hi = lN F) (h2 : lN lo &&& (-4294967296) = lN G) : tg_of bits F G hi lo = true := by
  subst hb
  rw [m32, lN_hi hl (by decide)] at h2
  have e1 := (lN_inj hh hF).mp h1
  have e2 := (lN_inj (Nat.lt_of_le_of_lt (Nat.sub_le _ _) hl) hG).mp h2
  simp [tg_of, e1]
  omega
theorem of_96a {bits F G hi lo : Nat} (hb : bits = 96) (h1 : ¬ lN hi = lN F) : tg_of bits F G hi lo = false := by
  subst hb
  cases hz : tg_of 96 F G hi lo
  · rfl
  · simp [tg_of] at hz
    exact absurd (by rw [hz.1]) h1
theorem of_96b {bits F G hi lo : Nat} (hb : bits = 96) (hl : lo < 2 ^ 64) (h2 : ¬ lN lo &&& (-4294967296) = lN G) : tg_of bits F G hi lo = false := by
  subst hb
  rw [m32, lN_hi hl (by decide)] at h2
  cases hz : tg_of 96 F G hi lo
  · rfl
  · simp [tg_of] at hz
    exact absurd (by rw [← hz.2]) h2
theorem of_y {bits F G hi lo : Nat} (hb : bits = 0 ∨ bits = 32 ∨ bits = 40 ∨ bits = 48 ∨ bits = 56 ∨ bits = 64 ∨ bits = 96) (h0 : bits ≠ 0) (h6 : bits ≠ 96) (hh : hi < 2 ^ 64) (hl : lo < 2 ^ 64) (hF : F < 2 ^ 64) (h1 : lN hi &&& tg_hm bits = lN F) (h2 : lN (lo / 2 ^ 56) = lN 0) : tg_of bits F G hi lo = true := by
  rw [tg_hm_and hh (by omega) (by omega)] at h1
  have e1 := (lN_inj (Nat.lt_of_le_of_lt (Nat.sub_le _ _) hh) hF).mp h1
  have e2 : lo / 2 ^ 56 = 0 := (lN_inj (Nat.lt_of_le_of_lt (Nat.div_le_self _ _) hl) (by decide)).mp h2
  unfold tg_of
  rw [if_neg h0, if_neg h6]
  exact decide_eq_true ⟨e1, e2⟩
theorem of_a {bits F G hi lo : Nat} (hb : bits = 0 ∨ bits = 32 ∨ bits = 40 ∨ bits = 48 ∨ bits = 56 ∨ bits = 64 ∨ bits = 96) (h0 : bits ≠ 0) (h6 : bits ≠ 96) (hh : hi < 2 ^ 64) (h1 : ¬ lN hi &&& tg_hm bits = lN F) : tg_of bits F G hi lo = false := by
  rw [tg_hm_and hh (by omega) (by omega)] at h1
  cases hz : tg_of bits F G hi lo
  · rfl
  · simp [tg_of, h0, h6] at hz
    exact absurd (by rw [hz.1]) h1
theorem of_b {bits F G hi lo : Nat} (h0 : bits ≠ 0) (h6 : bits ≠ 96) (h1 : ¬ lN (lo / 2 ^ 56) = lN 0) : tg_of bits F G hi lo = false := by
  cases hz : tg_of bits F G hi lo
  · rfl
  · simp [tg_of, h0, h6] at hz
    exact absurd (congrArg lN (by omega)) h1
