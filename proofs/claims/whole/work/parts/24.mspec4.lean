theorem bad_sz {h : Nat → Nat} {n hd q : Nat} (hq : q = 1 ∨ q = 6 ∨ q = 17 ∨ q = 58) (hb : tg_bad h n hd q = false) : 8 ≤ n - hd ∧ tg_sumAt q + 2 ≤ n - hd := by
  simp only [tg_bad, decide_eq_false_iff_not] at hb
  unfold tg_sumAt
  (repeat' split) <;> omega
theorem kn4_err {h : Nat → Nat} {n : Nat} (h1 : tg_kn4 h n = true) (h2 : tg_isErr h = true) : 56 ≤ n := by
  simp only [tg_isErr, decide_eq_true_eq] at h2
  unfold tg_kn4 at h1
  split at h1
  · cases h1
  · rw [if_neg (by omega), if_neg (by omega), if_pos (by omega)] at h1
    unfold tg_kicmp4 at h1
    split at h1
    · rw [if_neg (by omega)] at h1
      have hw : tg_within h n = true := by
        split at h1
        · exact (Bool.and_eq_true _ _ ▸ h1).2
        · split at h1
          · exact (Bool.and_eq_true _ _ ▸ h1).2
          · cases h1
      simp only [tg_within, decide_eq_true_eq] at hw
      omega
    · cases h1
theorem nfalse {b : Bool} (h : b = true) : ¬ b = false := by rw [h]; decide
