/-! what is known of a packet that no rule drops -/
theorem in0 {h : Nat → Nat} {n bits F G u : Nat} (hz : tg_in h n bits F G u = 0) : (40 ≤ n ∧ (h 6 = 6 ∨ h 6 = 17 ∨ h 6 = 58) ∧ 8 ≤ n - 40 ∧ (h 6 = 6 → 20 ≤ n - 40) ∧ 2 ≤ h 7) ∧ bits ≠ 0 ∧ u ≠ 0 ∧ tg_of bits F G (tg_ei h 24) (tg_ei h 32) = true := by
  unfold tg_in at hz
  split at hz
  · cases hz
  · rename_i h1
    split at hz
    · cases hz
    · rename_i h2
      split at hz
      · cases hz
      · split at hz
        · cases hz
        · rename_i h4
          split at hz
          · rename_i h5
            unfold tg_fr6 at h1
            have h1 : 40 ≤ n ∧ h 0 / 16 = 6 ∧ tg_pr h 4 = n - 40 := by simpa using h1
            unfold tg_pl6 at h5
            simp only [Bool.and_eq_true, decide_eq_true_eq] at h5
            refine ⟨?_, h5.1.1.1.1, h5.1.1.1.2, h5.1.1.2⟩
            unfold tg_kn6 at h2
            split at h2
            · rename_i h6
              have h7 : 20 ≤ n - 40 ∧ 5 ≤ h (40 + 12) / 16 ∧ 4 * (h (40 + 12) / 16) ≤ n - 40 := by simpa [tg_tcp] using h2
              omega
            · split at h2
              · rename_i h6
                have h7 : 8 ≤ n - 40 ∧ tg_pr h (40 + 4) = n - 40 := by simpa [tg_udp] using h2
                omega
              · split at h2
                · rename_i h6
                  have h2t : tg_echo6 h n = true := by simpa using h2
                  have h7 : 8 ≤ n - 40 ∧ (h 40 = 128 ∨ h 40 = 129) := of_decide_eq_true h2t
                  omega
                · exact absurd rfl h2
          · cases hz
theorem out0 {h : Nat → Nat} {n bits u : Nat} {g : Nat → Int32} (hz : tg_out h n bits g u = 0) : (28 ≤ n ∧ (h 9 = 1 ∨ h 9 = 6 ∨ h 9 = 17) ∧ (h 9 = 6 → 20 ≤ n - 20) ∧ 2 ≤ h 8) ∧ bits ≠ 0 ∧ tg_has g u (tg_qd h 16) = true ∧ (tg_isErr h = true → 56 ≤ n ∧ (h 37 = 1 ∨ h 37 = 6 ∨ h 37 = 17) ∧ tg_has g u (tg_qd h 40) = true) := by
  unfold tg_out at hz
  split at hz
  · cases hz
  · rename_i h1
    split at hz
    · cases hz
    · split at hz
      · cases hz
      · rename_i h2
        split at hz
        · cases hz
        · split at hz
          · cases hz
          · rename_i h4
            split at hz
            · rename_i h5
              have h1 : 20 ≤ n ∧ h 0 = 69 ∧ tg_pr h 2 = n := by simpa [tg_fr4] using h1
              unfold tg_pl4 at h5
              simp only [Bool.and_eq_true, decide_eq_true_eq] at h5
              have h2t : tg_kn4 h n = true := by simpa using h2
              refine ⟨?_, h5.1.1.1, h5.1.1.2, fun he => ?_⟩
              · unfold tg_kn4 at h2
                split at h2
                · exact absurd rfl h2
                · split at h2
                  · have h7 : 20 ≤ n - 20 ∧ 5 ≤ h (20 + 12) / 16 ∧ 4 * (h (20 + 12) / 16) ≤ n - 20 := by simpa [tg_tcp] using h2
                    omega
                  · split at h2
                    · have h7 : 8 ≤ n - 20 ∧ tg_pr h (20 + 4) = n - 20 := by simpa [tg_udp] using h2
                      omega
                    · split at h2
                      · unfold tg_kicmp4 at h2
                        split at h2
                        · omega
                        · exact absurd rfl h2
                      · exact absurd rfl h2
              · have h6 := h5.2
                rw [he] at h6
                simp only [Bool.not_true, Bool.false_or, Bool.and_eq_true] at h6
                refine ⟨kn4_err h2t he, ?_, h6.1⟩
                simp only [tg_isErr, decide_eq_true_eq] at he
                unfold tg_kn4 at h2t
                split at h2t
                · cases h2t
                · rw [if_neg (by omega), if_neg (by omega), if_pos (by omega)] at h2t
                  unfold tg_kicmp4 at h2t
                  split at h2t
                  · rw [if_neg (by omega)] at h2t
                    have hw : tg_within h n = true := by
                      split at h2t
                      · exact (Bool.and_eq_true _ _ ▸ h2t).2
                      · split at h2t
                        · exact (Bool.and_eq_true _ _ ▸ h2t).2
                        · cases h2t
                    simp only [tg_within, decide_eq_true_eq] at hw
                    omega
                  · cases h2t
            · cases hz
theorem tg_draw_of {bits F G hi lo : Nat} (h : tg_of bits F G hi lo = true) : tg_draw bits F G hi lo = lN (tg_dr bits hi lo) := if_pos h
theorem lN_toI {a : Nat} (h : a < 2 ^ 32) : (lN a).toInt32 = nI a := lN_i a
theorem PLP_of {cy : Nat → ClassId} {ws : va_W} {kp kq po pa u : Nat} {g : Nat → Int32} (h1 : ws[kp]? = some (po, .inr (4, [.ref pa, .int (nI u)]))) (h2 : ws[kq]? = some (pa, .inl (cy 1, 4, .inl g))) (h3 : u ≤ 4) : PLP cy ws po g u := ⟨kp, kq, pa, h1, h2, h3⟩
