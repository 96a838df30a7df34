theorem sg_nat {n9 a9 : Int32} {hd tp : Nat} (hh : hd ≤ 40) (ht : tp ≤ 1600) (h0 : hd ≠ 0) (h1 : ¬ n9 < nI hd) (h2 : ¬ n9 > nI tp) (h3 : ¬ a9 < nI hd) (h4 : a9 ≤ n9 - nI 2) (h5 : hd = 20 ∨ hd = 40 := by omega) : ∃ n a : Nat, n9 = nI n ∧ a9 = nI a ∧ hd ≠ 0 ∧ hd ≤ n ∧ n ≤ tp ∧ hd ≤ a ∧ a + 2 ≤ n := by
  rcases int_case n9 with z | ⟨n, hn, rfl⟩
  · exact absurd (neg_lt z (by omega)) h1
  · rcases int_case a9 with z | ⟨a, ha, rfl⟩
    · exact absurd (neg_lt z (by omega)) h3
    · have g1 : hd ≤ n := Nat.le_of_not_lt (fun z => h1 ((nI_ltI hn (by omega)).mpr z))
      have g2 : n ≤ tp := Nat.le_of_not_lt (fun z => h2 ((nI_ltI (by omega) hn).mpr z))
      have g3 : hd ≤ a := Nat.le_of_not_lt (fun z => h3 ((nI_ltI ha (by omega)).mpr z))
      have e : nI n - nI 2 = nI (n - 2) := pk_sub (by omega)
      rw [e] at h4
      have g4 : a ≤ n - 2 := Nat.le_of_not_lt (fun z => by
        have h5 := (nI_ltI (a := n - 2) (b := a) (by omega) ha).mpr z
        exact absurd h4 (Int32.not_le.mpr h5))
      exact ⟨n, a, rfl, rfl, h0, g1, g2, g3, by omega⟩
