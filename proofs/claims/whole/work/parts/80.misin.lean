/-! the model's refusals -/
theorem RO.conv {l : Launch} {y : MethodName} {bytes : ByteArray} {maxL : Nat} {ret : Option FieldType} {f n : Nat} {av : List Value} {D : va_G} {cy : Nat → ClassId} {ws ws2 : va_W} {r : Value} (h : RO l y bytes maxL ret f n av D cy ws r) (hp : PM ws ws2) : RO l y bytes maxL ret f n av D cy ws2 r :=
  Met.mono h (fun _ _ q => ⟨q.1, hp.sy.P q.2.1, q.2.2⟩) (fun _ _ _ _ q => q) (fun _ q => q)
theorem isIn_nat {a lo hi : Nat} (ha : a < 2 ^ 63) (hl : lo < 2 ^ 63) (hh : hi < 2 ^ 63) : tg_isIn (lN a) (lN lo) (lN hi) = decide (lo ≤ a ∧ a ≤ hi) := by
  unfold tg_isIn
  rw [decide_eq_decide, pk_lLE hl ha, pk_lLE ha hh]
theorem isIn_neg {x : Int32} {lo : Nat} {hi : Int64} (hx : x < 0) (hl : lo < 2 ^ 31) : tg_isIn x.toInt64 (lN lo) hi = false := by
  apply decide_eq_false
  intro hz
  have h1 := Int64.le_iff_toInt_le.mp hz.1
  rw [Int32.toInt_toInt64, pk_lT (by omega)] at h1
  have := neg_toInt hx
  omega
theorem nI_to64 {k : Nat} (h : k < 2 ^ 31) : (nI k).toInt64 = lN k := by
  apply Int64.toInt_inj.mp
  rw [Int32.toInt_toInt64, nI_toInt h, pk_lT (by omega)]
theorem lN_m1 : lN 0 - lN 1 = -1 := by decide
/-- not below n, or below 0 -/
theorem isInm_f {x : Int32} {n : Nat} (hn : n < 2 ^ 31) (h : x < 0 ∨ ∃ k : Nat, k < 2 ^ 31 ∧ x = nI k ∧ n ≤ k) : tg_isIn x.toInt64 (lN 0) (lN n - lN 1) = false := by
  rcases h with h | ⟨k, hk, rfl, hnk⟩
  · exact isIn_neg h (by decide)
  · rw [nI_to64 hk]
    rcases Nat.eq_zero_or_pos n with h0 | h0
    · subst h0
      rw [lN_m1]
      apply decide_eq_false
      intro hz
      have h1 := Int64.le_iff_toInt_le.mp hz.2
      rw [pk_lT (by omega)] at h1
      have h2 : (-1 : Int64).toInt = -1 := by decide
      omega
    · rw [lN_sub (by omega), isIn_nat (by omega) (by decide) (by omega)]
      exact decide_eq_false (by omega)
theorem isInr_f {x : Int32} {lo n : Nat} (hl : lo < 2 ^ 31) (hn : n < 2 ^ 31) (h : x < 0 ∨ ∃ k : Nat, k < 2 ^ 31 ∧ x = nI k ∧ (n < k ∨ k < lo)) : tg_isIn x.toInt64 (lN lo) (lN n) = false := by
  rcases h with h | ⟨k, hk, rfl, hnk⟩
  · exact isIn_neg h hl
  · rw [nI_to64 hk, isIn_nat (by omega) (by omega) (by omega)]
    exact decide_eq_false (by omega)
theorem by8_sr {x k : Nat} (hx : x < 2 ^ 32) (hk : k ≤ 24) : by8 (nI x >>> (nI k &&& 31)) = UInt8.ofNat (x / 2 ^ k) := by
  have h1 := by8i hx hk
  obtain ⟨b, hb, e⟩ := nI_ofx (nI x >>> (nI k &&& 31))
  rw [e, pk_andN hb 8 (by decide)] at h1
  have h2 := (nI_inj (by omega) (by omega)).mp h1
  rw [e, by8_nI]
  apply UInt8.toNat_inj.mp
  rw [UInt8.toNat_ofNat', UInt8.toNat_ofNat']
  omega
theorem feed_at {f : Nat → UInt8} {t a b c d e k : Nat} (hk : k < 20) : tg_feed f t a b c d e (t + k) = UInt8.ofNat ((if k < 4 then a else if k < 8 then b else if k < 12 then c else if k < 16 then d else e) / 2 ^ (24 - 8 * (k % 4))) := by
  unfold tg_feed
  by_cases h1 : k < 4
  · rw [if_pos h1, put_out (by omega), put_out (by omega), put_out (by omega), put_out (by omega), put_in (by omega) (by omega), show 8 * (4 - 1 - (t + k - t)) = 24 - 8 * (k % 4) by omega]
  · rw [if_neg h1]
    by_cases h2 : k < 8
    · rw [if_pos h2, put_out (by omega), put_out (by omega), put_out (by omega), put_in (by omega) (by omega), show 8 * (4 - 1 - (t + k - (t + 4))) = 24 - 8 * (k % 4) by omega]
    · rw [if_neg h2]
      by_cases h3 : k < 12
      · rw [if_pos h3, put_out (by omega), put_out (by omega), put_in (by omega) (by omega), show 8 * (4 - 1 - (t + k - (t + 8))) = 24 - 8 * (k % 4) by omega]
      · rw [if_neg h3]
        by_cases h4 : k < 16
        · rw [if_pos h4, put_out (by omega), put_in (by omega) (by omega), show 8 * (4 - 1 - (t + k - (t + 12))) = 24 - 8 * (k % 4) by omega]
        · rw [if_neg h4, put_in (by omega) (by omega), show 8 * (4 - 1 - (t + k - (t + 16))) = 24 - 8 * (k % 4) by omega]
theorem feed_out {f : Nat → UInt8} {t a b c d e i : Nat} (h : i < t ∨ t + 20 ≤ i) : tg_feed f t a b c d e i = f i := by
  unfold tg_feed
  rw [put_out (by omega), put_out (by omega), put_out (by omega), put_out (by omega), put_out (by omega)]
