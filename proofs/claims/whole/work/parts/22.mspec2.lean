theorem by8of {a k : Nat} (ha : a < 2 ^ 64) (hk : k ≤ 56) : (lN a >>> ((nI k).toInt64 &&& 63)).toInt32 &&& nI 255 = nI (a / 2 ^ k % 256) := by
  have h : ∀ k : Nat, k < 64 → (((nI k).toInt64 &&& 63 : Int64).toBitVec.smod 64).toNat = k := by decide +kernel
  rw [pk_and _ 8 (by decide)]
  congr 1
  have h2 : (lN a >>> ((nI k).toInt64 &&& 63)).toInt32.toBitVec = ((lN a).toBitVec.sshiftRight (((nI k).toInt64 &&& 63 : Int64).toBitVec.smod 64).toNat).signExtend 32 := rfl
  rw [h2, h k (by omega)]
  have h3 : (((lN a).toBitVec.sshiftRight k).signExtend 32).setWidth 8 = ((lN a).toBitVec >>> k).setWidth 8 := by
    apply BitVec.eq_of_getLsbD_eq
    intro i hi
    rw [BitVec.getLsbD_setWidth, BitVec.getLsbD_setWidth, BitVec.getLsbD_signExtend, BitVec.getLsbD_sshiftRight, BitVec.getLsbD_ushiftRight]
    simp [hi, show i < 32 by omega, show i < 64 by omega, show ¬ 64 ≤ i by omega, show k + i < 64 by omega]
  have h4 := congrArg BitVec.toNat h3
  rw [BitVec.toNat_setWidth, BitVec.toNat_setWidth, BitVec.toNat_ushiftRight, lN_toNat ha, Nat.shiftRight_eq_div_pow] at h4
  exact h4
def tg_isIn (v lo hi : Int64) : Bool := decide (lo ≤ v ∧ v ≤ hi)
def tg_pl (bits i : Nat) : Nat := if bits < 96 ∧ 8 ≤ bits / 8 + i then bits / 8 + i + 1 else bits / 8 + i
def tg_by (hi lo i : Nat) : Nat := if i < 8 then hi / 2 ^ (56 - 8 * i) % 256 else lo / 2 ^ (120 - 8 * i) % 256
theorem tg_by_lt (hi lo i : Nat) : tg_by hi lo i < 256 := by unfold tg_by; split <;> omega
def tg_db (bits hi lo : Nat) : Nat → Nat
  | 0 => 0
  | i + 1 => tg_db bits hi lo i * 256 + tg_by hi lo (tg_pl bits i)
theorem tg_db_lt (bits hi lo : Nat) : tg_db bits hi lo 1 < 2 ^ 8 ∧ tg_db bits hi lo 2 < 2 ^ 16 ∧ tg_db bits hi lo 3 < 2 ^ 24 ∧ tg_db bits hi lo 4 < 2 ^ 32 := by
  have h0 := tg_by_lt hi lo (tg_pl bits 0)
  have h1 := tg_by_lt hi lo (tg_pl bits 1)
  have h2 := tg_by_lt hi lo (tg_pl bits 2)
  have h3 := tg_by_lt hi lo (tg_pl bits 3)
  simp only [tg_db]
  omega
theorem tg_db_4 {bits hi lo : Nat} (hb : bits = 32 ∨ bits = 40 ∨ bits = 48 ∨ bits = 56 ∨ bits = 64 ∨ bits = 96) : tg_db bits hi lo 4 = tg_dr bits hi lo := by
  rcases hb with rfl | rfl | rfl | rfl | rfl | rfl <;> simp [tg_db, tg_by, tg_pl, tg_dr] <;> omega
def tg_bad (h : Nat → Nat) (n hd q : Nat) : Bool := decide ((q = 6 ∧ ¬ (20 ≤ n - hd ∧ 5 ≤ h (hd + 12) / 16 ∧ 4 * (h (hd + 12) / 16) ≤ n - hd)) ∨ (q ≠ 6 ∧ (n - hd < 8 ∨ (q = 17 ∧ tg_pr h (hd + 4) ≠ n - hd))))
def tg_badErr (h : Nat → Nat) (n : Nat) : Bool := decide (¬ ((h 20 = 3 ∧ h 21 ≠ 2 ∧ h 21 ≠ 14 ∧ h 21 < 16) ∨ (h 20 ≠ 3 ∧ h 21 < 2)) ∨ n < 56 ∨ h 28 ≠ 69 ∨ (h 37 ≠ 1 ∧ h 37 ≠ 6 ∧ h 37 ≠ 17) ∨ (h 37 = 1 ∧ h 48 ≠ 8))
theorem kn6_f {h : Nat → Nat} {n : Nat} (hz : (h 6 ≠ 6 ∧ h 6 ≠ 17 ∧ h 6 ≠ 58) ∨ tg_bad h n 40 (h 6) = true ∨ (h 6 = 58 ∧ h 40 ≠ 128 ∧ h 40 ≠ 129)) : tg_kn6 h n = false := by
  simp only [tg_kn6, tg_tcp, tg_udp, tg_echo6, tg_bad, decide_eq_true_eq] at *
  (repeat' split) <;> first | rfl | (exact decide_eq_false (by omega)) | (exfalso; omega)
theorem kn6_t {h : Nat → Nat} {n : Nat} (h1 : h 6 = 6 ∨ h 6 = 17 ∨ h 6 = 58) (h2 : tg_bad h n 40 (h 6) = false) (h3 : h 6 = 58 → h 40 = 128 ∨ h 40 = 129) : tg_kn6 h n = true := by
  simp only [tg_kn6, tg_tcp, tg_udp, tg_echo6, tg_bad, decide_eq_false_iff_not] at *
  (repeat' split) <;> first | (exact decide_eq_true (by omega)) | (exfalso; omega)
theorem kn4_f {h : Nat → Nat} {n : Nat} (hz : tg_pr h 6 % 2 ^ 14 ≠ 0 ∨ (h 9 ≠ 1 ∧ h 9 ≠ 6 ∧ h 9 ≠ 17) ∨ tg_bad h n 20 (h 9) = true ∨ (h 9 = 1 ∧ h 20 ≠ 0 ∧ h 20 ≠ 8 ∧ tg_isErr h = false) ∨ (tg_isErr h = true ∧ tg_badErr h n = true)) : tg_kn4 h n = false := by
  simp only [tg_kn4, tg_tcp, tg_udp, tg_kicmp4, tg_within, tg_isErr, tg_bad, tg_badErr, decide_eq_true_eq, decide_eq_false_iff_not] at *
  (repeat' split) <;> first | rfl | (exact decide_eq_false (by omega)) | (exfalso; omega) | (rw [Bool.and_eq_false_iff, decide_eq_false_iff_not, decide_eq_false_iff_not]; omega)
theorem kn4_t {h : Nat → Nat} {n : Nat} (h0 : tg_pr h 6 % 2 ^ 14 = 0) (h1 : h 9 = 1 ∨ h 9 = 6 ∨ h 9 = 17) (h2 : tg_bad h n 20 (h 9) = false) (h3 : h 9 = 1 → h 20 = 0 ∨ h 20 = 8 ∨ tg_isErr h = true) (h4 : tg_isErr h = true → tg_badErr h n = false) : tg_kn4 h n = true := by
  simp only [tg_kn4, tg_tcp, tg_udp, tg_kicmp4, tg_within, tg_isErr, tg_bad, tg_badErr, decide_eq_true_eq, decide_eq_false_iff_not] at *
  (repeat' split) <;> first | rfl | (exact decide_eq_true (by omega)) | (exfalso; omega) | (rw [Bool.and_eq_true, decide_eq_true_eq, decide_eq_true_eq]; omega)
theorem isOdd_num {k u : Nat} (hu : u < 2 ^ 31) : tg_num k u < 0 ↔ ¬ k < u := by
  unfold tg_num
  by_cases h : k < u
  · rw [if_pos h]; exact ⟨fun z => absurd z (nI_pos (by omega)), fun z => absurd h z⟩
  · rw [if_neg h]; exact ⟨fun _ => h, fun _ => by decide⟩
