theorem by8i {x k : Nat} (hx : x < 2 ^ 32) (hk : k ≤ 24) : (nI x >>> (nI k &&& 31)) &&& nI 255 = nI (x / 2 ^ k % 256) := by
  have h : ∀ k : Nat, k < 32 → ((nI k &&& 31 : Int32).toBitVec.smod 32).toNat = k := by decide +kernel
  rw [pk_and _ 8 (by decide)]
  congr 1
  have h2 : (nI x >>> (nI k &&& 31)).toBitVec = (nI x).toBitVec.sshiftRight ((nI k &&& 31 : Int32).toBitVec.smod 32).toNat := rfl
  rw [h2, h k (by omega)]
  have h3 : ((nI x).toBitVec.sshiftRight k).setWidth 8 = ((nI x).toBitVec >>> k).setWidth 8 := by
    apply BitVec.eq_of_getLsbD_eq
    intro i hi
    rw [BitVec.getLsbD_setWidth, BitVec.getLsbD_setWidth, BitVec.getLsbD_sshiftRight, BitVec.getLsbD_ushiftRight]
    simp [hi, show ¬ 32 ≤ i by omega, show k + i < 32 by omega]
  have h4 := congrArg BitVec.toNat h3
  rw [BitVec.toNat_setWidth, BitVec.toNat_setWidth, BitVec.toNat_ushiftRight, pk_tn hx, Nat.shiftRight_eq_div_pow] at h4
  exact h4
/-- the byte at bit k of a is made v -/
def tg_with (a k v : Nat) : Nat := 2 ^ (k + 8) * (a / 2 ^ (k + 8)) + (2 ^ k * v + a % 2 ^ k)
theorem with_eq {a k v : Nat} (hk : k ≤ 56) (ha : a < 2 ^ 64) (hv : v < 256) : (lN a &&& (lN (255 * 2 ^ k) ^^^ (-1))) ||| lN (v * 2 ^ k) = lN (tg_with a k v) := by
  have e0 : a = 2 ^ (k + 8) * (a / 2 ^ (k + 8)) + (2 ^ k * (a / 2 ^ k % 2 ^ 8) + a % 2 ^ k) := by
    have h1 := Nat.div_add_mod a (2 ^ k)
    have h2 := Nat.div_add_mod (a / 2 ^ k) (2 ^ 8)
    have h3 : a / 2 ^ (k + 8) = a / 2 ^ k / 2 ^ 8 := by rw [Nat.pow_add, Nat.div_div_eq_div_mul]
    rw [h3, Nat.pow_add, Nat.mul_assoc, ← Nat.add_assoc, ← Nat.mul_add, h2, h1]
  have hr : a % 2 ^ k < 2 ^ k := Nat.mod_lt _ (Nat.two_pow_pos k)
  have hb : a / 2 ^ k % 2 ^ 8 < 2 ^ 8 := Nat.mod_lt _ (by decide)
  have sm : ∀ b, b < 2 ^ 8 → 2 ^ k * b + a % 2 ^ k < 2 ^ (k + 8) := fun b hb => by
    rw [Nat.pow_add]
    have h1 : 2 ^ k * b + 2 ^ k ≤ 2 ^ k * 2 ^ 8 := by
      rw [← Nat.mul_succ]
      exact Nat.mul_le_mul_left _ hb
    omega
  have ta : ∀ i, a.testBit i = if i < k + 8 then (if i < k then (a % 2 ^ k).testBit i else (a / 2 ^ k % 2 ^ 8).testBit (i - k)) else (a / 2 ^ (k + 8)).testBit (i - (k + 8)) := fun i => by
    conv => lhs; rw [e0]
    rw [Nat.testBit_two_pow_mul_add _ (sm _ hb), Nat.testBit_two_pow_mul_add _ hr]
  have tw : ∀ i, (tg_with a k v).testBit i = if i < k + 8 then (if i < k then (a % 2 ^ k).testBit i else v.testBit (i - k)) else (a / 2 ^ (k + 8)).testBit (i - (k + 8)) := fun i => by
    unfold tg_with
    rw [Nat.testBit_two_pow_mul_add _ (sm v hv), Nat.testBit_two_pow_mul_add _ hr]
  have tm : ∀ w, w < 2 ^ 8 → ∀ i, (w * 2 ^ k).testBit i = if i < k then false else w.testBit (i - k) := fun w _ i => by
    have h1 := Nat.testBit_two_pow_mul_add w (Nat.two_pow_pos k) i
    rw [Nat.add_zero, Nat.mul_comm] at h1
    rw [h1, Nat.zero_testBit]
  apply Int64.toBitVec_inj.mp
  show (BitVec.ofNat 64 a &&& (BitVec.ofNat 64 (255 * 2 ^ k) ^^^ BitVec.allOnes 64)) ||| BitVec.ofNat 64 (v * 2 ^ k) = BitVec.ofNat 64 (tg_with a k v)
  apply BitVec.eq_of_getLsbD_eq
  intro i hi
  rw [BitVec.getLsbD_or, BitVec.getLsbD_and, BitVec.getLsbD_xor, BitVec.getLsbD_ofNat, BitVec.getLsbD_ofNat, BitVec.getLsbD_ofNat, BitVec.getLsbD_ofNat, BitVec.getLsbD_allOnes, ta i, tw i, tm 255 (by decide) i, tm v hv i]
  have t255 : (255 : Nat).testBit (i - k) = decide (i - k < 8) := Nat.testBit_two_pow_sub_one 8 (i - k)
  rw [t255]
  by_cases h1 : i < k
  · simp [hi, h1, show i < k + 8 by omega]
  · by_cases h2 : i < k + 8
    · simp [hi, h1, h2, show i - k < 8 by omega]
    · have hz : v.testBit (i - k) = false := Nat.testBit_lt_two_pow (Nat.lt_of_lt_of_le (show v < 2 ^ 8 from hv) (Nat.pow_le_pow_right (by decide) (by omega)))
      simp [hi, h1, h2, hz, show ¬ i - k < 8 by omega]
def tg_hh (bits F x : Nat) : Nat → Nat
  | 0 => F
  | i + 1 => if tg_pl bits i < 8 then tg_with (tg_hh bits F x i) (56 - 8 * (tg_pl bits i % 8)) (x / 2 ^ (24 - 8 * i) % 256) else tg_hh bits F x i
def tg_ll (bits G x : Nat) : Nat → Nat
  | 0 => G
  | i + 1 => if 8 ≤ tg_pl bits i then tg_with (tg_ll bits G x i) (56 - 8 * (tg_pl bits i % 8)) (x / 2 ^ (24 - 8 * i) % 256) else tg_ll bits G x i
theorem tg_with_lt {a k v : Nat} (hk : k ≤ 56) (ha : a < 2 ^ 64) (hv : v < 256) (h8 : ∃ j, k = 8 * j) : tg_with a k v < 2 ^ 64 := by
  obtain ⟨j, rfl⟩ := h8
  unfold tg_with
  rcases (show j = 0 ∨ j = 1 ∨ j = 2 ∨ j = 3 ∨ j = 4 ∨ j = 5 ∨ j = 6 ∨ j = 7 by omega) with rfl | rfl | rfl | rfl | rfl | rfl | rfl | rfl <;> simp <;> omega
theorem tg_hh_lt {bits F x : Nat} (hF : F < 2 ^ 64) : ∀ i, tg_hh bits F x i < 2 ^ 64
  | 0 => hF
  | i + 1 => by
    unfold tg_hh
    split
    · exact tg_with_lt (by omega) (tg_hh_lt hF i) (by omega) ⟨7 - tg_pl bits i % 8, by omega⟩
    · exact tg_hh_lt hF i
theorem tg_ll_lt {bits G x : Nat} (hG : G < 2 ^ 64) : ∀ i, tg_ll bits G x i < 2 ^ 64
  | 0 => hG
  | i + 1 => by
    unfold tg_ll
    split
    · exact tg_with_lt (by omega) (tg_ll_lt hG i) (by omega) ⟨7 - tg_pl bits i % 8, by omega⟩
    · exact tg_ll_lt hG i
theorem tg_hh_4 {bits F G x : Nat} (h : SI bits F G) (h0 : bits ≠ 0) (hx : x < 2 ^ 32) : tg_hh bits F x 4 = tg_eh bits F x := by
  rcases h with h | h | h
  · omega
  · obtain ⟨hb, h1, h2, -⟩ := h
    rcases hb with rfl | rfl | rfl | rfl | rfl <;> simp [tg_hh, tg_pl, tg_with, tg_eh] at h1 ⊢ <;> omega
  · obtain ⟨rfl, -⟩ := h
    simp [tg_hh, tg_pl, tg_eh]
theorem tg_ll_4 {bits F G x : Nat} (h : SI bits F G) (h0 : bits ≠ 0) (hx : x < 2 ^ 32) : tg_ll bits G x 4 = tg_el bits G x := by
  rcases h with h | h | h
  · omega
  · obtain ⟨hb, h1, h2, rfl⟩ := h
    rcases hb with rfl | rfl | rfl | rfl | rfl <;> simp [tg_ll, tg_pl, tg_with, tg_el] <;> omega
  · obtain ⟨rfl, -, h1, h2⟩ := h
    simp [tg_ll, tg_pl, tg_with, tg_el] at h1 ⊢
    omega
