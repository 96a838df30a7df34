def tg_isLen (n : Nat) : Bool := decide (n = 32 ∨ n = 40 ∨ n = 48 ∨ n = 56 ∨ n = 64 ∨ n = 96)
def tg_pf (n hi : Nat) : Nat := if n < 64 then hi - hi % 2 ^ (64 - n) else hi
def tg_pg (n lo : Nat) : Nat := if n = 96 then lo - lo % 2 ^ 32 else 0
theorem isIn_t {a b : Nat} (h : a ≤ b) (hb : b < 2 ^ 63) : tg_isIn (lN a) (lN 0) (lN b) = true := decide_eq_true ⟨(pk_lLE (by decide) (by omega)).mpr (by omega), (pk_lLE (by omega) hb).mpr h⟩
theorem isIn_f {i : Int32} {c : Nat} (hc : c < 2 ^ 30) (h : i < 0 ∨ nI (c + 1) ≤ i) : tg_isIn i.toInt64 (lN 0) (lN c) = false := by
  apply decide_eq_false
  intro hz
  have h1 := Int64.le_iff_toInt_le.mp hz.1
  have h2 := Int64.le_iff_toInt_le.mp hz.2
  rw [Int32.toInt_toInt64, pk_lT (by decide)] at h1
  rw [Int32.toInt_toInt64, pk_lT (by omega)] at h2
  rcases h with h | h
  · have h3 := Int32.lt_iff_toInt_lt.mp h
    have h4 : (0 : Int32).toInt = 0 := by decide
    omega
  · have h3 := Int32.le_iff_toInt_le.mp h
    rw [nI_toInt (by omega)] at h3
    omega
