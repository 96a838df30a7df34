/-- how long a session in a state lives -/
def tg_life (s q : Nat) : Nat := if s = 0 then (if q = 17 then 300 else 60) else if s = 2 then 6 else if 2 < s ∧ s < 6 then 7200 else 240
theorem tg_life_le (s q : Nat) : tg_life s q ≤ 7200 := by unfold tg_life; (repeat' split) <;> omega
theorem by8_ar {v : Int64} {x k : Nat} (hk : k ≤ 56) (hv : v.toBitVec.toNat / 2 ^ k % 256 = x / 2 ^ k % 256) : by8 (v >>> ((nI k).toInt64 &&& 63)).toInt32 = UInt8.ofNat (x / 2 ^ k) := by
  obtain ⟨a, ha, rfl⟩ := lN_of v
  rw [lN_toNat ha] at hv
  have h1 := by8of ha hk
  obtain ⟨b, hb, e⟩ := nI_ofx (lN a >>> ((nI k).toInt64 &&& 63)).toInt32
  rw [e, pk_andN hb 8 (by decide)] at h1
  have h2 := (nI_inj (by omega) (by omega)).mp h1
  rw [e, by8_nI]
  apply UInt8.toNat_inj.mp
  rw [UInt8.toNat_ofNat', UInt8.toNat_ofNat']
  omega
