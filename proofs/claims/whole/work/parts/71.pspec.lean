/-! ints as they come in a script -/
theorem int_case (x : Int32) : x < 0 ∨ ∃ k : Nat, k < 2 ^ 31 ∧ x = nI k := by
  by_cases h : x < 0
  · exact Or.inl h
  · refine Or.inr ⟨x.toInt.toNat, ?_, ?_⟩
    · have := Int32.toInt_lt x
      omega
    · have h1 : ¬ x.toInt < 0 := fun z => h (Int32.lt_iff_toInt_lt.mpr (by simpa using z))
      apply Int32.toInt_inj.mp
      have := Int32.toInt_lt x
      rw [nI_toInt (by omega)]
      omega
theorem neg_toInt {x : Int32} (h : x < 0) : x.toInt < 0 := by simpa using Int32.lt_iff_toInt_lt.mp h
theorem neg_lt {x : Int32} {k : Nat} (h : x < 0) (hk : k < 2 ^ 31) : x < nI k := by
  apply Int32.lt_iff_toInt_lt.mpr
  have := neg_toInt h
  rw [nI_toInt hk]
  omega
theorem tg_qd_out {f : Nat → UInt8} {n i : Nat} (h : n ≤ i) : tg_qd (tg_rd f n) i = 0 := by
  unfold tg_qd
  unfold tg_pr
  rw [tg_rd_out h, tg_rd_out (i := i + 1) (by omega), tg_rd_out (i := i + 2) (by omega), tg_rd_out (i := i + 2 + 1) (by omega)]
def tg_feed (f : Nat → UInt8) (t a b c d e : Nat) : Nat → UInt8 := tg_put (tg_put (tg_put (tg_put (tg_put f t 4 a) (t + 4) 4 b) (t + 8) 4 c) (t + 12) 4 d) (t + 16) 4 e
/-- what binding, session, count answer -/
def tg_bw (pt ip pn op so : Nat → Nat) (ns i w : Nat) : Int32 := if w = 0 then nI (pt i) else if w = 1 then nI (ip i) else if w = 2 then nI (pn i) else if w = 3 then nI (op i) else if w = 4 then nI (tg_cnt (fun k => decide (so k = i)) ns) else -1
def tg_sw (so fa fp st en : Nat → Nat) (T i w : Nat) : Int32 := if w = 0 then nI (so i) else if w = 1 then nI (fa i) else if w = 2 then nI (fp i) else if w = 3 then nI (st i) else if w = 4 then nI (en i - T) else -1
def tg_cw (nb ns u bits tp os T M id : Nat) (dq : Nat → Nat) (w : Nat) : Int32 := if w = 0 then nI nb else if w = 1 then nI ns else if w = 2 then nI u else if w = 3 then nI bits else if w = 4 then nI tp else if w = 5 then nI os else if w = 6 then nI T else if w = 7 then nI M else if w = 16 then nI id else if 10 ≤ w ∧ w ≤ 15 then nI (dq (w - 10)) else -1
