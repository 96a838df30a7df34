/-- the state behind a packet of a session: ev 0 plain, 1 FIN, 2 SYN, 3 RST; 8: nothing changes -/
def tg_nxt (s ev : Nat) (ins : Bool) : Nat :=
  if s = 0 then 0
  else if s = 1 then (if ev = 2 then (if ins = true then 1 else 3) else 8)
  else if s = 2 then (if ev = 2 ∧ ins = true then 3 else 8)
  else if s = 3 then (if ev = 1 then (if ins = true then 5 else 4) else if ev = 3 then 7 else 3)
  else if s = 4 then (if ev = 1 ∧ ins = true then 6 else 4)
  else if s = 5 then (if ev = 1 ∧ ins = false then 6 else 5)
  else if s = 7 then (if ev = 3 then 8 else 3)
  else 8
def tg_first_st (q : Nat) (ins : Bool) : Nat := if q = 6 then (if ins = true then 1 else 2) else 0
theorem va_up_id {f : Nat → Nat} {k : Nat} : va_up f k (f k) = f := by
  funext i
  unfold va_up
  by_cases h : i = k
  · simp [h]
  · simp [h]
