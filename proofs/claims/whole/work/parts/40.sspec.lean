/-- stateAfter's answer: the next state, or -1 where nothing changes -/
def tg_nr (x : Nat) : Int32 := if x = 8 then -1 else nI x
theorem nxt_r {y : Nat} (x : Nat) (h : y = x) {v : Int32} (hv : v = if x = 8 then -1 else nI x) : v = tg_nr y := by rw [h, hv]; rfl
