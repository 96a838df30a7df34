theorem wi_out {f fi : Nat → UInt8} {ni n q ip ih il bits F G i : Nat} (h : i < 48) (hn : 88 ≤ n) : tg_wi f fi ni n q ip ih il bits F G i = f i := by
  have h1 : tg_wi1 f fi ni n q ip ih il bits F G i = f i := by
    unfold tg_wi1
    rw [put_out (by omega), cpy_out (by omega), emb_out (by omega), inn_out (by omega), six_out (by omega)]
  unfold tg_wi
  split
  · rw [up_out (by omega), h1]
  · exact h1
theorem er_6 {f fi : Nat → UInt8} {ni ih il bits F G : Nat} : tg_er1 f fi ni ih il bits F G 6 = UInt8.ofNat 58 := by
  unfold tg_er1
  rw [kind_out (by omega), inn_out (by omega), emb_out (by omega)]
  exact six_6
theorem err_proto {f fi : Nat → UInt8} {ni n q ip ih il bits F G : Nat} (hn : 88 ≤ n) : tg_proto (tg_rd (tg_wi (tg_er1 f fi ni ih il bits F G) fi ni n q ip ih il bits F G) n) 40 = 58 := by
  unfold tg_proto
  rw [if_pos rfl]
  exact rd_at (by omega) (by rw [wi_out (by omega) hn, er_6]) (by decide)
theorem num_is {g : Nat → Int32} {u x : Nat} (h : tg_has g u x = true) : tg_num (tg_first (fun k => decide (g k = nI x)) u) u = nI (tg_first (fun k => decide (g k = nI x)) u) ∧ tg_first (fun k => decide (g k = nI x)) u < u := by
  have h1 := of_decide_eq_true h
  exact ⟨if_pos h1, h1⟩
