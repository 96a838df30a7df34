/-! WHAT PACKETS ARE MADE -/
theorem nv_iorc {p : Program} {l : Launch} {e : Env} {R : Room} {s : State} {m : MethodId} {args : Array Value} {below : List Frame} {meth : Method} {c : Code} {H : Heap} {locs : List Loc} {cells slots : Nat} {Q : State → Prop} {cc : ByteArray} {pc : Nat} {ls : Array Slot} {rest : List Value} {a b k q : Nat} (hx : p.tables.exec = Jvm.exec) (hb : c.code = cc) (ha : a = q * 2 ^ k) (h : b < 2 ^ k) (hdg : decode cc pc = .ok (.ior, 1)) (kk : W p l e R s m args below meth c H locs cells slots Q (F0 m (pc + 1) ls (.int (nI (a + b)) :: rest))) : W p l e R s m args below meth c H locs cells slots Q (F0 m pc ls (.int (nI b) :: .int (nI a) :: rest)) :=
  lv_ior hx hb hdg (by rw [ha] at kk ⊢; rw [nI_or h]; exact kk)
theorem nv_isubw {p : Program} {l : Launch} {e : Env} {R : Room} {s : State} {m : MethodId} {args : Array Value} {below : List Frame} {meth : Method} {c : Code} {H : Heap} {locs : List Loc} {cells slots : Nat} {Q : State → Prop} {cc : ByteArray} {pc : Nat} {ls : Array Slot} {rest : List Value} {a b : Nat} (hx : p.tables.exec = Jvm.exec) (hb : c.code = cc) (h : b ≤ 4294967296) (hdg : decode cc pc = .ok (.isub, 1)) (kk : W p l e R s m args below meth c H locs cells slots Q (F0 m (pc + 1) ls (.int (nI ((a + 4294967296 - b) % 4294967296)) :: rest))) : W p l e R s m args below meth c H locs cells slots Q (F0 m pc ls (.int (nI b) :: .int (nI a) :: rest)) :=
  lv_isub hx hb hdg (by rw [nI_subw h]; exact kk)
theorem PK_of {cy : Nat → ClassId} {ws : va_W} {kb ka b ar N n : Nat} {f : Nat → UInt8} (h1 : ws[kb]? = some (b, .inr (2, [.ref ar, .int (nI n)]))) (h2 : ws[ka]? = some (ar, .inl (cy 0, N, .inl (bt f)))) (h3 : n ≤ N) (h4 : N ≤ 1700) : PK cy ws b f n := ⟨kb, ka, ar, N, h1, h2, h3, h4⟩
theorem STP_of {ws : va_W} {ks st bits F G : Nat} (h : ws[ks]? = some (st, .inr (6, [.long (lN F), .long (lN G), .int (nI bits), .int (nI (bits - 32))]))) (hsi : SI bits F G) : STP ws st bits F G := ⟨ks, h, hsi⟩
theorem put_out {f : Nat → UInt8} {a k x i : Nat} (h : i < a ∨ a + k ≤ i) : tg_put f a k x i = f i := if_neg (by omega)
theorem put_in {f : Nat → UInt8} {a k x i : Nat} (h1 : a ≤ i) (h2 : i < a + k) : tg_put f a k x i = UInt8.ofNat (x / 2 ^ (8 * (k - 1 - (i - a)))) := if_pos ⟨h1, h2⟩
theorem up_out {f : Nat → UInt8} {a i : Nat} {v : UInt8} (h : i ≠ a) : va_up f a v i = f i := if_neg h
theorem up_in {f : Nat → UInt8} {a : Nat} {v : UInt8} : va_up f a v a = v := if_pos rfl
theorem cpy_out {f g : Nat → UInt8} {a z k i : Nat} (h : i < z ∨ z + k ≤ i) : va_cpy f g a z k i = g i := if_neg (by omega)
theorem cpy_in {f g : Nat → UInt8} {a z k i : Nat} (h1 : z ≤ i) (h2 : i < z + k) : va_cpy f g a z k i = f (a + (i - z)) := if_pos ⟨h1, h2⟩
theorem rd_at {g : Nat → UInt8} {n k x : Nat} (hk : k < n) (h : g k = UInt8.ofNat x) (hx : x < 256) : tg_rd g n k = x := by
  rw [tg_rd_in hk, h, UInt8.toNat_ofNat']
  exact Nat.mod_eq_of_lt hx
theorem tg_eh_lt {bits F G x : Nat} (h : SI bits F G) (hx : x < 2 ^ 32) : tg_eh bits F x < 2 ^ 64 := by
  unfold tg_eh
  rcases h with h | h | h
  · rw [if_pos (by omega)]; omega
  · rw [if_neg (by omega)]
    obtain ⟨hb, h1, h2, -⟩ := h
    rcases hb with rfl | rfl | rfl | rfl | rfl <;> simp at h1 ⊢ <;> omega
  · rw [if_pos (by omega)]; omega
theorem tg_el_lt {bits F G x : Nat} (h : SI bits F G) (hx : x < 2 ^ 32) : tg_el bits G x < 2 ^ 64 := by
  unfold tg_el
  rcases h with h | h | h
  · rw [if_pos (by omega)]; omega
  · rw [if_neg (by omega), if_neg (by omega)]
    obtain ⟨hb, -⟩ := h
    rcases hb with rfl | rfl | rfl | rfl | rfl <;> simp <;> omega
  · rw [if_neg (by omega), if_pos (by omega)]; omega
def tg_nx (q : Nat) : Nat := if q = 1 then 58 else q
def tg_six (f : Nat → UInt8) (a tr pl q hp : Nat) : Nat → UInt8 := va_up (va_up (tg_put (tg_put (tg_put f a 2 (24576 + tr * 2 ^ 4)) (a + 2) 2 0) (a + 4) 2 pl) (a + 6) (UInt8.ofNat (tg_nx q))) (a + 7) (UInt8.ofNat hp)
def tg_emb (f : Nat → UInt8) (a x bits F G : Nat) : Nat → UInt8 := tg_put (tg_put f a 8 (tg_eh bits F x)) (a + 8) 8 (tg_el bits G x)
def tg_inn (f : Nat → UInt8) (a ih il : Nat) : Nat → UInt8 := tg_put (tg_put f a 8 ih) (a + 8) 8 il
def tg_unr (x : Nat) : Nat := if x = 3 then 4 else if x = 9 ∨ x = 10 ∨ x = 13 ∨ x = 15 then 1 else 0
def tg_fin (f : Nat → UInt8) (n hd q : Nat) : Nat → UInt8 := tg_put f (hd + tg_sumAt q) 2 (tg_sum (tg_rd f n) hd n (hd + tg_sumAt q) q)
theorem tg_unr_le (x : Nat) : tg_unr x ≤ 4 := by unfold tg_unr; (repeat' split) <;> omega
/-- the error's kind: type, code, and the four bytes behind the checksum -/
def tg_kind (h : Nat → Nat) (f : Nat → UInt8) : Nat → UInt8 := if h 20 = 11 then tg_put (tg_put f 40 2 (768 + h 21)) 44 4 0 else if h 21 = 4 then tg_put (tg_put f 40 2 512) 44 4 (max 1280 (tg_pr h 26 + 20)) else tg_put (tg_put f 40 2 (256 + tg_unr (h 21))) 44 4 0
/-- IPv4: the header but its checksum -/
def tg_hd4 (f : Nat → UInt8) (h : Nat → Nat) (ni q sp fa ta : Nat) : Nat → UInt8 := tg_put (tg_put (va_up (va_up (tg_put (tg_put (tg_put (va_up (va_up f 0 (UInt8.ofNat 69)) 1 (UInt8.ofNat (tg_pr h 0 / 2 ^ 4))) 2 2 (20 + (ni - 40))) 4 2 sp) 6 2 (if sp = 0 then 16384 else 0)) 8 (UInt8.ofNat (h 7 - 1))) 9 (UInt8.ofNat q)) 12 4 fa) 16 4 ta
def tg_hs4 (f : Nat → UInt8) (n : Nat) : Nat → UInt8 := tg_put f 10 2 (tg_cl (tg_ws (tg_rd f n) 0 10 20))
def tg_four (f fi : Nat → UInt8) (ni q sp fa ta op : Nat) : Nat → UInt8 := tg_fin (if q = 1 then va_up (tg_put (va_cpy fi (tg_hs4 (tg_hd4 f (tg_rd fi ni) ni q sp fa ta) (20 + (ni - 40))) 40 20 (ni - 40)) (20 + tg_spa q) 2 op) 20 (UInt8.ofNat (if tg_rd fi ni 40 = 128 then 8 else 0)) else tg_put (va_cpy fi (tg_hs4 (tg_hd4 f (tg_rd fi ni) ni q sp fa ta) (20 + (ni - 40))) 40 20 (ni - 40)) (20 + tg_spa q) 2 op) (20 + (ni - 40)) 20 q
/-- IPv6: header, addresses, the part with its port -/
def tg_sx1 (f fi : Nat → UInt8) (ni q ip ih il bits F G : Nat) : Nat → UInt8 := tg_put (va_cpy fi (tg_inn (tg_emb (tg_six f 0 (tg_rd fi ni 1) (ni - 20) q (tg_rd fi ni 8 - 1)) 8 (tg_qd (tg_rd fi ni) 12) bits F G) 24 ih il) 20 40 (ni - 20)) (40 + tg_dpa q) 2 ip
def tg_sx (f fi : Nat → UInt8) (ni q ip ih il bits F G : Nat) : Nat → UInt8 := tg_fin (if q = 1 then va_up (tg_sx1 f fi ni q ip ih il bits F G) 40 (UInt8.ofNat (if tg_rd fi ni 20 = 8 then 128 else 129)) else tg_sx1 f fi ni q ip ih il bits F G) (40 + (ni - 20)) 40 (tg_nx q)
def tg_er1 (f fi : Nat → UInt8) (ni ih il bits F G : Nat) : Nat → UInt8 := tg_kind (tg_rd fi ni) (tg_inn (tg_emb (tg_six f 0 (tg_rd fi ni 1) (min (ni + 40) 1280 - 40) 1 (tg_rd fi ni 8 - 1)) 8 (tg_qd (tg_rd fi ni) 12) bits F G) 24 ih il)
def tg_wi1 (f fi : Nat → UInt8) (ni n q ip ih il bits F G : Nat) : Nat → UInt8 := tg_put (va_cpy fi (tg_emb (tg_inn (tg_six f 48 (tg_rd fi ni 29) ((tg_pr (tg_rd fi ni) 30 + 4294967296 - 20) % 4294967296) q (tg_rd fi ni 36)) 56 ih il) 72 (tg_qd (tg_rd fi ni) 44) bits F G) 48 88 (n - 88)) (88 + tg_spa q) 2 ip
def tg_wi (f fi : Nat → UInt8) (ni n q ip ih il bits F G : Nat) : Nat → UInt8 := if q = 1 then va_up (tg_wi1 f fi ni n q ip ih il bits F G) 88 (UInt8.ofNat 128) else tg_wi1 f fi ni n q ip ih il bits F G
theorem six_out {f : Nat → UInt8} {a tr pl q hp i : Nat} (h : i < a ∨ a + 8 ≤ i) : tg_six f a tr pl q hp i = f i := by
  unfold tg_six
  rw [up_out (by omega), up_out (by omega), put_out (by omega), put_out (by omega), put_out (by omega)]
theorem six_6 {f : Nat → UInt8} {a tr pl q hp : Nat} : tg_six f a tr pl q hp (a + 6) = UInt8.ofNat (tg_nx q) := by
  unfold tg_six
  rw [up_out (by omega), up_in]
theorem emb_out {f : Nat → UInt8} {a x bits F G i : Nat} (h : i < a ∨ a + 16 ≤ i) : tg_emb f a x bits F G i = f i := by
  unfold tg_emb
  rw [put_out (by omega), put_out (by omega)]
theorem inn_out {f : Nat → UInt8} {a ih il i : Nat} (h : i < a ∨ a + 16 ≤ i) : tg_inn f a ih il i = f i := by
  unfold tg_inn
  rw [put_out (by omega), put_out (by omega)]
theorem kind_out {h : Nat → Nat} {f : Nat → UInt8} {i : Nat} (hi : i < 40 ∨ 48 ≤ i) : tg_kind h f i = f i := by
  unfold tg_kind
  (repeat' split) <;> rw [put_out (by omega), put_out (by omega)]
theorem tg_nx_lt {q : Nat} (h : q = 1 ∨ q = 6 ∨ q = 17) : tg_nx q < 256 := by unfold tg_nx; split <;> omega
