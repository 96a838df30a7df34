/-! THE MODEL'S TABLES: rows of ints and longs as natural numbers -/
abbrev ni (P : Nat → Nat) : Nat → Int32 := fun k => nI (P k)
abbrev ln (P : Nat → Nat) : Nat → Int64 := fun k => lN (P k)
theorem ni_upd (P : Nat → Nat) (i v : Nat) : upd (ni P) i (nI v) = ni (va_up P i v) := by
  funext k
  unfold upd ni va_up
  by_cases h : k = i
  · simp [h]
  · simp [h]
theorem ln_upd (P : Nat → Nat) (i v : Nat) : vp_updL (ln P) i (lN v) = ln (va_up P i v) := by
  funext k
  unfold vp_updL ln va_up
  by_cases h : k = i
  · simp [h]
  · simp [h]
section NV6
variable {p : Program} {l : Launch} {e : Env} {R : Room} {s : State} {m : MethodId} {args : Array Value} {below : List Frame} {meth : Method} {c : Code} {H : Heap} {locs : List Loc} {cells slots : Nat} {Q : State → Prop}
variable {cc : ByteArray} {pc : Nat} {ls : Array Slot} {rest : List Value} {a b : Nat} {off : Int} {tgt : Nat}
theorem nv_icmp_eqw (hx : p.tables.exec = Jvm.exec) (hb : c.code = cc) (hdg : decode cc pc = .ok (.if_icmp .eq off, 3)) (ht : (pc : Int) + off = (tgt : Int)) (h1 : a < 2 ^ 32) (h2 : b < 2 ^ 32)
    (kt : a = b → W p l e R s m args below meth c H locs cells slots Q (F0 m tgt ls rest)) (kf : a ≠ b → W p l e R s m args below meth c H locs cells slots Q (F0 m (pc + 3) ls rest)) : W p l e R s m args below meth c H locs cells slots Q (F0 m pc ls (.int (nI b) :: .int (nI a) :: rest)) :=
  lv_icmp_eq hx hb hdg ht (fun h => kt ((nI_inj h1 h2).mp h)) (fun h => kf (fun z => h ((nI_inj h1 h2).mpr z)))
theorem nv_icmp_new (hx : p.tables.exec = Jvm.exec) (hb : c.code = cc) (hdg : decode cc pc = .ok (.if_icmp .ne off, 3)) (ht : (pc : Int) + off = (tgt : Int)) (h1 : a < 2 ^ 32) (h2 : b < 2 ^ 32)
    (kt : a ≠ b → W p l e R s m args below meth c H locs cells slots Q (F0 m tgt ls rest)) (kf : a = b → W p l e R s m args below meth c H locs cells slots Q (F0 m (pc + 3) ls rest)) : W p l e R s m args below meth c H locs cells slots Q (F0 m pc ls (.int (nI b) :: .int (nI a) :: rest)) :=
  lv_icmp_ne hx hb hdg ht (fun h => kt (fun z => h ((nI_inj h1 h2).mpr z))) (fun h => kf ((nI_inj h1 h2).mp h))
theorem nv_Lcmp_ne (hx : p.tables.exec = Jvm.exec) (hb : c.code = cc) (hd1 : decode cc pc = .ok (.lcmp, 1)) (hd2 : decode cc (pc + 1) = .ok (.ifCond .ne off, 3)) (ht : ((pc + 1 : Nat) : Int) + off = (tgt : Int)) (h1 : a < 2 ^ 64) (h2 : b < 2 ^ 64)
    (kt : a ≠ b → W p l e R s m args below meth c H locs cells slots Q (F0 m tgt ls rest)) (kf : a = b → W p l e R s m args below meth c H locs cells slots Q (F0 m (pc + 4) ls rest)) : W p l e R s m args below meth c H locs cells slots Q (F0 m pc ls (.long (lN b) :: .long (lN a) :: rest)) :=
  nv_lcmp_ne hx hb hd1 hd2 ht (fun h => kt (fun z => h (by rw [z]))) (fun h => kf ((lN_inj h1 h2).mp h))
end NV6
/-- how many k < n have q k -/
def tg_cnt (q : Nat → Bool) : Nat → Nat
  | 0 => 0
  | n + 1 => tg_cnt q n + (if q n = true then 1 else 0)
theorem tg_cnt_le (q : Nat → Bool) : ∀ n, tg_cnt q n ≤ n
  | 0 => Nat.le_refl 0
  | n + 1 => by
    have ih := tg_cnt_le q n
    unfold tg_cnt
    split <;> omega
theorem tg_cnt_cong {q r : Nat → Bool} : ∀ {n : Nat}, (∀ j, j < n → q j = r j) → tg_cnt q n = tg_cnt r n
  | 0, _ => rfl
  | n + 1, h => by
    unfold tg_cnt
    rw [tg_cnt_cong (n := n) (fun j hj => h j (by omega)), h n (by omega)]
/-- the number with the fewest, of several the first, among the first k + 1 -/
def tg_few (w : Nat → Nat) : Nat → Nat
  | 0 => 0
  | k + 1 => if w (k + 1) < w (tg_few w k) then k + 1 else tg_few w k
theorem tg_few_le (w : Nat → Nat) : ∀ k, tg_few w k ≤ k
  | 0 => Nat.le_refl 0
  | k + 1 => by
    have ih := tg_few_le w k
    unfold tg_few
    split <;> omega
theorem fi_at {q : Nat → Bool} {i n : Nat} (hi : i < n) (hq : q i = true) (hno : ∀ j, j < i → q j = false) : nI i = tg_num (tg_first q n) n := by
  rw [tg_first_at hq hno hi, tg_num, if_pos hi]
theorem fi_no {q : Nat → Bool} {n : Nat} (hno : ∀ j, j < n → q j = false) : (-1 : Int32) = tg_num (tg_first q n) n := by
  rw [tg_first_none hno, tg_num, if_neg (by omega)]
theorem no_step {q : Nat → Bool} {i : Nat} (hno : ∀ j, j < i → q j = false) (h : q i = false) : ∀ j, j < i + 1 → q j = false := fun j hj => by
  rcases Nat.lt_or_ge j i with z | z
  · exact hno j z
  · rw [show j = i by omega]; exact h
