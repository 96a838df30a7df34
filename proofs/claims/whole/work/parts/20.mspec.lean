/-! THE MODEL'S READERS: the same words for what they answer -/
/-- a byte array of the model in the world: its bytes f, of which the first n are meant -/
def AR (cy : Nat → ClassId) (ws : va_W) (ro : Nat) (f : Nat → UInt8) (n : Nat) : Prop := ∃ kr N : Nat, ws[kr]? = some (ro, .inl (cy 0, N, .inl (bt f))) ∧ n ≤ N ∧ N ≤ 1700
theorem lN_wshl {x : Nat} (h : x < 2 ^ 32) : (nI x).toInt64 <<< ((nI 32).toInt64 &&& 63) = lN (x * 2 ^ 32) := by
  obtain ⟨y, hy, e⟩ := lN_of (nI x).toInt64
  have h1 := w_low h
  rw [e, lN_toNat hy] at h1
  rw [e, lN_shl (by decide)]
  apply Int64.toBitVec_inj.mp
  apply BitVec.eq_of_toNat_eq
  show (BitVec.ofNat 64 (y * 2 ^ 32)).toNat = (BitVec.ofNat 64 (x * 2 ^ 32)).toNat
  rw [BitVec.toNat_ofNat, BitVec.toNat_ofNat]
  omega
theorem lN_shr {a k : Nat} (ha : a < 2 ^ 63) (hk : k < 64) : lN a >>> ((nI k).toInt64 &&& 63) = lN (a / 2 ^ k) := by
  have h : ∀ k : Nat, k < 64 → (((nI k).toInt64 &&& 63 : Int64).toBitVec.smod 64).toNat = k := by decide +kernel
  apply Int64.toBitVec_inj.mp
  have h2 : (lN a >>> ((nI k).toInt64 &&& 63)).toBitVec = (lN a).toBitVec.sshiftRight (((nI k).toInt64 &&& 63 : Int64).toBitVec.smod 64).toNat := rfl
  have hm : (lN a).toBitVec.msb = false := by
    rw [BitVec.msb_eq_false_iff_two_mul_lt, lN_toNat (by omega)]
    omega
  rw [h2, h k hk, BitVec.sshiftRight_eq_of_msb_false hm]
  apply BitVec.eq_of_toNat_eq
  rw [BitVec.toNat_ushiftRight, lN_toNat (by omega), Nat.shiftRight_eq_div_pow, lN_toNat (Nat.lt_of_le_of_lt (Nat.div_le_self _ _) (by omega))]
section NV5
variable {p : Program} {l : Launch} {e : Env} {R : Room} {s : State} {m : MethodId} {args : Array Value} {below : List Frame} {meth : Method} {c : Code} {H : Heap} {locs : List Loc} {cells slots : Nat} {Q : State → Prop}
variable {cc : ByteArray} {pc : Nat} {ls : Array Slot} {rest : List Value} {a b : Nat} {off : Int} {tgt : Nat}
theorem nv_wshl (hx : p.tables.exec = Jvm.exec) (hb : c.code = cc) (ha : a < 2 ^ 32) (hdg : decode cc pc = .ok (.lshl, 1)) (kk : W p l e R s m args below meth c H locs cells slots Q (F0 m (pc + 1) ls (.long (lN (a * 2 ^ 32)) :: rest))) : W p l e R s m args below meth c H locs cells slots Q (F0 m pc ls (.int (nI 32) :: .long ((nI a).toInt64) :: rest)) :=
  lv_lshl hx hb hdg (lN_wshl ha) kk
theorem nv_lshr (hx : p.tables.exec = Jvm.exec) (hb : c.code = cc) (ha : a < 2 ^ 63) (hk : b < 64) (hdg : decode cc pc = .ok (.lshr, 1)) (kk : W p l e R s m args below meth c H locs cells slots Q (F0 m (pc + 1) ls (.long (lN (a / 2 ^ b)) :: rest))) : W p l e R s m args below meth c H locs cells slots Q (F0 m pc ls (.int (nI b) :: .long (lN a) :: rest)) :=
  lv_lshr hx hb hdg (lN_shr ha hk) kk
theorem nv_Lcmp_le (hx : p.tables.exec = Jvm.exec) (hb : c.code = cc) (hd1 : decode cc pc = .ok (.lcmp, 1)) (hd2 : decode cc (pc + 1) = .ok (.ifCond .le off, 3)) (ht : ((pc + 1 : Nat) : Int) + off = (tgt : Int)) (h1 : a < 2 ^ 63) (h2 : b < 2 ^ 63)
    (kt : a ≤ b → W p l e R s m args below meth c H locs cells slots Q (F0 m tgt ls rest)) (kf : b < a → W p l e R s m args below meth c H locs cells slots Q (F0 m (pc + 4) ls rest)) : W p l e R s m args below meth c H locs cells slots Q (F0 m pc ls (.long (lN b) :: .long (lN a) :: rest)) :=
  nv_lcmp_le hx hb hd1 hd2 ht (fun h => kt ((pk_lLE h1 h2).mp h)) (fun h => kf (Nat.lt_of_not_le (fun z => h ((pk_lLE h1 h2).mpr z))))
theorem nv_Lcmp_lt (hx : p.tables.exec = Jvm.exec) (hb : c.code = cc) (hd1 : decode cc pc = .ok (.lcmp, 1)) (hd2 : decode cc (pc + 1) = .ok (.ifCond .lt off, 3)) (ht : ((pc + 1 : Nat) : Int) + off = (tgt : Int)) (h1 : a < 2 ^ 63) (h2 : b < 2 ^ 63)
    (kt : a < b → W p l e R s m args below meth c H locs cells slots Q (F0 m tgt ls rest)) (kf : b ≤ a → W p l e R s m args below meth c H locs cells slots Q (F0 m (pc + 4) ls rest)) : W p l e R s m args below meth c H locs cells slots Q (F0 m pc ls (.long (lN b) :: .long (lN a) :: rest)) :=
  nv_lcmp_lt hx hb hd1 hd2 ht (fun h => kt ((pk_lLT h1 h2).mp h)) (fun h => kf (Nat.le_of_not_lt (fun z => h ((pk_lLT h1 h2).mpr z))))
theorem nv_Lcmp_ge (hx : p.tables.exec = Jvm.exec) (hb : c.code = cc) (hd1 : decode cc pc = .ok (.lcmp, 1)) (hd2 : decode cc (pc + 1) = .ok (.ifCond .ge off, 3)) (ht : ((pc + 1 : Nat) : Int) + off = (tgt : Int)) (h1 : a < 2 ^ 63) (h2 : b < 2 ^ 63)
    (kt : b ≤ a → W p l e R s m args below meth c H locs cells slots Q (F0 m tgt ls rest)) (kf : a < b → W p l e R s m args below meth c H locs cells slots Q (F0 m (pc + 4) ls rest)) : W p l e R s m args below meth c H locs cells slots Q (F0 m pc ls (.long (lN b) :: .long (lN a) :: rest)) :=
  nv_lcmp_ge hx hb hd1 hd2 ht (fun h => kt ((pk_lLE h2 h1).mp h)) (fun h => kf (Nat.lt_of_not_le (fun z => h ((pk_lLE h2 h1).mpr z))))
end NV5
/-- the sum of words, two bytes at a time -/
theorem tg_ws_2 {h : Nat → Nat} {a z j : Nat} (h1 : a + 2 * j ≠ z + 1) (h2 : a + 2 * j + 1 ≠ z) : tg_ws h a z (2 * (j + 1)) = tg_ws h a z (2 * j) + (if a + 2 * j = z then 0 else tg_pr h (a + 2 * j)) := by
  rw [show 2 * (j + 1) = 2 * j + 1 + 1 by omega]
  simp only [tg_ws, tg_pr]
  rw [show a + (2 * j + 1) = a + 2 * j + 1 by omega]
  have e1 : (2 * j + 1) % 2 = 1 := by omega
  have e2 : (2 * j) % 2 = 0 := by omega
  by_cases hz : a + 2 * j = z
  · simp [hz]
  · rw [if_neg (by omega), if_pos e2, if_neg (by omega), if_neg (by omega), if_neg hz]
    omega
theorem sk_m1 {a m z : Nat} (h : a + 2 * m ≤ z) (hs : z < 2 ^ 30) : ∀ j, j < m → (nI (a + 2 * j) = -1 ↔ a + 2 * j = z) := fun j hj => ⟨fun e => by
    exfalso
    have h1 := nI_toInt (n := a + 2 * j) (by omega)
    rw [e] at h1
    have h2 : (-1 : Int32).toInt = -1 := by decide
    omega, fun e => by omega⟩
theorem sk_n {a m k : Nat} (h : a + 2 * m < 2 ^ 30) (hk : k < 2 ^ 30) : ∀ j, j < m → (nI (a + 2 * j) = nI k ↔ a + 2 * j = k) := fun j hj => nI_eq (by omega) (by omega)
theorem tg_ws_leN {h : Nat → Nat} (hh : ∀ i, h i < 256) (a z : Nat) : ∀ k, tg_ws h a z k ≤ 65280 * k
  | 0 => Nat.le_refl _
  | k + 1 => by
    have h1 := tg_ws_leN hh a z k
    have h2 := hh (a + k)
    unfold tg_ws
    (repeat' split) <;> omega
