theorem nI_inc (a n : Nat) : nI a + Int32.ofInt (n : Int) = nI (a + n) := nI_add a n
theorem nI_dec {a : Nat} (h : 1 ≤ a) : nI a + Int32.ofInt (-1) = nI (a - 1) := by
  obtain ⟨b, rfl⟩ : ∃ b, a = b + 1 := ⟨a - 1, by omega⟩
  exact pk_m1 b
theorem lN_shl {a k : Nat} (hk : k < 64) : lN a <<< ((nI k).toInt64 &&& 63) = lN (a * 2 ^ k) := by
  have h : ∀ k : Nat, k < 64 → (((nI k).toInt64 &&& 63 : Int64).toBitVec.smod 64).toNat = k := by decide +kernel
  apply Int64.toBitVec_inj.mp
  apply BitVec.eq_of_toNat_eq
  have h2 : (lN a <<< ((nI k).toInt64 &&& 63)).toBitVec = (lN a).toBitVec <<< (((nI k).toInt64 &&& 63 : Int64).toBitVec.smod 64) := rfl
  rw [h2, BitVec.shiftLeft_eq', BitVec.toNat_shiftLeft, h k hk, Nat.shiftLeft_eq]
  show (BitVec.ofNat 64 a).toNat * 2 ^ k % 2 ^ 64 = (BitVec.ofNat 64 (a * 2 ^ k)).toNat
  simp [Nat.mod_mul_mod]
section NV2
variable {p : Program} {l : Launch} {e : Env} {R : Room} {s : State} {m : MethodId} {args : Array Value} {below : List Frame} {meth : Method} {c : Code} {H : Heap} {locs : List Loc} {cells slots : Nat} {Q : State → Prop}
variable {cc : ByteArray} {pc : Nat} {ls : Array Slot} {rest : List Value} {a b : Nat} {off : Int} {tgt : Nat} {x y : Int64}
theorem nv_iandN (hx : p.tables.exec = Jvm.exec) (hb : c.code = cc) (hdg : decode cc pc = .ok (.iand, 1)) (kk : W p l e R s m args below meth c H locs cells slots Q (F0 m (pc + 1) ls (.int (nI (a &&& b)) :: rest))) : W p l e R s m args below meth c H locs cells slots Q (F0 m pc ls (.int (nI b) :: .int (nI a) :: rest)) :=
  lv_iand hx hb hdg (by
    have h : nI a &&& nI b = nI (a &&& b) := by
      apply Int32.toBitVec_inj.mp
      show BitVec.ofNat 32 a &&& BitVec.ofNat 32 b = BitVec.ofNat 32 (a &&& b)
      apply BitVec.eq_of_toNat_eq
      simp [BitVec.toNat_and, Nat.and_mod_two_pow]
    rw [h]; exact kk)
theorem nv_ladd (hx : p.tables.exec = Jvm.exec) (hb : c.code = cc) (hdg : decode cc pc = .ok (.ladd, 1)) (kk : W p l e R s m args below meth c H locs cells slots Q (F0 m (pc + 1) ls (.long (lN (a + b)) :: rest))) : W p l e R s m args below meth c H locs cells slots Q (F0 m pc ls (.long (lN b) :: .long (lN a) :: rest)) :=
  lv_ladd hx hb hdg (by rw [lN_add]; exact kk)
theorem nv_lshl (hx : p.tables.exec = Jvm.exec) (hb : c.code = cc) (hk : b < 64) (hdg : decode cc pc = .ok (.lshl, 1)) (kk : W p l e R s m args below meth c H locs cells slots Q (F0 m (pc + 1) ls (.long (lN (a * 2 ^ b)) :: rest))) : W p l e R s m args below meth c H locs cells slots Q (F0 m pc ls (.int (nI b) :: .long (lN a) :: rest)) :=
  lv_lshl hx hb hdg (lN_shl hk) kk
theorem nv_lcmp_eq (hx : p.tables.exec = Jvm.exec) (hb : c.code = cc) (hd1 : decode cc pc = .ok (.lcmp, 1)) (hd2 : decode cc (pc + 1) = .ok (.ifCond .eq off, 3)) (ht : ((pc + 1 : Nat) : Int) + off = (tgt : Int))
    (kt : x = y → W p l e R s m args below meth c H locs cells slots Q (F0 m tgt ls rest)) (kf : ¬ x = y → W p l e R s m args below meth c H locs cells slots Q (F0 m (pc + 4) ls rest)) : W p l e R s m args below meth c H locs cells slots Q (F0 m pc ls (.long y :: .long x :: rest)) :=
  W.lcmp hx hb hd1 (lv_if_eq hx hb hd2 ht (fun h => kt ((lg_cmp_eq x y).mp h)) (fun h => kf (fun z => h ((lg_cmp_eq x y).mpr z))))
theorem nv_lcmp_lt (hx : p.tables.exec = Jvm.exec) (hb : c.code = cc) (hd1 : decode cc pc = .ok (.lcmp, 1)) (hd2 : decode cc (pc + 1) = .ok (.ifCond .lt off, 3)) (ht : ((pc + 1 : Nat) : Int) + off = (tgt : Int))
    (kt : x < y → W p l e R s m args below meth c H locs cells slots Q (F0 m tgt ls rest)) (kf : ¬ x < y → W p l e R s m args below meth c H locs cells slots Q (F0 m (pc + 4) ls rest)) : W p l e R s m args below meth c H locs cells slots Q (F0 m pc ls (.long y :: .long x :: rest)) :=
  W.lcmp hx hb hd1 (lv_if_lt hx hb hd2 ht (fun h => kt ((lg_cmp_lt x y).mp h)) (fun h => kf (fun z => h ((lg_cmp_lt x y).mpr z))))
theorem nv_lcmp_ge (hx : p.tables.exec = Jvm.exec) (hb : c.code = cc) (hd1 : decode cc pc = .ok (.lcmp, 1)) (hd2 : decode cc (pc + 1) = .ok (.ifCond .ge off, 3)) (ht : ((pc + 1 : Nat) : Int) + off = (tgt : Int))
    (kt : y ≤ x → W p l e R s m args below meth c H locs cells slots Q (F0 m tgt ls rest)) (kf : ¬ y ≤ x → W p l e R s m args below meth c H locs cells slots Q (F0 m (pc + 4) ls rest)) : W p l e R s m args below meth c H locs cells slots Q (F0 m pc ls (.long y :: .long x :: rest)) :=
  W.lcmp hx hb hd1 (lv_if_ge hx hb hd2 ht (fun h => kt ((lg_cmp_ge x y).mp h)) (fun h => kf (fun z => h ((lg_cmp_ge x y).mpr z))))
theorem nv_lcmp_gt (hx : p.tables.exec = Jvm.exec) (hb : c.code = cc) (hd1 : decode cc pc = .ok (.lcmp, 1)) (hd2 : decode cc (pc + 1) = .ok (.ifCond .gt off, 3)) (ht : ((pc + 1 : Nat) : Int) + off = (tgt : Int))
    (kt : y < x → W p l e R s m args below meth c H locs cells slots Q (F0 m tgt ls rest)) (kf : ¬ y < x → W p l e R s m args below meth c H locs cells slots Q (F0 m (pc + 4) ls rest)) : W p l e R s m args below meth c H locs cells slots Q (F0 m pc ls (.long y :: .long x :: rest)) :=
  W.lcmp hx hb hd1 (lv_if_gt hx hb hd2 ht (fun h => kt ((lg_cmp_gt x y).mp h)) (fun h => kf (fun z => h ((lg_cmp_gt x y).mpr z))))
theorem nv_lcmp_le (hx : p.tables.exec = Jvm.exec) (hb : c.code = cc) (hd1 : decode cc pc = .ok (.lcmp, 1)) (hd2 : decode cc (pc + 1) = .ok (.ifCond .le off, 3)) (ht : ((pc + 1 : Nat) : Int) + off = (tgt : Int))
    (kt : x ≤ y → W p l e R s m args below meth c H locs cells slots Q (F0 m tgt ls rest)) (kf : ¬ x ≤ y → W p l e R s m args below meth c H locs cells slots Q (F0 m (pc + 4) ls rest)) : W p l e R s m args below meth c H locs cells slots Q (F0 m pc ls (.long y :: .long x :: rest)) :=
  W.lcmp hx hb hd1 (lv_if_le hx hb hd2 ht (fun h => kt ((lg_cmp_le x y).mp h)) (fun h => kf (fun z => h ((lg_cmp_le x y).mpr z))))
theorem nv_lcmp_ne (hx : p.tables.exec = Jvm.exec) (hb : c.code = cc) (hd1 : decode cc pc = .ok (.lcmp, 1)) (hd2 : decode cc (pc + 1) = .ok (.ifCond .ne off, 3)) (ht : ((pc + 1 : Nat) : Int) + off = (tgt : Int))
    (kt : ¬ x = y → W p l e R s m args below meth c H locs cells slots Q (F0 m tgt ls rest)) (kf : x = y → W p l e R s m args below meth c H locs cells slots Q (F0 m (pc + 4) ls rest)) : W p l e R s m args below meth c H locs cells slots Q (F0 m pc ls (.long y :: .long x :: rest)) :=
  W.lcmp hx hb hd1 (lv_if_ne hx hb hd2 ht (fun h => kt (fun z => h ((lg_cmp_eq x y).mpr z))) (fun h => kf ((lg_cmp_eq x y).mp h)))
end NV2
/-! packets: bytes that are read through a length -/
def tg_rd (f : Nat → UInt8) (n i : Nat) : Nat := if i < n then (f i).toNat else 0
theorem tg_rd_lt (f : Nat → UInt8) (n i : Nat) : tg_rd f n i < 256 := by
  unfold tg_rd
  split
  · exact UInt8.toNat_lt _
  · decide
theorem tg_rd_in {f : Nat → UInt8} {n i : Nat} (h : i < n) : tg_rd f n i = (f i).toNat := if_pos h
theorem tg_rd_out {f : Nat → UInt8} {n i : Nat} (h : n ≤ i) : tg_rd f n i = 0 := if_neg (Nat.not_lt.mpr h)
def tg_pr (h : Nat → Nat) (i : Nat) : Nat := h i * 256 + h (i + 1)
def tg_qd (h : Nat → Nat) (i : Nat) : Nat := tg_pr h i * 65536 + tg_pr h (i + 2)
def tg_ei (h : Nat → Nat) (i : Nat) : Nat := tg_qd h i * 4294967296 + tg_qd h (i + 4)
def tg_nb (h : Nat → Nat) (i : Nat) : Nat → Nat
  | 0 => 0
  | k + 1 => tg_nb h i k * 256 + h (i + k)
theorem tg_nb_2 (h : Nat → Nat) (i : Nat) : tg_nb h i 2 = tg_pr h i := by simp [tg_nb, tg_pr]
theorem tg_nb_4 (h : Nat → Nat) (i : Nat) : tg_nb h i 4 = tg_qd h i := by simp only [tg_nb, tg_pr, tg_qd, Nat.add_assoc, Nat.add_zero, Nat.reduceAdd]; omega
theorem tg_nb_8 (h : Nat → Nat) (i : Nat) : tg_nb h i 8 = tg_ei h i := by simp only [tg_nb, tg_pr, tg_qd, tg_ei, Nat.add_assoc, Nat.add_zero, Nat.reduceAdd]; omega
theorem tg_pr_lt (f : Nat → UInt8) (n i : Nat) : tg_pr (tg_rd f n) i < 65536 := by
  have h1 := tg_rd_lt f n i
  have h2 := tg_rd_lt f n (i + 1)
  unfold tg_pr
  omega
theorem tg_qd_lt (f : Nat → UInt8) (n i : Nat) : tg_qd (tg_rd f n) i < 4294967296 := by
  have h1 := tg_pr_lt f n i
  have h2 := tg_pr_lt f n (i + 2)
  unfold tg_qd
  omega
theorem tg_ei_lt (f : Nat → UInt8) (n i : Nat) : tg_ei (tg_rd f n) i < 18446744073709551616 := by
  have h1 := tg_qd_lt f n i
  have h2 := tg_qd_lt f n (i + 4)
  unfold tg_ei
  omega
/-- a Bytes object at b in the world: its bytes f, its length n -/
def PK (cy : Nat → ClassId) (ws : va_W) (b : Nat) (f : Nat → UInt8) (n : Nat) : Prop := ∃ kb ka ar N : Nat, ws[kb]? = some (b, .inr (2, [.ref ar, .int (nI n)])) ∧ ws[ka]? = some (ar, .inl (cy 0, N, .inl (bt f))) ∧ n ≤ N ∧ N ≤ 1700
