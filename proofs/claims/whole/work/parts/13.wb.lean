/-! A WORLD IN WHICH A Bytes OBJECT (at place kb, its array at ka) HOLDS f, n -/
def wB (ws : va_W) (kb ka b ar N : Nat) (cy : Nat → ClassId) (f : Nat → UInt8) (n : Nat) : va_W := (ws.set kb (b, .inr (2, [.ref ar, .int (nI n)]))).set ka (ar, .inl (cy 0, N, .inl (bt f)))
section WB
variable {ws : va_W} {kb ka b ar N : Nat} {cy : Nat → ClassId} {f g : Nat → UInt8} {n n2 : Nat}
theorem lst_lt {α : Type} {l : List α} {k : Nat} {x : α} (h : l[k]? = some x) : k < l.length := (List.getElem?_eq_some_iff.mp h).1
theorem lst_same {α : Type} {l : List α} {k : Nat} {x : α} (h : l[k]? = some x) : l.set k x = l := by
  apply List.ext_getElem?
  intro i
  by_cases e : k = i
  · subst e; rw [List.getElem?_set_self (lst_lt h), h]
  · rw [List.getElem?_set_ne e]
theorem lst_ne {ws : va_W} {i j : Nat} {p q : Nat × va_E} (hi : ws[i]? = some p) (hj : ws[j]? = some q) (h : p ≠ q) : i ≠ j := fun e => h (by subst e; rw [hi] at hj; exact Option.some.inj hj)
theorem wB_self (hb : ws[kb]? = some (b, .inr (2, [.ref ar, .int (nI n)]))) (ha : ws[ka]? = some (ar, .inl (cy 0, N, .inl (bt f)))) : wB ws kb ka b ar N cy f n = ws := by
  unfold wB
  rw [lst_same hb, lst_same ha]
theorem wB_b {x : Nat × va_E} (hne : kb ≠ ka) (hb : ws[kb]? = some x) : (wB ws kb ka b ar N cy f n)[kb]? = some (b, .inr (2, [.ref ar, .int (nI n)])) := by
  unfold wB
  rw [List.getElem?_set_ne (Ne.symm hne), List.getElem?_set_self (lst_lt hb)]
theorem wB_a {x : Nat × va_E} (ha : ws[ka]? = some x) : (wB ws kb ka b ar N cy f n)[ka]? = some (ar, .inl (cy 0, N, .inl (bt f))) := by
  unfold wB
  rw [List.getElem?_set_self (by rw [List.length_set]; exact lst_lt ha)]
theorem wB_o {k : Nat} {x : Nat × va_E} (h1 : kb ≠ k) (h2 : ka ≠ k) (h : ws[k]? = some x) : (wB ws kb ka b ar N cy f n)[k]? = some x := by
  unfold wB
  rw [List.getElem?_set_ne h2, List.getElem?_set_ne h1, h]
theorem wB_setA : (wB ws kb ka b ar N cy f n).set ka (ar, .inl (cy 0, N, .inl (bt g))) = wB ws kb ka b ar N cy g n := by
  unfold wB
  rw [List.set_set]
theorem wB_setB (hne : kb ≠ ka) : (wB ws kb ka b ar N cy f n).set kb (b, .inr (2, [.ref ar, .int (nI n2)])) = wB ws kb ka b ar N cy f n2 := by
  unfold wB
  rw [List.set_comm _ _ (Ne.symm hne), List.set_set]
theorem wB_wB (hne : kb ≠ ka) : wB (wB ws kb ka b ar N cy f n) kb ka b ar N cy g n2 = wB ws kb ka b ar N cy g n2 := by
  show ((wB ws kb ka b ar N cy f n).set kb (b, .inr (2, [.ref ar, .int (nI n2)]))).set ka (ar, .inl (cy 0, N, .inl (bt g))) = _
  rw [wB_setB hne, wB_setA]
end WB
/-- the low `many` bytes of x, highest first, put at `a` -/
def tg_put (f : Nat → UInt8) (a many x : Nat) : Nat → UInt8 := fun i => if a ≤ i ∧ i < a + many then UInt8.ofNat (x / 2 ^ (8 * (many - 1 - (i - a)))) else f i
theorem by8_lr {v : Int64} {x k : Nat} (hk : k < 64) (hv : v.toBitVec.toNat / 2 ^ k % 256 = x / 2 ^ k % 256) : by8 ((v.toUInt64 >>> ((nI k).toInt64.toUInt64 &&& Int64.toUInt64 63)).toInt64.toInt32) = UInt8.ofNat (x / 2 ^ k) := by
  obtain ⟨a, ha, rfl⟩ := lN_of v
  rw [lN_toNat ha] at hv
  rw [lN_ushr ha hk, lN_i, by8_nI]
  apply UInt8.toNat_inj.mp
  rw [UInt8.toNat_ofNat', UInt8.toNat_ofNat']
  exact hv
theorem tg_put_step (f : Nat → UInt8) (a many x j : Nat) (hj : j < many) : va_up (fun i => if a ≤ i ∧ i < a + j then UInt8.ofNat (x / 2 ^ (8 * (many - 1 - (i - a)))) else f i) (a + j) (UInt8.ofNat (x / 2 ^ (8 * (many - 1 - j)))) = (fun i => if a ≤ i ∧ i < a + (j + 1) then UInt8.ofNat (x / 2 ^ (8 * (many - 1 - (i - a)))) else f i) := by
  funext i
  unfold va_up
  by_cases e : i = a + j
  · subst e
    rw [if_pos rfl, if_pos (by omega), show a + j - a = j by omega]
  · rw [if_neg e]
    dsimp only
    by_cases h : a ≤ i ∧ i < a + j
    · rw [if_pos h, if_pos (by omega)]
    · rw [if_neg h, if_neg (by omega)]
theorem bt_cpy (f g : Nat → UInt8) (a z k : Nat) : va_cpy (bt f) (bt g) a z k = bt (va_cpy f g a z k) := by
  funext i
  unfold va_cpy bt
  by_cases h : z ≤ i ∧ i < z + k
  · simp [h]
  · simp [h]
section NV4
variable {p : Program} {l : Launch} {e : Env} {R : Room} {s : State} {m : MethodId} {args : Array Value} {below : List Frame} {meth : Method} {c : Code} {H : Heap} {locs : List Loc} {cells slots : Nat} {Q : State → Prop}
variable {cc : ByteArray} {pc : Nat} {ls : Array Slot} {rest : List Value} {a b : Nat} {own : String} {index : Nat}
theorem nI_min {a b : Nat} (ha : a < 2 ^ 31) (hb : b < 2 ^ 31) : (if nI b < nI a then nI b else nI a) = nI (min a b) := by
  by_cases h : b < a
  · rw [if_pos ((nI_ltI hb ha).mpr h), Nat.min_eq_right (Nat.le_of_lt h)]
  · rw [if_neg (fun z => h ((nI_ltI hb ha).mp z)), Nat.min_eq_left (Nat.le_of_not_lt h)]
theorem nI_max {a b : Nat} (ha : a < 2 ^ 31) (hb : b < 2 ^ 31) : (if nI a < nI b then nI b else nI a) = nI (max a b) := by
  by_cases h : a < b
  · rw [if_pos ((nI_ltI ha hb).mpr h), Nat.max_eq_right (Nat.le_of_lt h)]
  · rw [if_neg (fun z => h ((nI_ltI ha hb).mp z)), Nat.max_eq_left (Nat.le_of_not_lt h)]
theorem nv_min (hx : p.tables.exec = Jvm.exec) (hb : c.code = cc) (hml : c.maxLocals = ls.size) (hown : s.vm.findClass own = some m.cls) (hlink : (Cond.methodLink own index Lib.Math.min.name).before args s = true) (hstat : (Cond.static Lib.Math.min.name).before args s = true) (hini : (Cond.initialized "java/lang/Math").before args s = true) (hcode : (Cond.code Lib.Math.min.name Lib.Math.min.code 2 (some .int)).before args s = true)
    (hframes : 1 ≤ R.frames) (hlocals : (rest.map fun v => v.category).sum + 13 ≤ R.locals) (hc : cells ≤ R.cells) (hs : slots ≤ R.slots) (ha : a < 2 ^ 31) (hb2 : b < 2 ^ 31) (hdg : decode cc pc = .ok (.invokestatic index, 3))
    (kk : W p l e R s m args below meth c H locs cells slots Q (F0 m (pc + 3) ls (.int (nI (min a b)) :: rest))) : W p l e R s m args below meth c H locs cells slots Q (F0 m pc ls (.int (nI b) :: .int (nI a) :: rest)) :=
  va_mmin hx hb hml hown hlink hstat hini hcode hframes hlocals hc hs hdg (by rw [nI_min ha hb2]; exact kk)
theorem nv_max (hx : p.tables.exec = Jvm.exec) (hb : c.code = cc) (hml : c.maxLocals = ls.size) (hown : s.vm.findClass own = some m.cls) (hlink : (Cond.methodLink own index Lib.Math.max.name).before args s = true) (hstat : (Cond.static Lib.Math.max.name).before args s = true) (hini : (Cond.initialized "java/lang/Math").before args s = true) (hcode : (Cond.code Lib.Math.max.name Lib.Math.max.code 2 (some .int)).before args s = true)
    (hframes : 1 ≤ R.frames) (hlocals : (rest.map fun v => v.category).sum + 13 ≤ R.locals) (hc : cells ≤ R.cells) (hs : slots ≤ R.slots) (ha : a < 2 ^ 31) (hb2 : b < 2 ^ 31) (hdg : decode cc pc = .ok (.invokestatic index, 3))
    (kk : W p l e R s m args below meth c H locs cells slots Q (F0 m (pc + 3) ls (.int (nI (max a b)) :: rest))) : W p l e R s m args below meth c H locs cells slots Q (F0 m pc ls (.int (nI b) :: .int (nI a) :: rest)) :=
  va_mmax hx hb hml hown hlink hstat hini hcode hframes hlocals hc hs hdg (by rw [nI_max ha hb2]; exact kk)
end NV4
theorem by8_n (x : Int32) : by8 x.toInt8.toInt32 = by8 x := by
  have h : x.toInt8.toInt32.toInt8 = x.toInt8 := by
    have := u8_rt x.toInt8.toUInt8
    unfold by8 at this
    have h2 : x.toInt8.toUInt8.toInt8 = x.toInt8 := rfl
    rw [h2] at this
    have h3 := congrArg UInt8.toInt8 this
    exact h3
  unfold by8
  rw [h]
theorem w_low {x : Nat} (h : x < 2 ^ 32) : (nI x).toInt64.toBitVec.toNat % 2 ^ 32 = x := by
  show ((BitVec.ofNat 32 x).signExtend 64).toNat % 2 ^ 32 = x
  have h1 : ((BitVec.ofNat 32 x).signExtend 64).setWidth 32 = BitVec.ofNat 32 x := by
    apply BitVec.eq_of_getLsbD_eq
    intro i hi
    rw [BitVec.getLsbD_setWidth, BitVec.getLsbD_signExtend]
    simp [hi, show i < 64 by omega]
  have h2 := congrArg BitVec.toNat h1
  rw [BitVec.toNat_setWidth, BitVec.toNat_ofNat, Nat.mod_eq_of_lt h] at h2
  exact h2
theorem w_byte {x : Nat} (h : x < 2 ^ 32) (k : Nat) (hk : k < 4) : (nI x).toInt64.toBitVec.toNat / 2 ^ (8 * k) % 256 = x / 2 ^ (8 * k) % 256 := by
  have h1 := w_low h
  generalize (nI x).toInt64.toBitVec.toNat = y at h1
  rcases (show k = 0 ∨ k = 1 ∨ k = 2 ∨ k = 3 by omega) with rfl | rfl | rfl | rfl <;> simp <;> omega
theorem nI_subw {a b : Nat} (hb : b ≤ 4294967296) : nI a - nI b = nI ((a + 4294967296 - b) % 4294967296) := by
  apply Int32.toBitVec_inj.mp
  apply BitVec.eq_of_toNat_eq
  show (BitVec.ofNat 32 a - BitVec.ofNat 32 b).toNat = (BitVec.ofNat 32 ((a + 4294967296 - b) % 4294967296)).toNat
  rw [BitVec.toNat_sub, BitVec.toNat_ofNat, BitVec.toNat_ofNat, BitVec.toNat_ofNat]
  omega
theorem va_cpy0 {f g : Nat → UInt8} {a z : Nat} : g = va_cpy f g a z 0 := by
  funext i
  unfold va_cpy
  rw [if_neg (by omega)]
