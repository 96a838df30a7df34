/-! THE PREFIX AND THE POOL -/
theorem sw_ne {a k : Nat} {o d : Int} {r : List (Int × Int)} (h : a ≠ k) : Op.lookupswitch.offset ((((k : Nat) : Int), o) :: r) d ((a : Nat) : Int) = Op.lookupswitch.offset r d ((a : Nat) : Int) := by
  rw [Op.lookupswitch.offset_cons, if_neg]
  omega
theorem lN_toNat {a : Nat} (h : a < 2 ^ 64) : (lN a).toBitVec.toNat = a := by
  show (BitVec.ofNat 64 a).toNat = a
  rw [BitVec.toNat_ofNat]
  exact Nat.mod_eq_of_lt h
theorem lN_of (x : Int64) : ∃ a : Nat, a < 2 ^ 64 ∧ x = lN a := ⟨x.toBitVec.toNat, x.toBitVec.isLt, by
  apply Int64.toBitVec_inj.mp
  show x.toBitVec = BitVec.ofNat 64 x.toBitVec.toNat
  exact (BitVec.ofNat_toNat 64 x.toBitVec ▸ by simp)⟩
theorem nI_ofx (x : Int32) : ∃ a : Nat, a < 2 ^ 32 ∧ x = nI a := ⟨x.toBitVec.toNat, x.toBitVec.isLt, by
  apply Int32.toBitVec_inj.mp
  show x.toBitVec = BitVec.ofNat 32 x.toBitVec.toNat
  simp⟩
theorem lN_inj {a b : Nat} (ha : a < 2 ^ 64) (hb : b < 2 ^ 64) : lN a = lN b ↔ a = b := by
  constructor
  · intro h
    rw [← lN_toNat ha, h, lN_toNat hb]
  · intro h; rw [h]
theorem nI_inj {a b : Nat} (ha : a < 2 ^ 32) (hb : b < 2 ^ 32) : nI a = nI b ↔ a = b := by
  constructor
  · intro h
    rw [← pk_tn ha, h, pk_tn hb]
  · intro h; rw [h]
theorem lN_ushr {a k : Nat} (ha : a < 2 ^ 64) (hk : k < 64) : ((lN a).toUInt64 >>> ((nI k).toInt64.toUInt64 &&& Int64.toUInt64 63)).toInt64 = lN (a / 2 ^ k) := by
  have h : ∀ k : Nat, k < 64 → (((nI k).toInt64.toUInt64 &&& Int64.toUInt64 63).toBitVec % 64).toNat = k := by decide +kernel
  apply Int64.toBitVec_inj.mp
  apply BitVec.eq_of_toNat_eq
  have h2 : ((lN a).toUInt64 >>> ((nI k).toInt64.toUInt64 &&& Int64.toUInt64 63)).toInt64.toBitVec = (lN a).toBitVec >>> (((nI k).toInt64.toUInt64 &&& Int64.toUInt64 63).toBitVec % 64) := rfl
  rw [h2, BitVec.ushiftRight_eq', BitVec.toNat_ushiftRight, h k hk, lN_toNat ha, Nat.shiftRight_eq_div_pow, lN_toNat (Nat.lt_of_le_of_lt (Nat.div_le_self _ _) ha)]
theorem lN_mask (a k : Nat) : lN a &&& lN (2 ^ k - 1) = lN (a % 2 ^ k) := by
  apply Int64.toBitVec_inj.mp
  show BitVec.ofNat 64 a &&& BitVec.ofNat 64 (2 ^ k - 1) = BitVec.ofNat 64 (a % 2 ^ k)
  apply BitVec.eq_of_toNat_eq
  rw [BitVec.toNat_and, BitVec.toNat_ofNat, BitVec.toNat_ofNat, BitVec.toNat_ofNat, ← Nat.and_mod_two_pow, Nat.and_two_pow_sub_one_eq_mod]
/-- headMask's answer -/
def tg_hm (k : Nat) : Int64 := (-1) <<< ((nI (64 - k)).toInt64 &&& 63)
theorem tg_hm_eq : ∀ k : Nat, 1 ≤ k → k ≤ 64 → tg_hm k = lN (2 ^ 64 - 2 ^ (64 - k)) ∧ tg_hm k ^^^ (-1) = lN (2 ^ (64 - k) - 1) := by
  intro k h1 h2
  have h : ∀ k : Nat, k < 64 → tg_hm (k + 1) = lN (2 ^ 64 - 2 ^ (64 - (k + 1))) ∧ tg_hm (k + 1) ^^^ (-1) = lN (2 ^ (64 - (k + 1)) - 1) := by decide +kernel
  have := h (k - 1) (by omega)
  rwa [show k - 1 + 1 = k by omega] at this
theorem nat_hi {a j : Nat} (ha : a < 2 ^ 64) (hj : j ≤ 64) : a &&& (2 ^ 64 - 2 ^ j) = a - a % 2 ^ j := by
  have e : 2 ^ 64 - 2 ^ j = (2 ^ (64 - j) - 1) <<< j := by
    rw [Nat.shiftLeft_eq, Nat.sub_mul, ← Nat.pow_add, Nat.one_mul, Nat.sub_add_cancel hj]
  have e2 : a - a % 2 ^ j = (a >>> j) <<< j := by
    rw [Nat.shiftLeft_eq, Nat.shiftRight_eq_div_pow]
    have h := Nat.div_add_mod a (2 ^ j)
    rw [Nat.mul_comm] at h
    generalize a / 2 ^ j * 2 ^ j = q at h ⊢
    omega
  rw [e, e2]
  apply Nat.eq_of_testBit_eq
  intro i
  rw [Nat.testBit_and, Nat.testBit_shiftLeft, Nat.testBit_shiftLeft, Nat.testBit_two_pow_sub_one, Nat.testBit_shiftRight]
  by_cases h : j ≤ i
  · rw [show j + (i - j) = i by omega]
    by_cases h6 : i < 64
    · have : i - j < 64 - j := by omega
      simp [h, this]
    · have : a.testBit i = false := Nat.testBit_lt_two_pow (Nat.lt_of_lt_of_le ha (Nat.pow_le_pow_right (by decide) (by omega)))
      simp [this]
  · simp [h]
theorem lN_and (a b : Nat) : lN a &&& lN b = lN (a &&& b) := by
  apply Int64.toBitVec_inj.mp
  show BitVec.ofNat 64 a &&& BitVec.ofNat 64 b = BitVec.ofNat 64 (a &&& b)
  apply BitVec.eq_of_toNat_eq
  simp [BitVec.toNat_and, Nat.and_mod_two_pow]
theorem lN_hi {a j : Nat} (ha : a < 2 ^ 64) (hj : j ≤ 64) : lN a &&& lN (2 ^ 64 - 2 ^ j) = lN (a - a % 2 ^ j) := by
  rw [lN_and, nat_hi ha hj]
theorem tg_hm_and {a k : Nat} (ha : a < 2 ^ 64) (h1 : 1 ≤ k) (h2 : k ≤ 64) : lN a &&& tg_hm k = lN (a - a % 2 ^ (64 - k)) := by
  rw [(tg_hm_eq k h1 h2).1, lN_hi ha (by omega)]
theorem tg_hm_not {a k : Nat} (h1 : 1 ≤ k) (h2 : k ≤ 64) : lN a &&& (tg_hm k ^^^ (-1)) = lN (a % 2 ^ (64 - k)) := by
  rw [(tg_hm_eq k h1 h2).2, lN_mask]
section NV3
variable {p : Program} {l : Launch} {e : Env} {R : Room} {s : State} {m : MethodId} {args : Array Value} {below : List Frame} {meth : Method} {c : Code} {H : Heap} {locs : List Loc} {cells slots : Nat} {Q : State → Prop}
variable {cc : ByteArray} {pc : Nat} {ls : Array Slot} {rest : List Value} {a b : Nat}
theorem nv_lushr (hx : p.tables.exec = Jvm.exec) (hb : c.code = cc) (ha : a < 2 ^ 64) (hk : b < 64) (hdg : decode cc pc = .ok (.lushr, 1)) (kk : W p l e R s m args below meth c H locs cells slots Q (F0 m (pc + 1) ls (.long (lN (a / 2 ^ b)) :: rest))) : W p l e R s m args below meth c H locs cells slots Q (F0 m pc ls (.int (nI b) :: .long (lN a) :: rest)) :=
  lv_lushr hx hb hdg (lN_ushr ha hk) kk
theorem nv_landm (k : Nat) (hx : p.tables.exec = Jvm.exec) (hb : c.code = cc) (hk : b = 2 ^ k - 1) (hdg : decode cc pc = .ok (.land, 1)) (kk : W p l e R s m args below meth c H locs cells slots Q (F0 m (pc + 1) ls (.long (lN (a % 2 ^ k)) :: rest))) : W p l e R s m args below meth c H locs cells slots Q (F0 m pc ls (.long (lN b) :: .long (lN a) :: rest)) :=
  lv_land hx hb hdg (by rw [hk, lN_mask]; exact kk)
theorem nv_lsub (hx : p.tables.exec = Jvm.exec) (hb : c.code = cc) (h : b ≤ a) (hdg : decode cc pc = .ok (.lsub, 1)) (kk : W p l e R s m args below meth c H locs cells slots Q (F0 m (pc + 1) ls (.long (lN (a - b)) :: rest))) : W p l e R s m args below meth c H locs cells slots Q (F0 m pc ls (.long (lN b) :: .long (lN a) :: rest)) :=
  lv_lsub hx hb hdg (by rw [lN_sub h]; exact kk)
theorem nv_ldc2 {own : String} {index k : Nat} {v : Int64} (hx : p.tables.exec = Jvm.exec) (hb : c.code = cc) (hown : s.vm.findClass own = some m.cls) (hconst : (Jvm.Cond.constantLong own index v).before args s = true) (hv : v = lN k) (hdg : decode cc pc = .ok (.ldc2_w index, 3)) (kk : W p l e R s m args below meth c H locs cells slots Q (F0 m (pc + 3) ls (.long (lN k) :: rest))) : W p l e R s m args below meth c H locs cells slots Q (F0 m pc ls rest) :=
  lv_ldc2 hx hb hown hconst hdg (by rw [hv]; exact kk)
theorem lN_nneg {k : Nat} (h : k < 2 ^ 63) : ¬ lN k < 0 := fun z => by
  have h1 := (pk_lLT (a := k) (b := 0) h (by decide)).mp z
  omega
end NV3
def tg_odd (x : Nat) : Bool := decide (x / 2 ^ 24 = 0 ∨ x / 2 ^ 24 = 127 ∨ 224 ≤ x / 2 ^ 24)
/-- the prefix: how many bits, its two halves -/
def SI (bits F G : Nat) : Prop := (bits = 0 ∧ F = 0 ∧ G = 0) ∨ ((bits = 32 ∨ bits = 40 ∨ bits = 48 ∨ bits = 56 ∨ bits = 64) ∧ F % 2 ^ (64 - bits) = 0 ∧ F < 2 ^ 64 ∧ G = 0) ∨ (bits = 96 ∧ F < 2 ^ 64 ∧ G % 2 ^ 32 = 0 ∧ G < 2 ^ 64)
def STP (ws : va_W) (st bits F G : Nat) : Prop := ∃ ks : Nat, ws[ks]? = some (st, .inr (6, [.long (lN F), .long (lN G), .int (nI bits), .int (nI (bits - 32))])) ∧ SI bits F G
def PLP (cy : Nat → ClassId) (ws : va_W) (po : Nat) (g : Nat → Int32) (u : Nat) : Prop := ∃ kp kq pa : Nat, ws[kp]? = some (po, .inr (4, [.ref pa, .int (nI u)])) ∧ ws[kq]? = some (pa, .inl (cy 1, 4, .inl g)) ∧ u ≤ 4
theorem SI.b {bits F G : Nat} (h : SI bits F G) : bits = 0 ∨ bits = 32 ∨ bits = 40 ∨ bits = 48 ∨ bits = 56 ∨ bits = 64 ∨ bits = 96 := by rcases h with h | h | h <;> omega
theorem SI.F {bits F G : Nat} (h : SI bits F G) : F < 2 ^ 64 := by rcases h with h | h | h <;> omega
theorem SI.G {bits F G : Nat} (h : SI bits F G) : G < 2 ^ 64 := by rcases h with h | h | h <;> omega
def tg_of (bits F G hi lo : Nat) : Bool := if bits = 0 then false else if bits = 96 then decide (hi = F ∧ lo - lo % 2 ^ 32 = G) else decide (hi - hi % 2 ^ (64 - bits) = F ∧ lo / 2 ^ 56 = 0)
def tg_dr (bits hi lo : Nat) : Nat := if bits = 96 then lo % 2 ^ 32 else (hi % 2 ^ (64 - bits)) * 2 ^ (bits - 32) + (lo / 2 ^ (88 - bits)) % 2 ^ (bits - 32)
def tg_draw (bits F G hi lo : Nat) : Int64 := if tg_of bits F G hi lo = true then lN (tg_dr bits hi lo) else -1
def tg_eh (bits F x : Nat) : Nat := if bits = 0 ∨ bits = 96 then F else F + x / 2 ^ (bits - 32)
def tg_el (bits G x : Nat) : Nat := if bits = 0 then 0 else if bits = 96 then G + x else (x % 2 ^ (bits - 32)) * 2 ^ (88 - bits)
theorem tg_dr_lt {bits hi lo : Nat} (hb : bits = 32 ∨ bits = 40 ∨ bits = 48 ∨ bits = 56 ∨ bits = 64 ∨ bits = 96) : tg_dr bits hi lo < 2 ^ 32 := by
  unfold tg_dr
  rcases hb with rfl | rfl | rfl | rfl | rfl | rfl <;> simp <;> omega
/-- the first k < n with q k, or n -/
def tg_first (q : Nat → Bool) : Nat → Nat
  | 0 => 0
  | n + 1 => if tg_first q n < n then tg_first q n else if q n then n else n + 1
theorem tg_first_le (q : Nat → Bool) : ∀ n, tg_first q n ≤ n
  | 0 => Nat.le_refl 0
  | n + 1 => by
    have ih := tg_first_le q n
    unfold tg_first
    (repeat' split) <;> omega
theorem tg_first_none {q : Nat → Bool} : ∀ {n : Nat}, (∀ j, j < n → q j = false) → tg_first q n = n
  | 0, _ => rfl
  | n + 1, h => by
    have ih := tg_first_none (q := q) (n := n) (fun j hj => h j (by omega))
    unfold tg_first
    rw [ih, if_neg (by omega), h n (by omega)]
    simp
theorem tg_first_at {q : Nat → Bool} {k : Nat} (hk : q k = true) (hj : ∀ j, j < k → q j = false) : ∀ {n : Nat}, k < n → tg_first q n = k
  | 0, h => absurd h (Nat.not_lt_zero _)
  | n + 1, h => by
    unfold tg_first
    by_cases e : k = n
    · subst e
      rw [tg_first_none hj, if_neg (by omega), hk]
      simp
    · have ih := tg_first_at hk hj (n := n) (by omega)
      rw [ih, if_pos (by omega)]
theorem tg_first_cong {q r : Nat → Bool} : ∀ {n : Nat}, (∀ j, j < n → q j = r j) → tg_first q n = tg_first r n
  | 0, _ => rfl
  | n + 1, h => by
    unfold tg_first
    rw [tg_first_cong (n := n) (fun j hj => h j (by omega)), h n (by omega)]
theorem tg_first_is {q : Nat → Bool} : ∀ {n : Nat}, tg_first q n < n → q (tg_first q n) = true
  | 0, h => absurd h (Nat.not_lt_zero _)
  | n + 1, h => by
    have ih := tg_first_is (q := q) (n := n)
    have hl := tg_first_le q n
    unfold tg_first at h ⊢
    split at h
    · rename_i h1
      rw [if_pos h1]
      exact ih h1
    · rename_i h1
      rw [if_neg h1]
      split at h
      · rename_i h2
        rw [if_pos h2]
        exact h2
      · omega
/-- where an address stands in the pool: its number, or -1 -/
def tg_num (k n : Nat) : Int32 := if k < n then nI k else -1

theorem m32 : (-4294967296 : Int64) = lN (2 ^ 64 - 2 ^ 32) := by decide
theorem dr_96 {F G hi lo : Nat} (hG : G < 2 ^ 64) (hF : F < 2 ^ 64) (hh : hi < 2 ^ 64) (hl : lo < 2 ^ 64) (h1 : lN hi = lN F) (h2 : lN lo &&& (-4294967296) = lN G) : lN (lo % 2 ^ 32) = tg_draw 96 F G hi lo := by
  rw [m32, lN_hi hl (by decide)] at h2
  have e1 := (lN_inj hh hF).mp h1
  have e2 := (lN_inj (Nat.lt_of_le_of_lt (Nat.sub_le _ _) hl) hG).mp h2
  have : tg_of 96 F G hi lo = true := by simp [tg_of, e1]; omega
  rw [tg_draw, if_pos this]; rfl
theorem dr_96a {F G hi lo : Nat} (h1 : ¬ lN hi = lN F) : (-1 : Int64) = tg_draw 96 F G hi lo := by
  have : ¬ tg_of 96 F G hi lo = true := fun z => by
    simp [tg_of] at z
    exact h1 (by rw [z.1])
  rw [tg_draw, if_neg this]
theorem dr_96b {F G hi lo : Nat} (hl : lo < 2 ^ 64) (h2 : ¬ lN lo &&& (-4294967296) = lN G) : (-1 : Int64) = tg_draw 96 F G hi lo := by
  rw [m32, lN_hi hl (by decide)] at h2
  have : ¬ tg_of 96 F G hi lo = true := fun z => by
    simp [tg_of] at z
    exact h2 (by rw [← z.2])
  rw [tg_draw, if_neg this]
theorem dr_0 {F G hi lo : Nat} : (-1 : Int64) = tg_draw 0 F G hi lo := by simp [tg_draw, tg_of]
theorem dr_a {bits F G hi lo : Nat} (hb : bits = 0 ∨ bits = 32 ∨ bits = 40 ∨ bits = 48 ∨ bits = 56 ∨ bits = 64 ∨ bits = 96) (h6 : bits ≠ 96) (hh : hi < 2 ^ 64) (h1 : ¬ lN hi &&& tg_hm bits = lN F) : (-1 : Int64) = tg_draw bits F G hi lo := by
  by_cases h0 : bits = 0
  · subst h0; exact dr_0
  rw [tg_hm_and hh (by omega) (by omega)] at h1
  have : ¬ tg_of bits F G hi lo = true := fun z => by
    simp [tg_of, h0, h6] at z
    exact h1 (by rw [z.1])
  rw [tg_draw, if_neg this]
theorem dr_b {bits F G hi lo : Nat} (h6 : bits ≠ 96) (h1 : ¬ lN (lo / 2 ^ 56) = lN 0) : (-1 : Int64) = tg_draw bits F G hi lo := by
  by_cases h0 : bits = 0
  · subst h0; exact dr_0
  have : ¬ tg_of bits F G hi lo = true := fun z => by
    simp [tg_of, h0, h6] at z
    exact h1 (congrArg lN (by omega))
  rw [tg_draw, if_neg this]
theorem dr_y {bits F G hi lo : Nat} (hb : bits = 0 ∨ bits = 32 ∨ bits = 40 ∨ bits = 48 ∨ bits = 56 ∨ bits = 64 ∨ bits = 96) (h0 : bits ≠ 0) (h6 : bits ≠ 96) (hF : F < 2 ^ 64) (hh : hi < 2 ^ 64) (hl : lo < 2 ^ 64) (h1 : lN hi &&& tg_hm bits = lN F) (h2 : lN (lo / 2 ^ 56) = lN 0) {v : Int64} (hv : v = (lN hi &&& (tg_hm bits ^^^ (-1))) <<< ((nI (bits - 32)).toInt64 &&& 63) ||| lN (lo / 2 ^ (56 - (bits - 32)) % 2 ^ (bits - 32))) : v = tg_draw bits F G hi lo := by
  have h64 : bits ≤ 64 := by omega
  rw [tg_hm_and hh (by omega) h64] at h1
  have e1 := (lN_inj (Nat.lt_of_le_of_lt (Nat.sub_le _ _) hh) hF).mp h1
  have e2 : lo / 2 ^ 56 = 0 := (lN_inj (Nat.lt_of_le_of_lt (Nat.div_le_self _ _) hl) (by decide)).mp h2
  have ho : tg_of bits F G hi lo = true := by
    unfold tg_of
    rw [if_neg h0, if_neg h6]
    exact decide_eq_true ⟨e1, e2⟩
  rw [hv, tg_hm_not (by omega) h64, lN_shl (by omega), lN_or (Nat.mod_lt _ (Nat.two_pow_pos _)), tg_draw, if_pos ho, tg_dr, if_neg h6, show 56 - (bits - 32) = 88 - bits by omega]
theorem dr_neg {bits F G hi lo : Nat} (hb : bits = 0 ∨ bits = 32 ∨ bits = 40 ∨ bits = 48 ∨ bits = 56 ∨ bits = 64 ∨ bits = 96) : tg_draw bits F G hi lo < 0 ↔ tg_of bits F G hi lo = false := by
  by_cases ho : tg_of bits F G hi lo = true
  · have h0 : bits ≠ 0 := fun z => by subst z; simp [tg_of] at ho
    rw [tg_draw, if_pos ho, ho]
    have h1 := tg_dr_lt (bits := bits) (hi := hi) (lo := lo) (by omega)
    exact ⟨fun z => absurd z (lN_nneg (by omega)), fun z => by cases z⟩
  · rw [tg_draw, if_neg ho]
    exact ⟨fun _ => by simpa using ho, fun _ => by decide⟩
def tg_fr6 (h : Nat → Nat) (n : Nat) : Bool := decide (40 ≤ n ∧ h 0 / 16 = 6 ∧ tg_pr h 4 = n - 40)
def tg_echo6 (h : Nat → Nat) (n : Nat) : Bool := decide (8 ≤ n - 40 ∧ (h 40 = 128 ∨ h 40 = 129))
def tg_kn6 (h : Nat → Nat) (n : Nat) : Bool := if h 6 = 6 then tg_tcp h n 40 else if h 6 = 17 then tg_udp h n 40 else if h 6 = 58 then tg_echo6 h n else false
def tg_pl6 (h : Nat → Nat) (bits F G u : Nat) : Bool := decide (bits ≠ 0 ∧ u ≠ 0) && tg_of bits F G (tg_ei h 24) (tg_ei h 32) && !tg_odd (tg_dr bits (tg_ei h 24) (tg_ei h 32)) && !tg_of bits F G (tg_ei h 8) (tg_ei h 16)
def tg_in (h : Nat → Nat) (n bits F G u : Nat) : Nat := if tg_fr6 h n = false then 10 else if tg_kn6 h n = false then 11 else if tg_partOk h n 40 = false then 12 else if h 7 < 2 then 13 else if tg_pl6 h bits F G u = true then 0 else 14
def tg_fr4 (h : Nat → Nat) (n : Nat) : Bool := decide (20 ≤ n ∧ h 0 = 69 ∧ tg_pr h 2 = n)
def tg_within (h : Nat → Nat) (n : Nat) : Bool := decide (56 ≤ n ∧ h 28 = 69 ∧ ((h 37 = 1 ∧ h 48 = 8) ∨ h 37 = 6 ∨ h 37 = 17))
def tg_kicmp4 (h : Nat → Nat) (n : Nat) : Bool := if 8 ≤ n - 20 then (if h 20 = 8 ∨ h 20 = 0 then true else if h 20 = 3 then decide (h 21 ≠ 2 ∧ h 21 ≠ 14 ∧ h 21 ≤ 15) && tg_within h n else if h 20 = 11 then decide (h 21 ≤ 1) && tg_within h n else false) else false
def tg_kn4 (h : Nat → Nat) (n : Nat) : Bool := if tg_pr h 6 % 2 ^ 14 ≠ 0 then false else if h 9 = 6 then tg_tcp h n 20 else if h 9 = 17 then tg_udp h n 20 else if h 9 = 1 then tg_kicmp4 h n else false
/-- the pool has the address -/
def tg_has (g : Nat → Int32) (u x : Nat) : Bool := decide (tg_first (fun k => decide (g k = nI x)) u < u)
def tg_pl4 (h : Nat → Nat) (bits : Nat) (g : Nat → Int32) (u : Nat) : Bool := decide (bits ≠ 0) && tg_has g u (tg_qd h 16) && !tg_odd (tg_qd h 12) && (!tg_isErr h || (tg_has g u (tg_qd h 40) && !tg_odd (tg_qd h 44)))
def tg_out (h : Nat → Nat) (n bits : Nat) (g : Nat → Int32) (u : Nat) : Nat := if tg_fr4 h n = false then 10 else if tg_headOk h = false then 12 else if tg_kn4 h n = false then 11 else if tg_partOk h n 20 = false then 12 else if h 8 < 2 then 13 else if tg_pl4 h bits g u = true then 0 else 14
theorem lN_w {x : Nat} (h : x < 2 ^ 32) : (nI x).toInt64 &&& lN 4294967295 = lN x := by
  have e : (nI x).toInt64 = lN ((nI x).toInt64.toBitVec.toNat) := by
    apply Int64.toBitVec_inj.mp
    show (nI x).toInt64.toBitVec = BitVec.ofNat 64 (nI x).toInt64.toBitVec.toNat
    simp
  have e2 : (nI x).toInt64.toBitVec.toNat % 2 ^ 32 = x := by
    show ((BitVec.ofNat 32 x).signExtend 64).toNat % 2 ^ 32 = x
    have h1 : ((BitVec.ofNat 32 x).signExtend 64).setWidth 32 = BitVec.ofNat 32 x := by
      apply BitVec.eq_of_getLsbD_eq
      intro i hi
      rw [BitVec.getLsbD_setWidth, BitVec.getLsbD_signExtend]
      simp [hi, show i < 64 by omega]
    have h2 := congrArg BitVec.toNat h1
    rw [BitVec.toNat_setWidth, BitVec.toNat_ofNat, Nat.mod_eq_of_lt h] at h2
    exact h2
  rw [e, show (4294967295 : Nat) = 2 ^ 32 - 1 by decide, lN_mask, e2]
theorem nv_landw {p : Program} {l : Launch} {e : Env} {R : Room} {s : State} {m : MethodId} {args : Array Value} {below : List Frame} {meth : Method} {c : Code} {H : Heap} {locs : List Loc} {cells slots : Nat} {Q : State → Prop} {cc : ByteArray} {pc : Nat} {ls : Array Slot} {rest : List Value} {a : Nat} (hx : p.tables.exec = Jvm.exec) (hb : c.code = cc) (ha : a < 2 ^ 32) (hdg : decode cc pc = .ok (.land, 1)) (kk : W p l e R s m args below meth c H locs cells slots Q (F0 m (pc + 1) ls (.long (lN a) :: rest))) : W p l e R s m args below meth c H locs cells slots Q (F0 m pc ls (.long (lN 4294967295) :: .long ((nI a).toInt64) :: rest)) :=
  lv_land hx hb hdg (by rw [lN_w ha]; exact kk)
theorem lN_or0 {F b j : Nat} (hF : F % 2 ^ j = 0) (hb : b < 2 ^ j) : lN F ||| lN b = lN (F + b) := by
  have h := Nat.div_add_mod F (2 ^ j)
  rw [hF, Nat.add_zero, Nat.mul_comm] at h
  rw [← h]
  exact lN_or hb
theorem eh_n {bits F G x : Nat} (hsi : SI bits F G) (h0 : bits ≠ 0) (h6 : bits ≠ 96) (hx : x < 2 ^ 32) {v : Int64} (hv : v = lN F ||| lN (x / 2 ^ (bits - 32))) : v = lN (tg_eh bits F x) := by
  rcases hsi with h | h | h
  · omega
  · rw [hv, tg_eh, if_neg (by omega)]
    refine lN_or0 h.2.1 ?_
    rcases h.1 with rfl | rfl | rfl | rfl | rfl <;> simp <;> omega
  · omega
theorem el_0 {bits G x : Nat} (h0 : bits = 0) {v : Int64} (hv : v = lN 0) : v = lN (tg_el bits G x) := by rw [hv, tg_el, if_pos h0]
theorem el_96 {bits F G x : Nat} (hsi : SI bits F G) (h6 : bits = 96) (hx : x < 2 ^ 32) {v : Int64} (hv : v = lN G ||| lN x) : v = lN (tg_el bits G x) := by
  rcases hsi with h | h | h
  · omega
  · omega
  · rw [hv, tg_el, if_neg (by omega), if_pos h6]
    exact lN_or0 h.2.2.1 hx
theorem el_n {bits G x : Nat} (hb : bits = 0 ∨ bits = 32 ∨ bits = 40 ∨ bits = 48 ∨ bits = 56 ∨ bits = 64 ∨ bits = 96) (h0 : bits ≠ 0) (h6 : bits ≠ 96) {v : Int64} (hv : v = lN ((x % 2 ^ (bits - 32)) * 2 ^ (56 - (bits - 32)))) : v = lN (tg_el bits G x) := by
  rw [hv, tg_el, if_neg h0, if_neg h6, show 56 - (bits - 32) = 88 - bits by omega]
theorem num_f {k u : Nat} (hu : u < 2 ^ 31) (h : tg_num k u < 0) : decide (k < u) = false := decide_eq_false (fun z => by
  rw [tg_num, if_pos z] at h
  exact nI_pos (by omega) h)
theorem num_t {k u : Nat} (hu : u < 2 ^ 31) (h : ¬ tg_num k u < 0) : decide (k < u) = true := decide_eq_true (Classical.byContradiction (fun z => by
  rw [tg_num, if_neg z] at h
  exact h (by decide)))
