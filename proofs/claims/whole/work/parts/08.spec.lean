/-! WHAT THE PARTS OF A PACKET SAY: h reads its bytes (0 beyond its end), n is how many it has -/
theorem nv_top {p : Program} {l : Launch} {e : Env} {R : Room} {s : State} {m : MethodId} {args : Array Value} {below : List Frame} {meth : Method} {c : Code} {H : Heap} {locs : List Loc} {cells slots : Nat} {Q : State → Prop} {pc : Nat} {ls : Array Slot} {rest : List Value} {a : Nat} (k : ∀ y : Nat, y = a → W p l e R s m args below meth c H locs cells slots Q (F0 m pc ls (.int (nI y) :: rest))) : W p l e R s m args below meth c H locs cells slots Q (F0 m pc ls (.int (nI a) :: rest)) := k a rfl
theorem nv_topL {p : Program} {l : Launch} {e : Env} {R : Room} {s : State} {m : MethodId} {args : Array Value} {below : List Frame} {meth : Method} {c : Code} {H : Heap} {locs : List Loc} {cells slots : Nat} {Q : State → Prop} {pc : Nat} {ls : Array Slot} {rest : List Value} {a : Nat} (k : ∀ y : Nat, y = a → W p l e R s m args below meth c H locs cells slots Q (F0 m pc ls (.long (lN y) :: rest))) : W p l e R s m args below meth c H locs cells slots Q (F0 m pc ls (.long (lN a) :: rest)) := k a rfl
theorem nv_ldc {p : Program} {l : Launch} {e : Env} {R : Room} {s : State} {m : MethodId} {args : Array Value} {below : List Frame} {meth : Method} {c : Code} {H : Heap} {locs : List Loc} {cells slots : Nat} {Q : State → Prop} {cc : ByteArray} {pc : Nat} {ls : Array Slot} {rest : List Value} {own : String} {index k : Nat} {v : Int32} (hx : p.tables.exec = Jvm.exec) (hb : c.code = cc) (hown : s.vm.findClass own = some m.cls) (hconst : (Jvm.Cond.constant own index v).before args s = true) (hv : v = nI k) (hdg : decode cc pc = .ok (.ldc index, 2)) (kk : W p l e R s m args below meth c H locs cells slots Q (F0 m (pc + 2) ls (.int (nI k) :: rest))) : W p l e R s m args below meth c H locs cells slots Q (F0 m pc ls rest) :=
  lv_ldc hx hb hown hconst hdg (by rw [hv]; exact kk)
theorem nI_not {a : Nat} (h : a ≤ 65535) : (nI a ^^^ (-1)) &&& nI 65535 = nI (65535 - a) := by
  rw [pk_and (nI a ^^^ (-1)) 16 (by decide)]
  congr 1
  have h1 : (nI a ^^^ (-1)).toBitVec = ~~~ (BitVec.ofNat 32 a) := by
    show BitVec.ofNat 32 a ^^^ BitVec.allOnes 32 = ~~~ (BitVec.ofNat 32 a)
    exact BitVec.xor_allOnes
  rw [h1, BitVec.toNat_not, BitVec.toNat_ofNat]
  omega
def tg_head (h : Nat → Nat) : Nat := if h 0 / 16 = 4 then 20 else if h 0 / 16 = 6 then 40 else 0
def tg_proto (h : Nat → Nat) (hd : Nat) : Nat := if hd = 40 then h 6 else h 9
def tg_sumAt (q : Nat) : Nat := if q = 6 then 16 else if q = 17 then 6 else 2
def tg_ports (q : Nat) : Bool := decide (q = 6 ∨ q = 17)
def tg_spa (q : Nat) : Nat := if q = 6 ∨ q = 17 then 0 else 4
def tg_dpa (q : Nat) : Nat := if q = 6 ∨ q = 17 then 2 else 4
def tg_tcp (h : Nat → Nat) (n hd : Nat) : Bool := decide (20 ≤ n - hd ∧ 5 ≤ h (hd + 12) / 16 ∧ 4 * (h (hd + 12) / 16) ≤ n - hd)
def tg_udp (h : Nat → Nat) (n hd : Nat) : Bool := decide (8 ≤ n - hd ∧ tg_pr h (hd + 4) = n - hd)
def tg_icmp (n hd : Nat) : Bool := decide (8 ≤ n - hd)
def tg_isErr (h : Nat → Nat) : Bool := decide (h 9 = 1 ∧ (h 20 = 3 ∨ h 20 = 11))
def tg_event (h : Nat → Nat) (hd q : Nat) : Nat := if q ≠ 6 then 0 else if h (hd + 13) &&& 4 ≠ 0 then 3 else if h (hd + 13) &&& 2 ≠ 0 then 2 else if h (hd + 13) % 2 ≠ 0 then 1 else 0
def tg_ws (h : Nat → Nat) (a z : Nat) : Nat → Nat
  | 0 => 0
  | k + 1 => tg_ws h a z k + (if a + k = z ∨ a + k = z + 1 then 0 else if k % 2 = 0 then h (a + k) * 256 else h (a + k))
theorem tg_ws_le (f : Nat → UInt8) (n a z : Nat) : ∀ k, tg_ws (tg_rd f n) a z k ≤ 65280 * k
  | 0 => Nat.le_refl _
  | k + 1 => by
    have h1 := tg_ws_le f n a z k
    have h2 := tg_rd_lt f n (a + k)
    unfold tg_ws
    (repeat' split) <;> omega
def tg_cl (t : Nat) : Nat := 65535 - ((t % 65536 + t / 65536) % 65536 + (t % 65536 + t / 65536) / 65536)
def tg_pre (h : Nat → Nat) (hd n q : Nat) : Nat := if hd = 40 then tg_ws h 8 40 32 + (n - hd) + q else if q = 1 then 0 else tg_ws h 12 20 8 + (n - hd) + q
def tg_sum (h : Nat → Nat) (hd n z q : Nat) : Nat := if q = 17 ∧ tg_cl (tg_ws h hd z (n - hd) + tg_pre h hd n q) = 0 then 65535 else tg_cl (tg_ws h hd z (n - hd) + tg_pre h hd n q)
def tg_headOk (h : Nat → Nat) : Bool := decide (tg_pr h 10 = tg_cl (tg_ws h 0 10 20))
def tg_place (h : Nat → Nat) (hd : Nat) : Nat := hd + tg_sumAt (tg_proto h hd)
def tg_partOk (h : Nat → Nat) (n hd : Nat) : Bool := decide (tg_pr h (tg_place h hd) = tg_sum h hd n (tg_place h hd) (tg_proto h hd))
theorem tg_cl_le (t : Nat) : tg_cl t ≤ 65535 := Nat.sub_le _ _
theorem tg_proto_lt (f : Nat → UInt8) (n hd : Nat) : tg_proto (tg_rd f n) hd < 256 := by
  have h1 := tg_rd_lt f n 6
  have h2 := tg_rd_lt f n 9
  unfold tg_proto
  split <;> omega
theorem tg_sumAt_le (q : Nat) : tg_sumAt q ≤ 16 := by unfold tg_sumAt; (repeat' split) <;> omega
theorem tg_spa_le (q : Nat) : tg_spa q ≤ 4 := by unfold tg_spa; (repeat' split) <;> omega
theorem tg_dpa_le (q : Nat) : tg_dpa q ≤ 4 := by unfold tg_dpa; (repeat' split) <;> omega
theorem tg_sum_le (h : Nat → Nat) (hd n z q : Nat) : tg_sum h hd n z q ≤ 65535 := by
  have h1 := tg_cl_le (tg_ws h hd z (n - hd) + tg_pre h hd n q)
  unfold tg_sum
  split <;> omega
theorem tg_event_le (h : Nat → Nat) (hd q : Nat) : tg_event h hd q ≤ 3 := by unfold tg_event; (repeat' split) <;> omega
