/-! both sides' packets: the same bytes below the length -/
def EQ (n : Nat) (f g : Nat → UInt8) : Prop := ∀ i, i < n → f i = g i
theorem put_c {f g : Nat → UInt8} {a k x i : Nat} (h : ¬ (a ≤ i ∧ i < a + k) → f i = g i) : tg_put f a k x i = tg_put g a k x i := by
  unfold tg_put
  by_cases hi : a ≤ i ∧ i < a + k
  · rw [if_pos hi, if_pos hi]
  · rw [if_neg hi, if_neg hi]; exact h hi
theorem up_c {f g : Nat → UInt8} {a i : Nat} {v : UInt8} (h : i ≠ a → f i = g i) : va_up f a v i = va_up g a v i := by
  unfold va_up
  by_cases hi : i = a
  · rw [if_pos hi, if_pos hi]
  · rw [if_neg hi, if_neg hi]; exact h hi
theorem cpy_c {f f2 g g2 : Nat → UInt8} {a z k i : Nat} (h1 : z ≤ i → i < z + k → f (a + (i - z)) = f2 (a + (i - z))) (h : ¬ (z ≤ i ∧ i < z + k) → g i = g2 i) : va_cpy f g a z k i = va_cpy f2 g2 a z k i := by
  unfold va_cpy
  by_cases hi : z ≤ i ∧ i < z + k
  · rw [if_pos hi, if_pos hi]; exact h1 hi.1 hi.2
  · rw [if_neg hi, if_neg hi]; exact h hi
theorem put1 {f : Nat → UInt8} {a x : Nat} : tg_put f a 1 x = va_up f a (UInt8.ofNat x) := by
  funext i
  unfold tg_put va_up
  by_cases hi : i = a
  · rw [if_pos (by omega), if_pos hi, hi, Nat.sub_self]
    congr 1
    simp
  · rw [if_neg (by omega), if_neg hi]
theorem of8 {x y : Nat} (h : x % 256 = y % 256) : UInt8.ofNat x = UInt8.ofNat y := by
  apply UInt8.toNat_inj.mp
  rw [UInt8.toNat_ofNat', UInt8.toNat_ofNat']
  exact h
theorem ws_c {h h2 : Nat → Nat} {a z : Nat} : ∀ k, (∀ i, a ≤ i → i < a + k → i ≠ z → i ≠ z + 1 → h i = h2 i) → tg_ws h a z k = tg_ws h2 a z k
  | 0, _ => rfl
  | k + 1, e => by
    unfold tg_ws
    rw [ws_c k (fun i h1 h2 => e i h1 (by omega))]
    by_cases hz : a + k = z ∨ a + k = z + 1
    · rw [if_pos hz, if_pos hz]
    · rw [if_neg hz, if_neg hz, e (a + k) (by omega) (by omega) (by omega) (by omega)]
/-- a sum reads no byte of its own place -/
theorem fin_c {f g : Nat → UInt8} {n hd q : Nat} (hz : 20 ≤ hd) (h : ∀ i, i < n → i ≠ hd + tg_sumAt q → i ≠ hd + tg_sumAt q + 1 → f i = g i) : EQ n (tg_fin f n hd q) (tg_fin g n hd q) := by
  have hr : ∀ i, i ≠ hd + tg_sumAt q → i ≠ hd + tg_sumAt q + 1 → tg_rd f n i = tg_rd g n i := fun i h1 h2 => by
    by_cases hi : i < n
    · rw [tg_rd_in hi, tg_rd_in hi, h i hi h1 h2]
    · rw [tg_rd_out (by omega), tg_rd_out (by omega)]
  have hp : tg_pre (tg_rd f n) hd n q = tg_pre (tg_rd g n) hd n q := by
    unfold tg_pre
    split
    · rw [ws_c 32 (fun i h1 h2 _ _ => hr i (by omega) (by omega))]
    · split
      · rfl
      · rw [ws_c 8 (fun i h1 h2 _ _ => hr i (by omega) (by omega))]
  have hs : tg_sum (tg_rd f n) hd n (hd + tg_sumAt q) q = tg_sum (tg_rd g n) hd n (hd + tg_sumAt q) q := by
    unfold tg_sum
    rw [hp, ws_c (n - hd) (fun i _ _ h1 h2 => hr i h1 h2)]
  intro i hi
  unfold tg_fin
  rw [hs]
  exact put_c (fun hn => h i hi (by omega) (by omega))
theorem h4_eq {fo fo2 fi ft : Nat → UInt8} {n q id fa ta i : Nat} (hn : 40 ≤ n) (hid : 1 ≤ id) (hh : tg_rd fi n = tg_rd ft n) (hi : i < 20) (h1 : i ≠ 10) (h2 : i ≠ 11) : mk_h3 fo fi n q id fa ta i = tg_hd4 fo2 (tg_rd ft n) n q (if n - 20 ≤ 1260 then id else 0) fa ta i := by
  have e6 : (if n - 20 ≤ 1260 then 0 else 16384) = (if (if n - 20 ≤ 1260 then id else 0) = 0 then 16384 else 0) := by
    by_cases h : n - 20 ≤ 1260
    · rw [if_pos h, if_pos h, if_neg (by omega)]
    · rw [if_neg h, if_neg h, if_pos rfl]
  have e1 : UInt8.ofNat (tg_pr (tg_rd ft n) 0 / 2 ^ 4 % 2 ^ 8) = UInt8.ofNat (tg_pr (tg_rd ft n) 0 / 2 ^ 4) := of8 (by omega)
  unfold mk_h3 mk_h2 mk_h1 tg_hd4
  rw [hh, e6, show n - 20 = 20 + (n - 40) by omega]
  simp only [put1]
  rw [e1]
  generalize UInt8.ofNat 69 = b0
  generalize UInt8.ofNat (tg_pr (tg_rd ft n) 0 / 2 ^ 4) = b1
  generalize (if 20 + (n - 40) ≤ 1260 then id else 0) = w4
  generalize (if w4 = 0 then 16384 else 0) = w6
  generalize UInt8.ofNat (tg_rd ft n 7 - 1) = b8
  generalize UInt8.ofNat q = b9
  generalize 20 + (n - 40) = w2
  refine put_c (fun n1 => put_c (fun n2 => ?_))
  rw [put_out (by omega)]
  exact up_c (fun n3 => up_c (fun n4 => put_c (fun n5 => put_c (fun n6 => put_c (fun n7 => up_c (fun n8 => up_c (fun n9 => absurd hi (by omega))))))))
theorem four_eq {fo fo2 fi ft : Nat → UInt8} {n q id fa ta op : Nat} (hn : 48 ≤ n) (hid : 1 ≤ id) (hq : q = 1 ∨ q = 6 ∨ q = 17) (hf : ∀ k, k < n → fi k = ft k) : EQ (n - 20) (mk_four fo fi n q id fa ta op) (tg_four fo2 ft n q (if n - 20 ≤ 1260 then id else 0) fa ta op) := by
  have hh : tg_rd fi n = tg_rd ft n := rd_cong hf
  have e5 : EQ (n - 20) (mk_h5 fo fi n q id fa ta) (va_cpy ft (tg_hs4 (tg_hd4 fo2 (tg_rd ft n) n q (if n - 20 ≤ 1260 then id else 0) fa ta) (20 + (n - 40))) 40 20 (n - 40)) := by
    intro i hi
    unfold mk_h5
    refine cpy_c (fun a b => hf _ (by omega)) (fun hc => ?_)
    unfold mk_h4 tg_hs4
    have hs : tg_ws (tg_rd (mk_h3 fo fi n q id fa ta) (n - 20)) 0 10 20 = tg_ws (tg_rd (tg_hd4 fo2 (tg_rd ft n) n q (if n - 20 ≤ 1260 then id else 0) fa ta) (20 + (n - 40))) 0 10 20 := ws_c 20 (fun i _ a b c => by
      rw [tg_rd_in (by omega), tg_rd_in (by omega), h4_eq (by omega) hid hh (by omega) b c])
    rw [hs]
    exact put_c (fun hp => h4_eq (by omega) hid hh (by omega) (by omega) (by omega))
  have e6 : EQ (n - 20) (mk_h6 fo fi n q id fa ta op) (if q = 1 then va_up (tg_put (va_cpy ft (tg_hs4 (tg_hd4 fo2 (tg_rd ft n) n q (if n - 20 ≤ 1260 then id else 0) fa ta) (20 + (n - 40))) 40 20 (n - 40)) (20 + tg_spa q) 2 op) 20 (UInt8.ofNat (if tg_rd ft n 40 = 128 then 8 else 0)) else tg_put (va_cpy ft (tg_hs4 (tg_hd4 fo2 (tg_rd ft n) n q (if n - 20 ≤ 1260 then id else 0) fa ta) (20 + (n - 40))) 40 20 (n - 40)) (20 + tg_spa q) 2 op) := by
    intro i hi
    unfold mk_h6
    rw [hh]
    by_cases h1 : q = 1
    · rw [if_pos h1, if_pos h1, put1, show 20 + tg_spa q = 24 by rw [h1]; rfl]
      by_cases h20 : i = 20
      · rw [h20, put_out (by omega), up_in, up_in]
      · rw [up_out h20]
        refine put_c (fun hp => ?_)
        rw [up_out h20]
        exact e5 i hi
    · rw [if_neg h1, if_neg h1, show 20 + tg_spa q = 20 by unfold tg_spa; rw [if_pos (by omega)]]
      exact put_c (fun hp => e5 i hi)
  have := fin_c (n := n - 20) (hd := 20) (q := q) (by omega) (fun i hi _ _ => e6 i hi)
  unfold tg_four
  rw [show (20 + (n - 40)) = n - 20 by omega] at *
  exact this
theorem six_eq8 {f g : Nat → UInt8} {a tr pl q nx hp i : Nat} (htr : tr < 256) (hnx : nx = tg_nx q) (h1 : a ≤ i) (h2 : i < a + 8) : tg_put (tg_put (tg_put (tg_put f a 4 (1610612736 + tr * 2 ^ 20)) (a + 4) 2 pl) (a + 6) 1 nx) (a + 7) 1 hp i = tg_six g a tr pl q hp i := by
  unfold tg_six
  rw [put1, put1, hnx]
  refine up_c (fun n1 => up_c (fun n2 => put_c (fun n3 => ?_)))
  rw [put_in (by omega) (by omega)]
  by_cases n4 : a + 2 ≤ i
  · rw [put_in (by omega) (by omega)]
    apply of8
    rcases (show i - a = 2 ∨ i - a = 3 by omega) with e | e
    · rw [e, show i - (a + 2) = 0 by omega]; omega
    · rw [e, show i - (a + 2) = 1 by omega]; omega
  · rw [put_out (by omega), put_in (by omega) (by omega)]
    apply of8
    rcases (show i - a = 0 ∨ i - a = 1 by omega) with e | e
    · rw [e]; omega
    · rw [e]; omega
theorem head_eq {fo fo2 fi ft : Nat → UInt8} {n len q nx bits F G ih il i : Nat} (hh : tg_rd fi n = tg_rd ft n) (hnx : nx = tg_nx q) (hi : i < 40) : mk_head fo fi n len nx bits F G ih il i = tg_inn (tg_emb (tg_six fo2 0 (tg_rd ft n 1) len q (tg_rd ft n 8 - 1)) 8 (tg_qd (tg_rd ft n) 12) bits F G) 24 ih il i := by
  unfold mk_head tg_inn tg_emb
  rw [hh]
  exact put_c (fun n1 => put_c (fun n2 => put_c (fun n3 => put_c (fun n4 => six_eq8 (a := 0) (tg_rd_lt ft n 1) hnx (by omega) (by omega)))))
theorem sx_eq {fo fo2 fi ft : Nat → UInt8} {n q ip ih il bits F G : Nat} (hn : 28 ≤ n) (hq : q = 1 ∨ q = 6 ∨ q = 17) (hf : ∀ k, k < n → fi k = ft k) : EQ (40 + (n - 20)) (mk_six fo fi n q ip ih il bits F G) (tg_sx fo2 ft n q ip ih il bits F G) := by
  have hh : tg_rd fi n = tg_rd ft n := rd_cong hf
  have e1 : EQ (40 + (n - 20)) (mk_six1 fo fi n q bits F G ih il) (va_cpy ft (tg_inn (tg_emb (tg_six fo2 0 (tg_rd ft n 1) (n - 20) q (tg_rd ft n 8 - 1)) 8 (tg_qd (tg_rd ft n) 12) bits F G) 24 ih il) 20 40 (n - 20)) := by
    intro i hi
    unfold mk_six1
    exact cpy_c (fun a b => hf _ (by omega)) (fun hc => head_eq hh rfl (by omega))
  unfold mk_six tg_sx tg_sx1
  refine fin_c (by omega) (fun i hi _ _ => ?_)
  rw [hh]
  by_cases h1 : q = 1
  · rw [if_pos h1, if_pos h1, put1, show 40 + tg_dpa q = 44 by rw [h1]; rfl]
    by_cases h40 : i = 40
    · rw [h40, put_out (by omega), up_in, up_in]
    · rw [up_out h40]
      refine put_c (fun hp => ?_)
      rw [up_out h40]
      exact e1 i hi
  · rw [if_neg h1, if_neg h1, show 40 + tg_dpa q = 42 by unfold tg_dpa; rw [if_pos (by omega)]]
    exact put_c (fun hp => e1 i hi)
theorem e1_eq {f g : Nat → UInt8} {h : Nat → Nat} {i : Nat} (hh : h 21 < 256) (h42 : i ≠ 42) (h43 : i ≠ 43) (he : i < 40 ∨ 48 ≤ i → f i = g i) : mk_e1 f h i = tg_kind h g i := by
  by_cases hi : i < 40 ∨ 48 ≤ i
  · rw [kind_out hi]
    unfold mk_e1
    rw [put_out (by omega), put_out (by omega), put_out (by omega)]
    exact he hi
  · unfold mk_e1 tg_kind mk_rm mk_mu mk_nu tg_unr
    by_cases h44 : 44 ≤ i
    · rw [put_in (by omega) (by omega)]
      (repeat' split) <;> first | (exfalso; omega) | (rw [put_in (by omega) (by omega)])
    · rw [put_out (by omega)]
      by_cases h41 : i = 41
      · rw [h41, put_in (by omega) (by omega)]
        (repeat' split) <;> first | (rw [put_out (by omega), put_in (by omega) (by omega)]; done) | (rw [put_out (by omega), put_in (by omega) (by omega)]; first | rfl | (apply of8; omega)) | (exfalso; omega)
      · rw [put_out (by omega), show i = 40 by omega, put_in (by omega) (by omega)]
        (repeat' split) <;> first | (exfalso; omega) | (rw [put_out (by omega), put_in (by omega) (by omega)]; done) | (rw [put_out (by omega), put_in (by omega) (by omega)]; first | rfl | (apply of8; omega))
theorem err_eq {fo fo2 fi ft : Nat → UInt8} {n q ip ih il bits F G : Nat} (hn : 56 ≤ n) (hq : q = 1 ∨ q = 6 ∨ q = 17) (hf : ∀ k, k < n → fi k = ft k) : EQ (min (n + 40) 1280) (mk_err fo fi n q ip ih il bits F G) (tg_fin (tg_wi (tg_er1 fo2 ft n ih il bits F G) ft n (min (n + 40) 1280) q ip ih il bits F G) (min (n + 40) 1280) 40 58) := by
  have hh : tg_rd fi n = tg_rd ft n := rd_cong hf
  have e1 : ∀ i, i < min (n + 40) 1280 → i ≠ 42 → i ≠ 43 → mk_e3 fo fi n q bits F G ih il i = va_cpy ft (tg_emb (tg_inn (tg_six (tg_er1 fo2 ft n ih il bits F G) 48 (tg_rd ft n 29) ((tg_pr (tg_rd ft n) 30 + 4294967296 - 20) % 4294967296) q (tg_rd ft n 36)) 56 ih il) 72 (tg_qd (tg_rd ft n) 44) bits F G) 48 88 (min (n + 40) 1280 - 88) i := by
    intro i hi h42 h43
    unfold mk_e3
    refine cpy_c (fun a b => hf _ (by omega)) (fun hc => ?_)
    rw [hh]
    unfold mk_e2 tg_emb tg_inn
    refine put_c (fun n1 => put_c (fun n2 => put_c (fun n3 => put_c (fun n4 => ?_))))
    by_cases h48 : 48 ≤ i
    · exact six_eq8 (a := 48) (tg_rd_lt ft n 29) rfl (by omega) (by omega)
    · rw [six_out (by omega), put_out (by omega), put_out (by omega), put_out (by omega), put_out (by omega)]
      unfold tg_er1
      exact e1_eq (tg_rd_lt ft n 21) h42 h43 (fun hx => head_eq hh rfl (by omega))
  unfold mk_err tg_wi tg_wi1
  refine fin_c (by omega) (fun i hi hz1 hz2 => ?_)
  have h42 : i ≠ 42 := hz1
  have h43 : i ≠ 43 := hz2
  by_cases h1 : q = 1
  · rw [if_pos h1, if_pos h1, put1, show 88 + tg_spa q = 92 by rw [h1]; rfl]
    by_cases h88 : i = 88
    · rw [h88, put_out (by omega), up_in, up_in]
    · rw [up_out h88]
      refine put_c (fun hp => ?_)
      rw [up_out h88]
      exact e1 i hi h42 h43
  · rw [if_neg h1, if_neg h1, show 88 + tg_spa q = 88 by unfold tg_spa; rw [if_pos (by omega)]]
    exact put_c (fun hp => e1 i hi h42 h43)
