theorem dX12_put_0 : decode cX12_put 0 = .ok (.iconst 0, 1) := by decide +kernel
theorem dX12_put_1 : decode cX12_put 1 = .ok (.istore 5, 2) := by decide +kernel
theorem dX12_put_3 : decode cX12_put 3 = .ok (.iload 5, 2) := by decide +kernel
theorem dX12_put_5 : decode cX12_put 5 = .ok (.iload_n 2, 1) := by decide +kernel
theorem dX12_put_6 : decode cX12_put 6 = .ok (.if_icmp .ge 28, 3) := by decide +kernel
theorem dX12_put_9 : decode cX12_put 9 = .ok (.aload_n 0, 1) := by decide +kernel
theorem dX12_put_10 : decode cX12_put 10 = .ok (.iload_n 1, 1) := by decide +kernel
theorem dX12_put_11 : decode cX12_put 11 = .ok (.iload 5, 2) := by decide +kernel
theorem dX12_put_13 : decode cX12_put 13 = .ok (.iadd, 1) := by decide +kernel
theorem dX12_put_14 : decode cX12_put 14 = .ok (.lload_n 3, 1) := by decide +kernel
theorem dX12_put_15 : decode cX12_put 15 = .ok (.bipush 8, 2) := by decide +kernel
theorem dX12_put_17 : decode cX12_put 17 = .ok (.iload_n 2, 1) := by decide +kernel
theorem dX12_put_18 : decode cX12_put 18 = .ok (.iconst 1, 1) := by decide +kernel
theorem dX12_put_19 : decode cX12_put 19 = .ok (.isub, 1) := by decide +kernel
theorem dX12_put_20 : decode cX12_put 20 = .ok (.iload 5, 2) := by decide +kernel
theorem dX12_put_22 : decode cX12_put 22 = .ok (.isub, 1) := by decide +kernel
theorem dX12_put_23 : decode cX12_put 23 = .ok (.imul, 1) := by decide +kernel
theorem dX12_put_24 : decode cX12_put 24 = .ok (.lshr, 1) := by decide +kernel
theorem dX12_put_25 : decode cX12_put 25 = .ok (.l2i, 1) := by decide +kernel
theorem dX12_put_26 : decode cX12_put 26 = .ok (.i2b, 1) := by decide +kernel
theorem dX12_put_27 : decode cX12_put 27 = .ok (.bastore, 1) := by decide +kernel
theorem dX12_put_28 : decode cX12_put 28 = .ok (.iinc 5 1, 3) := by decide +kernel
theorem dX12_put_31 : decode cX12_put 31 = .ok (.goto (-28), 3) := by decide +kernel
theorem dX12_put_34 : decode cX12_put 34 = .ok (.return_, 1) := by decide +kernel
theorem yv_X12_put : YS yX12_put cX12_put 6 none 4 := ⟨kw5_124, kw1_10, kw5_125, by decide +kernel⟩
set_option maxHeartbeats 4000000 in
set_option maxRecDepth 100000 in
theorem c_X12_put {l : Launch} {D : va_G} {cy : Nat → ClassId} {ws : va_W} {kr ro N : Nat} {f : Nat → UInt8} (hr0 : ws[kr]? = some (ro, .inl (cy 0, N, .inl (bt f)))) (hN : N ≤ 1700) {a many x : Nat} {v : Int64} (hm : many ≤ 8) (hk : a + many ≤ N) (hv : ∀ k, k < many → v.toBitVec.toNat / 2 ^ (8 * k) % 256 = x / 2 ^ (8 * k) % 256) : WR (S := (Nat → UInt8)) l yX12_put cX12_put 6 none 0 0 0 0 [.ref ro, .int (nI a), .int (nI many), .long v] D cy ws (fun _ => none) (fun g => g = tg_put f a many x) (fun g => ws.set kr (ro, .inl (cy 0, N, .inl (bt g)))) := by
  refine WRv (by decide) (lv0 := [(0, .ref ro), (1, .int (nI a)), (2, .int (nI many)), (3, .long v)]) rfl (Nat.le_of_ble_eq_true rfl) ?_
  intro p e s m args below meth c ls A Q S hnm hP hK hD hS hA hend hl
  have hx := S.1
  have hb := S.2.1
  have hown : s.vm.findClass RX12 = some m.cls := S.2.2.2.1
  have ht : ∀ w ∈ lw_g, w.before args s = true := fun w h => S.2.2.2.2 w (List.mem_cons_of_mem _ h)
  refine nv_iconst (k := 0) hx hb dX12_put_0 rfl ?_
  refine lv_istore (lv' := [(5, .int (nI 0)), (0, .ref ro), (1, .int (nI a)), (2, .int (nI many)), (3, .long v)]) hx hb dX12_put_1 hl (by decide) rfl (fun ls hl => ?_)
  have L3 : ∀ (fu j : Nat) (H : Heap) (locs : List Loc), many - j < fu → j ≤ many → va_P D vwCl (ws.set kr (ro, .inl (cy 0, N, .inl (bt (fun i => if a ≤ i ∧ i < a + j then UInt8.ofNat (x / 2 ^ (8 * (many - 1 - (i - a)))) else f i))))) H → va_D A (ws.set kr (ro, .inl (cy 0, N, .inl (bt (fun i => if a ≤ i ∧ i < a + j then UInt8.ofNat (x / 2 ^ (8 * (many - 1 - (i - a)))) else f i))))) → va_S A s.heap H locs → ∀ ls : Array Slot, lv_has ls 6 [(0, .ref ro), (1, .int (nI a)), (2, .int (nI many)), (3, .long v), (5, .int (nI j))] → W p l e (rmw 0 0 0 0) s m args below meth c H locs 0 0 Q (F0 m 3 ls []) := by
    intro fu
    induction fu with
    | zero => intro j H locs h9; omega
    | succ fu ih =>
      intro j H locs hfu hj hP hD hS ls hl
      refine lv_iload hx hb dX12_put_3 (lv_at hl 4 rfl) ?_
      refine lv_iload_n hx hb dX12_put_5 rfl (lv_at hl 2 rfl) ?_
      refine nv_icmp_ge (tgt := 34) hx hb dX12_put_6 (by decide) (by omega) (by omega) (fun h6 => ?_) (fun h6 => ?_)
      · skip
        rw [show j = many by omega] at hP hD
        exact hend _ rfl hP hD hS dX12_put_34
      refine lv_aload_n hx hb dX12_put_9 rfl (lv_at hl 0 rfl) ?_
      refine lv_iload_n hx hb dX12_put_10 rfl (lv_at hl 1 rfl) ?_
      refine lv_iload hx hb dX12_put_11 (lv_at hl 4 rfl) ?_
      refine nv_iadd hx hb dX12_put_13 ?_
      refine lv_lload_n hx hb dX12_put_14 rfl (lv_at hl 3 rfl) ?_
      refine nv_bipush (k := 8) hx hb dX12_put_15 (by decide) ?_
      refine lv_iload_n hx hb dX12_put_17 rfl (lv_at hl 2 rfl) ?_
      refine nv_iconst (k := 1) hx hb dX12_put_18 rfl ?_
      refine nv_isub hx hb (by omega) dX12_put_19 ?_
      refine lv_iload hx hb dX12_put_20 (lv_at hl 4 rfl) ?_
      refine nv_isub hx hb (by omega) dX12_put_22 ?_
      refine nv_imul hx hb dX12_put_23 ?_
      refine lv_lshr hx hb dX12_put_24 rfl ?_
      refine lv_l2i hx hb dX12_put_25 rfl ?_
      refine lv_i2b hx hb dX12_put_26 rfl ?_
      refine nv_bast hx hb hK hP hD hS kr (List.getElem?_set_self (lst_lt hr0)) (by omega) (by omega) dX12_put_27 (fun H locs hP hD hS => ?_)
      rw [List.set_set] at hP hD
      refine lv_iinc (v := (nI (j + 1))) (lv' := [(5, .int (nI (j + 1))), (0, .ref ro), (1, .int (nI a)), (2, .int (nI many)), (3, .long v)]) hx hb dX12_put_28 hl (k := 4) rfl (nI_inc _ _) (by decide) rfl (fun ls hl => ?_)
      refine lv_goto (tgt := 3) hx hb dX12_put_31 (by decide) ?_
      have e1 : by8 ((v >>> ((nI (8 * (many - 1 - j))).toInt64 &&& 63)).toInt32) = UInt8.ofNat (x / 2 ^ (8 * (many - 1 - j))) := by8_ar (by omega) (hv (many - 1 - j) (by omega))
      rw [by8_n, e1, tg_put_step f a many x j (by omega)] at hP hD
      exact ih (j + 1) H locs (by omega) (by omega) hP hD hS ls (lv_sub hl [1, 2, 3, 4, 0] rfl)
  have e0 : ws.set kr (ro, .inl (cy 0, N, .inl (bt (fun i => if a ≤ i ∧ i < a + 0 then UInt8.ofNat (x / 2 ^ (8 * (many - 1 - (i - a)))) else f i)))) = ws := by
    rw [show (fun i => if a ≤ i ∧ i < a + 0 then UInt8.ofNat (x / 2 ^ (8 * (many - 1 - (i - a)))) else f i) = f from by funext i; rw [if_neg (by omega)]]
    exact lst_same hr0
  exact L3 (many + 1) 0 s.heap [] (by omega) (by omega) (by rw [e0]; exact hP) (by rw [e0]; exact hD) hS ls (lv_sub hl [1, 2, 3, 4, 0] rfl)
theorem dX12_anew_0 : decode cX12_anew 0 = .ok (.aload_n 0, 1) := by decide +kernel
theorem dX12_anew_1 : decode cX12_anew 1 = .ok (.getfield 51, 3) := by decide +kernel
theorem dX12_anew_4 : decode cX12_anew 4 = .ok (.iload_n 1, 1) := by decide +kernel
theorem dX12_anew_5 : decode cX12_anew 5 = .ok (.iaload, 1) := by decide +kernel
theorem dX12_anew_6 : decode cX12_anew 6 = .ok (.istore_n 2, 1) := by decide +kernel
theorem dX12_anew_7 : decode cX12_anew 7 = .ok (.iload_n 2, 1) := by decide +kernel
theorem dX12_anew_8 : decode cX12_anew 8 = .ok (.ifCond .ne 30, 3) := by decide +kernel
theorem dX12_anew_11 : decode cX12_anew 11 = .ok (.aload_n 0, 1) := by decide +kernel
theorem dX12_anew_12 : decode cX12_anew 12 = .ok (.getfield 23, 3) := by decide +kernel
theorem dX12_anew_15 : decode cX12_anew 15 = .ok (.aload_n 0, 1) := by decide +kernel
theorem dX12_anew_16 : decode cX12_anew 16 = .ok (.getfield 42, 3) := by decide +kernel
theorem dX12_anew_19 : decode cX12_anew 19 = .ok (.iload_n 1, 1) := by decide +kernel
theorem dX12_anew_20 : decode cX12_anew 20 = .ok (.iaload, 1) := by decide +kernel
theorem dX12_anew_21 : decode cX12_anew 21 = .ok (.iaload, 1) := by decide +kernel
theorem dX12_anew_22 : decode cX12_anew 22 = .ok (.bipush 17, 2) := by decide +kernel
theorem dX12_anew_24 : decode cX12_anew 24 = .ok (.if_icmp .ne 9, 3) := by decide +kernel
theorem dX12_anew_27 : decode cX12_anew 27 = .ok (.sipush 300, 3) := by decide +kernel
theorem dX12_anew_30 : decode cX12_anew 30 = .ok (.goto 38, 3) := by decide +kernel
theorem dX12_anew_33 : decode cX12_anew 33 = .ok (.bipush 60, 2) := by decide +kernel
theorem dX12_anew_35 : decode cX12_anew 35 = .ok (.goto 33, 3) := by decide +kernel
theorem dX12_anew_38 : decode cX12_anew 38 = .ok (.iload_n 2, 1) := by decide +kernel
theorem dX12_anew_39 : decode cX12_anew 39 = .ok (.iconst 2, 1) := by decide +kernel
theorem dX12_anew_40 : decode cX12_anew 40 = .ok (.if_icmp .ne 8, 3) := by decide +kernel
theorem dX12_anew_43 : decode cX12_anew 43 = .ok (.bipush 6, 2) := by decide +kernel
theorem dX12_anew_45 : decode cX12_anew 45 = .ok (.goto 23, 3) := by decide +kernel
theorem dX12_anew_48 : decode cX12_anew 48 = .ok (.iload_n 2, 1) := by decide +kernel
theorem dX12_anew_49 : decode cX12_anew 49 = .ok (.iconst 2, 1) := by decide +kernel
theorem dX12_anew_50 : decode cX12_anew 50 = .ok (.if_icmp .le 15, 3) := by decide +kernel
theorem dX12_anew_53 : decode cX12_anew 53 = .ok (.iload_n 2, 1) := by decide +kernel
theorem dX12_anew_54 : decode cX12_anew 54 = .ok (.bipush 6, 2) := by decide +kernel
theorem dX12_anew_56 : decode cX12_anew 56 = .ok (.if_icmp .ge 9, 3) := by decide +kernel
theorem dX12_anew_59 : decode cX12_anew 59 = .ok (.sipush 7200, 3) := by decide +kernel
theorem dX12_anew_62 : decode cX12_anew 62 = .ok (.goto 6, 3) := by decide +kernel
theorem dX12_anew_65 : decode cX12_anew 65 = .ok (.sipush 240, 3) := by decide +kernel
theorem dX12_anew_68 : decode cX12_anew 68 = .ok (.istore_n 3, 1) := by decide +kernel
theorem dX12_anew_69 : decode cX12_anew 69 = .ok (.aload_n 0, 1) := by decide +kernel
theorem dX12_anew_70 : decode cX12_anew 70 = .ok (.getfield 54, 3) := by decide +kernel
theorem dX12_anew_73 : decode cX12_anew 73 = .ok (.iload_n 1, 1) := by decide +kernel
theorem dX12_anew_74 : decode cX12_anew 74 = .ok (.aload_n 0, 1) := by decide +kernel
theorem dX12_anew_75 : decode cX12_anew 75 = .ok (.getfield 163, 3) := by decide +kernel
theorem dX12_anew_78 : decode cX12_anew 78 = .ok (.iload_n 3, 1) := by decide +kernel
theorem dX12_anew_79 : decode cX12_anew 79 = .ok (.iadd, 1) := by decide +kernel
theorem dX12_anew_80 : decode cX12_anew 80 = .ok (.iastore, 1) := by decide +kernel
theorem dX12_anew_81 : decode cX12_anew 81 = .ok (.return_, 1) := by decide +kernel
theorem yv_X12_anew : YV RX12 yX12_anew cX12_anew 4 none 1 := ⟨kw5_108, kws_37, kw1_10, kw5_109, by decide +kernel⟩
set_option maxHeartbeats 4000000 in
set_option maxRecDepth 100000 in
theorem c_X12_anew {l : Launch} {D : va_G} {cy : Nat → ClassId} {o : Nat} {ad : Nat → Nat} {tl : va_W} {tp os sz bits F G u nb ns T M id : Nat} {ft fo fi : Nat → UInt8} {g : Nat → Int32} {pt ih il ip pn op so fa fp st en dr : Nat → Nat} {x : Nat} (hx0 : x < 128) (hst : st x < 2 ^ 31) (hso : so x < 64) (hpt : pt (so x) < 2 ^ 31) : WR (S := Unit) l yX12_anew cX12_anew 4 none 0 0 0 0 [.ref o, .int (nI x)] D cy (mW cy o ad tp os sz bits F G u nb ns T M id ft fo fi g pt ih il ip pn op so fa fp st en dr ++ tl) (fun _ => none) (fun _ => True) (fun _ => mW cy o ad tp os sz bits F G u nb ns T M id ft fo fi g pt ih il ip pn op so fa fp st (va_up en x (T + tg_life (st x) (pt (so x)))) dr ++ tl) := by
  refine WRv (by decide) (lv0 := [(0, .ref o), (1, .int (nI x))]) rfl (Nat.le_of_ble_eq_true rfl) ?_
  intro p e s m args below meth c ls A Q S hnm hP hK hD hS hA hend hl
  have hx := S.1
  have hb := S.2.1
  have hown : s.vm.findClass RX12 = some m.cls := S.2.2.2.1
  have ht : ∀ w ∈ lw_g, w.before args s = true := fun w h => S.2.2.2.2 w (List.mem_cons_of_mem _ h)
  have hP : va_P D vwCl (mW cy o ad tp os sz bits F G u nb ns T M id ft fo fi g pt ih il ip pn op so fa fp st en dr ++ tl) s.heap := hP
  refine lv_aload_n hx hb dX12_anew_0 rfl (lv_at hl 0 rfl) ?_
  refine va_get (ci := 9) (C := RX12) (T := TX12) (N := 28) hx hb ht iFX12 hown hK hP 0 rfl rfl 22 (by decide) (ht _ kw4_132) (fun _ h9 => h9) rfl dX12_anew_1 ?_
  refine lv_iload_n hx hb dX12_anew_4 rfl (lv_at hl 1 rfl) ?_
  refine nv_iald hx hb hK hP 14 rfl (by omega) (by omega) dX12_anew_5 ?_
  refine lv_istore_n (lv' := [(2, .int (nI (st x))), (0, .ref o), (1, .int (nI x))]) hx hb dX12_anew_6 rfl hl (by decide) rfl (fun ls hl => ?_)
  refine lv_iload_n hx hb dX12_anew_7 rfl (lv_at hl 0 rfl) ?_
  refine nv_if_ne (tgt := 38) hx hb dX12_anew_8 (by decide) (by omega) (fun h8 => ?_) (fun h8 => ?_)
  · skip
    refine lv_iload_n hx hb dX12_anew_38 rfl (lv_at hl 0 rfl) ?_
    refine nv_iconst (k := 2) hx hb dX12_anew_39 rfl ?_
    refine nv_icmp_ne (tgt := 48) hx hb dX12_anew_40 (by decide) (by omega) (by omega) (fun h40 => ?_) (fun h40 => ?_)
    · skip
      refine lv_iload_n hx hb dX12_anew_48 rfl (lv_at hl 0 rfl) ?_
      refine nv_iconst (k := 2) hx hb dX12_anew_49 rfl ?_
      refine nv_icmp_le (tgt := 65) hx hb dX12_anew_50 (by decide) (by omega) (by omega) (fun h50 => ?_) (fun h50 => ?_)
      · skip
        refine nv_sipush (k := 240) hx hb dX12_anew_65 (by decide) ?_
        have el : 240 = tg_life (st x) (pt (so x)) := by unfold tg_life; (repeat' split) <;> omega
        rw [el]
        refine lv_istore_n (lv' := [(3, .int (nI (tg_life (st x) (pt (so x))))), (2, .int (nI (st x))), (0, .ref o), (1, .int (nI x))]) hx hb dX12_anew_68 rfl hl (by decide) rfl (fun ls hl => ?_)
        refine lv_aload_n hx hb dX12_anew_69 rfl (lv_at hl 2 rfl) ?_
        refine va_get (ci := 9) (C := RX12) (T := TX12) (N := 28) hx hb ht iFX12 hown hK hP 0 rfl rfl 23 (by decide) (ht _ kw4_133) (fun _ h9 => h9) rfl dX12_anew_70 ?_
        refine lv_iload_n hx hb dX12_anew_73 rfl (lv_at hl 3 rfl) ?_
        refine lv_aload_n hx hb dX12_anew_74 rfl (lv_at hl 2 rfl) ?_
        refine va_get (ci := 9) (C := RX12) (T := TX12) (N := 28) hx hb ht iFX12 hown hK hP 0 rfl rfl 24 (by decide) (ht _ kw4_134) (fun _ h9 => h9) rfl dX12_anew_75 ?_
        refine lv_iload_n hx hb dX12_anew_78 rfl (lv_at hl 0 rfl) ?_
        refine nv_iadd hx hb dX12_anew_79 ?_
        refine nv_iast hx hb hK hP hD hS 15 rfl (by omega) (by omega) dX12_anew_80 (fun H locs hP hD hS => ?_)
        rw [ni_upd] at hP hD
        have hP : va_P D vwCl (mW cy o ad tp os sz bits F G u nb ns T M id ft fo fi g pt ih il ip pn op so fa fp st (va_up en x (T + (tg_life (st x) (pt (so x))))) dr ++ tl) H := hP
        have hD : va_D A (mW cy o ad tp os sz bits F G u nb ns T M id ft fo fi g pt ih il ip pn op so fa fp st (va_up en x (T + (tg_life (st x) (pt (so x))))) dr ++ tl) := hD
        exact hend () trivial hP hD hS dX12_anew_81
      refine lv_iload_n hx hb dX12_anew_53 rfl (lv_at hl 0 rfl) ?_
      refine nv_bipush (k := 6) hx hb dX12_anew_54 (by decide) ?_
      refine nv_icmp_ge (tgt := 65) hx hb dX12_anew_56 (by decide) (by omega) (by omega) (fun h56 => ?_) (fun h56 => ?_)
      · skip
        refine nv_sipush (k := 240) hx hb dX12_anew_65 (by decide) ?_
        have el : 240 = tg_life (st x) (pt (so x)) := by unfold tg_life; (repeat' split) <;> omega
        rw [el]
        refine lv_istore_n (lv' := [(3, .int (nI (tg_life (st x) (pt (so x))))), (2, .int (nI (st x))), (0, .ref o), (1, .int (nI x))]) hx hb dX12_anew_68 rfl hl (by decide) rfl (fun ls hl => ?_)
        refine lv_aload_n hx hb dX12_anew_69 rfl (lv_at hl 2 rfl) ?_
        refine va_get (ci := 9) (C := RX12) (T := TX12) (N := 28) hx hb ht iFX12 hown hK hP 0 rfl rfl 23 (by decide) (ht _ kw4_133) (fun _ h9 => h9) rfl dX12_anew_70 ?_
        refine lv_iload_n hx hb dX12_anew_73 rfl (lv_at hl 3 rfl) ?_
        refine lv_aload_n hx hb dX12_anew_74 rfl (lv_at hl 2 rfl) ?_
        refine va_get (ci := 9) (C := RX12) (T := TX12) (N := 28) hx hb ht iFX12 hown hK hP 0 rfl rfl 24 (by decide) (ht _ kw4_134) (fun _ h9 => h9) rfl dX12_anew_75 ?_
        refine lv_iload_n hx hb dX12_anew_78 rfl (lv_at hl 0 rfl) ?_
        refine nv_iadd hx hb dX12_anew_79 ?_
        refine nv_iast hx hb hK hP hD hS 15 rfl (by omega) (by omega) dX12_anew_80 (fun H locs hP hD hS => ?_)
        rw [ni_upd] at hP hD
        have hP : va_P D vwCl (mW cy o ad tp os sz bits F G u nb ns T M id ft fo fi g pt ih il ip pn op so fa fp st (va_up en x (T + (tg_life (st x) (pt (so x))))) dr ++ tl) H := hP
        have hD : va_D A (mW cy o ad tp os sz bits F G u nb ns T M id ft fo fi g pt ih il ip pn op so fa fp st (va_up en x (T + (tg_life (st x) (pt (so x))))) dr ++ tl) := hD
        exact hend () trivial hP hD hS dX12_anew_81
      refine nv_sipush (k := 7200) hx hb dX12_anew_59 (by decide) ?_
      refine lv_goto (tgt := 68) hx hb dX12_anew_62 (by decide) ?_
      have el : 7200 = tg_life (st x) (pt (so x)) := by unfold tg_life; (repeat' split) <;> omega
      rw [el]
      refine lv_istore_n (lv' := [(3, .int (nI (tg_life (st x) (pt (so x))))), (2, .int (nI (st x))), (0, .ref o), (1, .int (nI x))]) hx hb dX12_anew_68 rfl hl (by decide) rfl (fun ls hl => ?_)
      refine lv_aload_n hx hb dX12_anew_69 rfl (lv_at hl 2 rfl) ?_
      refine va_get (ci := 9) (C := RX12) (T := TX12) (N := 28) hx hb ht iFX12 hown hK hP 0 rfl rfl 23 (by decide) (ht _ kw4_133) (fun _ h9 => h9) rfl dX12_anew_70 ?_
      refine lv_iload_n hx hb dX12_anew_73 rfl (lv_at hl 3 rfl) ?_
      refine lv_aload_n hx hb dX12_anew_74 rfl (lv_at hl 2 rfl) ?_
      refine va_get (ci := 9) (C := RX12) (T := TX12) (N := 28) hx hb ht iFX12 hown hK hP 0 rfl rfl 24 (by decide) (ht _ kw4_134) (fun _ h9 => h9) rfl dX12_anew_75 ?_
      refine lv_iload_n hx hb dX12_anew_78 rfl (lv_at hl 0 rfl) ?_
      refine nv_iadd hx hb dX12_anew_79 ?_
      refine nv_iast hx hb hK hP hD hS 15 rfl (by omega) (by omega) dX12_anew_80 (fun H locs hP hD hS => ?_)
      rw [ni_upd] at hP hD
      have hP : va_P D vwCl (mW cy o ad tp os sz bits F G u nb ns T M id ft fo fi g pt ih il ip pn op so fa fp st (va_up en x (T + (tg_life (st x) (pt (so x))))) dr ++ tl) H := hP
      have hD : va_D A (mW cy o ad tp os sz bits F G u nb ns T M id ft fo fi g pt ih il ip pn op so fa fp st (va_up en x (T + (tg_life (st x) (pt (so x))))) dr ++ tl) := hD
      exact hend () trivial hP hD hS dX12_anew_81
    refine nv_bipush (k := 6) hx hb dX12_anew_43 (by decide) ?_
    refine lv_goto (tgt := 68) hx hb dX12_anew_45 (by decide) ?_
    have el : 6 = tg_life (st x) (pt (so x)) := by unfold tg_life; (repeat' split) <;> omega
    rw [el]
    refine lv_istore_n (lv' := [(3, .int (nI (tg_life (st x) (pt (so x))))), (2, .int (nI (st x))), (0, .ref o), (1, .int (nI x))]) hx hb dX12_anew_68 rfl hl (by decide) rfl (fun ls hl => ?_)
    refine lv_aload_n hx hb dX12_anew_69 rfl (lv_at hl 2 rfl) ?_
    refine va_get (ci := 9) (C := RX12) (T := TX12) (N := 28) hx hb ht iFX12 hown hK hP 0 rfl rfl 23 (by decide) (ht _ kw4_133) (fun _ h9 => h9) rfl dX12_anew_70 ?_
    refine lv_iload_n hx hb dX12_anew_73 rfl (lv_at hl 3 rfl) ?_
    refine lv_aload_n hx hb dX12_anew_74 rfl (lv_at hl 2 rfl) ?_
    refine va_get (ci := 9) (C := RX12) (T := TX12) (N := 28) hx hb ht iFX12 hown hK hP 0 rfl rfl 24 (by decide) (ht _ kw4_134) (fun _ h9 => h9) rfl dX12_anew_75 ?_
    refine lv_iload_n hx hb dX12_anew_78 rfl (lv_at hl 0 rfl) ?_
    refine nv_iadd hx hb dX12_anew_79 ?_
    refine nv_iast hx hb hK hP hD hS 15 rfl (by omega) (by omega) dX12_anew_80 (fun H locs hP hD hS => ?_)
    rw [ni_upd] at hP hD
    have hP : va_P D vwCl (mW cy o ad tp os sz bits F G u nb ns T M id ft fo fi g pt ih il ip pn op so fa fp st (va_up en x (T + (tg_life (st x) (pt (so x))))) dr ++ tl) H := hP
    have hD : va_D A (mW cy o ad tp os sz bits F G u nb ns T M id ft fo fi g pt ih il ip pn op so fa fp st (va_up en x (T + (tg_life (st x) (pt (so x))))) dr ++ tl) := hD
    exact hend () trivial hP hD hS dX12_anew_81
  refine lv_aload_n hx hb dX12_anew_11 rfl (lv_at hl 1 rfl) ?_
  refine va_get (ci := 9) (C := RX12) (T := TX12) (N := 28) hx hb ht iFX12 hown hK hP 0 rfl rfl 12 (by decide) (ht _ kw4_122) (fun _ h9 => h9) rfl dX12_anew_12 ?_
  refine lv_aload_n hx hb dX12_anew_15 rfl (lv_at hl 1 rfl) ?_
  refine va_get (ci := 9) (C := RX12) (T := TX12) (N := 28) hx hb ht iFX12 hown hK hP 0 rfl rfl 19 (by decide) (ht _ kw4_129) (fun _ h9 => h9) rfl dX12_anew_16 ?_
  refine lv_iload_n hx hb dX12_anew_19 rfl (lv_at hl 2 rfl) ?_
  refine nv_iald hx hb hK hP 11 rfl (by omega) (by omega) dX12_anew_20 ?_
  refine nv_iald hx hb hK hP 5 rfl (by omega) (by omega) dX12_anew_21 ?_
  refine nv_bipush (k := 17) hx hb dX12_anew_22 (by decide) ?_
  refine nv_icmp_ne (tgt := 33) hx hb dX12_anew_24 (by decide) (by omega) (by omega) (fun h24 => ?_) (fun h24 => ?_)
  · skip
    refine nv_bipush (k := 60) hx hb dX12_anew_33 (by decide) ?_
    refine lv_goto (tgt := 68) hx hb dX12_anew_35 (by decide) ?_
    have el : 60 = tg_life (st x) (pt (so x)) := by unfold tg_life; (repeat' split) <;> omega
    rw [el]
    refine lv_istore_n (lv' := [(3, .int (nI (tg_life (st x) (pt (so x))))), (2, .int (nI (st x))), (0, .ref o), (1, .int (nI x))]) hx hb dX12_anew_68 rfl hl (by decide) rfl (fun ls hl => ?_)
    refine lv_aload_n hx hb dX12_anew_69 rfl (lv_at hl 2 rfl) ?_
    refine va_get (ci := 9) (C := RX12) (T := TX12) (N := 28) hx hb ht iFX12 hown hK hP 0 rfl rfl 23 (by decide) (ht _ kw4_133) (fun _ h9 => h9) rfl dX12_anew_70 ?_
    refine lv_iload_n hx hb dX12_anew_73 rfl (lv_at hl 3 rfl) ?_
    refine lv_aload_n hx hb dX12_anew_74 rfl (lv_at hl 2 rfl) ?_
    refine va_get (ci := 9) (C := RX12) (T := TX12) (N := 28) hx hb ht iFX12 hown hK hP 0 rfl rfl 24 (by decide) (ht _ kw4_134) (fun _ h9 => h9) rfl dX12_anew_75 ?_
    refine lv_iload_n hx hb dX12_anew_78 rfl (lv_at hl 0 rfl) ?_
    refine nv_iadd hx hb dX12_anew_79 ?_
    refine nv_iast hx hb hK hP hD hS 15 rfl (by omega) (by omega) dX12_anew_80 (fun H locs hP hD hS => ?_)
    rw [ni_upd] at hP hD
    have hP : va_P D vwCl (mW cy o ad tp os sz bits F G u nb ns T M id ft fo fi g pt ih il ip pn op so fa fp st (va_up en x (T + (tg_life (st x) (pt (so x))))) dr ++ tl) H := hP
    have hD : va_D A (mW cy o ad tp os sz bits F G u nb ns T M id ft fo fi g pt ih il ip pn op so fa fp st (va_up en x (T + (tg_life (st x) (pt (so x))))) dr ++ tl) := hD
    exact hend () trivial hP hD hS dX12_anew_81
  refine nv_sipush (k := 300) hx hb dX12_anew_27 (by decide) ?_
  refine lv_goto (tgt := 68) hx hb dX12_anew_30 (by decide) ?_
  have el : 300 = tg_life (st x) (pt (so x)) := by unfold tg_life; (repeat' split) <;> omega
  rw [el]
  refine lv_istore_n (lv' := [(3, .int (nI (tg_life (st x) (pt (so x))))), (2, .int (nI (st x))), (0, .ref o), (1, .int (nI x))]) hx hb dX12_anew_68 rfl hl (by decide) rfl (fun ls hl => ?_)
  refine lv_aload_n hx hb dX12_anew_69 rfl (lv_at hl 2 rfl) ?_
  refine va_get (ci := 9) (C := RX12) (T := TX12) (N := 28) hx hb ht iFX12 hown hK hP 0 rfl rfl 23 (by decide) (ht _ kw4_133) (fun _ h9 => h9) rfl dX12_anew_70 ?_
  refine lv_iload_n hx hb dX12_anew_73 rfl (lv_at hl 3 rfl) ?_
  refine lv_aload_n hx hb dX12_anew_74 rfl (lv_at hl 2 rfl) ?_
  refine va_get (ci := 9) (C := RX12) (T := TX12) (N := 28) hx hb ht iFX12 hown hK hP 0 rfl rfl 24 (by decide) (ht _ kw4_134) (fun _ h9 => h9) rfl dX12_anew_75 ?_
  refine lv_iload_n hx hb dX12_anew_78 rfl (lv_at hl 0 rfl) ?_
  refine nv_iadd hx hb dX12_anew_79 ?_
  refine nv_iast hx hb hK hP hD hS 15 rfl (by omega) (by omega) dX12_anew_80 (fun H locs hP hD hS => ?_)
  rw [ni_upd] at hP hD
  have hP : va_P D vwCl (mW cy o ad tp os sz bits F G u nb ns T M id ft fo fi g pt ih il ip pn op so fa fp st (va_up en x (T + (tg_life (st x) (pt (so x))))) dr ++ tl) H := hP
  have hD : va_D A (mW cy o ad tp os sz bits F G u nb ns T M id ft fo fi g pt ih il ip pn op so fa fp st (va_up en x (T + (tg_life (st x) (pt (so x))))) dr ++ tl) := hD
  exact hend () trivial hP hD hS dX12_anew_81
theorem dX12_becomes_0 : decode cX12_becomes 0 = .ok (.aload_n 0, 1) := by decide +kernel
theorem dX12_becomes_1 : decode cX12_becomes 1 = .ok (.getfield 51, 3) := by decide +kernel
theorem dX12_becomes_4 : decode cX12_becomes 4 = .ok (.iload_n 1, 1) := by decide +kernel
theorem dX12_becomes_5 : decode cX12_becomes 5 = .ok (.iload_n 2, 1) := by decide +kernel
theorem dX12_becomes_6 : decode cX12_becomes 6 = .ok (.iastore, 1) := by decide +kernel
theorem dX12_becomes_7 : decode cX12_becomes 7 = .ok (.aload_n 0, 1) := by decide +kernel
theorem dX12_becomes_8 : decode cX12_becomes 8 = .ok (.iload_n 1, 1) := by decide +kernel
theorem dX12_becomes_9 : decode cX12_becomes 9 = .ok (.invokevirtual 159, 3) := by decide +kernel
theorem dX12_becomes_12 : decode cX12_becomes 12 = .ok (.return_, 1) := by decide +kernel
theorem yv_X12_becomes : YV RX12 yX12_becomes cX12_becomes 3 none 2 := ⟨kw5_116, kws_39, kw1_10, kw5_117, by decide +kernel⟩
set_option maxHeartbeats 4000000 in
set_option maxRecDepth 100000 in
theorem c_X12_becomes {l : Launch} {D : va_G} {cy : Nat → ClassId} {o : Nat} {ad : Nat → Nat} {tl : va_W} {tp os sz bits F G u nb ns T M id : Nat} {ft fo fi : Nat → UInt8} {g : Nat → Int32} {pt ih il ip pn op so fa fp st en dr : Nat → Nat} {x y : Nat} (hx0 : x < 128) (hy0 : y < 2 ^ 31) (hso : so x < 64) (hpt : pt (so x) < 2 ^ 31) : WR (S := Unit) l yX12_becomes cX12_becomes 3 none 1 0 0 23 [.ref o, .int (nI x), .int (nI y)] D cy (mW cy o ad tp os sz bits F G u nb ns T M id ft fo fi g pt ih il ip pn op so fa fp st en dr ++ tl) (fun _ => none) (fun _ => True) (fun _ => mW cy o ad tp os sz bits F G u nb ns T M id ft fo fi g pt ih il ip pn op so fa fp (va_up st x y) (va_up en x (T + tg_life y (pt (so x)))) dr ++ tl) := by
  refine WRv (by decide) (lv0 := [(0, .ref o), (1, .int (nI x)), (2, .int (nI y))]) rfl (Nat.le_of_ble_eq_true rfl) ?_
  intro p e s m args below meth c ls A Q S hnm hP hK hD hS hA hend hl
  have hx := S.1
  have hb := S.2.1
  have hown : s.vm.findClass RX12 = some m.cls := S.2.2.2.1
  have ht : ∀ w ∈ lw_g, w.before args s = true := fun w h => S.2.2.2.2 w (List.mem_cons_of_mem _ h)
  have hP : va_P D vwCl (mW cy o ad tp os sz bits F G u nb ns T M id ft fo fi g pt ih il ip pn op so fa fp st en dr ++ tl) s.heap := hP
  refine lv_aload_n hx hb dX12_becomes_0 rfl (lv_at hl 0 rfl) ?_
  refine va_get (ci := 9) (C := RX12) (T := TX12) (N := 28) hx hb ht iFX12 hown hK hP 0 rfl rfl 22 (by decide) (ht _ kw4_132) (fun _ h9 => h9) rfl dX12_becomes_1 ?_
  refine lv_iload_n hx hb dX12_becomes_4 rfl (lv_at hl 1 rfl) ?_
  refine lv_iload_n hx hb dX12_becomes_5 rfl (lv_at hl 2 rfl) ?_
  refine nv_iast hx hb hK hP hD hS 14 rfl (by omega) (by omega) dX12_becomes_6 (fun H locs hP hD hS => ?_)
  rw [ni_upd] at hP hD
  have hP : va_P D vwCl (mW cy o ad tp os sz bits F G u nb ns T M id ft fo fi g pt ih il ip pn op so fa fp (va_up st x y) en dr ++ tl) H := hP
  have hD : va_D A (mW cy o ad tp os sz bits F G u nb ns T M id ft fo fi g pt ih il ip pn op so fa fp (va_up st x y) en dr ++ tl) := hD
  refine lv_aload_n hx hb dX12_becomes_7 rfl (lv_at hl 0 rfl) ?_
  refine lv_iload_n hx hb dX12_becomes_8 rfl (lv_at hl 1 rfl) ?_
  refine wr_V S (c_X12_anew (x := x) (by omega) (by rw [va_up_self]; omega) (by omega) (by omega)) kw5_106 yv_X12_anew ⟨Nat.le_of_ble_eq_true rfl, Nat.le_of_ble_eq_true rfl⟩ hK hP hD hS hA (va_recv hK hP (ci := 9) (q0 := 0) rfl rfl) rfl hl.1 rfl (Nat.le_of_ble_eq_true rfl) dX12_becomes_9 ⟨Nat.zero_le _, Nat.zero_le _⟩ (fun z_1 H locs hz_1 hP hD hS => ?_)
  have hP : va_P D vwCl (mW cy o ad tp os sz bits F G u nb ns T M id ft fo fi g pt ih il ip pn op so fa fp (va_up st x y) (va_up en x (T + tg_life ((va_up st x y) x) (pt (so x)))) dr ++ tl) H := hP
  have hD : va_D A (mW cy o ad tp os sz bits F G u nb ns T M id ft fo fi g pt ih il ip pn op so fa fp (va_up st x y) (va_up en x (T + tg_life ((va_up st x y) x) (pt (so x)))) dr ++ tl) := hD
  refine W.eq (g2 := F0 m 12 ls []) rfl ?_
  rw [va_up_self] at hP hD
  exact hend () trivial hP hD hS dX12_becomes_12
