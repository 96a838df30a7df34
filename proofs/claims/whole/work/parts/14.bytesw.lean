theorem dX1_resize_0 : decode cX1_resize 0 = .ok (.aload_n 0, 1) := by decide +kernel
theorem dX1_resize_1 : decode cX1_resize 1 = .ok (.iconst 0, 1) := by decide +kernel
theorem dX1_resize_2 : decode cX1_resize 2 = .ok (.iload_n 1, 1) := by decide +kernel
theorem dX1_resize_3 : decode cX1_resize 3 = .ok (.aload_n 0, 1) := by decide +kernel
theorem dX1_resize_4 : decode cX1_resize 4 = .ok (.getfield 13, 3) := by decide +kernel
theorem dX1_resize_7 : decode cX1_resize 7 = .ok (.arraylength, 1) := by decide +kernel
theorem dX1_resize_8 : decode cX1_resize 8 = .ok (.invokestatic 23, 3) := by decide +kernel
theorem dX1_resize_11 : decode cX1_resize 11 = .ok (.invokestatic 7, 3) := by decide +kernel
theorem dX1_resize_14 : decode cX1_resize 14 = .ok (.putfield 19, 3) := by decide +kernel
theorem dX1_resize_17 : decode cX1_resize 17 = .ok (.return_, 1) := by decide +kernel
theorem yv_X1_resize : YV RX1 yX1_resize cX1_resize 2 none 1 := ⟨kw1_225, kw1_226, kw1_2, kw1_227, by decide +kernel⟩
set_option maxHeartbeats 4000000 in
set_option maxRecDepth 100000 in
theorem c_X1_resize {l : Launch} {D : va_G} {cy : Nat → ClassId} {ws : va_W} {kb ka b ar N n : Nat} {f : Nat → UInt8} (hb0 : ws[kb]? = some (b, .inr (2, [.ref ar, .int (nI n)]))) (ha0 : ws[ka]? = some (ar, .inl (cy 0, N, .inl (bt f)))) (hnN : n ≤ N) (hN : N ≤ 1700) {x : Nat} (hx0 : x ≤ N) : WR (S := Unit) l yX1_resize cX1_resize 2 none 1 0 0 15 [.ref b, .int (nI x)] D cy ws (fun _ => none) (fun _ => True) (fun _ => wB ws kb ka b ar N cy f x) := by
  refine WRv (by decide) (lv0 := [(0, .ref b), (1, .int (nI x))]) rfl (Nat.le_of_ble_eq_true rfl) ?_
  intro p e s m args below meth c ls A Q S hnm hP hK hD hS hA hend hl
  have hx := S.1
  have hb := S.2.1
  have hown : s.vm.findClass RX1 = some m.cls := S.2.2.2.1
  have ht : ∀ w ∈ lw_g, w.before args s = true := fun w h => S.2.2.2.2 w (List.mem_cons_of_mem _ h)
  have hne : kb ≠ ka := lst_ne hb0 ha0 (fun z => by cases z)
  have hP : va_P D vwCl (wB ws kb ka b ar N cy f n) s.heap := by rw [wB_self hb0 ha0]; exact hP
  have hD : va_D A (wB ws kb ka b ar N cy f n) := by rw [wB_self hb0 ha0]; exact hD
  refine lv_aload_n hx hb dX1_resize_0 rfl (lv_at hl 0 rfl) ?_
  refine nv_iconst (k := 0) hx hb dX1_resize_1 rfl ?_
  refine lv_iload_n hx hb dX1_resize_2 rfl (lv_at hl 1 rfl) ?_
  refine lv_aload_n hx hb dX1_resize_3 rfl (lv_at hl 0 rfl) ?_
  refine va_get (ci := 2) (C := RX1) (T := TX1) (N := 2) hx hb ht iFX1 hown hK hP kb (wB_b hne hb0) rfl 0 (by decide) (ht _ kw1_40) (fun _ h9 => h9) rfl dX1_resize_4 ?_
  refine va_alen (v := nI (N)) hx hb hK hP ka 0 (wB_a ha0) rfl rfl dX1_resize_7 ?_
  refine nv_min hx hb (S.2.2.1.trans hl.1.symm) hown (ht _ kw1_228) (ht _ kw1_229) (ht _ kw1_3) (ht _ kw1_230) (Nat.le_of_ble_eq_true rfl) (Nat.le_of_ble_eq_true rfl) (Nat.zero_le _) (Nat.zero_le _) (by omega) (by omega) dX1_resize_8 ?_
  refine nv_max hx hb (S.2.2.1.trans hl.1.symm) hown (ht _ kw1_37) (ht _ kw1_38) (ht _ kw1_3) (ht _ kw1_39) (Nat.le_of_ble_eq_true rfl) (Nat.le_of_ble_eq_true rfl) (Nat.zero_le _) (Nat.zero_le _) (by omega) (by omega) dX1_resize_11 ?_
  refine va_put (ci := 2) (C := RX1) (T := TX1) (N := 2) (ty := tyX1 1) hx hb ht iFX1 tyX1 tyX1_ok nmX1 hown hK hP hD hS kb (wB_b hne hb0) rfl 1 (by decide) (ht _ kw1_41) (fun _ h9 => h9) rfl (by decide +kernel) (by first | rfl | decide) (by first | rfl | decide) (Nat.le_of_ble_eq_true rfl) dX1_resize_14 (fun H locs hP hD hS => ?_)
  rw [show ([.ref ar, .int (nI n)] : List Value).set 1 (.int (nI (max 0 (min x N)))) = [.ref ar, .int (nI (max 0 (min x N)))] from rfl, wB_setB hne] at hP hD
  rw [show max 0 (min x N) = x by omega] at hP hD
  exact hend () trivial hP hD hS dX1_resize_17
theorem dX1_put_0 : decode cX1_put 0 = .ok (.iload_n 1, 1) := by decide +kernel
theorem dX1_put_1 : decode cX1_put 1 = .ok (.ifCond .lt 19, 3) := by decide +kernel
theorem dX1_put_4 : decode cX1_put 4 = .ok (.iload_n 1, 1) := by decide +kernel
theorem dX1_put_5 : decode cX1_put 5 = .ok (.aload_n 0, 1) := by decide +kernel
theorem dX1_put_6 : decode cX1_put 6 = .ok (.getfield 19, 3) := by decide +kernel
theorem dX1_put_9 : decode cX1_put 9 = .ok (.if_icmp .ge 11, 3) := by decide +kernel
theorem dX1_put_12 : decode cX1_put 12 = .ok (.aload_n 0, 1) := by decide +kernel
theorem dX1_put_13 : decode cX1_put 13 = .ok (.getfield 13, 3) := by decide +kernel
theorem dX1_put_16 : decode cX1_put 16 = .ok (.iload_n 1, 1) := by decide +kernel
theorem dX1_put_17 : decode cX1_put 17 = .ok (.iload_n 2, 1) := by decide +kernel
theorem dX1_put_18 : decode cX1_put 18 = .ok (.i2b, 1) := by decide +kernel
theorem dX1_put_19 : decode cX1_put 19 = .ok (.bastore, 1) := by decide +kernel
theorem dX1_put_20 : decode cX1_put 20 = .ok (.return_, 1) := by decide +kernel
theorem yv_X1_put : YV RX1 yX1_put cX1_put 3 none 2 := ⟨kw3_122, kw3_123, kw1_2, kw3_124, by decide +kernel⟩
set_option maxHeartbeats 4000000 in
set_option maxRecDepth 100000 in
theorem c_X1_put {l : Launch} {D : va_G} {cy : Nat → ClassId} {ws : va_W} {kb ka b ar N n : Nat} {f : Nat → UInt8} (hb0 : ws[kb]? = some (b, .inr (2, [.ref ar, .int (nI n)]))) (ha0 : ws[ka]? = some (ar, .inl (cy 0, N, .inl (bt f)))) (hnN : n ≤ N) (hN : N ≤ 1700) {k : Nat} {x : Int32} (hk : k < n) : WR (S := (Nat → UInt8)) l yX1_put cX1_put 3 none 0 0 0 0 [.ref b, .int (nI k), .int x] D cy ws (fun _ => none) (fun g => g = va_up f k (by8 x)) (fun g => wB ws kb ka b ar N cy g n) := by
  refine WRv (by decide) (lv0 := [(0, .ref b), (1, .int (nI k)), (2, .int x)]) rfl (Nat.le_of_ble_eq_true rfl) ?_
  intro p e s m args below meth c ls A Q S hnm hP hK hD hS hA hend hl
  have hx := S.1
  have hb := S.2.1
  have hown : s.vm.findClass RX1 = some m.cls := S.2.2.2.1
  have ht : ∀ w ∈ lw_g, w.before args s = true := fun w h => S.2.2.2.2 w (List.mem_cons_of_mem _ h)
  have hne : kb ≠ ka := lst_ne hb0 ha0 (fun z => by cases z)
  have hP : va_P D vwCl (wB ws kb ka b ar N cy f n) s.heap := by rw [wB_self hb0 ha0]; exact hP
  have hD : va_D A (wB ws kb ka b ar N cy f n) := by rw [wB_self hb0 ha0]; exact hD
  refine lv_iload_n hx hb dX1_put_0 rfl (lv_at hl 1 rfl) ?_
  refine nv_if_lt (tgt := 20) hx hb dX1_put_1 (by decide) (by omega) ?_
  refine lv_iload_n hx hb dX1_put_4 rfl (lv_at hl 1 rfl) ?_
  refine lv_aload_n hx hb dX1_put_5 rfl (lv_at hl 0 rfl) ?_
  refine va_get (ci := 2) (C := RX1) (T := TX1) (N := 2) hx hb ht iFX1 hown hK hP kb (wB_b hne hb0) rfl 1 (by decide) (ht _ kw1_41) (fun _ h9 => h9) rfl dX1_put_6 ?_
  refine nv_icmp_ge (tgt := 20) hx hb dX1_put_9 (by decide) (by omega) (by omega) (fun h9 => ?_) (fun h9 => ?_)
  · skip
    exact absurd hk (by omega)
  refine lv_aload_n hx hb dX1_put_12 rfl (lv_at hl 0 rfl) ?_
  refine va_get (ci := 2) (C := RX1) (T := TX1) (N := 2) hx hb ht iFX1 hown hK hP kb (wB_b hne hb0) rfl 0 (by decide) (ht _ kw1_40) (fun _ h9 => h9) rfl dX1_put_13 ?_
  refine lv_iload_n hx hb dX1_put_16 rfl (lv_at hl 1 rfl) ?_
  refine lv_iload_n hx hb dX1_put_17 rfl (lv_at hl 2 rfl) ?_
  refine lv_i2b hx hb dX1_put_18 rfl ?_
  refine nv_bast hx hb hK hP hD hS ka (wB_a ha0) (by omega) (by omega) dX1_put_19 (fun H locs hP hD hS => ?_)
  rw [wB_setA] at hP hD
  rw [by8_n] at hP hD
  exact hend _ rfl hP hD hS dX1_put_20
theorem dX1_putNumber_0 : decode cX1_putNumber 0 = .ok (.iconst 0, 1) := by decide +kernel
theorem dX1_putNumber_1 : decode cX1_putNumber 1 = .ok (.istore 5, 2) := by decide +kernel
theorem dX1_putNumber_3 : decode cX1_putNumber 3 = .ok (.iload 5, 2) := by decide +kernel
theorem dX1_putNumber_5 : decode cX1_putNumber 5 = .ok (.iload_n 2, 1) := by decide +kernel
theorem dX1_putNumber_6 : decode cX1_putNumber 6 = .ok (.if_icmp .ge 49, 3) := by decide +kernel
theorem dX1_putNumber_9 : decode cX1_putNumber 9 = .ok (.iload_n 1, 1) := by decide +kernel
theorem dX1_putNumber_10 : decode cX1_putNumber 10 = .ok (.iload 5, 2) := by decide +kernel
theorem dX1_putNumber_12 : decode cX1_putNumber 12 = .ok (.iadd, 1) := by decide +kernel
theorem dX1_putNumber_13 : decode cX1_putNumber 13 = .ok (.istore 6, 2) := by decide +kernel
theorem dX1_putNumber_15 : decode cX1_putNumber 15 = .ok (.iload 6, 2) := by decide +kernel
theorem dX1_putNumber_17 : decode cX1_putNumber 17 = .ok (.ifCond .lt 32, 3) := by decide +kernel
theorem dX1_putNumber_20 : decode cX1_putNumber 20 = .ok (.iload 6, 2) := by decide +kernel
theorem dX1_putNumber_22 : decode cX1_putNumber 22 = .ok (.aload_n 0, 1) := by decide +kernel
theorem dX1_putNumber_23 : decode cX1_putNumber 23 = .ok (.getfield 19, 3) := by decide +kernel
theorem dX1_putNumber_26 : decode cX1_putNumber 26 = .ok (.if_icmp .ge 23, 3) := by decide +kernel
theorem dX1_putNumber_29 : decode cX1_putNumber 29 = .ok (.aload_n 0, 1) := by decide +kernel
theorem dX1_putNumber_30 : decode cX1_putNumber 30 = .ok (.getfield 13, 3) := by decide +kernel
theorem dX1_putNumber_33 : decode cX1_putNumber 33 = .ok (.iload 6, 2) := by decide +kernel
theorem dX1_putNumber_35 : decode cX1_putNumber 35 = .ok (.lload_n 3, 1) := by decide +kernel
theorem dX1_putNumber_36 : decode cX1_putNumber 36 = .ok (.bipush 8, 2) := by decide +kernel
theorem dX1_putNumber_38 : decode cX1_putNumber 38 = .ok (.iload_n 2, 1) := by decide +kernel
theorem dX1_putNumber_39 : decode cX1_putNumber 39 = .ok (.iconst 1, 1) := by decide +kernel
theorem dX1_putNumber_40 : decode cX1_putNumber 40 = .ok (.isub, 1) := by decide +kernel
theorem dX1_putNumber_41 : decode cX1_putNumber 41 = .ok (.iload 5, 2) := by decide +kernel
theorem dX1_putNumber_43 : decode cX1_putNumber 43 = .ok (.isub, 1) := by decide +kernel
theorem dX1_putNumber_44 : decode cX1_putNumber 44 = .ok (.imul, 1) := by decide +kernel
theorem dX1_putNumber_45 : decode cX1_putNumber 45 = .ok (.lushr, 1) := by decide +kernel
theorem dX1_putNumber_46 : decode cX1_putNumber 46 = .ok (.l2i, 1) := by decide +kernel
theorem dX1_putNumber_47 : decode cX1_putNumber 47 = .ok (.i2b, 1) := by decide +kernel
theorem dX1_putNumber_48 : decode cX1_putNumber 48 = .ok (.bastore, 1) := by decide +kernel
theorem dX1_putNumber_49 : decode cX1_putNumber 49 = .ok (.iinc 5 1, 3) := by decide +kernel
theorem dX1_putNumber_52 : decode cX1_putNumber 52 = .ok (.goto (-49), 3) := by decide +kernel
theorem dX1_putNumber_55 : decode cX1_putNumber 55 = .ok (.return_, 1) := by decide +kernel
theorem yv_X1_putNumber : YV RX1 yX1_putNumber cX1_putNumber 7 none 3 := ⟨kw1_237, kws_0, kw1_2, kw1_238, by decide +kernel⟩
set_option maxHeartbeats 4000000 in
set_option maxRecDepth 100000 in
theorem c_X1_putNumber {l : Launch} {D : va_G} {cy : Nat → ClassId} {ws : va_W} {kb ka b ar N n : Nat} {f : Nat → UInt8} (hb0 : ws[kb]? = some (b, .inr (2, [.ref ar, .int (nI n)]))) (ha0 : ws[ka]? = some (ar, .inl (cy 0, N, .inl (bt f)))) (hnN : n ≤ N) (hN : N ≤ 1700) {a many x : Nat} {v : Int64} (hm : many ≤ 8) (hk : a + many ≤ n) (hv : ∀ k, k < many → v.toBitVec.toNat / 2 ^ (8 * k) % 256 = x / 2 ^ (8 * k) % 256) : WR (S := (Nat → UInt8)) l yX1_putNumber cX1_putNumber 7 none 0 0 0 0 [.ref b, .int (nI a), .int (nI many), .long v] D cy ws (fun _ => none) (fun g => g = tg_put f a many x) (fun g => wB ws kb ka b ar N cy g n) := by
  refine WRv (by decide) (lv0 := [(0, .ref b), (1, .int (nI a)), (2, .int (nI many)), (3, .long v)]) rfl (Nat.le_of_ble_eq_true rfl) ?_
  intro p e s m args below meth c ls A Q S hnm hP hK hD hS hA hend hl
  have hx := S.1
  have hb := S.2.1
  have hown : s.vm.findClass RX1 = some m.cls := S.2.2.2.1
  have ht : ∀ w ∈ lw_g, w.before args s = true := fun w h => S.2.2.2.2 w (List.mem_cons_of_mem _ h)
  have hne : kb ≠ ka := lst_ne hb0 ha0 (fun z => by cases z)
  have hP : va_P D vwCl (wB ws kb ka b ar N cy f n) s.heap := by rw [wB_self hb0 ha0]; exact hP
  have hD : va_D A (wB ws kb ka b ar N cy f n) := by rw [wB_self hb0 ha0]; exact hD
  refine nv_iconst (k := 0) hx hb dX1_putNumber_0 rfl ?_
  refine lv_istore (lv' := [(5, .int (nI 0)), (0, .ref b), (1, .int (nI a)), (2, .int (nI many)), (3, .long v)]) hx hb dX1_putNumber_1 hl (by decide) rfl (fun ls hl => ?_)
  have L3 : ∀ (fu j : Nat) (H : Heap) (locs : List Loc), many - j < fu → j ≤ many → va_P D vwCl (wB ws kb ka b ar N cy (fun i => if a ≤ i ∧ i < a + j then UInt8.ofNat (x / 2 ^ (8 * (many - 1 - (i - a)))) else f i) n) H → va_D A (wB ws kb ka b ar N cy (fun i => if a ≤ i ∧ i < a + j then UInt8.ofNat (x / 2 ^ (8 * (many - 1 - (i - a)))) else f i) n) → va_S A s.heap H locs → ∀ ls : Array Slot, lv_has ls 7 [(0, .ref b), (1, .int (nI a)), (2, .int (nI many)), (3, .long v), (5, .int (nI j))] → W p l e (rmw 0 0 0 0) s m args below meth c H locs 0 0 Q (F0 m 3 ls []) := by
    intro fu
    induction fu with
    | zero => intro j H locs h9; omega
    | succ fu ih =>
      intro j H locs hfu hj hP hD hS ls hl
      refine lv_iload hx hb dX1_putNumber_3 (lv_at hl 4 rfl) ?_
      refine lv_iload_n hx hb dX1_putNumber_5 rfl (lv_at hl 2 rfl) ?_
      refine nv_icmp_ge (tgt := 55) hx hb dX1_putNumber_6 (by decide) (by omega) (by omega) (fun h6 => ?_) (fun h6 => ?_)
      · skip
        rw [show j = many by omega] at hP hD
        exact hend _ rfl hP hD hS dX1_putNumber_55
      refine lv_iload_n hx hb dX1_putNumber_9 rfl (lv_at hl 1 rfl) ?_
      refine lv_iload hx hb dX1_putNumber_10 (lv_at hl 4 rfl) ?_
      refine nv_iadd hx hb dX1_putNumber_12 ?_
      refine lv_istore (lv' := [(6, .int (nI (a + j))), (0, .ref b), (1, .int (nI a)), (2, .int (nI many)), (3, .long v), (5, .int (nI j))]) hx hb dX1_putNumber_13 hl (by decide) rfl (fun ls hl => ?_)
      refine lv_iload hx hb dX1_putNumber_15 (lv_at hl 0 rfl) ?_
      refine nv_if_lt (tgt := 49) hx hb dX1_putNumber_17 (by decide) (by omega) ?_
      refine lv_iload hx hb dX1_putNumber_20 (lv_at hl 0 rfl) ?_
      refine lv_aload_n hx hb dX1_putNumber_22 rfl (lv_at hl 1 rfl) ?_
      refine va_get (ci := 2) (C := RX1) (T := TX1) (N := 2) hx hb ht iFX1 hown hK hP kb (wB_b hne hb0) rfl 1 (by decide) (ht _ kw1_41) (fun _ h9 => h9) rfl dX1_putNumber_23 ?_
      refine nv_icmp_ge (tgt := 49) hx hb dX1_putNumber_26 (by decide) (by omega) (by omega) (fun h26 => ?_) (fun h26 => ?_)
      · skip
        refine lv_iinc (v := (nI (j + 1))) (lv' := [(5, .int (nI (j + 1))), (6, .int (nI (a + j))), (0, .ref b), (1, .int (nI a)), (2, .int (nI many)), (3, .long v)]) hx hb dX1_putNumber_49 hl (k := 5) rfl (nI_inc _ _) (by decide) rfl (fun ls hl => ?_)
        refine lv_goto (tgt := 3) hx hb dX1_putNumber_52 (by decide) ?_
        exact absurd hk (by omega)
      refine lv_aload_n hx hb dX1_putNumber_29 rfl (lv_at hl 1 rfl) ?_
      refine va_get (ci := 2) (C := RX1) (T := TX1) (N := 2) hx hb ht iFX1 hown hK hP kb (wB_b hne hb0) rfl 0 (by decide) (ht _ kw1_40) (fun _ h9 => h9) rfl dX1_putNumber_30 ?_
      refine lv_iload hx hb dX1_putNumber_33 (lv_at hl 0 rfl) ?_
      refine lv_lload_n hx hb dX1_putNumber_35 rfl (lv_at hl 4 rfl) ?_
      refine nv_bipush (k := 8) hx hb dX1_putNumber_36 (by decide) ?_
      refine lv_iload_n hx hb dX1_putNumber_38 rfl (lv_at hl 3 rfl) ?_
      refine nv_iconst (k := 1) hx hb dX1_putNumber_39 rfl ?_
      refine nv_isub hx hb (by omega) dX1_putNumber_40 ?_
      refine lv_iload hx hb dX1_putNumber_41 (lv_at hl 5 rfl) ?_
      refine nv_isub hx hb (by omega) dX1_putNumber_43 ?_
      refine nv_imul hx hb dX1_putNumber_44 ?_
      refine lv_lushr hx hb dX1_putNumber_45 rfl ?_
      refine lv_l2i hx hb dX1_putNumber_46 rfl ?_
      refine lv_i2b hx hb dX1_putNumber_47 rfl ?_
      refine nv_bast hx hb hK hP hD hS ka (wB_a ha0) (by omega) (by omega) dX1_putNumber_48 (fun H locs hP hD hS => ?_)
      rw [wB_setA] at hP hD
      refine lv_iinc (v := (nI (j + 1))) (lv' := [(5, .int (nI (j + 1))), (6, .int (nI (a + j))), (0, .ref b), (1, .int (nI a)), (2, .int (nI many)), (3, .long v)]) hx hb dX1_putNumber_49 hl (k := 5) rfl (nI_inc _ _) (by decide) rfl (fun ls hl => ?_)
      refine lv_goto (tgt := 3) hx hb dX1_putNumber_52 (by decide) ?_
      have e1 : by8 ((((v).toUInt64 >>> ((nI (8 * (many - 1 - j))).toInt64.toUInt64 &&& Int64.toUInt64 63)).toInt64).toInt32) = UInt8.ofNat (x / 2 ^ (8 * (many - 1 - j))) := by8_lr (by omega) (hv (many - 1 - j) (by omega))
      rw [by8_n, e1, tg_put_step f a many x j (by omega)] at hP hD
      exact ih (j + 1) H locs (by omega) (by omega) hP hD hS ls (lv_sub hl [2, 3, 4, 5, 0] rfl)
  have e0 : f = (fun i => if a ≤ i ∧ i < a + 0 then UInt8.ofNat (x / 2 ^ (8 * (many - 1 - (i - a)))) else f i) := by funext i; rw [if_neg (by omega)]
  exact L3 (many + 1) 0 s.heap [] (by omega) (by omega) (by rw [← e0]; exact hP) (by rw [← e0]; exact hD) hS ls (lv_sub hl [1, 2, 3, 4, 0] rfl)
theorem dX1_putPair_0 : decode cX1_putPair 0 = .ok (.aload_n 0, 1) := by decide +kernel
theorem dX1_putPair_1 : decode cX1_putPair 1 = .ok (.iload_n 1, 1) := by decide +kernel
theorem dX1_putPair_2 : decode cX1_putPair 2 = .ok (.iconst 2, 1) := by decide +kernel
theorem dX1_putPair_3 : decode cX1_putPair 3 = .ok (.iload_n 2, 1) := by decide +kernel
theorem dX1_putPair_4 : decode cX1_putPair 4 = .ok (.i2l, 1) := by decide +kernel
theorem dX1_putPair_5 : decode cX1_putPair 5 = .ok (.invokevirtual 30, 3) := by decide +kernel
theorem dX1_putPair_8 : decode cX1_putPair 8 = .ok (.return_, 1) := by decide +kernel
theorem yv_X1_putPair : YV RX1 yX1_putPair cX1_putPair 3 none 2 := ⟨kw3_127, kw3_128, kw1_2, kw3_129, by decide +kernel⟩
set_option maxHeartbeats 4000000 in
set_option maxRecDepth 100000 in
theorem c_X1_putPair {l : Launch} {D : va_G} {cy : Nat → ClassId} {ws : va_W} {kb ka b ar N n : Nat} {f : Nat → UInt8} (hb0 : ws[kb]? = some (b, .inr (2, [.ref ar, .int (nI n)]))) (ha0 : ws[ka]? = some (ar, .inl (cy 0, N, .inl (bt f)))) (hnN : n ≤ N) (hN : N ≤ 1700) {a x : Nat} (hk : a + 2 ≤ n) (hx0 : x < 2 ^ 32) : WR (S := (Nat → UInt8)) l yX1_putPair cX1_putPair 3 none 1 0 0 26 [.ref b, .int (nI a), .int (nI x)] D cy ws (fun _ => none) (fun g => g = tg_put f a 2 x) (fun g => wB ws kb ka b ar N cy g n) := by
  refine WRv (by decide) (lv0 := [(0, .ref b), (1, .int (nI a)), (2, .int (nI x))]) rfl (Nat.le_of_ble_eq_true rfl) ?_
  intro p e s m args below meth c ls A Q S hnm hP hK hD hS hA hend hl
  have hx := S.1
  have hb := S.2.1
  have hown : s.vm.findClass RX1 = some m.cls := S.2.2.2.1
  have ht : ∀ w ∈ lw_g, w.before args s = true := fun w h => S.2.2.2.2 w (List.mem_cons_of_mem _ h)
  have hne : kb ≠ ka := lst_ne hb0 ha0 (fun z => by cases z)
  have hP : va_P D vwCl (wB ws kb ka b ar N cy f n) s.heap := by rw [wB_self hb0 ha0]; exact hP
  have hD : va_D A (wB ws kb ka b ar N cy f n) := by rw [wB_self hb0 ha0]; exact hD
  refine lv_aload_n hx hb dX1_putPair_0 rfl (lv_at hl 0 rfl) ?_
  refine lv_iload_n hx hb dX1_putPair_1 rfl (lv_at hl 1 rfl) ?_
  refine nv_iconst (k := 2) hx hb dX1_putPair_2 rfl ?_
  refine lv_iload_n hx hb dX1_putPair_3 rfl (lv_at hl 2 rfl) ?_
  refine lv_i2l hx hb dX1_putPair_4 rfl ?_
  refine wr_V S (c_X1_putNumber (wB_b hne hb0) (wB_a ha0) hnN hN (a := a) (many := 2) (x := x) (v := (nI (x)).toInt64) (by omega) (by omega) (fun k hk => w_byte (by omega) k (by omega))) kw1_235 yv_X1_putNumber ⟨Nat.le_of_ble_eq_true rfl, Nat.le_of_ble_eq_true rfl⟩ hK hP hD hS hA (va_recv hK hP (ci := 2) (q0 := kb) rfl (wB_b hne hb0)) rfl hl.1 rfl (Nat.le_of_ble_eq_true rfl) dX1_putPair_5 ⟨Nat.zero_le _, Nat.zero_le _⟩ (fun g_1 H locs hg_1 hP hD hS => ?_)
  rw [wB_wB hne] at hP hD
  refine W.eq (g2 := F0 m 8 ls []) rfl ?_
  exact hend _ hg_1 hP hD hS dX1_putPair_8
theorem dX1_putQuad_0 : decode cX1_putQuad 0 = .ok (.aload_n 0, 1) := by decide +kernel
theorem dX1_putQuad_1 : decode cX1_putQuad 1 = .ok (.iload_n 1, 1) := by decide +kernel
theorem dX1_putQuad_2 : decode cX1_putQuad 2 = .ok (.iconst 4, 1) := by decide +kernel
theorem dX1_putQuad_3 : decode cX1_putQuad 3 = .ok (.iload_n 2, 1) := by decide +kernel
theorem dX1_putQuad_4 : decode cX1_putQuad 4 = .ok (.i2l, 1) := by decide +kernel
theorem dX1_putQuad_5 : decode cX1_putQuad 5 = .ok (.invokevirtual 30, 3) := by decide +kernel
theorem dX1_putQuad_8 : decode cX1_putQuad 8 = .ok (.return_, 1) := by decide +kernel
theorem yv_X1_putQuad : YV RX1 yX1_putQuad cX1_putQuad 3 none 2 := ⟨kw1_232, kw1_233, kw1_2, kw1_234, by decide +kernel⟩
set_option maxHeartbeats 4000000 in
set_option maxRecDepth 100000 in
theorem c_X1_putQuad {l : Launch} {D : va_G} {cy : Nat → ClassId} {ws : va_W} {kb ka b ar N n : Nat} {f : Nat → UInt8} (hb0 : ws[kb]? = some (b, .inr (2, [.ref ar, .int (nI n)]))) (ha0 : ws[ka]? = some (ar, .inl (cy 0, N, .inl (bt f)))) (hnN : n ≤ N) (hN : N ≤ 1700) {a x : Nat} (hk : a + 4 ≤ n) (hx0 : x < 2 ^ 32) : WR (S := (Nat → UInt8)) l yX1_putQuad cX1_putQuad 3 none 1 0 0 26 [.ref b, .int (nI a), .int (nI x)] D cy ws (fun _ => none) (fun g => g = tg_put f a 4 x) (fun g => wB ws kb ka b ar N cy g n) := by
  refine WRv (by decide) (lv0 := [(0, .ref b), (1, .int (nI a)), (2, .int (nI x))]) rfl (Nat.le_of_ble_eq_true rfl) ?_
  intro p e s m args below meth c ls A Q S hnm hP hK hD hS hA hend hl
  have hx := S.1
  have hb := S.2.1
  have hown : s.vm.findClass RX1 = some m.cls := S.2.2.2.1
  have ht : ∀ w ∈ lw_g, w.before args s = true := fun w h => S.2.2.2.2 w (List.mem_cons_of_mem _ h)
  have hne : kb ≠ ka := lst_ne hb0 ha0 (fun z => by cases z)
  have hP : va_P D vwCl (wB ws kb ka b ar N cy f n) s.heap := by rw [wB_self hb0 ha0]; exact hP
  have hD : va_D A (wB ws kb ka b ar N cy f n) := by rw [wB_self hb0 ha0]; exact hD
  refine lv_aload_n hx hb dX1_putQuad_0 rfl (lv_at hl 0 rfl) ?_
  refine lv_iload_n hx hb dX1_putQuad_1 rfl (lv_at hl 1 rfl) ?_
  refine nv_iconst (k := 4) hx hb dX1_putQuad_2 rfl ?_
  refine lv_iload_n hx hb dX1_putQuad_3 rfl (lv_at hl 2 rfl) ?_
  refine lv_i2l hx hb dX1_putQuad_4 rfl ?_
  refine wr_V S (c_X1_putNumber (wB_b hne hb0) (wB_a ha0) hnN hN (a := a) (many := 4) (x := x) (v := (nI (x)).toInt64) (by omega) (by omega) (fun k hk => w_byte (by omega) k (by omega))) kw1_235 yv_X1_putNumber ⟨Nat.le_of_ble_eq_true rfl, Nat.le_of_ble_eq_true rfl⟩ hK hP hD hS hA (va_recv hK hP (ci := 2) (q0 := kb) rfl (wB_b hne hb0)) rfl hl.1 rfl (Nat.le_of_ble_eq_true rfl) dX1_putQuad_5 ⟨Nat.zero_le _, Nat.zero_le _⟩ (fun g_1 H locs hg_1 hP hD hS => ?_)
  rw [wB_wB hne] at hP hD
  refine W.eq (g2 := F0 m 8 ls []) rfl ?_
  exact hend _ hg_1 hP hD hS dX1_putQuad_8
theorem dX1_putEight_0 : decode cX1_putEight 0 = .ok (.aload_n 0, 1) := by decide +kernel
theorem dX1_putEight_1 : decode cX1_putEight 1 = .ok (.iload_n 1, 1) := by decide +kernel
theorem dX1_putEight_2 : decode cX1_putEight 2 = .ok (.bipush 8, 2) := by decide +kernel
theorem dX1_putEight_4 : decode cX1_putEight 4 = .ok (.lload_n 2, 1) := by decide +kernel
theorem dX1_putEight_5 : decode cX1_putEight 5 = .ok (.invokevirtual 30, 3) := by decide +kernel
theorem dX1_putEight_8 : decode cX1_putEight 8 = .ok (.return_, 1) := by decide +kernel
theorem yv_X1_putEight : YV RX1 yX1_putEight cX1_putEight 4 none 2 := ⟨kw3_212, kw3_213, kw1_2, kw3_214, by decide +kernel⟩
set_option maxHeartbeats 4000000 in
set_option maxRecDepth 100000 in
theorem c_X1_putEight {l : Launch} {D : va_G} {cy : Nat → ClassId} {ws : va_W} {kb ka b ar N n : Nat} {f : Nat → UInt8} (hb0 : ws[kb]? = some (b, .inr (2, [.ref ar, .int (nI n)]))) (ha0 : ws[ka]? = some (ar, .inl (cy 0, N, .inl (bt f)))) (hnN : n ≤ N) (hN : N ≤ 1700) {a x : Nat} (hk : a + 8 ≤ n) (hx0 : x < 2 ^ 64) : WR (S := (Nat → UInt8)) l yX1_putEight cX1_putEight 4 none 1 0 0 26 [.ref b, .int (nI a), .long (lN (x))] D cy ws (fun _ => none) (fun g => g = tg_put f a 8 x) (fun g => wB ws kb ka b ar N cy g n) := by
  refine WRv (by decide) (lv0 := [(0, .ref b), (1, .int (nI a)), (2, .long (lN (x)))]) rfl (Nat.le_of_ble_eq_true rfl) ?_
  intro p e s m args below meth c ls A Q S hnm hP hK hD hS hA hend hl
  have hx := S.1
  have hb := S.2.1
  have hown : s.vm.findClass RX1 = some m.cls := S.2.2.2.1
  have ht : ∀ w ∈ lw_g, w.before args s = true := fun w h => S.2.2.2.2 w (List.mem_cons_of_mem _ h)
  have hne : kb ≠ ka := lst_ne hb0 ha0 (fun z => by cases z)
  have hP : va_P D vwCl (wB ws kb ka b ar N cy f n) s.heap := by rw [wB_self hb0 ha0]; exact hP
  have hD : va_D A (wB ws kb ka b ar N cy f n) := by rw [wB_self hb0 ha0]; exact hD
  refine lv_aload_n hx hb dX1_putEight_0 rfl (lv_at hl 0 rfl) ?_
  refine lv_iload_n hx hb dX1_putEight_1 rfl (lv_at hl 1 rfl) ?_
  refine nv_bipush (k := 8) hx hb dX1_putEight_2 (by decide) ?_
  refine lv_lload_n hx hb dX1_putEight_4 rfl (lv_at hl 2 rfl) ?_
  refine wr_V S (c_X1_putNumber (wB_b hne hb0) (wB_a ha0) hnN hN (a := a) (many := 8) (x := x) (v := lN (x)) (by omega) (by omega) (fun k hk => by rw [lN_toNat (by omega)])) kw1_235 yv_X1_putNumber ⟨Nat.le_of_ble_eq_true rfl, Nat.le_of_ble_eq_true rfl⟩ hK hP hD hS hA (va_recv hK hP (ci := 2) (q0 := kb) rfl (wB_b hne hb0)) rfl hl.1 rfl (Nat.le_of_ble_eq_true rfl) dX1_putEight_5 ⟨Nat.zero_le _, Nat.zero_le _⟩ (fun g_1 H locs hg_1 hP hD hS => ?_)
  rw [wB_wB hne] at hP hD
  refine W.eq (g2 := F0 m 8 ls []) rfl ?_
  exact hend _ hg_1 hP hD hS dX1_putEight_8
theorem dX1_copy_0 : decode cX1_copy 0 = .ok (.iload 4, 2) := by decide +kernel
theorem dX1_copy_2 : decode cX1_copy 2 = .ok (.ifCond .le 15, 3) := by decide +kernel
theorem dX1_copy_5 : decode cX1_copy 5 = .ok (.iload_n 2, 1) := by decide +kernel
theorem dX1_copy_6 : decode cX1_copy 6 = .ok (.ifCond .lt 11, 3) := by decide +kernel
theorem dX1_copy_9 : decode cX1_copy 9 = .ok (.iload_n 3, 1) := by decide +kernel
theorem dX1_copy_10 : decode cX1_copy 10 = .ok (.ifCond .lt 7, 3) := by decide +kernel
theorem dX1_copy_13 : decode cX1_copy 13 = .ok (.iconst 1, 1) := by decide +kernel
theorem dX1_copy_14 : decode cX1_copy 14 = .ok (.goto 4, 3) := by decide +kernel
theorem dX1_copy_17 : decode cX1_copy 17 = .ok (.iconst 0, 1) := by decide +kernel
theorem dX1_copy_18 : decode cX1_copy 18 = .ok (.istore 5, 2) := by decide +kernel
theorem dX1_copy_20 : decode cX1_copy 20 = .ok (.iload 5, 2) := by decide +kernel
theorem dX1_copy_22 : decode cX1_copy 22 = .ok (.ifCond .eq 40, 3) := by decide +kernel
theorem dX1_copy_25 : decode cX1_copy 25 = .ok (.iload 4, 2) := by decide +kernel
theorem dX1_copy_27 : decode cX1_copy 27 = .ok (.aload_n 1, 1) := by decide +kernel
theorem dX1_copy_28 : decode cX1_copy 28 = .ok (.getfield 19, 3) := by decide +kernel
theorem dX1_copy_31 : decode cX1_copy 31 = .ok (.iload_n 2, 1) := by decide +kernel
theorem dX1_copy_32 : decode cX1_copy 32 = .ok (.isub, 1) := by decide +kernel
theorem dX1_copy_33 : decode cX1_copy 33 = .ok (.if_icmp .gt 29, 3) := by decide +kernel
theorem dX1_copy_36 : decode cX1_copy 36 = .ok (.iload 4, 2) := by decide +kernel
theorem dX1_copy_38 : decode cX1_copy 38 = .ok (.aload_n 0, 1) := by decide +kernel
theorem dX1_copy_39 : decode cX1_copy 39 = .ok (.getfield 19, 3) := by decide +kernel
theorem dX1_copy_42 : decode cX1_copy 42 = .ok (.iload_n 3, 1) := by decide +kernel
theorem dX1_copy_43 : decode cX1_copy 43 = .ok (.isub, 1) := by decide +kernel
theorem dX1_copy_44 : decode cX1_copy 44 = .ok (.if_icmp .gt 18, 3) := by decide +kernel
theorem dX1_copy_47 : decode cX1_copy 47 = .ok (.aload_n 1, 1) := by decide +kernel
theorem dX1_copy_48 : decode cX1_copy 48 = .ok (.getfield 13, 3) := by decide +kernel
theorem dX1_copy_51 : decode cX1_copy 51 = .ok (.iload_n 2, 1) := by decide +kernel
theorem dX1_copy_52 : decode cX1_copy 52 = .ok (.aload_n 0, 1) := by decide +kernel
theorem dX1_copy_53 : decode cX1_copy 53 = .ok (.getfield 13, 3) := by decide +kernel
theorem dX1_copy_56 : decode cX1_copy 56 = .ok (.iload_n 3, 1) := by decide +kernel
theorem dX1_copy_57 : decode cX1_copy 57 = .ok (.iload 4, 2) := by decide +kernel
theorem dX1_copy_59 : decode cX1_copy 59 = .ok (.invokestatic 34, 3) := by decide +kernel
theorem dX1_copy_62 : decode cX1_copy 62 = .ok (.return_, 1) := by decide +kernel
theorem yv_X1_copy : YV RX1 yX1_copy cX1_copy 6 none 4 := ⟨kw3_136, kw3_137, kw1_2, kw3_138, by decide +kernel⟩
set_option maxHeartbeats 4000000 in
set_option maxRecDepth 100000 in
theorem c_X1_copy {l : Launch} {D : va_G} {cy : Nat → ClassId} {ws : va_W} {kb ka b ar N n : Nat} {f : Nat → UInt8} (hb0 : ws[kb]? = some (b, .inr (2, [.ref ar, .int (nI n)]))) (ha0 : ws[ka]? = some (ar, .inl (cy 0, N, .inl (bt f)))) (hnN : n ≤ N) (hN : N ≤ 1700) {kb2 ka2 b2 ar2 N2 n2 : Nat} {f2 : Nat → UInt8} (hb2 : ws[kb2]? = some (b2, .inr (2, [.ref ar2, .int (nI n2)]))) (ha2 : ws[ka2]? = some (ar2, .inl (cy 0, N2, .inl (bt f2)))) (hnN2 : n2 ≤ N2) (hN2 : N2 ≤ 1700) (hd1 : kb ≠ kb2) (hd2 : ka ≠ kb2) (hd3 : kb ≠ ka2) (hd4 : ka ≠ ka2) {a z k : Nat} (ha : a + k ≤ n2) (hz : z + k ≤ n) : WR (S := (Nat → UInt8)) l yX1_copy cX1_copy 6 none 1 0 0 40 [.ref b, .ref b2, .int (nI a), .int (nI z), .int (nI k)] D cy ws (fun _ => none) (fun g => g = va_cpy f2 f a z k) (fun g => wB ws kb ka b ar N cy g n) := by
  refine WRv (by decide) (lv0 := [(0, .ref b), (1, .ref b2), (2, .int (nI a)), (3, .int (nI z)), (4, .int (nI k))]) rfl (Nat.le_of_ble_eq_true rfl) ?_
  intro p e s m args below meth c ls A Q S hnm hP hK hD hS hA hend hl
  have hx := S.1
  have hb := S.2.1
  have hown : s.vm.findClass RX1 = some m.cls := S.2.2.2.1
  have ht : ∀ w ∈ lw_g, w.before args s = true := fun w h => S.2.2.2.2 w (List.mem_cons_of_mem _ h)
  have hne : kb ≠ ka := lst_ne hb0 ha0 (fun z => by cases z)
  have hP : va_P D vwCl (wB ws kb ka b ar N cy f n) s.heap := by rw [wB_self hb0 ha0]; exact hP
  have hD : va_D A (wB ws kb ka b ar N cy f n) := by rw [wB_self hb0 ha0]; exact hD
  refine lv_iload hx hb dX1_copy_0 (lv_at hl 4 rfl) ?_
  refine nv_if_le (tgt := 17) hx hb dX1_copy_2 (by decide) (by omega) (fun h2 => ?_) (fun h2 => ?_)
  · skip
    refine nv_iconst (k := 0) hx hb dX1_copy_17 rfl ?_
    refine lv_istore (lv' := [(5, .int (nI 0)), (0, .ref b), (1, .ref b2), (2, .int (nI a)), (3, .int (nI z)), (4, .int (nI k))]) hx hb dX1_copy_18 hl (by decide) rfl (fun ls hl => ?_)
    refine lv_iload hx hb dX1_copy_20 (lv_at hl 0 rfl) ?_
    refine nv_if_eq (tgt := 62) hx hb dX1_copy_22 (by decide) (by omega) (fun _ => ?_) (fun h => absurd h (by decide))
    first | (exfalso; omega) | exact hend f (by rw [show k = 0 by omega]; exact va_cpy0) hP hD hS dX1_copy_62
  refine lv_iload_n hx hb dX1_copy_5 rfl (lv_at hl 2 rfl) ?_
  refine nv_if_lt (tgt := 17) hx hb dX1_copy_6 (by decide) (by omega) ?_
  refine lv_iload_n hx hb dX1_copy_9 rfl (lv_at hl 3 rfl) ?_
  refine nv_if_lt (tgt := 17) hx hb dX1_copy_10 (by decide) (by omega) ?_
  refine nv_iconst (k := 1) hx hb dX1_copy_13 rfl ?_
  refine lv_goto (tgt := 18) hx hb dX1_copy_14 (by decide) ?_
  refine lv_istore (lv' := [(5, .int (nI 1)), (0, .ref b), (1, .ref b2), (2, .int (nI a)), (3, .int (nI z)), (4, .int (nI k))]) hx hb dX1_copy_18 hl (by decide) rfl (fun ls hl => ?_)
  refine lv_iload hx hb dX1_copy_20 (lv_at hl 0 rfl) ?_
  refine nv_if_eq (tgt := 62) hx hb dX1_copy_22 (by decide) (by omega) (fun h => absurd h (by decide)) (fun _ => ?_)
  refine lv_iload hx hb dX1_copy_25 (lv_at hl 5 rfl) ?_
  refine lv_aload_n hx hb dX1_copy_27 rfl (lv_at hl 2 rfl) ?_
  refine va_get (ci := 2) (C := RX1) (T := TX1) (N := 2) hx hb ht iFX1 hown hK hP kb2 (wB_o hd1 hd2 hb2) rfl 1 (by decide) (ht _ kw1_41) (fun _ h9 => h9) rfl dX1_copy_28 ?_
  refine lv_iload_n hx hb dX1_copy_31 rfl (lv_at hl 3 rfl) ?_
  refine nv_isub hx hb (by omega) dX1_copy_32 ?_
  refine nv_icmp_gt (tgt := 62) hx hb dX1_copy_33 (by decide) (by omega) (by omega) (fun h33 => ?_) (fun h33 => ?_)
  · skip
    first | (exfalso; omega) | exact hend f (by rw [show k = 0 by omega]; exact va_cpy0) hP hD hS dX1_copy_62
  refine lv_iload hx hb dX1_copy_36 (lv_at hl 5 rfl) ?_
  refine lv_aload_n hx hb dX1_copy_38 rfl (lv_at hl 1 rfl) ?_
  refine va_get (ci := 2) (C := RX1) (T := TX1) (N := 2) hx hb ht iFX1 hown hK hP kb (wB_b hne hb0) rfl 1 (by decide) (ht _ kw1_41) (fun _ h9 => h9) rfl dX1_copy_39 ?_
  refine lv_iload_n hx hb dX1_copy_42 rfl (lv_at hl 4 rfl) ?_
  refine nv_isub hx hb (by omega) dX1_copy_43 ?_
  refine nv_icmp_gt (tgt := 62) hx hb dX1_copy_44 (by decide) (by omega) (by omega) (fun h44 => ?_) (fun h44 => ?_)
  · skip
    first | (exfalso; omega) | exact hend f (by rw [show k = 0 by omega]; exact va_cpy0) hP hD hS dX1_copy_62
  refine lv_aload_n hx hb dX1_copy_47 rfl (lv_at hl 2 rfl) ?_
  refine va_get (ci := 2) (C := RX1) (T := TX1) (N := 2) hx hb ht iFX1 hown hK hP kb2 (wB_o hd1 hd2 hb2) rfl 0 (by decide) (ht _ kw1_40) (fun _ h9 => h9) rfl dX1_copy_48 ?_
  refine lv_iload_n hx hb dX1_copy_51 rfl (lv_at hl 3 rfl) ?_
  refine lv_aload_n hx hb dX1_copy_52 rfl (lv_at hl 1 rfl) ?_
  refine va_get (ci := 2) (C := RX1) (T := TX1) (N := 2) hx hb ht iFX1 hown hK hP kb (wB_b hne hb0) rfl 0 (by decide) (ht _ kw1_40) (fun _ h9 => h9) rfl dX1_copy_53 ?_
  refine lv_iload_n hx hb dX1_copy_56 rfl (lv_at hl 4 rfl) ?_
  refine lv_iload hx hb dX1_copy_57 (lv_at hl 5 rfl) ?_
  refine va_copyi hx hb (S.2.2.1.trans hl.1.symm) hown (ht _ kw3_139) (ht _ kw3_77) (ht _ kw3_76) (ht _ kw1_21) hK hP hD hS ka2 ka 0 0 (wB_o hd3 hd4 ha2) (wB_a ha0) rfl rfl rfl (nI_pos (by omega)) (nI_pos (by omega)) (nI_pos (by omega)) (by rw [nI_clamp (by omega), nI_clamp (by omega)]; omega) (by rw [nI_clamp (by omega), nI_clamp (by omega)]; omega) (fun i _ => u8_fit _) (Nat.le_of_ble_eq_true rfl) (Nat.le_of_ble_eq_true rfl) dX1_copy_59 (fun H locs hP hD hS => ?_)
  rw [nI_clamp (by omega), nI_clamp (by omega), nI_clamp (by omega), bt_cpy, wB_setA] at hP hD
  exact hend _ rfl hP hD hS dX1_copy_62
