theorem dX12_finish_0 : decode cX12_finish 0 = .ok (.bipush 40, 2) := by decide +kernel
theorem dX12_finish_2 : decode cX12_finish 2 = .ok (.iload_n 1, 1) := by decide +kernel
theorem dX12_finish_3 : decode cX12_finish 3 = .ok (.invokestatic 145, 3) := by decide +kernel
theorem dX12_finish_6 : decode cX12_finish 6 = .ok (.iadd, 1) := by decide +kernel
theorem dX12_finish_7 : decode cX12_finish 7 = .ok (.istore_n 2, 1) := by decide +kernel
theorem dX12_finish_8 : decode cX12_finish 8 = .ok (.aload_n 0, 1) := by decide +kernel
theorem dX12_finish_9 : decode cX12_finish 9 = .ok (.getfield 13, 3) := by decide +kernel
theorem dX12_finish_12 : decode cX12_finish 12 = .ok (.iload_n 2, 1) := by decide +kernel
theorem dX12_finish_13 : decode cX12_finish 13 = .ok (.iconst 2, 1) := by decide +kernel
theorem dX12_finish_14 : decode cX12_finish 14 = .ok (.aload_n 0, 1) := by decide +kernel
theorem dX12_finish_15 : decode cX12_finish 15 = .ok (.getfield 13, 3) := by decide +kernel
theorem dX12_finish_18 : decode cX12_finish 18 = .ok (.bipush 40, 2) := by decide +kernel
theorem dX12_finish_20 : decode cX12_finish 20 = .ok (.aload_n 0, 1) := by decide +kernel
theorem dX12_finish_21 : decode cX12_finish 21 = .ok (.getfield 234, 3) := by decide +kernel
theorem dX12_finish_24 : decode cX12_finish 24 = .ok (.iload_n 2, 1) := by decide +kernel
theorem dX12_finish_25 : decode cX12_finish 25 = .ok (.iload_n 1, 1) := by decide +kernel
theorem dX12_finish_26 : decode cX12_finish 26 = .ok (.invokestatic 148, 3) := by decide +kernel
theorem dX12_finish_29 : decode cX12_finish 29 = .ok (.i2l, 1) := by decide +kernel
theorem dX12_finish_30 : decode cX12_finish 30 = .ok (.invokestatic 239, 3) := by decide +kernel
theorem dX12_finish_33 : decode cX12_finish 33 = .ok (.aload_n 0, 1) := by decide +kernel
theorem dX12_finish_34 : decode cX12_finish 34 = .ok (.dup, 1) := by decide +kernel
theorem dX12_finish_35 : decode cX12_finish 35 = .ok (.getfield 231, 3) := by decide +kernel
theorem dX12_finish_38 : decode cX12_finish 38 = .ok (.iconst 1, 1) := by decide +kernel
theorem dX12_finish_39 : decode cX12_finish 39 = .ok (.iadd, 1) := by decide +kernel
theorem dX12_finish_40 : decode cX12_finish 40 = .ok (.putfield 231, 3) := by decide +kernel
theorem dX12_finish_43 : decode cX12_finish 43 = .ok (.return_, 1) := by decide +kernel
theorem yv_X12_finish : YV RX12 yX12_finish cX12_finish 3 none 1 := ⟨kw5_163, kws_46, kw1_10, kw5_164, by decide +kernel⟩
set_option maxHeartbeats 4000000 in
set_option maxRecDepth 100000 in
theorem c_X12_finish {l : Launch} {D : va_G} {cy : Nat → ClassId} {o : Nat} {ad : Nat → Nat} {tl : va_W} {tp os sz bits F G u nb ns T M id : Nat} {ft fo fi : Nat → UInt8} {g : Nat → Int32} {pt ih il ip pn op so fa fp st en dr : Nat → Nat} {q : Nat} (hq : q < 256) (hz : 40 + tg_sumAt q + 2 ≤ os) (hos : os ≤ 1640) : WR (S := Unit) l yX12_finish cX12_finish 3 none 4 0 0 96 [.ref o, .int (nI q)] D cy (mW cy o ad tp os sz bits F G u nb ns T M id ft fo fi g pt ih il ip pn op so fa fp st en dr ++ tl) (fun _ => none) (fun _ => True) (fun _ => mW cy o ad tp os sz bits F G u nb ns T (M + 1) id ft (tg_fin fo os 40 q) fi g pt ih il ip pn op so fa fp st en dr ++ tl) := by
  refine WRv (by decide) (lv0 := [(0, .ref o), (1, .int (nI q))]) rfl (Nat.le_of_ble_eq_true rfl) ?_
  intro p e s m args below meth c ls A Q S hnm hP hK hD hS hA hend hl
  have hx := S.1
  have hb := S.2.1
  have hown : s.vm.findClass RX12 = some m.cls := S.2.2.2.1
  have ht : ∀ w ∈ lw_g, w.before args s = true := fun w h => S.2.2.2.2 w (List.mem_cons_of_mem _ h)
  have hP : va_P D vwCl (mW cy o ad tp os sz bits F G u nb ns T M id ft fo fi g pt ih il ip pn op so fa fp st en dr ++ tl) s.heap := hP
  have hsl := tg_sumAt_le q
  refine nv_bipush (k := 40) hx hb dX12_finish_0 (by decide) ?_
  refine lv_iload_n hx hb dX12_finish_2 rfl (lv_at hl 1 rfl) ?_
  refine ro_S S (c_X12_placeOfSum (q := q) (by omega)) kw5_55 yv_X12_placeOfSum ⟨Nat.le_of_ble_eq_true rfl, Nat.le_of_ble_eq_true rfl⟩ hK hP rfl hl.1 rfl (Nat.le_of_ble_eq_true rfl) dX12_finish_3 ⟨Nat.zero_le _, Nat.zero_le _⟩ ?_
  have hq3 := tg_sumAt_le q
  refine nv_iadd hx hb dX12_finish_6 ?_
  refine lv_istore_n (lv' := [(2, .int (nI (40 + (tg_sumAt q)))), (0, .ref o), (1, .int (nI q))]) hx hb dX12_finish_7 rfl hl (by decide) rfl (fun ls hl => ?_)
  refine lv_aload_n hx hb dX12_finish_8 rfl (lv_at hl 1 rfl) ?_
  refine va_get (ci := 9) (C := RX12) (T := TX12) (N := 28) hx hb ht iFX12 hown hK hP 0 rfl rfl 2 (by decide) (ht _ kw4_112) (fun _ h9 => h9) rfl dX12_finish_9 ?_
  refine lv_iload_n hx hb dX12_finish_12 rfl (lv_at hl 0 rfl) ?_
  refine nv_iconst (k := 2) hx hb dX12_finish_13 rfl ?_
  refine lv_aload_n hx hb dX12_finish_14 rfl (lv_at hl 1 rfl) ?_
  refine va_get (ci := 9) (C := RX12) (T := TX12) (N := 28) hx hb ht iFX12 hown hK hP 0 rfl rfl 2 (by decide) (ht _ kw4_112) (fun _ h9 => h9) rfl dX12_finish_15 ?_
  refine nv_bipush (k := 40) hx hb dX12_finish_18 (by decide) ?_
  refine lv_aload_n hx hb dX12_finish_20 rfl (lv_at hl 1 rfl) ?_
  refine va_get (ci := 9) (C := RX12) (T := TX12) (N := 28) hx hb ht iFX12 hown hK hP 0 rfl rfl 3 (by decide) (ht _ kw4_113) (fun _ h9 => h9) rfl dX12_finish_21 ?_
  refine lv_iload_n hx hb dX12_finish_24 rfl (lv_at hl 0 rfl) ?_
  refine lv_iload_n hx hb dX12_finish_25 rfl (lv_at hl 2 rfl) ?_
  refine ro_S S (c_X12_sumOf (AR_of (ws := mW cy o ad tp os sz bits F G u nb ns T M id ft fo fi g pt ih il ip pn op so fa fp st en dr ++ tl) (kr := 2) (N := 1640) (n := os) rfl (by omega) (by omega)) (hd := 40) (z := os) (w := 40 + (tg_sumAt q)) (q := q) (by omega) (by omega) (by omega) (by omega) (by omega)) kw5_58 yv_X12_sumOf ⟨Nat.le_of_ble_eq_true rfl, Nat.le_of_ble_eq_true rfl⟩ hK hP rfl hl.1 rfl (Nat.le_of_ble_eq_true rfl) dX12_finish_26 ⟨Nat.zero_le _, Nat.zero_le _⟩ ?_
  have hq26 := tg_sum_le (tg_rd fo os) 40 os (40 + (tg_sumAt q)) q
  refine nv_i2l hx hb (by omega) dX12_finish_29 ?_
  refine wr_S S (c_X12_put (ws := mW cy o ad tp os sz bits F G u nb ns T M id ft fo fi g pt ih il ip pn op so fa fp st en dr ++ tl) (kr := 2) (N := 1640) rfl (by omega) (a := 40 + (tg_sumAt q)) (many := 2) (x := tg_sum (tg_rd fo os) 40 os (40 + (tg_sumAt q)) q) (v := lN (tg_sum (tg_rd fo os) 40 os (40 + (tg_sumAt q)) q)) (by omega) (by omega) (fun k hk => by rw [lN_toNat (by omega)])) kw5_123 yv_X12_put ⟨Nat.le_of_ble_eq_true rfl, Nat.le_of_ble_eq_true rfl⟩ hK hP hD hS hA rfl hl.1 rfl (Nat.le_of_ble_eq_true rfl) dX12_finish_30 ⟨Nat.zero_le _, Nat.zero_le _⟩ (fun g_1 H locs hg_1 hP hD hS => ?_)
  have hP : va_P D vwCl (mW cy o ad tp os sz bits F G u nb ns T M id ft g_1 fi g pt ih il ip pn op so fa fp st en dr ++ tl) H := hP
  have hD : va_D A (mW cy o ad tp os sz bits F G u nb ns T M id ft g_1 fi g pt ih il ip pn op so fa fp st en dr ++ tl) := hD
  refine W.eq (g2 := F0 m 33 ls []) rfl ?_
  refine lv_aload_n hx hb dX12_finish_33 rfl (lv_at hl 1 rfl) ?_
  refine lv_dup hx hb dX12_finish_34 rfl ?_
  refine va_get (ci := 9) (C := RX12) (T := TX12) (N := 28) hx hb ht iFX12 hown hK hP 0 rfl rfl 25 (by decide) (ht _ kw4_135) (fun _ h9 => h9) rfl dX12_finish_35 ?_
  refine nv_iconst (k := 1) hx hb dX12_finish_38 rfl ?_
  refine nv_iadd hx hb dX12_finish_39 ?_
  refine va_put (ci := 9) (C := RX12) (T := TX12) (N := 28) (ty := tyX12 25) hx hb ht iFX12 tyX12 tyX12_ok nmX12 hown hK hP hD hS 0 rfl rfl 25 (by decide) (ht _ kw4_135) (fun _ h9 => h9) rfl (by decide +kernel) (by first | rfl | decide) (by first | rfl | decide) (Nat.le_of_ble_eq_true rfl) dX12_finish_40 (fun H locs hP hD hS => ?_)
  have hP : va_P D vwCl (mW cy o ad tp os sz bits F G u nb ns T (M + 1) id ft g_1 fi g pt ih il ip pn op so fa fp st en dr ++ tl) H := hP
  have hD : va_D A (mW cy o ad tp os sz bits F G u nb ns T (M + 1) id ft g_1 fi g pt ih il ip pn op so fa fp st en dr ++ tl) := hD
  rw [hg_1] at hP hD
  exact hend () trivial hP hD hS dX12_finish_43
