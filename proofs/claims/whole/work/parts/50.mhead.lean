theorem dX12_head_0 : decode cX12_head 0 = .ok (.aload_n 0, 1) := by decide +kernel
theorem dX12_head_1 : decode cX12_head 1 = .ok (.bipush 40, 2) := by decide +kernel
theorem dX12_head_3 : decode cX12_head 3 = .ok (.iload_n 2, 1) := by decide +kernel
theorem dX12_head_4 : decode cX12_head 4 = .ok (.iadd, 1) := by decide +kernel
theorem dX12_head_5 : decode cX12_head 5 = .ok (.putfield 234, 3) := by decide +kernel
theorem dX12_head_8 : decode cX12_head 8 = .ok (.aload_n 0, 1) := by decide +kernel
theorem dX12_head_9 : decode cX12_head 9 = .ok (.getfield 13, 3) := by decide +kernel
theorem dX12_head_12 : decode cX12_head 12 = .ok (.iconst 0, 1) := by decide +kernel
theorem dX12_head_13 : decode cX12_head 13 = .ok (.iconst 4, 1) := by decide +kernel
theorem dX12_head_14 : decode cX12_head 14 = .ok (.ldc2_w 274, 3) := by decide +kernel
theorem dX12_head_17 : decode cX12_head 17 = .ok (.aload_n 0, 1) := by decide +kernel
theorem dX12_head_18 : decode cX12_head 18 = .ok (.getfield 16, 3) := by decide +kernel
theorem dX12_head_21 : decode cX12_head 21 = .ok (.iconst 1, 1) := by decide +kernel
theorem dX12_head_22 : decode cX12_head 22 = .ok (.invokestatic 124, 3) := by decide +kernel
theorem dX12_head_25 : decode cX12_head 25 = .ok (.i2l, 1) := by decide +kernel
theorem dX12_head_26 : decode cX12_head 26 = .ok (.bipush 20, 2) := by decide +kernel
theorem dX12_head_28 : decode cX12_head 28 = .ok (.lshl, 1) := by decide +kernel
theorem dX12_head_29 : decode cX12_head 29 = .ok (.lor, 1) := by decide +kernel
theorem dX12_head_30 : decode cX12_head 30 = .ok (.invokestatic 239, 3) := by decide +kernel
theorem dX12_head_33 : decode cX12_head 33 = .ok (.aload_n 0, 1) := by decide +kernel
theorem dX12_head_34 : decode cX12_head 34 = .ok (.getfield 13, 3) := by decide +kernel
theorem dX12_head_37 : decode cX12_head 37 = .ok (.iconst 4, 1) := by decide +kernel
theorem dX12_head_38 : decode cX12_head 38 = .ok (.iconst 2, 1) := by decide +kernel
theorem dX12_head_39 : decode cX12_head 39 = .ok (.iload_n 2, 1) := by decide +kernel
theorem dX12_head_40 : decode cX12_head 40 = .ok (.i2l, 1) := by decide +kernel
theorem dX12_head_41 : decode cX12_head 41 = .ok (.invokestatic 239, 3) := by decide +kernel
theorem dX12_head_44 : decode cX12_head 44 = .ok (.aload_n 0, 1) := by decide +kernel
theorem dX12_head_45 : decode cX12_head 45 = .ok (.getfield 13, 3) := by decide +kernel
theorem dX12_head_48 : decode cX12_head 48 = .ok (.bipush 6, 2) := by decide +kernel
theorem dX12_head_50 : decode cX12_head 50 = .ok (.iconst 1, 1) := by decide +kernel
theorem dX12_head_51 : decode cX12_head 51 = .ok (.iload_n 3, 1) := by decide +kernel
theorem dX12_head_52 : decode cX12_head 52 = .ok (.i2l, 1) := by decide +kernel
theorem dX12_head_53 : decode cX12_head 53 = .ok (.invokestatic 239, 3) := by decide +kernel
theorem dX12_head_56 : decode cX12_head 56 = .ok (.aload_n 0, 1) := by decide +kernel
theorem dX12_head_57 : decode cX12_head 57 = .ok (.getfield 13, 3) := by decide +kernel
theorem dX12_head_60 : decode cX12_head 60 = .ok (.bipush 7, 2) := by decide +kernel
theorem dX12_head_62 : decode cX12_head 62 = .ok (.iconst 1, 1) := by decide +kernel
theorem dX12_head_63 : decode cX12_head 63 = .ok (.aload_n 0, 1) := by decide +kernel
theorem dX12_head_64 : decode cX12_head 64 = .ok (.getfield 16, 3) := by decide +kernel
theorem dX12_head_67 : decode cX12_head 67 = .ok (.bipush 8, 2) := by decide +kernel
theorem dX12_head_69 : decode cX12_head 69 = .ok (.invokestatic 124, 3) := by decide +kernel
theorem dX12_head_72 : decode cX12_head 72 = .ok (.iconst 1, 1) := by decide +kernel
theorem dX12_head_73 : decode cX12_head 73 = .ok (.isub, 1) := by decide +kernel
theorem dX12_head_74 : decode cX12_head 74 = .ok (.i2l, 1) := by decide +kernel
theorem dX12_head_75 : decode cX12_head 75 = .ok (.invokestatic 239, 3) := by decide +kernel
theorem dX12_head_78 : decode cX12_head 78 = .ok (.aload_n 0, 1) := by decide +kernel
theorem dX12_head_79 : decode cX12_head 79 = .ok (.getfield 13, 3) := by decide +kernel
theorem dX12_head_82 : decode cX12_head 82 = .ok (.bipush 8, 2) := by decide +kernel
theorem dX12_head_84 : decode cX12_head 84 = .ok (.bipush 8, 2) := by decide +kernel
theorem dX12_head_86 : decode cX12_head 86 = .ok (.aload_n 0, 1) := by decide +kernel
theorem dX12_head_87 : decode cX12_head 87 = .ok (.aload_n 0, 1) := by decide +kernel
theorem dX12_head_88 : decode cX12_head 88 = .ok (.getfield 16, 3) := by decide +kernel
theorem dX12_head_91 : decode cX12_head 91 = .ok (.bipush 12, 2) := by decide +kernel
theorem dX12_head_93 : decode cX12_head 93 = .ok (.invokestatic 131, 3) := by decide +kernel
theorem dX12_head_96 : decode cX12_head 96 = .ok (.invokevirtual 276, 3) := by decide +kernel
theorem dX12_head_99 : decode cX12_head 99 = .ok (.invokestatic 239, 3) := by decide +kernel
theorem dX12_head_102 : decode cX12_head 102 = .ok (.aload_n 0, 1) := by decide +kernel
theorem dX12_head_103 : decode cX12_head 103 = .ok (.getfield 13, 3) := by decide +kernel
theorem dX12_head_106 : decode cX12_head 106 = .ok (.bipush 16, 2) := by decide +kernel
theorem dX12_head_108 : decode cX12_head 108 = .ok (.bipush 8, 2) := by decide +kernel
theorem dX12_head_110 : decode cX12_head 110 = .ok (.aload_n 0, 1) := by decide +kernel
theorem dX12_head_111 : decode cX12_head 111 = .ok (.aload_n 0, 1) := by decide +kernel
theorem dX12_head_112 : decode cX12_head 112 = .ok (.getfield 16, 3) := by decide +kernel
theorem dX12_head_115 : decode cX12_head 115 = .ok (.bipush 12, 2) := by decide +kernel
theorem dX12_head_117 : decode cX12_head 117 = .ok (.invokestatic 131, 3) := by decide +kernel
theorem dX12_head_120 : decode cX12_head 120 = .ok (.invokevirtual 280, 3) := by decide +kernel
theorem dX12_head_123 : decode cX12_head 123 = .ok (.invokestatic 239, 3) := by decide +kernel
theorem dX12_head_126 : decode cX12_head 126 = .ok (.aload_n 0, 1) := by decide +kernel
theorem dX12_head_127 : decode cX12_head 127 = .ok (.getfield 13, 3) := by decide +kernel
theorem dX12_head_130 : decode cX12_head 130 = .ok (.bipush 24, 2) := by decide +kernel
theorem dX12_head_132 : decode cX12_head 132 = .ok (.bipush 8, 2) := by decide +kernel
theorem dX12_head_134 : decode cX12_head 134 = .ok (.aload_n 0, 1) := by decide +kernel
theorem dX12_head_135 : decode cX12_head 135 = .ok (.getfield 26, 3) := by decide +kernel
theorem dX12_head_138 : decode cX12_head 138 = .ok (.iload_n 1, 1) := by decide +kernel
theorem dX12_head_139 : decode cX12_head 139 = .ok (.laload, 1) := by decide +kernel
theorem dX12_head_140 : decode cX12_head 140 = .ok (.invokestatic 239, 3) := by decide +kernel
theorem dX12_head_143 : decode cX12_head 143 = .ok (.aload_n 0, 1) := by decide +kernel
theorem dX12_head_144 : decode cX12_head 144 = .ok (.getfield 13, 3) := by decide +kernel
theorem dX12_head_147 : decode cX12_head 147 = .ok (.bipush 32, 2) := by decide +kernel
theorem dX12_head_149 : decode cX12_head 149 = .ok (.bipush 8, 2) := by decide +kernel
theorem dX12_head_151 : decode cX12_head 151 = .ok (.aload_n 0, 1) := by decide +kernel
theorem dX12_head_152 : decode cX12_head 152 = .ok (.getfield 30, 3) := by decide +kernel
theorem dX12_head_155 : decode cX12_head 155 = .ok (.iload_n 1, 1) := by decide +kernel
theorem dX12_head_156 : decode cX12_head 156 = .ok (.laload, 1) := by decide +kernel
theorem dX12_head_157 : decode cX12_head 157 = .ok (.invokestatic 239, 3) := by decide +kernel
theorem dX12_head_160 : decode cX12_head 160 = .ok (.return_, 1) := by decide +kernel
theorem yv_X12_head : YV RX12 yX12_head cX12_head 4 none 3 := ⟨kw5_153, kws_45, kw1_10, kw5_154, by decide +kernel⟩
set_option maxHeartbeats 4000000 in
set_option maxRecDepth 100000 in
theorem c_X12_head {l : Launch} {D : va_G} {cy : Nat → ClassId} {o : Nat} {ad : Nat → Nat} {tl : va_W} {tp os sz bits F G u nb ns T M id : Nat} {ft fo fi : Nat → UInt8} {g : Nat → Int32} {pt ih il ip pn op so fa fp st en dr : Nat → Nat} {b len nx : Nat} (hb9 : b < 64) (hsi : SI bits F G) (hb_ih : ∀ i, ih i < 2 ^ 64) (hb_il : ∀ i, il i < 2 ^ 64) (hlen : len ≤ 1600) (hnx : nx < 256) (hsz0 : 20 ≤ sz) (hsz1 : sz ≤ 1600) (hhop : 2 ≤ tg_rd fi sz 8) : WR (S := Unit) l yX12_head cX12_head 4 none 3 0 0 63 [.ref o, .int (nI b), .int (nI len), .int (nI nx)] D cy (mW cy o ad tp os sz bits F G u nb ns T M id ft fo fi g pt ih il ip pn op so fa fp st en dr ++ tl) (fun _ => none) (fun _ => True) (fun _ => mW cy o ad tp (40 + len) sz bits F G u nb ns T M id ft (mk_head fo fi sz len nx bits F G (ih b) (il b)) fi g pt ih il ip pn op so fa fp st en dr ++ tl) := by
  refine WRv (by decide) (lv0 := [(0, .ref o), (1, .int (nI b)), (2, .int (nI len)), (3, .int (nI nx))]) rfl (Nat.le_of_ble_eq_true rfl) ?_
  intro p e s m args below meth c ls A Q S hnm hP hK hD hS hA hend hl
  have hx := S.1
  have hb := S.2.1
  have hown : s.vm.findClass RX12 = some m.cls := S.2.2.2.1
  have ht : ∀ w ∈ lw_g, w.before args s = true := fun w h => S.2.2.2.2 w (List.mem_cons_of_mem _ h)
  have hP : va_P D vwCl (mW cy o ad tp os sz bits F G u nb ns T M id ft fo fi g pt ih il ip pn op so fa fp st en dr ++ tl) s.heap := hP
  refine lv_aload_n hx hb dX12_head_0 rfl (lv_at hl 0 rfl) ?_
  refine nv_bipush (k := 40) hx hb dX12_head_1 (by decide) ?_
  refine lv_iload_n hx hb dX12_head_3 rfl (lv_at hl 2 rfl) ?_
  refine nv_iadd hx hb dX12_head_4 ?_
  refine va_put (ci := 9) (C := RX12) (T := TX12) (N := 28) (ty := tyX12 3) hx hb ht iFX12 tyX12 tyX12_ok nmX12 hown hK hP hD hS 0 rfl rfl 3 (by decide) (ht _ kw4_113) (fun _ h9 => h9) rfl (by decide +kernel) (by first | rfl | decide) (by first | rfl | decide) (Nat.le_of_ble_eq_true rfl) dX12_head_5 (fun H locs hP hD hS => ?_)
  have hP : va_P D vwCl (mW cy o ad tp (40 + len) sz bits F G u nb ns T M id ft fo fi g pt ih il ip pn op so fa fp st en dr ++ tl) H := hP
  have hD : va_D A (mW cy o ad tp (40 + len) sz bits F G u nb ns T M id ft fo fi g pt ih il ip pn op so fa fp st en dr ++ tl) := hD
  refine lv_aload_n hx hb dX12_head_8 rfl (lv_at hl 0 rfl) ?_
  refine va_get (ci := 9) (C := RX12) (T := TX12) (N := 28) hx hb ht iFX12 hown hK hP 0 rfl rfl 2 (by decide) (ht _ kw4_112) (fun _ h9 => h9) rfl dX12_head_9 ?_
  refine nv_iconst (k := 0) hx hb dX12_head_12 rfl ?_
  refine nv_iconst (k := 4) hx hb dX12_head_13 rfl ?_
  refine nv_ldc2 (k := 1610612736) hx hb hown (ht _ kw5_155) (by decide) dX12_head_14 ?_
  refine lv_aload_n hx hb dX12_head_17 rfl (lv_at hl 0 rfl) ?_
  refine va_get (ci := 9) (C := RX12) (T := TX12) (N := 28) hx hb ht iFX12 hown hK hP 0 rfl rfl 4 (by decide) (ht _ kw4_114) (fun _ h9 => h9) rfl dX12_head_18 ?_
  refine nv_iconst (k := 1) hx hb dX12_head_21 rfl ?_
  refine ro_S S (c_X12_at (AR_of (ws := mW cy o ad tp (40 + len) sz bits F G u nb ns T M id ft fo fi g pt ih il ip pn op so fa fp st en dr ++ tl) (kr := 3) (N := 1600) (n := sz) rfl (by omega) (by omega)) (i := 1) (by omega)) kw5_41 yv_X12_at ⟨Nat.le_of_ble_eq_true rfl, Nat.le_of_ble_eq_true rfl⟩ hK hP rfl hl.1 rfl (Nat.le_of_ble_eq_true rfl) dX12_head_22 ⟨Nat.zero_le _, Nat.zero_le _⟩ ?_
  have hq22 := tg_rd_lt fi sz 1
  refine nv_i2l hx hb (by omega) dX12_head_25 ?_
  refine nv_bipush (k := 20) hx hb dX12_head_26 (by decide) ?_
  refine nv_lshl hx hb (by omega) dX12_head_28 ?_
  refine nv_lorc (k := 29) (q := 3) hx hb (by decide) (by omega) dX12_head_29 ?_
  refine wr_S S (c_X12_put (ws := mW cy o ad tp (40 + len) sz bits F G u nb ns T M id ft fo fi g pt ih il ip pn op so fa fp st en dr ++ tl) (kr := 2) (N := 1640) rfl (by omega) (a := 0) (many := 4) (x := 1610612736 + (tg_rd fi sz 1) * 2 ^ 20) (v := lN (1610612736 + (tg_rd fi sz 1) * 2 ^ 20)) (by omega) (by omega) (fun k hk => by rw [lN_toNat (by omega)])) kw5_123 yv_X12_put ⟨Nat.le_of_ble_eq_true rfl, Nat.le_of_ble_eq_true rfl⟩ hK hP hD hS hA rfl hl.1 rfl (Nat.le_of_ble_eq_true rfl) dX12_head_30 ⟨Nat.zero_le _, Nat.zero_le _⟩ (fun g_1 H locs hg_1 hP hD hS => ?_)
  have hP : va_P D vwCl (mW cy o ad tp (40 + len) sz bits F G u nb ns T M id ft g_1 fi g pt ih il ip pn op so fa fp st en dr ++ tl) H := hP
  have hD : va_D A (mW cy o ad tp (40 + len) sz bits F G u nb ns T M id ft g_1 fi g pt ih il ip pn op so fa fp st en dr ++ tl) := hD
  refine W.eq (g2 := F0 m 33 ls []) rfl ?_
  refine lv_aload_n hx hb dX12_head_33 rfl (lv_at hl 0 rfl) ?_
  refine va_get (ci := 9) (C := RX12) (T := TX12) (N := 28) hx hb ht iFX12 hown hK hP 0 rfl rfl 2 (by decide) (ht _ kw4_112) (fun _ h9 => h9) rfl dX12_head_34 ?_
  refine nv_iconst (k := 4) hx hb dX12_head_37 rfl ?_
  refine nv_iconst (k := 2) hx hb dX12_head_38 rfl ?_
  refine lv_iload_n hx hb dX12_head_39 rfl (lv_at hl 2 rfl) ?_
  refine nv_i2l hx hb (by omega) dX12_head_40 ?_
  refine wr_S S (c_X12_put (ws := mW cy o ad tp (40 + len) sz bits F G u nb ns T M id ft g_1 fi g pt ih il ip pn op so fa fp st en dr ++ tl) (kr := 2) (N := 1640) rfl (by omega) (a := 4) (many := 2) (x := len) (v := lN (len)) (by omega) (by omega) (fun k hk => by rw [lN_toNat (by omega)])) kw5_123 yv_X12_put ⟨Nat.le_of_ble_eq_true rfl, Nat.le_of_ble_eq_true rfl⟩ hK hP hD hS hA rfl hl.1 rfl (Nat.le_of_ble_eq_true rfl) dX12_head_41 ⟨Nat.zero_le _, Nat.zero_le _⟩ (fun g_2 H locs hg_2 hP hD hS => ?_)
  have hP : va_P D vwCl (mW cy o ad tp (40 + len) sz bits F G u nb ns T M id ft g_2 fi g pt ih il ip pn op so fa fp st en dr ++ tl) H := hP
  have hD : va_D A (mW cy o ad tp (40 + len) sz bits F G u nb ns T M id ft g_2 fi g pt ih il ip pn op so fa fp st en dr ++ tl) := hD
  refine W.eq (g2 := F0 m 44 ls []) rfl ?_
  refine lv_aload_n hx hb dX12_head_44 rfl (lv_at hl 0 rfl) ?_
  refine va_get (ci := 9) (C := RX12) (T := TX12) (N := 28) hx hb ht iFX12 hown hK hP 0 rfl rfl 2 (by decide) (ht _ kw4_112) (fun _ h9 => h9) rfl dX12_head_45 ?_
  refine nv_bipush (k := 6) hx hb dX12_head_48 (by decide) ?_
  refine nv_iconst (k := 1) hx hb dX12_head_50 rfl ?_
  refine lv_iload_n hx hb dX12_head_51 rfl (lv_at hl 3 rfl) ?_
  refine nv_i2l hx hb (by omega) dX12_head_52 ?_
  refine wr_S S (c_X12_put (ws := mW cy o ad tp (40 + len) sz bits F G u nb ns T M id ft g_2 fi g pt ih il ip pn op so fa fp st en dr ++ tl) (kr := 2) (N := 1640) rfl (by omega) (a := 6) (many := 1) (x := nx) (v := lN (nx)) (by omega) (by omega) (fun k hk => by rw [lN_toNat (by omega)])) kw5_123 yv_X12_put ⟨Nat.le_of_ble_eq_true rfl, Nat.le_of_ble_eq_true rfl⟩ hK hP hD hS hA rfl hl.1 rfl (Nat.le_of_ble_eq_true rfl) dX12_head_53 ⟨Nat.zero_le _, Nat.zero_le _⟩ (fun g_3 H locs hg_3 hP hD hS => ?_)
  have hP : va_P D vwCl (mW cy o ad tp (40 + len) sz bits F G u nb ns T M id ft g_3 fi g pt ih il ip pn op so fa fp st en dr ++ tl) H := hP
  have hD : va_D A (mW cy o ad tp (40 + len) sz bits F G u nb ns T M id ft g_3 fi g pt ih il ip pn op so fa fp st en dr ++ tl) := hD
  refine W.eq (g2 := F0 m 56 ls []) rfl ?_
  refine lv_aload_n hx hb dX12_head_56 rfl (lv_at hl 0 rfl) ?_
  refine va_get (ci := 9) (C := RX12) (T := TX12) (N := 28) hx hb ht iFX12 hown hK hP 0 rfl rfl 2 (by decide) (ht _ kw4_112) (fun _ h9 => h9) rfl dX12_head_57 ?_
  refine nv_bipush (k := 7) hx hb dX12_head_60 (by decide) ?_
  refine nv_iconst (k := 1) hx hb dX12_head_62 rfl ?_
  refine lv_aload_n hx hb dX12_head_63 rfl (lv_at hl 0 rfl) ?_
  refine va_get (ci := 9) (C := RX12) (T := TX12) (N := 28) hx hb ht iFX12 hown hK hP 0 rfl rfl 4 (by decide) (ht _ kw4_114) (fun _ h9 => h9) rfl dX12_head_64 ?_
  refine nv_bipush (k := 8) hx hb dX12_head_67 (by decide) ?_
  refine ro_S S (c_X12_at (AR_of (ws := mW cy o ad tp (40 + len) sz bits F G u nb ns T M id ft g_3 fi g pt ih il ip pn op so fa fp st en dr ++ tl) (kr := 3) (N := 1600) (n := sz) rfl (by omega) (by omega)) (i := 8) (by omega)) kw5_41 yv_X12_at ⟨Nat.le_of_ble_eq_true rfl, Nat.le_of_ble_eq_true rfl⟩ hK hP rfl hl.1 rfl (Nat.le_of_ble_eq_true rfl) dX12_head_69 ⟨Nat.zero_le _, Nat.zero_le _⟩ ?_
  have hq69 := tg_rd_lt fi sz 8
  refine nv_iconst (k := 1) hx hb dX12_head_72 rfl ?_
  refine nv_isub hx hb (by omega) dX12_head_73 ?_
  refine nv_i2l hx hb (by omega) dX12_head_74 ?_
  refine wr_S S (c_X12_put (ws := mW cy o ad tp (40 + len) sz bits F G u nb ns T M id ft g_3 fi g pt ih il ip pn op so fa fp st en dr ++ tl) (kr := 2) (N := 1640) rfl (by omega) (a := 7) (many := 1) (x := (tg_rd fi sz 8) - 1) (v := lN ((tg_rd fi sz 8) - 1)) (by omega) (by omega) (fun k hk => by rw [lN_toNat (by omega)])) kw5_123 yv_X12_put ⟨Nat.le_of_ble_eq_true rfl, Nat.le_of_ble_eq_true rfl⟩ hK hP hD hS hA rfl hl.1 rfl (Nat.le_of_ble_eq_true rfl) dX12_head_75 ⟨Nat.zero_le _, Nat.zero_le _⟩ (fun g_4 H locs hg_4 hP hD hS => ?_)
  have hP : va_P D vwCl (mW cy o ad tp (40 + len) sz bits F G u nb ns T M id ft g_4 fi g pt ih il ip pn op so fa fp st en dr ++ tl) H := hP
  have hD : va_D A (mW cy o ad tp (40 + len) sz bits F G u nb ns T M id ft g_4 fi g pt ih il ip pn op so fa fp st en dr ++ tl) := hD
  refine W.eq (g2 := F0 m 78 ls []) rfl ?_
  refine lv_aload_n hx hb dX12_head_78 rfl (lv_at hl 0 rfl) ?_
  refine va_get (ci := 9) (C := RX12) (T := TX12) (N := 28) hx hb ht iFX12 hown hK hP 0 rfl rfl 2 (by decide) (ht _ kw4_112) (fun _ h9 => h9) rfl dX12_head_79 ?_
  refine nv_bipush (k := 8) hx hb dX12_head_82 (by decide) ?_
  refine nv_bipush (k := 8) hx hb dX12_head_84 (by decide) ?_
  refine lv_aload_n hx hb dX12_head_86 rfl (lv_at hl 0 rfl) ?_
  refine lv_aload_n hx hb dX12_head_87 rfl (lv_at hl 0 rfl) ?_
  refine va_get (ci := 9) (C := RX12) (T := TX12) (N := 28) hx hb ht iFX12 hown hK hP 0 rfl rfl 4 (by decide) (ht _ kw4_114) (fun _ h9 => h9) rfl dX12_head_88 ?_
  refine nv_bipush (k := 12) hx hb dX12_head_91 (by decide) ?_
  refine ro_S S (c_X12_four (AR_of (ws := mW cy o ad tp (40 + len) sz bits F G u nb ns T M id ft g_4 fi g pt ih il ip pn op so fa fp st en dr ++ tl) (kr := 3) (N := 1600) (n := sz) rfl (by omega) (by omega)) (i := 12) (by omega)) kw5_72 yv_X12_four ⟨Nat.le_of_ble_eq_true rfl, Nat.le_of_ble_eq_true rfl⟩ hK hP rfl hl.1 rfl (Nat.le_of_ble_eq_true rfl) dX12_head_93 ⟨Nat.zero_le _, Nat.zero_le _⟩ ?_
  have hq93 := tg_qd_lt fi sz 12
  refine ro_V S (c_X12_high (ws := mW cy o ad tp (40 + len) sz bits F G u nb ns T M id ft g_4 fi g pt ih il ip pn op so fa fp st en dr ++ tl) (km := 0) rfl rfl rfl hsi (x := tg_qd (tg_rd fi sz) 12) (by omega)) kw5_156 yv_X12_high ⟨Nat.le_of_ble_eq_true rfl, Nat.le_of_ble_eq_true rfl⟩ hK hP (va_recv hK hP (ci := 9) (q0 := 0) rfl rfl) rfl hl.1 rfl (Nat.le_of_ble_eq_true rfl) dX12_head_96 ⟨Nat.zero_le _, Nat.zero_le _⟩ ?_
  have hq96 := tg_eh_lt hsi (x := tg_qd (tg_rd fi sz) 12) (by omega)
  refine wr_S S (c_X12_put (ws := mW cy o ad tp (40 + len) sz bits F G u nb ns T M id ft g_4 fi g pt ih il ip pn op so fa fp st en dr ++ tl) (kr := 2) (N := 1640) rfl (by omega) (a := 8) (many := 8) (x := tg_eh bits F (tg_qd (tg_rd fi sz) 12)) (v := lN (tg_eh bits F (tg_qd (tg_rd fi sz) 12))) (by omega) (by omega) (fun k hk => by rw [lN_toNat (by omega)])) kw5_123 yv_X12_put ⟨Nat.le_of_ble_eq_true rfl, Nat.le_of_ble_eq_true rfl⟩ hK hP hD hS hA rfl hl.1 rfl (Nat.le_of_ble_eq_true rfl) dX12_head_99 ⟨Nat.zero_le _, Nat.zero_le _⟩ (fun g_5 H locs hg_5 hP hD hS => ?_)
  have hP : va_P D vwCl (mW cy o ad tp (40 + len) sz bits F G u nb ns T M id ft g_5 fi g pt ih il ip pn op so fa fp st en dr ++ tl) H := hP
  have hD : va_D A (mW cy o ad tp (40 + len) sz bits F G u nb ns T M id ft g_5 fi g pt ih il ip pn op so fa fp st en dr ++ tl) := hD
  refine W.eq (g2 := F0 m 102 ls []) rfl ?_
  refine lv_aload_n hx hb dX12_head_102 rfl (lv_at hl 0 rfl) ?_
  refine va_get (ci := 9) (C := RX12) (T := TX12) (N := 28) hx hb ht iFX12 hown hK hP 0 rfl rfl 2 (by decide) (ht _ kw4_112) (fun _ h9 => h9) rfl dX12_head_103 ?_
  refine nv_bipush (k := 16) hx hb dX12_head_106 (by decide) ?_
  refine nv_bipush (k := 8) hx hb dX12_head_108 (by decide) ?_
  refine lv_aload_n hx hb dX12_head_110 rfl (lv_at hl 0 rfl) ?_
  refine lv_aload_n hx hb dX12_head_111 rfl (lv_at hl 0 rfl) ?_
  refine va_get (ci := 9) (C := RX12) (T := TX12) (N := 28) hx hb ht iFX12 hown hK hP 0 rfl rfl 4 (by decide) (ht _ kw4_114) (fun _ h9 => h9) rfl dX12_head_112 ?_
  refine nv_bipush (k := 12) hx hb dX12_head_115 (by decide) ?_
  refine ro_S S (c_X12_four (AR_of (ws := mW cy o ad tp (40 + len) sz bits F G u nb ns T M id ft g_5 fi g pt ih il ip pn op so fa fp st en dr ++ tl) (kr := 3) (N := 1600) (n := sz) rfl (by omega) (by omega)) (i := 12) (by omega)) kw5_72 yv_X12_four ⟨Nat.le_of_ble_eq_true rfl, Nat.le_of_ble_eq_true rfl⟩ hK hP rfl hl.1 rfl (Nat.le_of_ble_eq_true rfl) dX12_head_117 ⟨Nat.zero_le _, Nat.zero_le _⟩ ?_
  have hq117 := tg_qd_lt fi sz 12
  refine ro_V S (c_X12_low (ws := mW cy o ad tp (40 + len) sz bits F G u nb ns T M id ft g_5 fi g pt ih il ip pn op so fa fp st en dr ++ tl) (km := 0) rfl rfl rfl hsi (x := tg_qd (tg_rd fi sz) 12) (by omega)) kw5_157 yv_X12_low ⟨Nat.le_of_ble_eq_true rfl, Nat.le_of_ble_eq_true rfl⟩ hK hP (va_recv hK hP (ci := 9) (q0 := 0) rfl rfl) rfl hl.1 rfl (Nat.le_of_ble_eq_true rfl) dX12_head_120 ⟨Nat.zero_le _, Nat.zero_le _⟩ ?_
  have hq120 := tg_el_lt hsi (x := tg_qd (tg_rd fi sz) 12) (by omega)
  refine wr_S S (c_X12_put (ws := mW cy o ad tp (40 + len) sz bits F G u nb ns T M id ft g_5 fi g pt ih il ip pn op so fa fp st en dr ++ tl) (kr := 2) (N := 1640) rfl (by omega) (a := 16) (many := 8) (x := tg_el bits G (tg_qd (tg_rd fi sz) 12)) (v := lN (tg_el bits G (tg_qd (tg_rd fi sz) 12))) (by omega) (by omega) (fun k hk => by rw [lN_toNat (by omega)])) kw5_123 yv_X12_put ⟨Nat.le_of_ble_eq_true rfl, Nat.le_of_ble_eq_true rfl⟩ hK hP hD hS hA rfl hl.1 rfl (Nat.le_of_ble_eq_true rfl) dX12_head_123 ⟨Nat.zero_le _, Nat.zero_le _⟩ (fun g_6 H locs hg_6 hP hD hS => ?_)
  have hP : va_P D vwCl (mW cy o ad tp (40 + len) sz bits F G u nb ns T M id ft g_6 fi g pt ih il ip pn op so fa fp st en dr ++ tl) H := hP
  have hD : va_D A (mW cy o ad tp (40 + len) sz bits F G u nb ns T M id ft g_6 fi g pt ih il ip pn op so fa fp st en dr ++ tl) := hD
  refine W.eq (g2 := F0 m 126 ls []) rfl ?_
  refine lv_aload_n hx hb dX12_head_126 rfl (lv_at hl 0 rfl) ?_
  refine va_get (ci := 9) (C := RX12) (T := TX12) (N := 28) hx hb ht iFX12 hown hK hP 0 rfl rfl 2 (by decide) (ht _ kw4_112) (fun _ h9 => h9) rfl dX12_head_127 ?_
  refine nv_bipush (k := 24) hx hb dX12_head_130 (by decide) ?_
  refine nv_bipush (k := 8) hx hb dX12_head_132 (by decide) ?_
  refine lv_aload_n hx hb dX12_head_134 rfl (lv_at hl 0 rfl) ?_
  refine va_get (ci := 9) (C := RX12) (T := TX12) (N := 28) hx hb ht iFX12 hown hK hP 0 rfl rfl 13 (by decide) (ht _ kw4_123) (fun _ h9 => h9) rfl dX12_head_135 ?_
  refine lv_iload_n hx hb dX12_head_138 rfl (lv_at hl 1 rfl) ?_
  refine nv_lald hx hb hK hP 6 rfl (by omega) (by omega) dX12_head_139 ?_
  have hq139 := hb_ih (b)
  refine wr_S S (c_X12_put (ws := mW cy o ad tp (40 + len) sz bits F G u nb ns T M id ft g_6 fi g pt ih il ip pn op so fa fp st en dr ++ tl) (kr := 2) (N := 1640) rfl (by omega) (a := 24) (many := 8) (x := ih b) (v := lN (ih b)) (by omega) (by omega) (fun k hk => by rw [lN_toNat (by omega)])) kw5_123 yv_X12_put ⟨Nat.le_of_ble_eq_true rfl, Nat.le_of_ble_eq_true rfl⟩ hK hP hD hS hA rfl hl.1 rfl (Nat.le_of_ble_eq_true rfl) dX12_head_140 ⟨Nat.zero_le _, Nat.zero_le _⟩ (fun g_7 H locs hg_7 hP hD hS => ?_)
  have hP : va_P D vwCl (mW cy o ad tp (40 + len) sz bits F G u nb ns T M id ft g_7 fi g pt ih il ip pn op so fa fp st en dr ++ tl) H := hP
  have hD : va_D A (mW cy o ad tp (40 + len) sz bits F G u nb ns T M id ft g_7 fi g pt ih il ip pn op so fa fp st en dr ++ tl) := hD
  refine W.eq (g2 := F0 m 143 ls []) rfl ?_
  refine lv_aload_n hx hb dX12_head_143 rfl (lv_at hl 0 rfl) ?_
  refine va_get (ci := 9) (C := RX12) (T := TX12) (N := 28) hx hb ht iFX12 hown hK hP 0 rfl rfl 2 (by decide) (ht _ kw4_112) (fun _ h9 => h9) rfl dX12_head_144 ?_
  refine nv_bipush (k := 32) hx hb dX12_head_147 (by decide) ?_
  refine nv_bipush (k := 8) hx hb dX12_head_149 (by decide) ?_
  refine lv_aload_n hx hb dX12_head_151 rfl (lv_at hl 0 rfl) ?_
  refine va_get (ci := 9) (C := RX12) (T := TX12) (N := 28) hx hb ht iFX12 hown hK hP 0 rfl rfl 14 (by decide) (ht _ kw4_124) (fun _ h9 => h9) rfl dX12_head_152 ?_
  refine lv_iload_n hx hb dX12_head_155 rfl (lv_at hl 1 rfl) ?_
  refine nv_lald hx hb hK hP 7 rfl (by omega) (by omega) dX12_head_156 ?_
  have hq156 := hb_il (b)
  refine wr_S S (c_X12_put (ws := mW cy o ad tp (40 + len) sz bits F G u nb ns T M id ft g_7 fi g pt ih il ip pn op so fa fp st en dr ++ tl) (kr := 2) (N := 1640) rfl (by omega) (a := 32) (many := 8) (x := il b) (v := lN (il b)) (by omega) (by omega) (fun k hk => by rw [lN_toNat (by omega)])) kw5_123 yv_X12_put ⟨Nat.le_of_ble_eq_true rfl, Nat.le_of_ble_eq_true rfl⟩ hK hP hD hS hA rfl hl.1 rfl (Nat.le_of_ble_eq_true rfl) dX12_head_157 ⟨Nat.zero_le _, Nat.zero_le _⟩ (fun g_8 H locs hg_8 hP hD hS => ?_)
  have hP : va_P D vwCl (mW cy o ad tp (40 + len) sz bits F G u nb ns T M id ft g_8 fi g pt ih il ip pn op so fa fp st en dr ++ tl) H := hP
  have hD : va_D A (mW cy o ad tp (40 + len) sz bits F G u nb ns T M id ft g_8 fi g pt ih il ip pn op so fa fp st en dr ++ tl) := hD
  refine W.eq (g2 := F0 m 160 ls []) rfl ?_
  rw [hg_8, hg_7, hg_6, hg_5, hg_4, hg_3, hg_2, hg_1] at hP hD
  exact hend () trivial hP hD hS dX12_head_160
