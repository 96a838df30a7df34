set_option maxHeartbeats 4000000 in
set_option maxRecDepth 100000 in
theorem c_X12_sign4 {l : Launch} {D : va_G} {cy : Nat → ClassId} {o : Nat} {ad : Nat → Nat} {tl : va_W} {tp os sz bits F G u nb ns T M id : Nat} {ft fo fi : Nat → UInt8} {g : Nat → Int32} {pt ih il ip pn op so fa fp st en dr : Nat → Nat} {n9 a9 : Nat} (hv9 : tg_rd ft tp 0 / 16 = 4) (hn1 : 20 ≤ n9) (hn2 : n9 ≤ tp) (ha1 : 20 ≤ a9) (ha2 : a9 + 2 ≤ n9) (htp : tp ≤ 1600) : WR (S := Unit) l yX12_sign cX12_sign 6 (some .int) 4 0 0 96 [.ref o, .int (nI n9), .int (nI a9)] D cy (mW cy o ad tp os sz bits F G u nb ns T M id ft fo fi g pt ih il ip pn op so fa fp st en dr ++ tl) (fun u_ => some (.int (nI (tg_sum (tg_rd ft tp) 20 n9 a9 (tg_rd ft tp 9))))) (fun _ => True) (fun _ => mW cy o ad tp os sz bits F G u nb ns T M id (tg_put ft a9 2 (tg_sum (tg_rd ft tp) 20 n9 a9 (tg_rd ft tp 9))) fo fi g pt ih il ip pn op so fa fp st en dr ++ tl) := by
  refine WRi (by decide) (lv0 := [(0, .ref o), (1, .int (nI n9)), (2, .int (nI a9))]) rfl (Nat.le_of_ble_eq_true rfl) ?_
  intro p e s m args below meth c ls A Q S hnm hP hK hD hS hA hend hl
  have hx := S.1
  have hb := S.2.1
  have hown : s.vm.findClass RX12 = some m.cls := S.2.2.2.1
  have ht : ∀ w ∈ lw_g, w.before args s = true := fun w h => S.2.2.2.2 w (List.mem_cons_of_mem _ h)
  have hP : va_P D vwCl (mW cy o ad tp os sz bits F G u nb ns T M id ft fo fi g pt ih il ip pn op so fa fp st en dr ++ tl) s.heap := hP
  refine lv_iload_n hx hb dX12_sign_0 rfl (lv_at hl 1 rfl) ?_
  refine nv_i2l hx hb (by omega) dX12_sign_1 ?_
  refine nv_ldc2 (k := 20) hx hb hown (ht _ kw5_183) (by decide) dX12_sign_2 ?_
  refine lv_aload_n hx hb dX12_sign_5 rfl (lv_at hl 0 rfl) ?_
  refine va_get (ci := 9) (C := RX12) (T := TX12) (N := 28) hx hb ht iFX12 hown hK hP 0 rfl rfl 1 (by decide) (ht _ kw4_111) (fun _ h9 => h9) rfl dX12_sign_6 ?_
  refine nv_i2l hx hb (by omega) dX12_sign_9 ?_
  refine ro_S S (c_X12_isIn (v := lN (n9)) (lo := lN (20)) (hi := lN (tp))) kw5_14 yv_X12_isIn ⟨Nat.le_of_ble_eq_true rfl, Nat.le_of_ble_eq_true rfl⟩ hK hP rfl hl.1 rfl (Nat.le_of_ble_eq_true rfl) dX12_sign_10 ⟨(Nat.zero_le _), (Nat.zero_le _)⟩ ?_
  rw [show tg_isIn (lN (n9)) (lN (20)) (lN (tp)) = true from (by rw [isIn_nat (by omega) (by omega) (by omega)]; exact decide_eq_true (by omega))]
  refine nv_if_neb (tgt := 18) hx hb dX12_sign_13 (by decide) (fun _ => ?_) (fun h => absurd h (by decide))
  refine lv_aload_n hx hb dX12_sign_18 rfl (lv_at hl 0 rfl) ?_
  refine va_get (ci := 9) (C := RX12) (T := TX12) (N := 28) hx hb ht iFX12 hown hK hP 0 rfl rfl 0 (by decide) (ht _ kw4_110) (fun _ h9 => h9) rfl dX12_sign_19 ?_
  refine nv_iconst (k := 0) hx hb dX12_sign_22 rfl ?_
  refine ro_S S (c_X12_at (AR_of (ws := mW cy o ad tp os sz bits F G u nb ns T M id ft fo fi g pt ih il ip pn op so fa fp st en dr ++ tl) (kr := 1) (N := 1600) (n := tp) rfl (by omega) (by omega)) (i := 0) (by omega)) kw5_41 yv_X12_at ⟨Nat.le_of_ble_eq_true rfl, Nat.le_of_ble_eq_true rfl⟩ hK hP rfl hl.1 rfl (Nat.le_of_ble_eq_true rfl) dX12_sign_23 ⟨(Nat.zero_le _), (Nat.zero_le _)⟩ ?_
  have hq23 := tg_rd_lt ft tp 0
  refine nv_iconst (k := 4) hx hb dX12_sign_26 rfl ?_
  refine nv_ishr hx hb (by omega) (by omega) dX12_sign_27 ?_
  have hr0 := tg_rd_lt ft tp 0
  refine lv_istore_n (lv' := [(3, .int (nI ((tg_rd ft tp 0) / 2 ^ 4))), (0, .ref o), (1, .int (nI n9)), (2, .int (nI a9))]) hx hb dX12_sign_28 rfl hl (by decide) rfl (fun ls hl => ?_)
  refine lv_iload_n hx hb dX12_sign_29 rfl (lv_at hl 0 rfl) ?_
  refine nv_iconst (k := 4) hx hb dX12_sign_30 rfl ?_
  refine nv_icmp_ne (tgt := 39) hx hb dX12_sign_31 (by decide) (by omega) (by omega) (fun h31 => ?_) (fun h31 => ?_)
  · skip
    exfalso; omega
  refine nv_bipush (k := 20) hx hb dX12_sign_34 (by decide) ?_
  refine lv_goto (tgt := 41) hx hb dX12_sign_36 (by decide) ?_
  refine lv_istore (lv' := [(4, .int (nI 20)), (3, .int (nI ((tg_rd ft tp 0) / 2 ^ 4))), (0, .ref o), (1, .int (nI n9)), (2, .int (nI a9))]) hx hb dX12_sign_41 hl (by decide) rfl (fun ls hl => ?_)
  refine lv_iload_n hx hb dX12_sign_43 rfl (lv_at hl 1 rfl) ?_
  refine nv_iconst (k := 4) hx hb dX12_sign_44 rfl ?_
  refine nv_icmp_eq (tgt := 54) hx hb dX12_sign_45 (by decide) (by omega) (by omega) (fun h45 => ?_) (fun h45 => ?_)
  · skip
    refine lv_iload_n hx hb dX12_sign_54 rfl (lv_at hl 3 rfl) ?_
    refine lv_iload hx hb dX12_sign_55 (lv_at hl 0 rfl) ?_
    refine nv_icmp_lt (tgt := 77) hx hb dX12_sign_57 (by decide) (by omega) (by omega) (fun h57 => ?_) (fun h57 => ?_)
    · skip
      exfalso; omega
    refine lv_iload_n hx hb dX12_sign_60 rfl (lv_at hl 4 rfl) ?_
    refine nv_i2l hx hb (by omega) dX12_sign_61 ?_
    refine lv_iload hx hb dX12_sign_62 (lv_at hl 0 rfl) ?_
    refine nv_i2l hx hb (by omega) dX12_sign_64 ?_
    refine lv_iload_n hx hb dX12_sign_65 rfl (lv_at hl 3 rfl) ?_
    refine nv_i2l hx hb (by omega) dX12_sign_66 ?_
    refine nv_ldc2 (k := 2) hx hb hown (ht _ kw5_184) (by decide) dX12_sign_67 ?_
    refine nv_lsub hx hb (by omega) dX12_sign_70 ?_
    refine ro_S S (c_X12_isIn (v := lN (a9)) (lo := lN (20)) (hi := lN (n9 - 2))) kw5_14 yv_X12_isIn ⟨Nat.le_of_ble_eq_true rfl, Nat.le_of_ble_eq_true rfl⟩ hK hP rfl hl.1 rfl (Nat.le_of_ble_eq_true rfl) dX12_sign_71 ⟨(Nat.zero_le _), (Nat.zero_le _)⟩ ?_
    rw [show tg_isIn (lN (a9)) (lN (20)) (lN (n9 - 2)) = true from (by rw [isIn_nat (by omega) (by omega) (by omega)]; exact decide_eq_true (by omega))]
    refine nv_if_neb (tgt := 79) hx hb dX12_sign_74 (by decide) (fun _ => ?_) (fun h => absurd h (by decide))
    refine lv_aload_n hx hb dX12_sign_79 rfl (lv_at hl 2 rfl) ?_
    refine va_get (ci := 9) (C := RX12) (T := TX12) (N := 28) hx hb ht iFX12 hown hK hP 0 rfl rfl 0 (by decide) (ht _ kw4_110) (fun _ h9 => h9) rfl dX12_sign_80 ?_
    refine lv_iload hx hb dX12_sign_83 (lv_at hl 0 rfl) ?_
    refine lv_iload_n hx hb dX12_sign_85 rfl (lv_at hl 3 rfl) ?_
    refine lv_iload_n hx hb dX12_sign_86 rfl (lv_at hl 4 rfl) ?_
    refine lv_iload_n hx hb dX12_sign_87 rfl (lv_at hl 1 rfl) ?_
    refine nv_iconst (k := 4) hx hb dX12_sign_88 rfl ?_
    refine nv_icmp_ne (tgt := 104) hx hb dX12_sign_89 (by decide) (by omega) (by omega) (fun h89 => ?_) (fun h89 => ?_)
    · skip
      exfalso; omega
    refine lv_aload_n hx hb dX12_sign_92 rfl (lv_at hl 2 rfl) ?_
    refine va_get (ci := 9) (C := RX12) (T := TX12) (N := 28) hx hb ht iFX12 hown hK hP 0 rfl rfl 0 (by decide) (ht _ kw4_110) (fun _ h9 => h9) rfl dX12_sign_93 ?_
    refine nv_bipush (k := 9) hx hb dX12_sign_96 (by decide) ?_
    refine ro_S S (c_X12_at (AR_of (ws := mW cy o ad tp os sz bits F G u nb ns T M id ft fo fi g pt ih il ip pn op so fa fp st en dr ++ tl) (kr := 1) (N := 1600) (n := tp) rfl (by omega) (by omega)) (i := 9) (by omega)) kw5_41 yv_X12_at ⟨Nat.le_of_ble_eq_true rfl, Nat.le_of_ble_eq_true rfl⟩ hK hP rfl hl.1 rfl (Nat.le_of_ble_eq_true rfl) dX12_sign_98 ⟨(Nat.zero_le _), (Nat.zero_le _)⟩ ?_
    have hq98 := tg_rd_lt ft tp 9
    refine lv_goto (tgt := 113) hx hb dX12_sign_101 (by decide) ?_
    refine ro_S S (c_X12_sumOf (AR_of (ws := mW cy o ad tp os sz bits F G u nb ns T M id ft fo fi g pt ih il ip pn op so fa fp st en dr ++ tl) (kr := 1) (N := 1600) (n := tp) rfl (by omega) (by omega)) (hd := 20) (z := n9) (w := a9) (q := tg_rd ft tp 9) (by omega) (by omega) (by omega) (by omega) (by omega)) kw5_58 yv_X12_sumOf ⟨Nat.le_of_ble_eq_true rfl, Nat.le_of_ble_eq_true rfl⟩ hK hP rfl hl.1 rfl (Nat.le_of_ble_eq_true rfl) dX12_sign_113 ⟨(Nat.zero_le _), (Nat.zero_le _)⟩ ?_
    have hq113 := tg_sum_le (tg_rd ft tp) 20 n9 a9 (tg_rd ft tp 9)
    refine lv_istore (lv' := [(5, .int (nI (tg_sum (tg_rd ft tp) 20 n9 a9 (tg_rd ft tp 9)))), (4, .int (nI 20)), (3, .int (nI ((tg_rd ft tp 0) / 2 ^ 4))), (0, .ref o), (1, .int (nI n9)), (2, .int (nI a9))]) hx hb dX12_sign_116 hl (by decide) rfl (fun ls hl => ?_)
    refine lv_aload_n hx hb dX12_sign_118 rfl (lv_at hl 3 rfl) ?_
    refine va_get (ci := 9) (C := RX12) (T := TX12) (N := 28) hx hb ht iFX12 hown hK hP 0 rfl rfl 0 (by decide) (ht _ kw4_110) (fun _ h9 => h9) rfl dX12_sign_119 ?_
    refine lv_iload_n hx hb dX12_sign_122 rfl (lv_at hl 5 rfl) ?_
    refine nv_iconst (k := 2) hx hb dX12_sign_123 rfl ?_
    refine lv_iload hx hb dX12_sign_124 (lv_at hl 0 rfl) ?_
    refine nv_i2l hx hb (by omega) dX12_sign_126 ?_
    refine wr_S S (c_X12_put (ws := mW cy o ad tp os sz bits F G u nb ns T M id ft fo fi g pt ih il ip pn op so fa fp st en dr ++ tl) (kr := 1) (N := 1600) rfl (by omega) (a := a9) (many := 2) (x := tg_sum (tg_rd ft tp) 20 n9 a9 (tg_rd ft tp 9)) (v := lN (tg_sum (tg_rd ft tp) 20 n9 a9 (tg_rd ft tp 9))) (by omega) (by omega) (fun k hk => by rw [lN_toNat (by omega)])) kw5_123 yv_X12_put ⟨Nat.le_of_ble_eq_true rfl, Nat.le_of_ble_eq_true rfl⟩ hK hP hD hS hA rfl hl.1 rfl (Nat.le_of_ble_eq_true rfl) dX12_sign_127 ⟨Nat.zero_le _, Nat.zero_le _⟩ (fun g_1 H locs hg_1 hP hD hS => ?_)
    have hP : va_P D vwCl (mW cy o ad tp os sz bits F G u nb ns T M id g_1 fo fi g pt ih il ip pn op so fa fp st en dr ++ tl) H := hP
    have hD : va_D A (mW cy o ad tp os sz bits F G u nb ns T M id g_1 fo fi g pt ih il ip pn op so fa fp st en dr ++ tl) := hD
    refine W.eq (g2 := F0 m 130 ls []) rfl ?_
    refine lv_iload hx hb dX12_sign_130 (lv_at hl 0 rfl) ?_
    first
      | (exfalso; omega)
      | (rw [hg_1] at hP hD; exact hend () rfl trivial hP hD hS dX12_sign_132)
  exfalso; omega
set_option maxHeartbeats 4000000 in
set_option maxRecDepth 100000 in
theorem c_X12_sign6 {l : Launch} {D : va_G} {cy : Nat → ClassId} {o : Nat} {ad : Nat → Nat} {tl : va_W} {tp os sz bits F G u nb ns T M id : Nat} {ft fo fi : Nat → UInt8} {g : Nat → Int32} {pt ih il ip pn op so fa fp st en dr : Nat → Nat} {n9 a9 : Nat} (hv9 : tg_rd ft tp 0 / 16 = 6) (hn1 : 40 ≤ n9) (hn2 : n9 ≤ tp) (ha1 : 40 ≤ a9) (ha2 : a9 + 2 ≤ n9) (htp : tp ≤ 1600) : WR (S := Unit) l yX12_sign cX12_sign 6 (some .int) 4 0 0 96 [.ref o, .int (nI n9), .int (nI a9)] D cy (mW cy o ad tp os sz bits F G u nb ns T M id ft fo fi g pt ih il ip pn op so fa fp st en dr ++ tl) (fun u_ => some (.int (nI (tg_sum (tg_rd ft tp) 40 n9 a9 (tg_rd ft tp 6))))) (fun _ => True) (fun _ => mW cy o ad tp os sz bits F G u nb ns T M id (tg_put ft a9 2 (tg_sum (tg_rd ft tp) 40 n9 a9 (tg_rd ft tp 6))) fo fi g pt ih il ip pn op so fa fp st en dr ++ tl) := by
  refine WRi (by decide) (lv0 := [(0, .ref o), (1, .int (nI n9)), (2, .int (nI a9))]) rfl (Nat.le_of_ble_eq_true rfl) ?_
  intro p e s m args below meth c ls A Q S hnm hP hK hD hS hA hend hl
  have hx := S.1
  have hb := S.2.1
  have hown : s.vm.findClass RX12 = some m.cls := S.2.2.2.1
  have ht : ∀ w ∈ lw_g, w.before args s = true := fun w h => S.2.2.2.2 w (List.mem_cons_of_mem _ h)
  have hP : va_P D vwCl (mW cy o ad tp os sz bits F G u nb ns T M id ft fo fi g pt ih il ip pn op so fa fp st en dr ++ tl) s.heap := hP
  refine lv_iload_n hx hb dX12_sign_0 rfl (lv_at hl 1 rfl) ?_
  refine nv_i2l hx hb (by omega) dX12_sign_1 ?_
  refine nv_ldc2 (k := 20) hx hb hown (ht _ kw5_183) (by decide) dX12_sign_2 ?_
  refine lv_aload_n hx hb dX12_sign_5 rfl (lv_at hl 0 rfl) ?_
  refine va_get (ci := 9) (C := RX12) (T := TX12) (N := 28) hx hb ht iFX12 hown hK hP 0 rfl rfl 1 (by decide) (ht _ kw4_111) (fun _ h9 => h9) rfl dX12_sign_6 ?_
  refine nv_i2l hx hb (by omega) dX12_sign_9 ?_
  refine ro_S S (c_X12_isIn (v := lN (n9)) (lo := lN (20)) (hi := lN (tp))) kw5_14 yv_X12_isIn ⟨Nat.le_of_ble_eq_true rfl, Nat.le_of_ble_eq_true rfl⟩ hK hP rfl hl.1 rfl (Nat.le_of_ble_eq_true rfl) dX12_sign_10 ⟨(Nat.zero_le _), (Nat.zero_le _)⟩ ?_
  rw [show tg_isIn (lN (n9)) (lN (20)) (lN (tp)) = true from (by rw [isIn_nat (by omega) (by omega) (by omega)]; exact decide_eq_true (by omega))]
  refine nv_if_neb (tgt := 18) hx hb dX12_sign_13 (by decide) (fun _ => ?_) (fun h => absurd h (by decide))
  refine lv_aload_n hx hb dX12_sign_18 rfl (lv_at hl 0 rfl) ?_
  refine va_get (ci := 9) (C := RX12) (T := TX12) (N := 28) hx hb ht iFX12 hown hK hP 0 rfl rfl 0 (by decide) (ht _ kw4_110) (fun _ h9 => h9) rfl dX12_sign_19 ?_
  refine nv_iconst (k := 0) hx hb dX12_sign_22 rfl ?_
  refine ro_S S (c_X12_at (AR_of (ws := mW cy o ad tp os sz bits F G u nb ns T M id ft fo fi g pt ih il ip pn op so fa fp st en dr ++ tl) (kr := 1) (N := 1600) (n := tp) rfl (by omega) (by omega)) (i := 0) (by omega)) kw5_41 yv_X12_at ⟨Nat.le_of_ble_eq_true rfl, Nat.le_of_ble_eq_true rfl⟩ hK hP rfl hl.1 rfl (Nat.le_of_ble_eq_true rfl) dX12_sign_23 ⟨(Nat.zero_le _), (Nat.zero_le _)⟩ ?_
  have hq23 := tg_rd_lt ft tp 0
  refine nv_iconst (k := 4) hx hb dX12_sign_26 rfl ?_
  refine nv_ishr hx hb (by omega) (by omega) dX12_sign_27 ?_
  have hr0 := tg_rd_lt ft tp 0
  refine lv_istore_n (lv' := [(3, .int (nI ((tg_rd ft tp 0) / 2 ^ 4))), (0, .ref o), (1, .int (nI n9)), (2, .int (nI a9))]) hx hb dX12_sign_28 rfl hl (by decide) rfl (fun ls hl => ?_)
  refine lv_iload_n hx hb dX12_sign_29 rfl (lv_at hl 0 rfl) ?_
  refine nv_iconst (k := 4) hx hb dX12_sign_30 rfl ?_
  refine nv_icmp_ne (tgt := 39) hx hb dX12_sign_31 (by decide) (by omega) (by omega) (fun h31 => ?_) (fun h31 => ?_)
  · skip
    refine nv_bipush (k := 40) hx hb dX12_sign_39 (by decide) ?_
    refine lv_istore (lv' := [(4, .int (nI 40)), (3, .int (nI ((tg_rd ft tp 0) / 2 ^ 4))), (0, .ref o), (1, .int (nI n9)), (2, .int (nI a9))]) hx hb dX12_sign_41 hl (by decide) rfl (fun ls hl => ?_)
    refine lv_iload_n hx hb dX12_sign_43 rfl (lv_at hl 1 rfl) ?_
    refine nv_iconst (k := 4) hx hb dX12_sign_44 rfl ?_
    refine nv_icmp_eq (tgt := 54) hx hb dX12_sign_45 (by decide) (by omega) (by omega) (fun h45 => ?_) (fun h45 => ?_)
    · skip
      refine lv_iload_n hx hb dX12_sign_54 rfl (lv_at hl 3 rfl) ?_
      refine lv_iload hx hb dX12_sign_55 (lv_at hl 0 rfl) ?_
      refine nv_icmp_lt (tgt := 77) hx hb dX12_sign_57 (by decide) (by omega) (by omega) (fun h57 => ?_) (fun h57 => ?_)
      · skip
        exfalso; omega
      refine lv_iload_n hx hb dX12_sign_60 rfl (lv_at hl 4 rfl) ?_
      refine nv_i2l hx hb (by omega) dX12_sign_61 ?_
      refine lv_iload hx hb dX12_sign_62 (lv_at hl 0 rfl) ?_
      refine nv_i2l hx hb (by omega) dX12_sign_64 ?_
      refine lv_iload_n hx hb dX12_sign_65 rfl (lv_at hl 3 rfl) ?_
      refine nv_i2l hx hb (by omega) dX12_sign_66 ?_
      refine nv_ldc2 (k := 2) hx hb hown (ht _ kw5_184) (by decide) dX12_sign_67 ?_
      refine nv_lsub hx hb (by omega) dX12_sign_70 ?_
      refine ro_S S (c_X12_isIn (v := lN (a9)) (lo := lN (40)) (hi := lN (n9 - 2))) kw5_14 yv_X12_isIn ⟨Nat.le_of_ble_eq_true rfl, Nat.le_of_ble_eq_true rfl⟩ hK hP rfl hl.1 rfl (Nat.le_of_ble_eq_true rfl) dX12_sign_71 ⟨(Nat.zero_le _), (Nat.zero_le _)⟩ ?_
      rw [show tg_isIn (lN (a9)) (lN (40)) (lN (n9 - 2)) = true from (by rw [isIn_nat (by omega) (by omega) (by omega)]; exact decide_eq_true (by omega))]
      refine nv_if_neb (tgt := 79) hx hb dX12_sign_74 (by decide) (fun _ => ?_) (fun h => absurd h (by decide))
      refine lv_aload_n hx hb dX12_sign_79 rfl (lv_at hl 2 rfl) ?_
      refine va_get (ci := 9) (C := RX12) (T := TX12) (N := 28) hx hb ht iFX12 hown hK hP 0 rfl rfl 0 (by decide) (ht _ kw4_110) (fun _ h9 => h9) rfl dX12_sign_80 ?_
      refine lv_iload hx hb dX12_sign_83 (lv_at hl 0 rfl) ?_
      refine lv_iload_n hx hb dX12_sign_85 rfl (lv_at hl 3 rfl) ?_
      refine lv_iload_n hx hb dX12_sign_86 rfl (lv_at hl 4 rfl) ?_
      refine lv_iload_n hx hb dX12_sign_87 rfl (lv_at hl 1 rfl) ?_
      refine nv_iconst (k := 4) hx hb dX12_sign_88 rfl ?_
      refine nv_icmp_ne (tgt := 104) hx hb dX12_sign_89 (by decide) (by omega) (by omega) (fun h89 => ?_) (fun h89 => ?_)
      · skip
        refine lv_aload_n hx hb dX12_sign_104 rfl (lv_at hl 2 rfl) ?_
        refine va_get (ci := 9) (C := RX12) (T := TX12) (N := 28) hx hb ht iFX12 hown hK hP 0 rfl rfl 0 (by decide) (ht _ kw4_110) (fun _ h9 => h9) rfl dX12_sign_105 ?_
        refine nv_bipush (k := 6) hx hb dX12_sign_108 (by decide) ?_
        refine ro_S S (c_X12_at (AR_of (ws := mW cy o ad tp os sz bits F G u nb ns T M id ft fo fi g pt ih il ip pn op so fa fp st en dr ++ tl) (kr := 1) (N := 1600) (n := tp) rfl (by omega) (by omega)) (i := 6) (by omega)) kw5_41 yv_X12_at ⟨Nat.le_of_ble_eq_true rfl, Nat.le_of_ble_eq_true rfl⟩ hK hP rfl hl.1 rfl (Nat.le_of_ble_eq_true rfl) dX12_sign_110 ⟨(Nat.zero_le _), (Nat.zero_le _)⟩ ?_
        have hq110 := tg_rd_lt ft tp 6
        refine ro_S S (c_X12_sumOf (AR_of (ws := mW cy o ad tp os sz bits F G u nb ns T M id ft fo fi g pt ih il ip pn op so fa fp st en dr ++ tl) (kr := 1) (N := 1600) (n := tp) rfl (by omega) (by omega)) (hd := 40) (z := n9) (w := a9) (q := tg_rd ft tp 6) (by omega) (by omega) (by omega) (by omega) (by omega)) kw5_58 yv_X12_sumOf ⟨Nat.le_of_ble_eq_true rfl, Nat.le_of_ble_eq_true rfl⟩ hK hP rfl hl.1 rfl (Nat.le_of_ble_eq_true rfl) dX12_sign_113 ⟨(Nat.zero_le _), (Nat.zero_le _)⟩ ?_
        have hq113 := tg_sum_le (tg_rd ft tp) 40 n9 a9 (tg_rd ft tp 6)
        refine lv_istore (lv' := [(5, .int (nI (tg_sum (tg_rd ft tp) 40 n9 a9 (tg_rd ft tp 6)))), (4, .int (nI 40)), (3, .int (nI ((tg_rd ft tp 0) / 2 ^ 4))), (0, .ref o), (1, .int (nI n9)), (2, .int (nI a9))]) hx hb dX12_sign_116 hl (by decide) rfl (fun ls hl => ?_)
        refine lv_aload_n hx hb dX12_sign_118 rfl (lv_at hl 3 rfl) ?_
        refine va_get (ci := 9) (C := RX12) (T := TX12) (N := 28) hx hb ht iFX12 hown hK hP 0 rfl rfl 0 (by decide) (ht _ kw4_110) (fun _ h9 => h9) rfl dX12_sign_119 ?_
        refine lv_iload_n hx hb dX12_sign_122 rfl (lv_at hl 5 rfl) ?_
        refine nv_iconst (k := 2) hx hb dX12_sign_123 rfl ?_
        refine lv_iload hx hb dX12_sign_124 (lv_at hl 0 rfl) ?_
        refine nv_i2l hx hb (by omega) dX12_sign_126 ?_
        refine wr_S S (c_X12_put (ws := mW cy o ad tp os sz bits F G u nb ns T M id ft fo fi g pt ih il ip pn op so fa fp st en dr ++ tl) (kr := 1) (N := 1600) rfl (by omega) (a := a9) (many := 2) (x := tg_sum (tg_rd ft tp) 40 n9 a9 (tg_rd ft tp 6)) (v := lN (tg_sum (tg_rd ft tp) 40 n9 a9 (tg_rd ft tp 6))) (by omega) (by omega) (fun k hk => by rw [lN_toNat (by omega)])) kw5_123 yv_X12_put ⟨Nat.le_of_ble_eq_true rfl, Nat.le_of_ble_eq_true rfl⟩ hK hP hD hS hA rfl hl.1 rfl (Nat.le_of_ble_eq_true rfl) dX12_sign_127 ⟨Nat.zero_le _, Nat.zero_le _⟩ (fun g_1 H locs hg_1 hP hD hS => ?_)
        have hP : va_P D vwCl (mW cy o ad tp os sz bits F G u nb ns T M id g_1 fo fi g pt ih il ip pn op so fa fp st en dr ++ tl) H := hP
        have hD : va_D A (mW cy o ad tp os sz bits F G u nb ns T M id g_1 fo fi g pt ih il ip pn op so fa fp st en dr ++ tl) := hD
        refine W.eq (g2 := F0 m 130 ls []) rfl ?_
        refine lv_iload hx hb dX12_sign_130 (lv_at hl 0 rfl) ?_
        first
          | (exfalso; omega)
          | (rw [hg_1] at hP hD; exact hend () rfl trivial hP hD hS dX12_sign_132)
      exfalso; omega
    refine lv_iload_n hx hb dX12_sign_48 rfl (lv_at hl 1 rfl) ?_
    refine nv_bipush (k := 6) hx hb dX12_sign_49 (by decide) ?_
    refine nv_icmp_ne (tgt := 77) hx hb dX12_sign_51 (by decide) (by omega) (by omega) (fun h51 => ?_) (fun h51 => ?_)
    · skip
      exfalso; omega
    refine lv_iload_n hx hb dX12_sign_54 rfl (lv_at hl 3 rfl) ?_
    refine lv_iload hx hb dX12_sign_55 (lv_at hl 0 rfl) ?_
    refine nv_icmp_lt (tgt := 77) hx hb dX12_sign_57 (by decide) (by omega) (by omega) (fun h57 => ?_) (fun h57 => ?_)
    · skip
      exfalso; omega
    refine lv_iload_n hx hb dX12_sign_60 rfl (lv_at hl 4 rfl) ?_
    refine nv_i2l hx hb (by omega) dX12_sign_61 ?_
    refine lv_iload hx hb dX12_sign_62 (lv_at hl 0 rfl) ?_
    refine nv_i2l hx hb (by omega) dX12_sign_64 ?_
    refine lv_iload_n hx hb dX12_sign_65 rfl (lv_at hl 3 rfl) ?_
    refine nv_i2l hx hb (by omega) dX12_sign_66 ?_
    refine nv_ldc2 (k := 2) hx hb hown (ht _ kw5_184) (by decide) dX12_sign_67 ?_
    refine nv_lsub hx hb (by omega) dX12_sign_70 ?_
    refine ro_S S (c_X12_isIn (v := lN (a9)) (lo := lN (40)) (hi := lN (n9 - 2))) kw5_14 yv_X12_isIn ⟨Nat.le_of_ble_eq_true rfl, Nat.le_of_ble_eq_true rfl⟩ hK hP rfl hl.1 rfl (Nat.le_of_ble_eq_true rfl) dX12_sign_71 ⟨(Nat.zero_le _), (Nat.zero_le _)⟩ ?_
    rw [show tg_isIn (lN (a9)) (lN (40)) (lN (n9 - 2)) = true from (by rw [isIn_nat (by omega) (by omega) (by omega)]; exact decide_eq_true (by omega))]
    refine nv_if_neb (tgt := 79) hx hb dX12_sign_74 (by decide) (fun _ => ?_) (fun h => absurd h (by decide))
    refine lv_aload_n hx hb dX12_sign_79 rfl (lv_at hl 2 rfl) ?_
    refine va_get (ci := 9) (C := RX12) (T := TX12) (N := 28) hx hb ht iFX12 hown hK hP 0 rfl rfl 0 (by decide) (ht _ kw4_110) (fun _ h9 => h9) rfl dX12_sign_80 ?_
    refine lv_iload hx hb dX12_sign_83 (lv_at hl 0 rfl) ?_
    refine lv_iload_n hx hb dX12_sign_85 rfl (lv_at hl 3 rfl) ?_
    refine lv_iload_n hx hb dX12_sign_86 rfl (lv_at hl 4 rfl) ?_
    refine lv_iload_n hx hb dX12_sign_87 rfl (lv_at hl 1 rfl) ?_
    refine nv_iconst (k := 4) hx hb dX12_sign_88 rfl ?_
    refine nv_icmp_ne (tgt := 104) hx hb dX12_sign_89 (by decide) (by omega) (by omega) (fun h89 => ?_) (fun h89 => ?_)
    · skip
      refine lv_aload_n hx hb dX12_sign_104 rfl (lv_at hl 2 rfl) ?_
      refine va_get (ci := 9) (C := RX12) (T := TX12) (N := 28) hx hb ht iFX12 hown hK hP 0 rfl rfl 0 (by decide) (ht _ kw4_110) (fun _ h9 => h9) rfl dX12_sign_105 ?_
      refine nv_bipush (k := 6) hx hb dX12_sign_108 (by decide) ?_
      refine ro_S S (c_X12_at (AR_of (ws := mW cy o ad tp os sz bits F G u nb ns T M id ft fo fi g pt ih il ip pn op so fa fp st en dr ++ tl) (kr := 1) (N := 1600) (n := tp) rfl (by omega) (by omega)) (i := 6) (by omega)) kw5_41 yv_X12_at ⟨Nat.le_of_ble_eq_true rfl, Nat.le_of_ble_eq_true rfl⟩ hK hP rfl hl.1 rfl (Nat.le_of_ble_eq_true rfl) dX12_sign_110 ⟨(Nat.zero_le _), (Nat.zero_le _)⟩ ?_
      have hq110 := tg_rd_lt ft tp 6
      refine ro_S S (c_X12_sumOf (AR_of (ws := mW cy o ad tp os sz bits F G u nb ns T M id ft fo fi g pt ih il ip pn op so fa fp st en dr ++ tl) (kr := 1) (N := 1600) (n := tp) rfl (by omega) (by omega)) (hd := 40) (z := n9) (w := a9) (q := tg_rd ft tp 6) (by omega) (by omega) (by omega) (by omega) (by omega)) kw5_58 yv_X12_sumOf ⟨Nat.le_of_ble_eq_true rfl, Nat.le_of_ble_eq_true rfl⟩ hK hP rfl hl.1 rfl (Nat.le_of_ble_eq_true rfl) dX12_sign_113 ⟨(Nat.zero_le _), (Nat.zero_le _)⟩ ?_
      have hq113 := tg_sum_le (tg_rd ft tp) 40 n9 a9 (tg_rd ft tp 6)
      refine lv_istore (lv' := [(5, .int (nI (tg_sum (tg_rd ft tp) 40 n9 a9 (tg_rd ft tp 6)))), (4, .int (nI 40)), (3, .int (nI ((tg_rd ft tp 0) / 2 ^ 4))), (0, .ref o), (1, .int (nI n9)), (2, .int (nI a9))]) hx hb dX12_sign_116 hl (by decide) rfl (fun ls hl => ?_)
      refine lv_aload_n hx hb dX12_sign_118 rfl (lv_at hl 3 rfl) ?_
      refine va_get (ci := 9) (C := RX12) (T := TX12) (N := 28) hx hb ht iFX12 hown hK hP 0 rfl rfl 0 (by decide) (ht _ kw4_110) (fun _ h9 => h9) rfl dX12_sign_119 ?_
      refine lv_iload_n hx hb dX12_sign_122 rfl (lv_at hl 5 rfl) ?_
      refine nv_iconst (k := 2) hx hb dX12_sign_123 rfl ?_
      refine lv_iload hx hb dX12_sign_124 (lv_at hl 0 rfl) ?_
      refine nv_i2l hx hb (by omega) dX12_sign_126 ?_
      refine wr_S S (c_X12_put (ws := mW cy o ad tp os sz bits F G u nb ns T M id ft fo fi g pt ih il ip pn op so fa fp st en dr ++ tl) (kr := 1) (N := 1600) rfl (by omega) (a := a9) (many := 2) (x := tg_sum (tg_rd ft tp) 40 n9 a9 (tg_rd ft tp 6)) (v := lN (tg_sum (tg_rd ft tp) 40 n9 a9 (tg_rd ft tp 6))) (by omega) (by omega) (fun k hk => by rw [lN_toNat (by omega)])) kw5_123 yv_X12_put ⟨Nat.le_of_ble_eq_true rfl, Nat.le_of_ble_eq_true rfl⟩ hK hP hD hS hA rfl hl.1 rfl (Nat.le_of_ble_eq_true rfl) dX12_sign_127 ⟨Nat.zero_le _, Nat.zero_le _⟩ (fun g_2 H locs hg_2 hP hD hS => ?_)
      have hP : va_P D vwCl (mW cy o ad tp os sz bits F G u nb ns T M id g_2 fo fi g pt ih il ip pn op so fa fp st en dr ++ tl) H := hP
      have hD : va_D A (mW cy o ad tp os sz bits F G u nb ns T M id g_2 fo fi g pt ih il ip pn op so fa fp st en dr ++ tl) := hD
      refine W.eq (g2 := F0 m 130 ls []) rfl ?_
      refine lv_iload hx hb dX12_sign_130 (lv_at hl 0 rfl) ?_
      first
        | (exfalso; omega)
        | (rw [hg_2] at hP hD; exact hend () rfl trivial hP hD hS dX12_sign_132)
    exfalso; omega
  exfalso; omega
theorem dX12_dropBinding_0 : decode cX12_dropBinding 0 = .ok (.aload_n 0, 1) := by decide +kernel
theorem dX12_dropBinding_1 : decode cX12_dropBinding 1 = .ok (.dup, 1) := by decide +kernel
theorem dX12_dropBinding_2 : decode cX12_dropBinding 2 = .ok (.getfield 80, 3) := by decide +kernel
theorem dX12_dropBinding_5 : decode cX12_dropBinding 5 = .ok (.iconst 1, 1) := by decide +kernel
theorem dX12_dropBinding_6 : decode cX12_dropBinding 6 = .ok (.isub, 1) := by decide +kernel
theorem dX12_dropBinding_7 : decode cX12_dropBinding 7 = .ok (.putfield 80, 3) := by decide +kernel
theorem dX12_dropBinding_10 : decode cX12_dropBinding 10 = .ok (.iload_n 1, 1) := by decide +kernel
theorem dX12_dropBinding_11 : decode cX12_dropBinding 11 = .ok (.istore_n 2, 1) := by decide +kernel
theorem dX12_dropBinding_12 : decode cX12_dropBinding 12 = .ok (.iload_n 2, 1) := by decide +kernel
theorem dX12_dropBinding_13 : decode cX12_dropBinding 13 = .ok (.aload_n 0, 1) := by decide +kernel
theorem dX12_dropBinding_14 : decode cX12_dropBinding 14 = .ok (.getfield 80, 3) := by decide +kernel
theorem dX12_dropBinding_17 : decode cX12_dropBinding 17 = .ok (.if_icmp .ge 93, 3) := by decide +kernel
theorem dX12_dropBinding_20 : decode cX12_dropBinding 20 = .ok (.aload_n 0, 1) := by decide +kernel
theorem dX12_dropBinding_21 : decode cX12_dropBinding 21 = .ok (.getfield 23, 3) := by decide +kernel
theorem dX12_dropBinding_24 : decode cX12_dropBinding 24 = .ok (.iload_n 2, 1) := by decide +kernel
theorem dX12_dropBinding_25 : decode cX12_dropBinding 25 = .ok (.aload_n 0, 1) := by decide +kernel
theorem dX12_dropBinding_26 : decode cX12_dropBinding 26 = .ok (.getfield 23, 3) := by decide +kernel
theorem dX12_dropBinding_29 : decode cX12_dropBinding 29 = .ok (.iload_n 2, 1) := by decide +kernel
theorem dX12_dropBinding_30 : decode cX12_dropBinding 30 = .ok (.iconst 1, 1) := by decide +kernel
theorem dX12_dropBinding_31 : decode cX12_dropBinding 31 = .ok (.iadd, 1) := by decide +kernel
theorem dX12_dropBinding_32 : decode cX12_dropBinding 32 = .ok (.iaload, 1) := by decide +kernel
theorem dX12_dropBinding_33 : decode cX12_dropBinding 33 = .ok (.iastore, 1) := by decide +kernel
theorem dX12_dropBinding_34 : decode cX12_dropBinding 34 = .ok (.aload_n 0, 1) := by decide +kernel
theorem dX12_dropBinding_35 : decode cX12_dropBinding 35 = .ok (.getfield 26, 3) := by decide +kernel
theorem dX12_dropBinding_38 : decode cX12_dropBinding 38 = .ok (.iload_n 2, 1) := by decide +kernel
theorem dX12_dropBinding_39 : decode cX12_dropBinding 39 = .ok (.aload_n 0, 1) := by decide +kernel
theorem dX12_dropBinding_40 : decode cX12_dropBinding 40 = .ok (.getfield 26, 3) := by decide +kernel
theorem dX12_dropBinding_43 : decode cX12_dropBinding 43 = .ok (.iload_n 2, 1) := by decide +kernel
theorem dX12_dropBinding_44 : decode cX12_dropBinding 44 = .ok (.iconst 1, 1) := by decide +kernel
theorem dX12_dropBinding_45 : decode cX12_dropBinding 45 = .ok (.iadd, 1) := by decide +kernel
theorem dX12_dropBinding_46 : decode cX12_dropBinding 46 = .ok (.laload, 1) := by decide +kernel
theorem dX12_dropBinding_47 : decode cX12_dropBinding 47 = .ok (.lastore, 1) := by decide +kernel
theorem dX12_dropBinding_48 : decode cX12_dropBinding 48 = .ok (.aload_n 0, 1) := by decide +kernel
theorem dX12_dropBinding_49 : decode cX12_dropBinding 49 = .ok (.getfield 30, 3) := by decide +kernel
theorem dX12_dropBinding_52 : decode cX12_dropBinding 52 = .ok (.iload_n 2, 1) := by decide +kernel
theorem dX12_dropBinding_53 : decode cX12_dropBinding 53 = .ok (.aload_n 0, 1) := by decide +kernel
theorem dX12_dropBinding_54 : decode cX12_dropBinding 54 = .ok (.getfield 30, 3) := by decide +kernel
theorem dX12_dropBinding_57 : decode cX12_dropBinding 57 = .ok (.iload_n 2, 1) := by decide +kernel
theorem dX12_dropBinding_58 : decode cX12_dropBinding 58 = .ok (.iconst 1, 1) := by decide +kernel
theorem dX12_dropBinding_59 : decode cX12_dropBinding 59 = .ok (.iadd, 1) := by decide +kernel
theorem dX12_dropBinding_60 : decode cX12_dropBinding 60 = .ok (.laload, 1) := by decide +kernel
theorem dX12_dropBinding_61 : decode cX12_dropBinding 61 = .ok (.lastore, 1) := by decide +kernel
theorem dX12_dropBinding_62 : decode cX12_dropBinding 62 = .ok (.aload_n 0, 1) := by decide +kernel
theorem dX12_dropBinding_63 : decode cX12_dropBinding 63 = .ok (.getfield 33, 3) := by decide +kernel
theorem dX12_dropBinding_66 : decode cX12_dropBinding 66 = .ok (.iload_n 2, 1) := by decide +kernel
theorem dX12_dropBinding_67 : decode cX12_dropBinding 67 = .ok (.aload_n 0, 1) := by decide +kernel
theorem dX12_dropBinding_68 : decode cX12_dropBinding 68 = .ok (.getfield 33, 3) := by decide +kernel
theorem dX12_dropBinding_71 : decode cX12_dropBinding 71 = .ok (.iload_n 2, 1) := by decide +kernel
theorem dX12_dropBinding_72 : decode cX12_dropBinding 72 = .ok (.iconst 1, 1) := by decide +kernel
theorem dX12_dropBinding_73 : decode cX12_dropBinding 73 = .ok (.iadd, 1) := by decide +kernel
theorem dX12_dropBinding_74 : decode cX12_dropBinding 74 = .ok (.iaload, 1) := by decide +kernel
theorem dX12_dropBinding_75 : decode cX12_dropBinding 75 = .ok (.iastore, 1) := by decide +kernel
theorem dX12_dropBinding_76 : decode cX12_dropBinding 76 = .ok (.aload_n 0, 1) := by decide +kernel
theorem dX12_dropBinding_77 : decode cX12_dropBinding 77 = .ok (.getfield 36, 3) := by decide +kernel
theorem dX12_dropBinding_80 : decode cX12_dropBinding 80 = .ok (.iload_n 2, 1) := by decide +kernel
theorem dX12_dropBinding_81 : decode cX12_dropBinding 81 = .ok (.aload_n 0, 1) := by decide +kernel
theorem dX12_dropBinding_82 : decode cX12_dropBinding 82 = .ok (.getfield 36, 3) := by decide +kernel
theorem dX12_dropBinding_85 : decode cX12_dropBinding 85 = .ok (.iload_n 2, 1) := by decide +kernel
theorem dX12_dropBinding_86 : decode cX12_dropBinding 86 = .ok (.iconst 1, 1) := by decide +kernel
theorem dX12_dropBinding_87 : decode cX12_dropBinding 87 = .ok (.iadd, 1) := by decide +kernel
theorem dX12_dropBinding_88 : decode cX12_dropBinding 88 = .ok (.iaload, 1) := by decide +kernel
theorem dX12_dropBinding_89 : decode cX12_dropBinding 89 = .ok (.iastore, 1) := by decide +kernel
theorem dX12_dropBinding_90 : decode cX12_dropBinding 90 = .ok (.aload_n 0, 1) := by decide +kernel
theorem dX12_dropBinding_91 : decode cX12_dropBinding 91 = .ok (.getfield 39, 3) := by decide +kernel
theorem dX12_dropBinding_94 : decode cX12_dropBinding 94 = .ok (.iload_n 2, 1) := by decide +kernel
theorem dX12_dropBinding_95 : decode cX12_dropBinding 95 = .ok (.aload_n 0, 1) := by decide +kernel
theorem dX12_dropBinding_96 : decode cX12_dropBinding 96 = .ok (.getfield 39, 3) := by decide +kernel
theorem dX12_dropBinding_99 : decode cX12_dropBinding 99 = .ok (.iload_n 2, 1) := by decide +kernel
theorem dX12_dropBinding_100 : decode cX12_dropBinding 100 = .ok (.iconst 1, 1) := by decide +kernel
theorem dX12_dropBinding_101 : decode cX12_dropBinding 101 = .ok (.iadd, 1) := by decide +kernel
theorem dX12_dropBinding_102 : decode cX12_dropBinding 102 = .ok (.iaload, 1) := by decide +kernel
theorem dX12_dropBinding_103 : decode cX12_dropBinding 103 = .ok (.iastore, 1) := by decide +kernel
theorem dX12_dropBinding_104 : decode cX12_dropBinding 104 = .ok (.iinc 2 1, 3) := by decide +kernel
theorem dX12_dropBinding_107 : decode cX12_dropBinding 107 = .ok (.goto (-95), 3) := by decide +kernel
theorem dX12_dropBinding_110 : decode cX12_dropBinding 110 = .ok (.iconst 0, 1) := by decide +kernel
theorem dX12_dropBinding_111 : decode cX12_dropBinding 111 = .ok (.istore_n 2, 1) := by decide +kernel
theorem dX12_dropBinding_112 : decode cX12_dropBinding 112 = .ok (.iload_n 2, 1) := by decide +kernel
theorem dX12_dropBinding_113 : decode cX12_dropBinding 113 = .ok (.aload_n 0, 1) := by decide +kernel
theorem dX12_dropBinding_114 : decode cX12_dropBinding 114 = .ok (.getfield 83, 3) := by decide +kernel
theorem dX12_dropBinding_117 : decode cX12_dropBinding 117 = .ok (.if_icmp .ge 33, 3) := by decide +kernel
theorem dX12_dropBinding_120 : decode cX12_dropBinding 120 = .ok (.aload_n 0, 1) := by decide +kernel
theorem dX12_dropBinding_121 : decode cX12_dropBinding 121 = .ok (.getfield 42, 3) := by decide +kernel
theorem dX12_dropBinding_124 : decode cX12_dropBinding 124 = .ok (.iload_n 2, 1) := by decide +kernel
theorem dX12_dropBinding_125 : decode cX12_dropBinding 125 = .ok (.dup2, 1) := by decide +kernel
theorem dX12_dropBinding_126 : decode cX12_dropBinding 126 = .ok (.iaload, 1) := by decide +kernel
theorem dX12_dropBinding_127 : decode cX12_dropBinding 127 = .ok (.aload_n 0, 1) := by decide +kernel
theorem dX12_dropBinding_128 : decode cX12_dropBinding 128 = .ok (.getfield 42, 3) := by decide +kernel
theorem dX12_dropBinding_131 : decode cX12_dropBinding 131 = .ok (.iload_n 2, 1) := by decide +kernel
theorem dX12_dropBinding_132 : decode cX12_dropBinding 132 = .ok (.iaload, 1) := by decide +kernel
theorem dX12_dropBinding_133 : decode cX12_dropBinding 133 = .ok (.iload_n 1, 1) := by decide +kernel
theorem dX12_dropBinding_134 : decode cX12_dropBinding 134 = .ok (.if_icmp .le 7, 3) := by decide +kernel
theorem dX12_dropBinding_137 : decode cX12_dropBinding 137 = .ok (.iconst 1, 1) := by decide +kernel
theorem dX12_dropBinding_138 : decode cX12_dropBinding 138 = .ok (.goto 4, 3) := by decide +kernel
theorem dX12_dropBinding_141 : decode cX12_dropBinding 141 = .ok (.iconst 0, 1) := by decide +kernel
theorem dX12_dropBinding_142 : decode cX12_dropBinding 142 = .ok (.isub, 1) := by decide +kernel
theorem dX12_dropBinding_143 : decode cX12_dropBinding 143 = .ok (.iastore, 1) := by decide +kernel
theorem dX12_dropBinding_144 : decode cX12_dropBinding 144 = .ok (.iinc 2 1, 3) := by decide +kernel
theorem dX12_dropBinding_147 : decode cX12_dropBinding 147 = .ok (.goto (-35), 3) := by decide +kernel
theorem dX12_dropBinding_150 : decode cX12_dropBinding 150 = .ok (.return_, 1) := by decide +kernel
theorem yv_X12_dropBinding : YV RX12 yX12_dropBinding cX12_dropBinding 3 none 1 := ⟨kw5_27, kws_25, kw1_10, kw5_28, by decide +kernel⟩
set_option maxHeartbeats 4000000 in
set_option maxRecDepth 100000 in
theorem c_X12_dropBinding {l : Launch} {D : va_G} {cy : Nat → ClassId} {o : Nat} {ad : Nat → Nat} {tl : va_W} {tp os sz bits F G u nb ns T M id : Nat} {ft fo fi : Nat → UInt8} {g : Nat → Int32} {pt ih il ip pn op so fa fp st en dr : Nat → Nat} {b : Nat} (hb9 : b < nb) (hnb : nb ≤ 64) (hns : ns ≤ 128) (hb_so : ∀ i, so i < 2 ^ 31) : WR (S := Unit) l yX12_dropBinding cX12_dropBinding 3 none 0 0 0 0 [.ref o, .int (nI b)] D cy (mW cy o ad tp os sz bits F G u nb ns T M id ft fo fi g pt ih il ip pn op so fa fp st en dr ++ tl) (fun _ => none) (fun _ => True) (fun _ => mW cy o ad tp os sz bits F G u (nb - 1) ns T M id ft fo fi g (shk pt b (nb - 1)) (shk ih b (nb - 1)) (shk il b (nb - 1)) (shk ip b (nb - 1)) (shk pn b (nb - 1)) (shk op b (nb - 1)) (sok so b ns) fa fp st en dr ++ tl) := by
  refine WRv (by decide) (lv0 := [(0, .ref o), (1, .int (nI b))]) rfl (Nat.le_of_ble_eq_true rfl) ?_
  intro p e s m args below meth c ls A Q S hnm hP hK hD hS hA hend hl
  have hx := S.1
  have hb := S.2.1
  have hown : s.vm.findClass RX12 = some m.cls := S.2.2.2.1
  have ht : ∀ w ∈ lw_g, w.before args s = true := fun w h => S.2.2.2.2 w (List.mem_cons_of_mem _ h)
  have hP : va_P D vwCl (mW cy o ad tp os sz bits F G u nb ns T M id ft fo fi g pt ih il ip pn op so fa fp st en dr ++ tl) s.heap := hP
  refine lv_aload_n hx hb dX12_dropBinding_0 rfl (lv_at hl 0 rfl) ?_
  refine lv_dup hx hb dX12_dropBinding_1 rfl ?_
  refine va_get (ci := 9) (C := RX12) (T := TX12) (N := 28) hx hb ht iFX12 hown hK hP 0 rfl rfl 11 (by decide) (ht _ kw4_121) (fun _ h9 => h9) rfl dX12_dropBinding_2 ?_
  refine nv_iconst (k := 1) hx hb dX12_dropBinding_5 rfl ?_
  refine nv_isub hx hb (by omega) dX12_dropBinding_6 ?_
  refine va_put (ci := 9) (C := RX12) (T := TX12) (N := 28) (ty := tyX12 11) hx hb ht iFX12 tyX12 tyX12_ok nmX12 hown hK hP hD hS 0 rfl rfl 11 (by decide) (ht _ kw4_121) (fun _ h9 => h9) rfl (by decide +kernel) (by first | rfl | decide) (by first | rfl | decide) (Nat.le_of_ble_eq_true rfl) dX12_dropBinding_7 (fun H locs hP hD hS => ?_)
  have hP : va_P D vwCl (mW cy o ad tp os sz bits F G u (nb - 1) ns T M id ft fo fi g pt ih il ip pn op so fa fp st en dr ++ tl) H := hP
  have hD : va_D A (mW cy o ad tp os sz bits F G u (nb - 1) ns T M id ft fo fi g pt ih il ip pn op so fa fp st en dr ++ tl) := hD
  refine lv_iload_n hx hb dX12_dropBinding_10 rfl (lv_at hl 1 rfl) ?_
  refine lv_istore_n (lv' := [(2, .int (nI b)), (0, .ref o), (1, .int (nI b))]) hx hb dX12_dropBinding_11 rfl hl (by decide) rfl (fun ls hl => ?_)
  have L12 : ∀ (fu k : Nat) (H : Heap) (locs : List Loc), nb - k < fu → b ≤ k → k ≤ nb - 1 → va_P D vwCl (mW cy o ad tp os sz bits F G u (nb - 1) ns T M id ft fo fi g (shk pt b k) (shk ih b k) (shk il b k) (shk ip b k) (shk pn b k) (shk op b k) so fa fp st en dr ++ tl) H → va_D A (mW cy o ad tp os sz bits F G u (nb - 1) ns T M id ft fo fi g (shk pt b k) (shk ih b k) (shk il b k) (shk ip b k) (shk pn b k) (shk op b k) so fa fp st en dr ++ tl) → va_S A s.heap H locs → ∀ ls : Array Slot, lv_has ls 3 [(0, .ref o), (1, .int (nI b)), (2, .int (nI k))] → W p l e (rmw 0 0 0 0) s m args below meth c H locs 0 0 Q (F0 m 12 ls []) := by
    intro fu
    induction fu with
    | zero => intro k H locs h9; omega
    | succ fu ihh =>
      intro k H locs hfu hk1 hk2 hP hD hS ls hl
      refine lv_iload_n hx hb dX12_dropBinding_12 rfl (lv_at hl 2 rfl) ?_
      refine lv_aload_n hx hb dX12_dropBinding_13 rfl (lv_at hl 0 rfl) ?_
      refine va_get (ci := 9) (C := RX12) (T := TX12) (N := 28) hx hb ht iFX12 hown hK hP 0 rfl rfl 11 (by decide) (ht _ kw4_121) (fun _ h9 => h9) rfl dX12_dropBinding_14 ?_
      refine nv_icmp_ge (tgt := 110) hx hb dX12_dropBinding_17 (by decide) (by omega) (by omega) (fun h17 => ?_) (fun h17 => ?_)
      · skip
        have ek : k = nb - 1 := by omega
        subst ek
        refine nv_iconst (k := 0) hx hb dX12_dropBinding_110 rfl ?_
        refine lv_istore_n (lv' := [(2, .int (nI 0)), (0, .ref o), (1, .int (nI b))]) hx hb dX12_dropBinding_111 rfl hl (by decide) rfl (fun ls hl => ?_)
        have L112 : ∀ (fu s9 : Nat) (H : Heap) (locs : List Loc), ns - s9 < fu → s9 ≤ ns → va_P D vwCl (mW cy o ad tp os sz bits F G u (nb - 1) ns T M id ft fo fi g (shk pt b (nb - 1)) (shk ih b (nb - 1)) (shk il b (nb - 1)) (shk ip b (nb - 1)) (shk pn b (nb - 1)) (shk op b (nb - 1)) (sok so b s9) fa fp st en dr ++ tl) H → va_D A (mW cy o ad tp os sz bits F G u (nb - 1) ns T M id ft fo fi g (shk pt b (nb - 1)) (shk ih b (nb - 1)) (shk il b (nb - 1)) (shk ip b (nb - 1)) (shk pn b (nb - 1)) (shk op b (nb - 1)) (sok so b s9) fa fp st en dr ++ tl) → va_S A s.heap H locs → ∀ ls : Array Slot, lv_has ls 3 [(0, .ref o), (1, .int (nI b)), (2, .int (nI s9))] → W p l e (rmw 0 0 0 0) s m args below meth c H locs 0 0 Q (F0 m 112 ls []) := by
          intro fu
          induction fu with
          | zero => intro s9 H locs h9; omega
          | succ fu ihh2 =>
            intro s9 H locs hfu hs1 hP hD hS ls hl
            have hso9 := hb_so s9
            refine lv_iload_n hx hb dX12_dropBinding_112 rfl (lv_at hl 2 rfl) ?_
            refine lv_aload_n hx hb dX12_dropBinding_113 rfl (lv_at hl 0 rfl) ?_
            refine va_get (ci := 9) (C := RX12) (T := TX12) (N := 28) hx hb ht iFX12 hown hK hP 0 rfl rfl 18 (by decide) (ht _ kw4_128) (fun _ h9 => h9) rfl dX12_dropBinding_114 ?_
            refine nv_icmp_ge (tgt := 150) hx hb dX12_dropBinding_117 (by decide) (by omega) (by omega) (fun h117 => ?_) (fun h117 => ?_)
            · skip
              have es : s9 = ns := by omega
              subst es
              exact hend () trivial hP hD hS dX12_dropBinding_150
            refine lv_aload_n hx hb dX12_dropBinding_120 rfl (lv_at hl 0 rfl) ?_
            refine va_get (ci := 9) (C := RX12) (T := TX12) (N := 28) hx hb ht iFX12 hown hK hP 0 rfl rfl 19 (by decide) (ht _ kw4_129) (fun _ h9 => h9) rfl dX12_dropBinding_121 ?_
            refine lv_iload_n hx hb dX12_dropBinding_124 rfl (lv_at hl 2 rfl) ?_
            refine lv_dup2_11 hx hb dX12_dropBinding_125 rfl rfl ?_
            refine nv_iald hx hb hK hP 11 rfl (by omega) (by omega) dX12_dropBinding_126 ?_
            rw [show ni (sok so b s9) s9 = nI (so s9) from congrArg nI sok_at]
            refine lv_aload_n hx hb dX12_dropBinding_127 rfl (lv_at hl 0 rfl) ?_
            refine va_get (ci := 9) (C := RX12) (T := TX12) (N := 28) hx hb ht iFX12 hown hK hP 0 rfl rfl 19 (by decide) (ht _ kw4_129) (fun _ h9 => h9) rfl dX12_dropBinding_128 ?_
            refine lv_iload_n hx hb dX12_dropBinding_131 rfl (lv_at hl 2 rfl) ?_
            refine nv_iald hx hb hK hP 11 rfl (by omega) (by omega) dX12_dropBinding_132 ?_
            rw [show ni (sok so b s9) s9 = nI (so s9) from congrArg nI sok_at]
            refine lv_iload_n hx hb dX12_dropBinding_133 rfl (lv_at hl 1 rfl) ?_
            refine nv_icmp_le (tgt := 141) hx hb dX12_dropBinding_134 (by decide) (by omega) (by omega) (fun h134 => ?_) (fun h134 => ?_)
            · skip
              refine nv_iconst (k := 0) hx hb dX12_dropBinding_141 rfl ?_
              refine nv_isub hx hb (by omega) dX12_dropBinding_142 ?_
              refine nv_iast hx hb hK hP hD hS 11 rfl (by omega) (by omega) dX12_dropBinding_143 (fun H locs hP hD hS => ?_)
              rw [ni_upd] at hP hD
              have hP : va_P D vwCl (mW cy o ad tp os sz bits F G u (nb - 1) ns T M id ft fo fi g (shk pt b (nb - 1)) (shk ih b (nb - 1)) (shk il b (nb - 1)) (shk ip b (nb - 1)) (shk pn b (nb - 1)) (shk op b (nb - 1)) (va_up (sok so b s9) s9 ((so s9) - 0)) fa fp st en dr ++ tl) H := hP
              have hD : va_D A (mW cy o ad tp os sz bits F G u (nb - 1) ns T M id ft fo fi g (shk pt b (nb - 1)) (shk ih b (nb - 1)) (shk il b (nb - 1)) (shk ip b (nb - 1)) (shk pn b (nb - 1)) (shk op b (nb - 1)) (va_up (sok so b s9) s9 ((so s9) - 0)) fa fp st en dr ++ tl) := hD
              refine lv_iinc (v := (nI (s9 + 1))) (lv' := [(2, .int (nI (s9 + 1))), (0, .ref o), (1, .int (nI b))]) hx hb dX12_dropBinding_144 hl (k := 2) rfl (nI_inc _ _) (by decide) rfl (fun ls hl => ?_)
              refine lv_goto (tgt := 112) hx hb dX12_dropBinding_147 (by decide) ?_
              rw [sok_step (b := b) (s := s9) (by first | rw [if_pos (by omega)] | (rw [if_neg (by omega)]; rfl))] at hP hD
              exact ihh2 (s9 + 1) H locs (by omega) (by omega) hP hD hS ls (lv_sub hl [1, 2, 0] rfl)
            refine nv_iconst (k := 1) hx hb dX12_dropBinding_137 rfl ?_
            refine lv_goto (tgt := 142) hx hb dX12_dropBinding_138 (by decide) ?_
            refine nv_isub hx hb (by omega) dX12_dropBinding_142 ?_
            refine nv_iast hx hb hK hP hD hS 11 rfl (by omega) (by omega) dX12_dropBinding_143 (fun H locs hP hD hS => ?_)
            rw [ni_upd] at hP hD
            have hP : va_P D vwCl (mW cy o ad tp os sz bits F G u (nb - 1) ns T M id ft fo fi g (shk pt b (nb - 1)) (shk ih b (nb - 1)) (shk il b (nb - 1)) (shk ip b (nb - 1)) (shk pn b (nb - 1)) (shk op b (nb - 1)) (va_up (sok so b s9) s9 ((so s9) - 1)) fa fp st en dr ++ tl) H := hP
            have hD : va_D A (mW cy o ad tp os sz bits F G u (nb - 1) ns T M id ft fo fi g (shk pt b (nb - 1)) (shk ih b (nb - 1)) (shk il b (nb - 1)) (shk ip b (nb - 1)) (shk pn b (nb - 1)) (shk op b (nb - 1)) (va_up (sok so b s9) s9 ((so s9) - 1)) fa fp st en dr ++ tl) := hD
            refine lv_iinc (v := (nI (s9 + 1))) (lv' := [(2, .int (nI (s9 + 1))), (0, .ref o), (1, .int (nI b))]) hx hb dX12_dropBinding_144 hl (k := 2) rfl (nI_inc _ _) (by decide) rfl (fun ls hl => ?_)
            refine lv_goto (tgt := 112) hx hb dX12_dropBinding_147 (by decide) ?_
            rw [sok_step (b := b) (s := s9) (by first | rw [if_pos (by omega)] | (rw [if_neg (by omega)]; rfl))] at hP hD
            exact ihh2 (s9 + 1) H locs (by omega) (by omega) hP hD hS ls (lv_sub hl [1, 2, 0] rfl)
        exact L112 (ns + 1) 0 H locs (by omega) (by omega) (by rw [sok_0]; exact hP) (by rw [sok_0]; exact hD) hS ls (lv_sub hl [1, 2, 0] rfl)
      refine lv_aload_n hx hb dX12_dropBinding_20 rfl (lv_at hl 0 rfl) ?_
      refine va_get (ci := 9) (C := RX12) (T := TX12) (N := 28) hx hb ht iFX12 hown hK hP 0 rfl rfl 12 (by decide) (ht _ kw4_122) (fun _ h9 => h9) rfl dX12_dropBinding_21 ?_
      refine lv_iload_n hx hb dX12_dropBinding_24 rfl (lv_at hl 2 rfl) ?_
      refine lv_aload_n hx hb dX12_dropBinding_25 rfl (lv_at hl 0 rfl) ?_
      refine va_get (ci := 9) (C := RX12) (T := TX12) (N := 28) hx hb ht iFX12 hown hK hP 0 rfl rfl 12 (by decide) (ht _ kw4_122) (fun _ h9 => h9) rfl dX12_dropBinding_26 ?_
      refine lv_iload_n hx hb dX12_dropBinding_29 rfl (lv_at hl 2 rfl) ?_
      refine nv_iconst (k := 1) hx hb dX12_dropBinding_30 rfl ?_
      refine nv_iadd hx hb dX12_dropBinding_31 ?_
      refine nv_iald hx hb hK hP 5 rfl (by omega) (by omega) dX12_dropBinding_32 ?_
      refine nv_iast hx hb hK hP hD hS 5 rfl (by omega) (by omega) dX12_dropBinding_33 (fun H locs hP hD hS => ?_)
      rw [ni_upd] at hP hD
      have hP : va_P D vwCl (mW cy o ad tp os sz bits F G u (nb - 1) ns T M id ft fo fi g (va_up (shk pt b k) k ((shk pt b k) (k + 1))) (shk ih b k) (shk il b k) (shk ip b k) (shk pn b k) (shk op b k) so fa fp st en dr ++ tl) H := hP
      have hD : va_D A (mW cy o ad tp os sz bits F G u (nb - 1) ns T M id ft fo fi g (va_up (shk pt b k) k ((shk pt b k) (k + 1))) (shk ih b k) (shk il b k) (shk ip b k) (shk pn b k) (shk op b k) so fa fp st en dr ++ tl) := hD
      refine lv_aload_n hx hb dX12_dropBinding_34 rfl (lv_at hl 0 rfl) ?_
      refine va_get (ci := 9) (C := RX12) (T := TX12) (N := 28) hx hb ht iFX12 hown hK hP 0 rfl rfl 13 (by decide) (ht _ kw4_123) (fun _ h9 => h9) rfl dX12_dropBinding_35 ?_
      refine lv_iload_n hx hb dX12_dropBinding_38 rfl (lv_at hl 2 rfl) ?_
      refine lv_aload_n hx hb dX12_dropBinding_39 rfl (lv_at hl 0 rfl) ?_
      refine va_get (ci := 9) (C := RX12) (T := TX12) (N := 28) hx hb ht iFX12 hown hK hP 0 rfl rfl 13 (by decide) (ht _ kw4_123) (fun _ h9 => h9) rfl dX12_dropBinding_40 ?_
      refine lv_iload_n hx hb dX12_dropBinding_43 rfl (lv_at hl 2 rfl) ?_
      refine nv_iconst (k := 1) hx hb dX12_dropBinding_44 rfl ?_
      refine nv_iadd hx hb dX12_dropBinding_45 ?_
      refine nv_lald hx hb hK hP 6 rfl (by omega) (by omega) dX12_dropBinding_46 ?_
      refine nv_last hx hb hK hP hD hS 6 rfl (by omega) (by omega) dX12_dropBinding_47 (fun H locs hP hD hS => ?_)
      rw [ln_upd] at hP hD
      have hP : va_P D vwCl (mW cy o ad tp os sz bits F G u (nb - 1) ns T M id ft fo fi g (va_up (shk pt b k) k ((shk pt b k) (k + 1))) (va_up (shk ih b k) k ((shk ih b k) (k + 1))) (shk il b k) (shk ip b k) (shk pn b k) (shk op b k) so fa fp st en dr ++ tl) H := hP
      have hD : va_D A (mW cy o ad tp os sz bits F G u (nb - 1) ns T M id ft fo fi g (va_up (shk pt b k) k ((shk pt b k) (k + 1))) (va_up (shk ih b k) k ((shk ih b k) (k + 1))) (shk il b k) (shk ip b k) (shk pn b k) (shk op b k) so fa fp st en dr ++ tl) := hD
      refine lv_aload_n hx hb dX12_dropBinding_48 rfl (lv_at hl 0 rfl) ?_
      refine va_get (ci := 9) (C := RX12) (T := TX12) (N := 28) hx hb ht iFX12 hown hK hP 0 rfl rfl 14 (by decide) (ht _ kw4_124) (fun _ h9 => h9) rfl dX12_dropBinding_49 ?_
      refine lv_iload_n hx hb dX12_dropBinding_52 rfl (lv_at hl 2 rfl) ?_
      refine lv_aload_n hx hb dX12_dropBinding_53 rfl (lv_at hl 0 rfl) ?_
      refine va_get (ci := 9) (C := RX12) (T := TX12) (N := 28) hx hb ht iFX12 hown hK hP 0 rfl rfl 14 (by decide) (ht _ kw4_124) (fun _ h9 => h9) rfl dX12_dropBinding_54 ?_
      refine lv_iload_n hx hb dX12_dropBinding_57 rfl (lv_at hl 2 rfl) ?_
      refine nv_iconst (k := 1) hx hb dX12_dropBinding_58 rfl ?_
      refine nv_iadd hx hb dX12_dropBinding_59 ?_
      refine nv_lald hx hb hK hP 7 rfl (by omega) (by omega) dX12_dropBinding_60 ?_
      refine nv_last hx hb hK hP hD hS 7 rfl (by omega) (by omega) dX12_dropBinding_61 (fun H locs hP hD hS => ?_)
      rw [ln_upd] at hP hD
      have hP : va_P D vwCl (mW cy o ad tp os sz bits F G u (nb - 1) ns T M id ft fo fi g (va_up (shk pt b k) k ((shk pt b k) (k + 1))) (va_up (shk ih b k) k ((shk ih b k) (k + 1))) (va_up (shk il b k) k ((shk il b k) (k + 1))) (shk ip b k) (shk pn b k) (shk op b k) so fa fp st en dr ++ tl) H := hP
      have hD : va_D A (mW cy o ad tp os sz bits F G u (nb - 1) ns T M id ft fo fi g (va_up (shk pt b k) k ((shk pt b k) (k + 1))) (va_up (shk ih b k) k ((shk ih b k) (k + 1))) (va_up (shk il b k) k ((shk il b k) (k + 1))) (shk ip b k) (shk pn b k) (shk op b k) so fa fp st en dr ++ tl) := hD
      refine lv_aload_n hx hb dX12_dropBinding_62 rfl (lv_at hl 0 rfl) ?_
      refine va_get (ci := 9) (C := RX12) (T := TX12) (N := 28) hx hb ht iFX12 hown hK hP 0 rfl rfl 15 (by decide) (ht _ kw4_125) (fun _ h9 => h9) rfl dX12_dropBinding_63 ?_
      refine lv_iload_n hx hb dX12_dropBinding_66 rfl (lv_at hl 2 rfl) ?_
      refine lv_aload_n hx hb dX12_dropBinding_67 rfl (lv_at hl 0 rfl) ?_
      refine va_get (ci := 9) (C := RX12) (T := TX12) (N := 28) hx hb ht iFX12 hown hK hP 0 rfl rfl 15 (by decide) (ht _ kw4_125) (fun _ h9 => h9) rfl dX12_dropBinding_68 ?_
      refine lv_iload_n hx hb dX12_dropBinding_71 rfl (lv_at hl 2 rfl) ?_
      refine nv_iconst (k := 1) hx hb dX12_dropBinding_72 rfl ?_
      refine nv_iadd hx hb dX12_dropBinding_73 ?_
      refine nv_iald hx hb hK hP 8 rfl (by omega) (by omega) dX12_dropBinding_74 ?_
      refine nv_iast hx hb hK hP hD hS 8 rfl (by omega) (by omega) dX12_dropBinding_75 (fun H locs hP hD hS => ?_)
      rw [ni_upd] at hP hD
      have hP : va_P D vwCl (mW cy o ad tp os sz bits F G u (nb - 1) ns T M id ft fo fi g (va_up (shk pt b k) k ((shk pt b k) (k + 1))) (va_up (shk ih b k) k ((shk ih b k) (k + 1))) (va_up (shk il b k) k ((shk il b k) (k + 1))) (va_up (shk ip b k) k ((shk ip b k) (k + 1))) (shk pn b k) (shk op b k) so fa fp st en dr ++ tl) H := hP
      have hD : va_D A (mW cy o ad tp os sz bits F G u (nb - 1) ns T M id ft fo fi g (va_up (shk pt b k) k ((shk pt b k) (k + 1))) (va_up (shk ih b k) k ((shk ih b k) (k + 1))) (va_up (shk il b k) k ((shk il b k) (k + 1))) (va_up (shk ip b k) k ((shk ip b k) (k + 1))) (shk pn b k) (shk op b k) so fa fp st en dr ++ tl) := hD
      refine lv_aload_n hx hb dX12_dropBinding_76 rfl (lv_at hl 0 rfl) ?_
      refine va_get (ci := 9) (C := RX12) (T := TX12) (N := 28) hx hb ht iFX12 hown hK hP 0 rfl rfl 16 (by decide) (ht _ kw4_126) (fun _ h9 => h9) rfl dX12_dropBinding_77 ?_
      refine lv_iload_n hx hb dX12_dropBinding_80 rfl (lv_at hl 2 rfl) ?_
      refine lv_aload_n hx hb dX12_dropBinding_81 rfl (lv_at hl 0 rfl) ?_
      refine va_get (ci := 9) (C := RX12) (T := TX12) (N := 28) hx hb ht iFX12 hown hK hP 0 rfl rfl 16 (by decide) (ht _ kw4_126) (fun _ h9 => h9) rfl dX12_dropBinding_82 ?_
      refine lv_iload_n hx hb dX12_dropBinding_85 rfl (lv_at hl 2 rfl) ?_
      refine nv_iconst (k := 1) hx hb dX12_dropBinding_86 rfl ?_
      refine nv_iadd hx hb dX12_dropBinding_87 ?_
      refine nv_iald hx hb hK hP 9 rfl (by omega) (by omega) dX12_dropBinding_88 ?_
      refine nv_iast hx hb hK hP hD hS 9 rfl (by omega) (by omega) dX12_dropBinding_89 (fun H locs hP hD hS => ?_)
      rw [ni_upd] at hP hD
      have hP : va_P D vwCl (mW cy o ad tp os sz bits F G u (nb - 1) ns T M id ft fo fi g (va_up (shk pt b k) k ((shk pt b k) (k + 1))) (va_up (shk ih b k) k ((shk ih b k) (k + 1))) (va_up (shk il b k) k ((shk il b k) (k + 1))) (va_up (shk ip b k) k ((shk ip b k) (k + 1))) (va_up (shk pn b k) k ((shk pn b k) (k + 1))) (shk op b k) so fa fp st en dr ++ tl) H := hP
      have hD : va_D A (mW cy o ad tp os sz bits F G u (nb - 1) ns T M id ft fo fi g (va_up (shk pt b k) k ((shk pt b k) (k + 1))) (va_up (shk ih b k) k ((shk ih b k) (k + 1))) (va_up (shk il b k) k ((shk il b k) (k + 1))) (va_up (shk ip b k) k ((shk ip b k) (k + 1))) (va_up (shk pn b k) k ((shk pn b k) (k + 1))) (shk op b k) so fa fp st en dr ++ tl) := hD
      refine lv_aload_n hx hb dX12_dropBinding_90 rfl (lv_at hl 0 rfl) ?_
      refine va_get (ci := 9) (C := RX12) (T := TX12) (N := 28) hx hb ht iFX12 hown hK hP 0 rfl rfl 17 (by decide) (ht _ kw4_127) (fun _ h9 => h9) rfl dX12_dropBinding_91 ?_
      refine lv_iload_n hx hb dX12_dropBinding_94 rfl (lv_at hl 2 rfl) ?_
      refine lv_aload_n hx hb dX12_dropBinding_95 rfl (lv_at hl 0 rfl) ?_
      refine va_get (ci := 9) (C := RX12) (T := TX12) (N := 28) hx hb ht iFX12 hown hK hP 0 rfl rfl 17 (by decide) (ht _ kw4_127) (fun _ h9 => h9) rfl dX12_dropBinding_96 ?_
      refine lv_iload_n hx hb dX12_dropBinding_99 rfl (lv_at hl 2 rfl) ?_
      refine nv_iconst (k := 1) hx hb dX12_dropBinding_100 rfl ?_
      refine nv_iadd hx hb dX12_dropBinding_101 ?_
      refine nv_iald hx hb hK hP 10 rfl (by omega) (by omega) dX12_dropBinding_102 ?_
      refine nv_iast hx hb hK hP hD hS 10 rfl (by omega) (by omega) dX12_dropBinding_103 (fun H locs hP hD hS => ?_)
      rw [ni_upd] at hP hD
      have hP : va_P D vwCl (mW cy o ad tp os sz bits F G u (nb - 1) ns T M id ft fo fi g (va_up (shk pt b k) k ((shk pt b k) (k + 1))) (va_up (shk ih b k) k ((shk ih b k) (k + 1))) (va_up (shk il b k) k ((shk il b k) (k + 1))) (va_up (shk ip b k) k ((shk ip b k) (k + 1))) (va_up (shk pn b k) k ((shk pn b k) (k + 1))) (va_up (shk op b k) k ((shk op b k) (k + 1))) so fa fp st en dr ++ tl) H := hP
      have hD : va_D A (mW cy o ad tp os sz bits F G u (nb - 1) ns T M id ft fo fi g (va_up (shk pt b k) k ((shk pt b k) (k + 1))) (va_up (shk ih b k) k ((shk ih b k) (k + 1))) (va_up (shk il b k) k ((shk il b k) (k + 1))) (va_up (shk ip b k) k ((shk ip b k) (k + 1))) (va_up (shk pn b k) k ((shk pn b k) (k + 1))) (va_up (shk op b k) k ((shk op b k) (k + 1))) so fa fp st en dr ++ tl) := hD
      refine lv_iinc (v := (nI (k + 1))) (lv' := [(2, .int (nI (k + 1))), (0, .ref o), (1, .int (nI b))]) hx hb dX12_dropBinding_104 hl (k := 2) rfl (nI_inc _ _) (by decide) rfl (fun ls hl => ?_)
      refine lv_goto (tgt := 12) hx hb dX12_dropBinding_107 (by decide) ?_
      rw [shk_at (f := pt), shk_step (f := pt) hk1, shk_at (f := ih), shk_step (f := ih) hk1, shk_at (f := il), shk_step (f := il) hk1, shk_at (f := ip), shk_step (f := ip) hk1, shk_at (f := pn), shk_step (f := pn) hk1, shk_at (f := op), shk_step (f := op) hk1] at hP hD
      exact ihh (k + 1) H locs (by omega) (by omega) (by omega) hP hD hS ls (lv_sub hl [1, 2, 0] rfl)
  exact L12 (nb + 1) b H locs (by omega) (by omega) (by omega) (by rw [shk_0 (f := pt), shk_0 (f := ih), shk_0 (f := il), shk_0 (f := ip), shk_0 (f := pn), shk_0 (f := op)]; exact hP) (by rw [shk_0 (f := pt), shk_0 (f := ih), shk_0 (f := il), shk_0 (f := ip), shk_0 (f := pn), shk_0 (f := op)]; exact hD) hS ls (lv_sub hl [1, 2, 0] rfl)
