theorem dX8_settle_0 : decode cX8_settle 0 = .ok (.iload 5, 2) := by decide +kernel
theorem dX8_settle_2 : decode cX8_settle 2 = .ok (.bipush 96, 2) := by decide +kernel
theorem dX8_settle_4 : decode cX8_settle 4 = .ok (.if_icmp .ne 20, 3) := by decide +kernel
theorem dX8_settle_7 : decode cX8_settle 7 = .ok (.aload_n 0, 1) := by decide +kernel
theorem dX8_settle_8 : decode cX8_settle 8 = .ok (.lload_n 1, 1) := by decide +kernel
theorem dX8_settle_9 : decode cX8_settle 9 = .ok (.putfield 13, 3) := by decide +kernel
theorem dX8_settle_12 : decode cX8_settle 12 = .ok (.aload_n 0, 1) := by decide +kernel
theorem dX8_settle_13 : decode cX8_settle 13 = .ok (.lload_n 3, 1) := by decide +kernel
theorem dX8_settle_14 : decode cX8_settle 14 = .ok (.ldc2_w 17, 3) := by decide +kernel
theorem dX8_settle_17 : decode cX8_settle 17 = .ok (.land, 1) := by decide +kernel
theorem dX8_settle_18 : decode cX8_settle 18 = .ok (.putfield 19, 3) := by decide +kernel
theorem dX8_settle_21 : decode cX8_settle 21 = .ok (.goto 46, 3) := by decide +kernel
theorem dX8_settle_24 : decode cX8_settle 24 = .ok (.iload 5, 2) := by decide +kernel
theorem dX8_settle_26 : decode cX8_settle 26 = .ok (.bipush 32, 2) := by decide +kernel
theorem dX8_settle_28 : decode cX8_settle 28 = .ok (.if_icmp .lt 37, 3) := by decide +kernel
theorem dX8_settle_31 : decode cX8_settle 31 = .ok (.iload 5, 2) := by decide +kernel
theorem dX8_settle_33 : decode cX8_settle 33 = .ok (.bipush 64, 2) := by decide +kernel
theorem dX8_settle_35 : decode cX8_settle 35 = .ok (.if_icmp .gt 30, 3) := by decide +kernel
theorem dX8_settle_38 : decode cX8_settle 38 = .ok (.iload 5, 2) := by decide +kernel
theorem dX8_settle_40 : decode cX8_settle 40 = .ok (.bipush 8, 2) := by decide +kernel
theorem dX8_settle_42 : decode cX8_settle 42 = .ok (.irem, 1) := by decide +kernel
theorem dX8_settle_43 : decode cX8_settle 43 = .ok (.ifCond .ne 22, 3) := by decide +kernel
theorem dX8_settle_46 : decode cX8_settle 46 = .ok (.aload_n 0, 1) := by decide +kernel
theorem dX8_settle_47 : decode cX8_settle 47 = .ok (.lload_n 1, 1) := by decide +kernel
theorem dX8_settle_48 : decode cX8_settle 48 = .ok (.iload 5, 2) := by decide +kernel
theorem dX8_settle_50 : decode cX8_settle 50 = .ok (.invokestatic 22, 3) := by decide +kernel
theorem dX8_settle_53 : decode cX8_settle 53 = .ok (.land, 1) := by decide +kernel
theorem dX8_settle_54 : decode cX8_settle 54 = .ok (.putfield 13, 3) := by decide +kernel
theorem dX8_settle_57 : decode cX8_settle 57 = .ok (.aload_n 0, 1) := by decide +kernel
theorem dX8_settle_58 : decode cX8_settle 58 = .ok (.lconst 0, 1) := by decide +kernel
theorem dX8_settle_59 : decode cX8_settle 59 = .ok (.putfield 19, 3) := by decide +kernel
theorem dX8_settle_62 : decode cX8_settle 62 = .ok (.goto 5, 3) := by decide +kernel
theorem dX8_settle_65 : decode cX8_settle 65 = .ok (.iconst 0, 1) := by decide +kernel
theorem dX8_settle_66 : decode cX8_settle 66 = .ok (.ireturn, 1) := by decide +kernel
theorem dX8_settle_67 : decode cX8_settle 67 = .ok (.aload_n 0, 1) := by decide +kernel
theorem dX8_settle_68 : decode cX8_settle 68 = .ok (.iload 5, 2) := by decide +kernel
theorem dX8_settle_70 : decode cX8_settle 70 = .ok (.putfield 7, 3) := by decide +kernel
theorem dX8_settle_73 : decode cX8_settle 73 = .ok (.aload_n 0, 1) := by decide +kernel
theorem dX8_settle_74 : decode cX8_settle 74 = .ok (.iload 5, 2) := by decide +kernel
theorem dX8_settle_76 : decode cX8_settle 76 = .ok (.bipush 32, 2) := by decide +kernel
theorem dX8_settle_78 : decode cX8_settle 78 = .ok (.isub, 1) := by decide +kernel
theorem dX8_settle_79 : decode cX8_settle 79 = .ok (.putfield 26, 3) := by decide +kernel
theorem dX8_settle_82 : decode cX8_settle 82 = .ok (.iconst 1, 1) := by decide +kernel
theorem dX8_settle_83 : decode cX8_settle 83 = .ok (.ireturn, 1) := by decide +kernel
theorem yv_X8_settle : YV RX8 yX8_settle cX8_settle 6 (some .boolean) 3 := ⟨kw1_153, kw1_154, kw1_4, kw1_155, by decide +kernel⟩
set_option maxHeartbeats 4000000 in
set_option maxRecDepth 100000 in
theorem c_X8_settle {l : Launch} {D : va_G} {cy : Nat → ClassId} {ws : va_W} {ks st bits F G : Nat} (hs0 : ws[ks]? = some (st, .inr (6, [.long (lN F), .long (lN G), .int (nI bits), .int (nI (bits - 32))]))) {hi lo len : Nat} (hhi : hi < 2 ^ 64) (hlo : lo < 2 ^ 64) (hlen : len = 32 ∨ len = 40 ∨ len = 48 ∨ len = 56 ∨ len = 64 ∨ len = 96) : WR (S := Unit) l yX8_settle cX8_settle 6 (some .boolean) 1 0 0 20 [.ref st, .long (lN (hi)), .long (lN (lo)), .int (nI len)] D cy ws (fun u_ => some (.int (bI (true)))) (fun _ => True) (fun _ => ws.set ks (st, .inr (6, [.long (lN (tg_pf len hi)), .long (lN (tg_pg len lo)), .int (nI len), .int (nI (len - 32))]))) := by
  refine WRz (by decide) (lv0 := [(0, .ref st), (1, .long (lN (hi))), (3, .long (lN (lo))), (5, .int (nI len))]) rfl (Nat.le_of_ble_eq_true rfl) ?_
  intro p e s m args below meth c ls A Q S hnm hP hK hD hS hA hend hl
  have hx := S.1
  have hb := S.2.1
  have hown : s.vm.findClass RX8 = some m.cls := S.2.2.2.1
  have ht : ∀ w ∈ lw_g, w.before args s = true := fun w h => S.2.2.2.2 w (List.mem_cons_of_mem _ h)
  have hP : va_P D vwCl (ws.set ks (st, .inr (6, [.long (lN F), .long (lN G), .int (nI bits), .int (nI (bits - 32))]))) s.heap := by rw [lst_same hs0]; exact hP
  have hD : va_D A (ws.set ks (st, .inr (6, [.long (lN F), .long (lN G), .int (nI bits), .int (nI (bits - 32))]))) := by rw [lst_same hs0]; exact hD
  refine lv_iload hx hb dX8_settle_0 (lv_at hl 3 rfl) ?_
  refine nv_bipush (k := 96) hx hb dX8_settle_2 (by decide) ?_
  refine nv_icmp_ne (tgt := 24) hx hb dX8_settle_4 (by decide) (by omega) (by omega) (fun h4 => ?_) (fun h4 => ?_)
  · skip
    refine lv_iload hx hb dX8_settle_24 (lv_at hl 3 rfl) ?_
    refine nv_bipush (k := 32) hx hb dX8_settle_26 (by decide) ?_
    refine nv_icmp_lt (tgt := 65) hx hb dX8_settle_28 (by decide) (by omega) (by omega) (fun h28 => ?_) (fun h28 => ?_)
    · skip
      exfalso; omega
    refine lv_iload hx hb dX8_settle_31 (lv_at hl 3 rfl) ?_
    refine nv_bipush (k := 64) hx hb dX8_settle_33 (by decide) ?_
    refine nv_icmp_gt (tgt := 65) hx hb dX8_settle_35 (by decide) (by omega) (by omega) (fun h35 => ?_) (fun h35 => ?_)
    · skip
      exfalso; omega
    refine lv_iload hx hb dX8_settle_38 (lv_at hl 3 rfl) ?_
    refine nv_bipush (k := 8) hx hb dX8_settle_40 (by decide) ?_
    refine nv_irem hx hb (by omega) (by omega) (by omega) dX8_settle_42 ?_
    refine nv_if_ne (tgt := 65) hx hb dX8_settle_43 (by decide) (by omega) (fun h43 => ?_) (fun h43 => ?_)
    · skip
      exfalso; omega
    refine lv_aload_n hx hb dX8_settle_46 rfl (lv_at hl 0 rfl) ?_
    refine lv_lload_n hx hb dX8_settle_47 rfl (lv_at hl 1 rfl) ?_
    refine lv_iload hx hb dX8_settle_48 (lv_at hl 3 rfl) ?_
    refine ro_S S (c_X8_headMask (k := len) (by omega)) kw1_157 yv_X8_headMask ⟨Nat.le_of_ble_eq_true rfl, Nat.le_of_ble_eq_true rfl⟩ hK hP rfl hl.1 rfl (Nat.le_of_ble_eq_true rfl) dX8_settle_50 ⟨(Nat.zero_le _), (Nat.zero_le _)⟩ ?_
    refine lv_land hx hb dX8_settle_53 ?_
    have eF : (lN (hi) &&& (tg_hm len) : Int64) = lN (tg_pf len hi) := by rw [tg_pf]; by_cases h64 : len < 64; (rw [if_pos h64]; exact tg_hm_and hhi (by omega) (by omega)); (rw [if_neg h64, show len = 64 by omega, tg_hm_and hhi (by omega) (by omega), Nat.sub_self, Nat.pow_zero, Nat.mod_one, Nat.sub_zero])
    rw [eF]
    refine va_put (ci := 6) (C := RX8) (T := TX8) (N := 4) (ty := tyX8 0) hx hb ht iFX8 tyX8 tyX8_ok nmX8 hown hK hP hD hS ks (List.getElem?_set_self (lst_lt hs0)) rfl 0 (by decide) (ht _ kw1_54) (fun _ h9 => h9) rfl (by decide +kernel) (by first | rfl | decide) (by first | rfl | decide) (Nat.le_of_ble_eq_true rfl) dX8_settle_54 (fun H locs hP hD hS => ?_)
    rw [List.set_set] at hP hD
    have hP : va_P D vwCl (ws.set ks (st, .inr (6, [.long (lN (tg_pf len hi)), .long (lN (G)), .int (nI bits), .int (nI (bits - 32))]))) H := hP
    have hD : va_D A (ws.set ks (st, .inr (6, [.long (lN (tg_pf len hi)), .long (lN (G)), .int (nI bits), .int (nI (bits - 32))]))) := hD
    refine lv_aload_n hx hb dX8_settle_57 rfl (lv_at hl 0 rfl) ?_
    refine lv_lconst (v := lN 0) hx hb dX8_settle_58 (by decide) ?_
    have eG : lN 0 = lN (tg_pg len lo) := by rw [tg_pg, if_neg (by omega)]
    rw [eG]
    refine va_put (ci := 6) (C := RX8) (T := TX8) (N := 4) (ty := tyX8 1) hx hb ht iFX8 tyX8 tyX8_ok nmX8 hown hK hP hD hS ks (List.getElem?_set_self (lst_lt hs0)) rfl 1 (by decide) (ht _ kw1_55) (fun _ h9 => h9) rfl (by decide +kernel) (by first | rfl | decide) (by first | rfl | decide) (Nat.le_of_ble_eq_true rfl) dX8_settle_59 (fun H locs hP hD hS => ?_)
    rw [List.set_set] at hP hD
    have hP : va_P D vwCl (ws.set ks (st, .inr (6, [.long (lN (tg_pf len hi)), .long (lN (tg_pg len lo)), .int (nI bits), .int (nI (bits - 32))]))) H := hP
    have hD : va_D A (ws.set ks (st, .inr (6, [.long (lN (tg_pf len hi)), .long (lN (tg_pg len lo)), .int (nI bits), .int (nI (bits - 32))]))) := hD
    refine lv_goto (tgt := 67) hx hb dX8_settle_62 (by decide) ?_
    refine lv_aload_n hx hb dX8_settle_67 rfl (lv_at hl 0 rfl) ?_
    refine lv_iload hx hb dX8_settle_68 (lv_at hl 3 rfl) ?_
    refine va_put (ci := 6) (C := RX8) (T := TX8) (N := 4) (ty := tyX8 2) hx hb ht iFX8 tyX8 tyX8_ok nmX8 hown hK hP hD hS ks (List.getElem?_set_self (lst_lt hs0)) rfl 2 (by decide) (ht _ kw1_56) (fun _ h9 => h9) rfl (by decide +kernel) (by first | rfl | decide) (by first | rfl | decide) (Nat.le_of_ble_eq_true rfl) dX8_settle_70 (fun H locs hP hD hS => ?_)
    rw [List.set_set] at hP hD
    have hP : va_P D vwCl (ws.set ks (st, .inr (6, [.long (lN (tg_pf len hi)), .long (lN (tg_pg len lo)), .int (nI len), .int (nI (bits - 32))]))) H := hP
    have hD : va_D A (ws.set ks (st, .inr (6, [.long (lN (tg_pf len hi)), .long (lN (tg_pg len lo)), .int (nI len), .int (nI (bits - 32))]))) := hD
    refine lv_aload_n hx hb dX8_settle_73 rfl (lv_at hl 0 rfl) ?_
    refine lv_iload hx hb dX8_settle_74 (lv_at hl 3 rfl) ?_
    refine nv_bipush (k := 32) hx hb dX8_settle_76 (by decide) ?_
    refine nv_isub hx hb (by omega) dX8_settle_78 ?_
    refine va_put (ci := 6) (C := RX8) (T := TX8) (N := 4) (ty := tyX8 3) hx hb ht iFX8 tyX8 tyX8_ok nmX8 hown hK hP hD hS ks (List.getElem?_set_self (lst_lt hs0)) rfl 3 (by decide) (ht _ kw1_57) (fun _ h9 => h9) rfl (by decide +kernel) (by first | rfl | decide) (by first | rfl | decide) (Nat.le_of_ble_eq_true rfl) dX8_settle_79 (fun H locs hP hD hS => ?_)
    rw [List.set_set] at hP hD
    have hP : va_P D vwCl (ws.set ks (st, .inr (6, [.long (lN (tg_pf len hi)), .long (lN (tg_pg len lo)), .int (nI len), .int (nI (len - 32))]))) H := hP
    have hD : va_D A (ws.set ks (st, .inr (6, [.long (lN (tg_pf len hi)), .long (lN (tg_pg len lo)), .int (nI len), .int (nI (len - 32))]))) := hD
    refine nv_iconst (k := 1) hx hb dX8_settle_82 rfl ?_
    exact hend () (bI_t rfl) trivial hP hD hS dX8_settle_83
  refine lv_aload_n hx hb dX8_settle_7 rfl (lv_at hl 0 rfl) ?_
  refine lv_lload_n hx hb dX8_settle_8 rfl (lv_at hl 1 rfl) ?_
  have eF : lN (hi) = lN (tg_pf len hi) := by rw [tg_pf, if_neg (by omega)]
  rw [eF]
  refine va_put (ci := 6) (C := RX8) (T := TX8) (N := 4) (ty := tyX8 0) hx hb ht iFX8 tyX8 tyX8_ok nmX8 hown hK hP hD hS ks (List.getElem?_set_self (lst_lt hs0)) rfl 0 (by decide) (ht _ kw1_54) (fun _ h9 => h9) rfl (by decide +kernel) (by first | rfl | decide) (by first | rfl | decide) (Nat.le_of_ble_eq_true rfl) dX8_settle_9 (fun H locs hP hD hS => ?_)
  rw [List.set_set] at hP hD
  have hP : va_P D vwCl (ws.set ks (st, .inr (6, [.long (lN (tg_pf len hi)), .long (lN (G)), .int (nI bits), .int (nI (bits - 32))]))) H := hP
  have hD : va_D A (ws.set ks (st, .inr (6, [.long (lN (tg_pf len hi)), .long (lN (G)), .int (nI bits), .int (nI (bits - 32))]))) := hD
  refine lv_aload_n hx hb dX8_settle_12 rfl (lv_at hl 0 rfl) ?_
  refine lv_lload_n hx hb dX8_settle_13 rfl (lv_at hl 2 rfl) ?_
  refine lv_ldc2 hx hb hown (ht _ kw1_156) dX8_settle_14 ?_
  refine lv_land hx hb dX8_settle_17 ?_
  have eG : (lN (lo) &&& (-4294967296) : Int64) = lN (tg_pg len lo) := by rw [tg_pg, if_pos (by omega)]; exact (by rw [m32, lN_hi hlo (by decide)])
  rw [eG]
  refine va_put (ci := 6) (C := RX8) (T := TX8) (N := 4) (ty := tyX8 1) hx hb ht iFX8 tyX8 tyX8_ok nmX8 hown hK hP hD hS ks (List.getElem?_set_self (lst_lt hs0)) rfl 1 (by decide) (ht _ kw1_55) (fun _ h9 => h9) rfl (by decide +kernel) (by first | rfl | decide) (by first | rfl | decide) (Nat.le_of_ble_eq_true rfl) dX8_settle_18 (fun H locs hP hD hS => ?_)
  rw [List.set_set] at hP hD
  have hP : va_P D vwCl (ws.set ks (st, .inr (6, [.long (lN (tg_pf len hi)), .long (lN (tg_pg len lo)), .int (nI bits), .int (nI (bits - 32))]))) H := hP
  have hD : va_D A (ws.set ks (st, .inr (6, [.long (lN (tg_pf len hi)), .long (lN (tg_pg len lo)), .int (nI bits), .int (nI (bits - 32))]))) := hD
  refine lv_goto (tgt := 67) hx hb dX8_settle_21 (by decide) ?_
  refine lv_aload_n hx hb dX8_settle_67 rfl (lv_at hl 0 rfl) ?_
  refine lv_iload hx hb dX8_settle_68 (lv_at hl 3 rfl) ?_
  refine va_put (ci := 6) (C := RX8) (T := TX8) (N := 4) (ty := tyX8 2) hx hb ht iFX8 tyX8 tyX8_ok nmX8 hown hK hP hD hS ks (List.getElem?_set_self (lst_lt hs0)) rfl 2 (by decide) (ht _ kw1_56) (fun _ h9 => h9) rfl (by decide +kernel) (by first | rfl | decide) (by first | rfl | decide) (Nat.le_of_ble_eq_true rfl) dX8_settle_70 (fun H locs hP hD hS => ?_)
  rw [List.set_set] at hP hD
  have hP : va_P D vwCl (ws.set ks (st, .inr (6, [.long (lN (tg_pf len hi)), .long (lN (tg_pg len lo)), .int (nI len), .int (nI (bits - 32))]))) H := hP
  have hD : va_D A (ws.set ks (st, .inr (6, [.long (lN (tg_pf len hi)), .long (lN (tg_pg len lo)), .int (nI len), .int (nI (bits - 32))]))) := hD
  refine lv_aload_n hx hb dX8_settle_73 rfl (lv_at hl 0 rfl) ?_
  refine lv_iload hx hb dX8_settle_74 (lv_at hl 3 rfl) ?_
  refine nv_bipush (k := 32) hx hb dX8_settle_76 (by decide) ?_
  refine nv_isub hx hb (by omega) dX8_settle_78 ?_
  refine va_put (ci := 6) (C := RX8) (T := TX8) (N := 4) (ty := tyX8 3) hx hb ht iFX8 tyX8 tyX8_ok nmX8 hown hK hP hD hS ks (List.getElem?_set_self (lst_lt hs0)) rfl 3 (by decide) (ht _ kw1_57) (fun _ h9 => h9) rfl (by decide +kernel) (by first | rfl | decide) (by first | rfl | decide) (Nat.le_of_ble_eq_true rfl) dX8_settle_79 (fun H locs hP hD hS => ?_)
  rw [List.set_set] at hP hD
  have hP : va_P D vwCl (ws.set ks (st, .inr (6, [.long (lN (tg_pf len hi)), .long (lN (tg_pg len lo)), .int (nI len), .int (nI (len - 32))]))) H := hP
  have hD : va_D A (ws.set ks (st, .inr (6, [.long (lN (tg_pf len hi)), .long (lN (tg_pg len lo)), .int (nI len), .int (nI (len - 32))]))) := hD
  refine nv_iconst (k := 1) hx hb dX8_settle_82 rfl ?_
  exact hend () (bI_t rfl) trivial hP hD hS dX8_settle_83
set_option maxHeartbeats 4000000 in
set_option maxRecDepth 100000 in
theorem c_X8_settleG {l : Launch} {D : va_G} {cy : Nat → ClassId} {ws : va_W} {st hi lo len : Nat} (hle : len < 2 ^ 31) (hlen : ¬ (len = 32 ∨ len = 40 ∨ len = 48 ∨ len = 56 ∨ len = 64 ∨ len = 96)) : RO l yX8_settle cX8_settle 6 (some .boolean) 0 0 [.ref st, .long (lN (hi)), .long (lN (lo)), .int (nI len)] D cy ws (.int (bI (false))) := by
  refine ROz (by decide) (lv0 := [(0, .ref st), (1, .long (lN (hi))), (3, .long (lN (lo))), (5, .int (nI len))]) rfl (Nat.le_of_ble_eq_true rfl) ?_
  intro p e s m args below meth c ls Q S hP hK hend hl
  have hx := S.1
  have hb := S.2.1
  have hown : s.vm.findClass RX8 = some m.cls := S.2.2.2.1
  have ht : ∀ w ∈ lw_g, w.before args s = true := fun w h => S.2.2.2.2 w (List.mem_cons_of_mem _ h)
  refine lv_iload hx hb dX8_settle_0 (lv_at hl 3 rfl) ?_
  refine nv_bipush (k := 96) hx hb dX8_settle_2 (by decide) ?_
  refine nv_icmp_ne (tgt := 24) hx hb dX8_settle_4 (by decide) (by omega) (by omega) (fun h4 => ?_) (fun h4 => ?_)
  · skip
    refine lv_iload hx hb dX8_settle_24 (lv_at hl 3 rfl) ?_
    refine nv_bipush (k := 32) hx hb dX8_settle_26 (by decide) ?_
    refine nv_icmp_lt (tgt := 65) hx hb dX8_settle_28 (by decide) (by omega) (by omega) (fun h28 => ?_) (fun h28 => ?_)
    · skip
      refine nv_iconst (k := 0) hx hb dX8_settle_65 rfl ?_
      exact hend ((bI_f rfl)) dX8_settle_66
    refine lv_iload hx hb dX8_settle_31 (lv_at hl 3 rfl) ?_
    refine nv_bipush (k := 64) hx hb dX8_settle_33 (by decide) ?_
    refine nv_icmp_gt (tgt := 65) hx hb dX8_settle_35 (by decide) (by omega) (by omega) (fun h35 => ?_) (fun h35 => ?_)
    · skip
      refine nv_iconst (k := 0) hx hb dX8_settle_65 rfl ?_
      exact hend ((bI_f rfl)) dX8_settle_66
    refine lv_iload hx hb dX8_settle_38 (lv_at hl 3 rfl) ?_
    refine nv_bipush (k := 8) hx hb dX8_settle_40 (by decide) ?_
    refine nv_irem hx hb (by omega) (by omega) (by omega) dX8_settle_42 ?_
    refine nv_if_ne (tgt := 65) hx hb dX8_settle_43 (by decide) (by omega) (fun h43 => ?_) (fun h43 => ?_)
    · skip
      refine nv_iconst (k := 0) hx hb dX8_settle_65 rfl ?_
      exact hend ((bI_f rfl)) dX8_settle_66
    exfalso; omega
  exfalso; omega
set_option maxHeartbeats 4000000 in
set_option maxRecDepth 100000 in
theorem c_X8_settleN {l : Launch} {D : va_G} {cy : Nat → ClassId} {ws : va_W} {st hi lo : Nat} {len : Int32} (hneg : len < 0) : RO l yX8_settle cX8_settle 6 (some .boolean) 0 0 [.ref st, .long (lN (hi)), .long (lN (lo)), .int len] D cy ws (.int (bI (false))) := by
  refine ROz (by decide) (lv0 := [(0, .ref st), (1, .long (lN (hi))), (3, .long (lN (lo))), (5, .int len)]) rfl (Nat.le_of_ble_eq_true rfl) ?_
  intro p e s m args below meth c ls Q S hP hK hend hl
  have hx := S.1
  have hb := S.2.1
  have hown : s.vm.findClass RX8 = some m.cls := S.2.2.2.1
  have ht : ∀ w ∈ lw_g, w.before args s = true := fun w h => S.2.2.2.2 w (List.mem_cons_of_mem _ h)
  refine lv_iload hx hb dX8_settle_0 (lv_at hl 3 rfl) ?_
  refine nv_bipush (k := 96) hx hb dX8_settle_2 (by decide) ?_
  refine lv_icmp_ne (tgt := 24) hx hb dX8_settle_4 (by decide) (fun h4 => ?_) (fun h4 => ?_)
  · skip
    refine lv_iload hx hb dX8_settle_24 (lv_at hl 3 rfl) ?_
    refine nv_bipush (k := 32) hx hb dX8_settle_26 (by decide) ?_
    refine lv_icmp_lt (tgt := 65) hx hb dX8_settle_28 (by decide) (fun h28 => ?_) (fun h28 => ?_)
    · skip
      refine nv_iconst (k := 0) hx hb dX8_settle_65 rfl ?_
      exact hend ((bI_f rfl)) dX8_settle_66
    exact absurd (neg_lt hneg (by decide)) h28
  exact absurd hneg (by rw [h4]; decide)
theorem dX5_join_0 : decode cX5_join 0 = .ok (.iload_n 1, 1) := by decide +kernel
theorem dX5_join_1 : decode cX5_join 1 = .ok (.invokestatic 21, 3) := by decide +kernel
theorem dX5_join_4 : decode cX5_join 4 = .ok (.ifCond .ne 11, 3) := by decide +kernel
theorem dX5_join_7 : decode cX5_join 7 = .ok (.aload_n 0, 1) := by decide +kernel
theorem dX5_join_8 : decode cX5_join 8 = .ok (.iload_n 1, 1) := by decide +kernel
theorem dX5_join_9 : decode cX5_join 9 = .ok (.invokevirtual 25, 3) := by decide +kernel
theorem dX5_join_12 : decode cX5_join 12 = .ok (.ifCond .eq 5, 3) := by decide +kernel
theorem dX5_join_15 : decode cX5_join 15 = .ok (.iconst (-1), 1) := by decide +kernel
theorem dX5_join_16 : decode cX5_join 16 = .ok (.ireturn, 1) := by decide +kernel
theorem dX5_join_17 : decode cX5_join 17 = .ok (.aload_n 0, 1) := by decide +kernel
theorem dX5_join_18 : decode cX5_join 18 = .ok (.getfield 13, 3) := by decide +kernel
theorem dX5_join_21 : decode cX5_join 21 = .ok (.iconst 4, 1) := by decide +kernel
theorem dX5_join_22 : decode cX5_join 22 = .ok (.if_icmp .lt 6, 3) := by decide +kernel
theorem dX5_join_25 : decode cX5_join 25 = .ok (.bipush (-2), 2) := by decide +kernel
theorem dX5_join_27 : decode cX5_join 27 = .ok (.ireturn, 1) := by decide +kernel
theorem dX5_join_28 : decode cX5_join 28 = .ok (.aload_n 0, 1) := by decide +kernel
theorem dX5_join_29 : decode cX5_join 29 = .ok (.getfield 9, 3) := by decide +kernel
theorem dX5_join_32 : decode cX5_join 32 = .ok (.aload_n 0, 1) := by decide +kernel
theorem dX5_join_33 : decode cX5_join 33 = .ok (.getfield 13, 3) := by decide +kernel
theorem dX5_join_36 : decode cX5_join 36 = .ok (.iload_n 1, 1) := by decide +kernel
theorem dX5_join_37 : decode cX5_join 37 = .ok (.iastore, 1) := by decide +kernel
theorem dX5_join_38 : decode cX5_join 38 = .ok (.aload_n 0, 1) := by decide +kernel
theorem dX5_join_39 : decode cX5_join 39 = .ok (.dup, 1) := by decide +kernel
theorem dX5_join_40 : decode cX5_join 40 = .ok (.getfield 13, 3) := by decide +kernel
theorem dX5_join_43 : decode cX5_join 43 = .ok (.iconst 1, 1) := by decide +kernel
theorem dX5_join_44 : decode cX5_join 44 = .ok (.iadd, 1) := by decide +kernel
theorem dX5_join_45 : decode cX5_join 45 = .ok (.putfield 13, 3) := by decide +kernel
theorem dX5_join_48 : decode cX5_join 48 = .ok (.aload_n 0, 1) := by decide +kernel
theorem dX5_join_49 : decode cX5_join 49 = .ok (.getfield 13, 3) := by decide +kernel
theorem dX5_join_52 : decode cX5_join 52 = .ok (.iconst 1, 1) := by decide +kernel
theorem dX5_join_53 : decode cX5_join 53 = .ok (.isub, 1) := by decide +kernel
theorem dX5_join_54 : decode cX5_join 54 = .ok (.ireturn, 1) := by decide +kernel
theorem yv_X5_join : YV RX5 yX5_join cX5_join 2 (some .int) 1 := ⟨kw1_174, kw1_175, kw1_5, kw1_176, by decide +kernel⟩
set_option maxHeartbeats 4000000 in
set_option maxRecDepth 100000 in
theorem c_X5_join {l : Launch} {D : va_G} {cy : Nat → ClassId} {ad : Nat → Nat} {tl dy : va_W} {eb es tp os bits F G u nb ns T M id : Nat} {mb mz : Int32} {ft fo : Nat → UInt8} {g : Nat → Int32} {dq : Nat → Nat} (htp : tp ≤ 1600) (hos : os ≤ 1620) (hsi : SI bits F G) (hu4 : u ≤ 4) {x : Nat} (hx0 : x < 2 ^ 32) (hod : tg_odd x = false) (hhas : tg_has g u x = false) (hu3 : u < 4) : WR (S := Unit) l yX5_join cX5_join 2 (some .int) 2 0 0 43 [.ref (ad 6), .int (nI x)] D cy ((cW cy ad eb es mb mz tp os bits F G u nb ns T M id ft fo g dq ++ tl) ++ dy) (fun u_ => some (.int (nI u))) (fun _ => True) (fun _ => (cW cy ad eb es mb mz tp os bits F G (u + 1) nb ns T M id ft fo (upd g u (nI x)) dq ++ tl) ++ dy) := by
  refine WRi (by decide) (lv0 := [(0, .ref (ad 6)), (1, .int (nI x))]) rfl (Nat.le_of_ble_eq_true rfl) ?_
  intro p e s m args below meth c ls A Q S hnm hP hK hD hS hA hend hl
  have hx := S.1
  have hb := S.2.1
  have hown : s.vm.findClass RX5 = some m.cls := S.2.2.2.1
  have ht : ∀ w ∈ lw_g, w.before args s = true := fun w h => S.2.2.2.2 w (List.mem_cons_of_mem _ h)
  have hP : va_P D vwCl ((cW cy ad eb es mb mz tp os bits F G u nb ns T M id ft fo g dq ++ tl) ++ dy) s.heap := hP
  have hT : ((cW cy ad eb es mb mz tp os bits F G u nb ns T M id ft fo g dq ++ tl) ++ dy)[8]? = some (tE (ad 8) (ad 9) (ad 10) T) := rfl
  have hLb : ((cW cy ad eb es mb mz tp os bits F G u nb ns T M id ft fo g dq ++ tl) ++ dy)[9]? = some (aL (ad 9) mb eb nb) := rfl
  have hLs : ((cW cy ad eb es mb mz tp os bits F G u nb ns T M id ft fo g dq ++ tl) ++ dy)[10]? = some (aL (ad 10) mz es ns) := rfl
  have hST : STP ((cW cy ad eb es mb mz tp os bits F G u nb ns T M id ft fo g dq ++ tl) ++ dy) (ad 5) bits F G := STP_of (ks := 5) rfl hsi
  have hPL : PLP cy ((cW cy ad eb es mb mz tp os bits F G u nb ns T M id ft fo g dq ++ tl) ++ dy) (ad 6) g u := PLP_of (kp := 6) (kq := 7) rfl rfl hu4
  refine lv_iload_n hx hb dX5_join_0 rfl (lv_at hl 1 rfl) ?_
  refine ro_S S (c_X5_isOdd (x := x) (by omega)) kw1_177 yv_X5_isOdd ⟨Nat.le_of_ble_eq_true rfl, Nat.le_of_ble_eq_true rfl⟩ hK hP rfl hl.1 rfl (Nat.le_of_ble_eq_true rfl) dX5_join_1 ⟨(Nat.zero_le _), (Nat.zero_le _)⟩ ?_
  refine nv_if_neb (tgt := 15) hx hb dX5_join_4 (by decide) (fun h4 => ?_) (fun h4 => ?_)
  · skip
    first | exact absurd h4 (by rw [hod]; decide) | exact absurd h12 (by rw [hhas]; decide)
  refine lv_aload_n hx hb dX5_join_7 rfl (lv_at hl 0 rfl) ?_
  refine lv_iload_n hx hb dX5_join_8 rfl (lv_at hl 1 rfl) ?_
  refine ro_V S (c_X5_has hPL (x := x) (by omega)) kw1_180 yv_X5_has ⟨Nat.le_of_ble_eq_true rfl, Nat.le_of_ble_eq_true rfl⟩ hK hP (va_recv hK hP (ci := 4) (q0 := 6) rfl rfl) rfl hl.1 rfl (Nat.le_of_ble_eq_true rfl) dX5_join_9 ⟨(Nat.zero_le _), (Nat.zero_le _)⟩ ?_
  refine nv_if_eqb (tgt := 17) hx hb dX5_join_12 (by decide) (fun h12 => ?_) (fun h12 => ?_)
  · skip
    refine lv_aload_n hx hb dX5_join_17 rfl (lv_at hl 0 rfl) ?_
    refine va_get (ci := 4) (C := RX5) (T := TX5) (N := 2) hx hb ht iFX5 hown hK hP 6 rfl rfl 1 (by decide) (ht _ kw1_74) (fun _ h9 => h9) rfl dX5_join_18 ?_
    refine nv_iconst (k := 4) hx hb dX5_join_21 rfl ?_
    refine nv_icmp_lt (tgt := 28) hx hb dX5_join_22 (by decide) (by omega) (by omega) (fun h22 => ?_) (fun h22 => ?_)
    · skip
      refine lv_aload_n hx hb dX5_join_28 rfl (lv_at hl 0 rfl) ?_
      refine va_get (ci := 4) (C := RX5) (T := TX5) (N := 2) hx hb ht iFX5 hown hK hP 6 rfl rfl 0 (by decide) (ht _ kw1_73) (fun _ h9 => h9) rfl dX5_join_29 ?_
      refine lv_aload_n hx hb dX5_join_32 rfl (lv_at hl 0 rfl) ?_
      refine va_get (ci := 4) (C := RX5) (T := TX5) (N := 2) hx hb ht iFX5 hown hK hP 6 rfl rfl 1 (by decide) (ht _ kw1_74) (fun _ h9 => h9) rfl dX5_join_33 ?_
      refine lv_iload_n hx hb dX5_join_36 rfl (lv_at hl 1 rfl) ?_
      refine nv_iast hx hb hK hP hD hS 7 rfl (by omega) (by omega) dX5_join_37 (fun H locs hP hD hS => ?_)
      have hP : va_P D vwCl ((cW cy ad eb es mb mz tp os bits F G u nb ns T M id ft fo (upd g u ((nI x))) dq ++ tl) ++ dy) H := hP
      have hD : va_D A ((cW cy ad eb es mb mz tp os bits F G u nb ns T M id ft fo (upd g u ((nI x))) dq ++ tl) ++ dy) := hD
      refine lv_aload_n hx hb dX5_join_38 rfl (lv_at hl 0 rfl) ?_
      refine lv_dup hx hb dX5_join_39 rfl ?_
      refine va_get (ci := 4) (C := RX5) (T := TX5) (N := 2) hx hb ht iFX5 hown hK hP 6 rfl rfl 1 (by decide) (ht _ kw1_74) (fun _ h9 => h9) rfl dX5_join_40 ?_
      refine nv_iconst (k := 1) hx hb dX5_join_43 rfl ?_
      refine nv_iadd hx hb dX5_join_44 ?_
      refine va_put (ci := 4) (C := RX5) (T := TX5) (N := 2) (ty := tyX5 1) hx hb ht iFX5 tyX5 tyX5_ok nmX5 hown hK hP hD hS 6 rfl rfl 1 (by decide) (ht _ kw1_74) (fun _ h9 => h9) rfl (by decide +kernel) (by first | rfl | decide) (by first | rfl | decide) (Nat.le_of_ble_eq_true rfl) dX5_join_45 (fun H locs hP hD hS => ?_)
      have hP : va_P D vwCl ((cW cy ad eb es mb mz tp os bits F G (u + 1) nb ns T M id ft fo (upd g u ((nI x))) dq ++ tl) ++ dy) H := hP
      have hD : va_D A ((cW cy ad eb es mb mz tp os bits F G (u + 1) nb ns T M id ft fo (upd g u ((nI x))) dq ++ tl) ++ dy) := hD
      refine lv_aload_n hx hb dX5_join_48 rfl (lv_at hl 0 rfl) ?_
      refine va_get (ci := 4) (C := RX5) (T := TX5) (N := 2) hx hb ht iFX5 hown hK hP 6 rfl rfl 1 (by decide) (ht _ kw1_74) (fun _ h9 => h9) rfl dX5_join_49 ?_
      refine nv_iconst (k := 1) hx hb dX5_join_52 rfl ?_
      refine nv_isub hx hb (by omega) dX5_join_53 ?_
      exact hend () (congrArg nI (by omega)) trivial hP hD hS dX5_join_54
    exfalso; omega
  first | exact absurd h4 (by rw [hod]; decide) | exact absurd h12 (by rw [hhas]; decide)
set_option maxHeartbeats 4000000 in
set_option maxRecDepth 100000 in
theorem c_X5_joinO {l : Launch} {D : va_G} {cy : Nat → ClassId} {ad : Nat → Nat} {tl dy : va_W} {eb es tp os bits F G u nb ns T M id : Nat} {mb mz : Int32} {ft fo : Nat → UInt8} {g : Nat → Int32} {dq : Nat → Nat} (htp : tp ≤ 1600) (hos : os ≤ 1620) (hsi : SI bits F G) (hu4 : u ≤ 4) {x : Nat} (hx0 : x < 2 ^ 32) (hod : tg_odd x = true ∨ tg_has g u x = true) : RO l yX5_join cX5_join 2 (some .int) 2 43 [.ref (ad 6), .int (nI x)] D cy ((cW cy ad eb es mb mz tp os bits F G u nb ns T M id ft fo g dq ++ tl) ++ dy) (.int (-1)) := by
  refine ROi (by decide) (lv0 := [(0, .ref (ad 6)), (1, .int (nI x))]) rfl (Nat.le_of_ble_eq_true rfl) ?_
  intro p e s m args below meth c ls Q S hP hK hend hl
  have hx := S.1
  have hb := S.2.1
  have hown : s.vm.findClass RX5 = some m.cls := S.2.2.2.1
  have ht : ∀ w ∈ lw_g, w.before args s = true := fun w h => S.2.2.2.2 w (List.mem_cons_of_mem _ h)
  have hP : va_P D vwCl ((cW cy ad eb es mb mz tp os bits F G u nb ns T M id ft fo g dq ++ tl) ++ dy) s.heap := hP
  have hT : ((cW cy ad eb es mb mz tp os bits F G u nb ns T M id ft fo g dq ++ tl) ++ dy)[8]? = some (tE (ad 8) (ad 9) (ad 10) T) := rfl
  have hLb : ((cW cy ad eb es mb mz tp os bits F G u nb ns T M id ft fo g dq ++ tl) ++ dy)[9]? = some (aL (ad 9) mb eb nb) := rfl
  have hLs : ((cW cy ad eb es mb mz tp os bits F G u nb ns T M id ft fo g dq ++ tl) ++ dy)[10]? = some (aL (ad 10) mz es ns) := rfl
  have hST : STP ((cW cy ad eb es mb mz tp os bits F G u nb ns T M id ft fo g dq ++ tl) ++ dy) (ad 5) bits F G := STP_of (ks := 5) rfl hsi
  have hPL : PLP cy ((cW cy ad eb es mb mz tp os bits F G u nb ns T M id ft fo g dq ++ tl) ++ dy) (ad 6) g u := PLP_of (kp := 6) (kq := 7) rfl rfl hu4
  refine lv_iload_n hx hb dX5_join_0 rfl (lv_at hl 1 rfl) ?_
  refine ro_S S (c_X5_isOdd (x := x) (by omega)) kw1_177 yv_X5_isOdd ⟨Nat.le_of_ble_eq_true rfl, Nat.le_of_ble_eq_true rfl⟩ hK hP rfl hl.1 rfl (Nat.le_of_ble_eq_true rfl) dX5_join_1 ⟨(Nat.zero_le _), (Nat.zero_le _)⟩ ?_
  refine nv_if_neb (tgt := 15) hx hb dX5_join_4 (by decide) (fun h4 => ?_) (fun h4 => ?_)
  · skip
    refine lv_iconst (v := -1) hx hb dX5_join_15 (by decide) ?_
    exact hend (rfl) dX5_join_16
  refine lv_aload_n hx hb dX5_join_7 rfl (lv_at hl 0 rfl) ?_
  refine lv_iload_n hx hb dX5_join_8 rfl (lv_at hl 1 rfl) ?_
  refine ro_V S (c_X5_has hPL (x := x) (by omega)) kw1_180 yv_X5_has ⟨Nat.le_of_ble_eq_true rfl, Nat.le_of_ble_eq_true rfl⟩ hK hP (va_recv hK hP (ci := 4) (q0 := 6) rfl rfl) rfl hl.1 rfl (Nat.le_of_ble_eq_true rfl) dX5_join_9 ⟨(Nat.zero_le _), (Nat.zero_le _)⟩ ?_
  refine nv_if_eqb (tgt := 17) hx hb dX5_join_12 (by decide) (fun h12 => ?_) (fun h12 => ?_)
  · skip
    rcases hod with z | z; exact absurd z (by rw [h4]; decide); exact absurd z (by rw [h12]; decide)
  refine lv_iconst (v := -1) hx hb dX5_join_15 (by decide) ?_
  exact hend (rfl) dX5_join_16
set_option maxHeartbeats 4000000 in
set_option maxRecDepth 100000 in
theorem c_X5_joinF {l : Launch} {D : va_G} {cy : Nat → ClassId} {ad : Nat → Nat} {tl dy : va_W} {eb es tp os bits F G u nb ns T M id : Nat} {mb mz : Int32} {ft fo : Nat → UInt8} {g : Nat → Int32} {dq : Nat → Nat} (htp : tp ≤ 1600) (hos : os ≤ 1620) (hsi : SI bits F G) (hu4 : u ≤ 4) {x : Nat} (hx0 : x < 2 ^ 32) (hod : tg_odd x = false) (hhas : tg_has g u x = false) (hu3 : u = 4) : RO l yX5_join cX5_join 2 (some .int) 2 43 [.ref (ad 6), .int (nI x)] D cy ((cW cy ad eb es mb mz tp os bits F G u nb ns T M id ft fo g dq ++ tl) ++ dy) (.int (-2)) := by
  refine ROi (by decide) (lv0 := [(0, .ref (ad 6)), (1, .int (nI x))]) rfl (Nat.le_of_ble_eq_true rfl) ?_
  intro p e s m args below meth c ls Q S hP hK hend hl
  have hx := S.1
  have hb := S.2.1
  have hown : s.vm.findClass RX5 = some m.cls := S.2.2.2.1
  have ht : ∀ w ∈ lw_g, w.before args s = true := fun w h => S.2.2.2.2 w (List.mem_cons_of_mem _ h)
  have hP : va_P D vwCl ((cW cy ad eb es mb mz tp os bits F G u nb ns T M id ft fo g dq ++ tl) ++ dy) s.heap := hP
  have hT : ((cW cy ad eb es mb mz tp os bits F G u nb ns T M id ft fo g dq ++ tl) ++ dy)[8]? = some (tE (ad 8) (ad 9) (ad 10) T) := rfl
  have hLb : ((cW cy ad eb es mb mz tp os bits F G u nb ns T M id ft fo g dq ++ tl) ++ dy)[9]? = some (aL (ad 9) mb eb nb) := rfl
  have hLs : ((cW cy ad eb es mb mz tp os bits F G u nb ns T M id ft fo g dq ++ tl) ++ dy)[10]? = some (aL (ad 10) mz es ns) := rfl
  have hST : STP ((cW cy ad eb es mb mz tp os bits F G u nb ns T M id ft fo g dq ++ tl) ++ dy) (ad 5) bits F G := STP_of (ks := 5) rfl hsi
  have hPL : PLP cy ((cW cy ad eb es mb mz tp os bits F G u nb ns T M id ft fo g dq ++ tl) ++ dy) (ad 6) g u := PLP_of (kp := 6) (kq := 7) rfl rfl hu4
  refine lv_iload_n hx hb dX5_join_0 rfl (lv_at hl 1 rfl) ?_
  refine ro_S S (c_X5_isOdd (x := x) (by omega)) kw1_177 yv_X5_isOdd ⟨Nat.le_of_ble_eq_true rfl, Nat.le_of_ble_eq_true rfl⟩ hK hP rfl hl.1 rfl (Nat.le_of_ble_eq_true rfl) dX5_join_1 ⟨(Nat.zero_le _), (Nat.zero_le _)⟩ ?_
  refine nv_if_neb (tgt := 15) hx hb dX5_join_4 (by decide) (fun h4 => ?_) (fun h4 => ?_)
  · skip
    first | exact absurd h4 (by rw [hod]; decide) | exact absurd h12 (by rw [hhas]; decide)
  refine lv_aload_n hx hb dX5_join_7 rfl (lv_at hl 0 rfl) ?_
  refine lv_iload_n hx hb dX5_join_8 rfl (lv_at hl 1 rfl) ?_
  refine ro_V S (c_X5_has hPL (x := x) (by omega)) kw1_180 yv_X5_has ⟨Nat.le_of_ble_eq_true rfl, Nat.le_of_ble_eq_true rfl⟩ hK hP (va_recv hK hP (ci := 4) (q0 := 6) rfl rfl) rfl hl.1 rfl (Nat.le_of_ble_eq_true rfl) dX5_join_9 ⟨(Nat.zero_le _), (Nat.zero_le _)⟩ ?_
  refine nv_if_eqb (tgt := 17) hx hb dX5_join_12 (by decide) (fun h12 => ?_) (fun h12 => ?_)
  · skip
    refine lv_aload_n hx hb dX5_join_17 rfl (lv_at hl 0 rfl) ?_
    refine va_get (ci := 4) (C := RX5) (T := TX5) (N := 2) hx hb ht iFX5 hown hK hP 6 rfl rfl 1 (by decide) (ht _ kw1_74) (fun _ h9 => h9) rfl dX5_join_18 ?_
    refine nv_iconst (k := 4) hx hb dX5_join_21 rfl ?_
    refine nv_icmp_lt (tgt := 28) hx hb dX5_join_22 (by decide) (by omega) (by omega) (fun h22 => ?_) (fun h22 => ?_)
    · skip
      exfalso; omega
    refine lv_bipush (v := -2) hx hb dX5_join_25 (by decide) ?_
    exact hend (rfl) dX5_join_27
  first | exact absurd h4 (by rw [hod]; decide) | exact absurd h12 (by rw [hhas]; decide)
theorem dX11_pool_0 : decode cX11_pool 0 = .ok (.aload_n 0, 1) := by decide +kernel
theorem dX11_pool_1 : decode cX11_pool 1 = .ok (.getfield 31, 3) := by decide +kernel
theorem dX11_pool_4 : decode cX11_pool 4 = .ok (.iload_n 1, 1) := by decide +kernel
theorem dX11_pool_5 : decode cX11_pool 5 = .ok (.invokevirtual 60, 3) := by decide +kernel
theorem dX11_pool_8 : decode cX11_pool 8 = .ok (.ireturn, 1) := by decide +kernel
theorem yv_X11_pool : YV RX11 yX11_pool cX11_pool 2 (some .int) 1 := ⟨kw1_170, kw1_171, kw1_1, kw1_172, by decide +kernel⟩
set_option maxHeartbeats 4000000 in
set_option maxRecDepth 100000 in
theorem c_X11_pool {l : Launch} {D : va_G} {cy : Nat → ClassId} {ad : Nat → Nat} {tl dy : va_W} {eb es tp os bits F G u nb ns T M id : Nat} {mb mz : Int32} {ft fo : Nat → UInt8} {g : Nat → Int32} {dq : Nat → Nat} (htp : tp ≤ 1600) (hos : os ≤ 1620) (hsi : SI bits F G) (hu4 : u ≤ 4) {x : Nat} (hx0 : x < 2 ^ 32) (hod : tg_odd x = false) (hhas : tg_has g u x = false) (hu3 : u < 4) : WR (S := Unit) l yX11_pool cX11_pool 2 (some .int) 3 0 0 64 [.ref (ad 0), .int (nI x)] D cy ((cW cy ad eb es mb mz tp os bits F G u nb ns T M id ft fo g dq ++ tl) ++ dy) (fun u_ => some (.int (nI u))) (fun _ => True) (fun _ => (cW cy ad eb es mb mz tp os bits F G (u + 1) nb ns T M id ft fo (upd g u (nI x)) dq ++ tl) ++ dy) := by
  refine WRi (by decide) (lv0 := [(0, .ref (ad 0)), (1, .int (nI x))]) rfl (Nat.le_of_ble_eq_true rfl) ?_
  intro p e s m args below meth c ls A Q S hnm hP hK hD hS hA hend hl
  have hx := S.1
  have hb := S.2.1
  have hown : s.vm.findClass RX11 = some m.cls := S.2.2.2.1
  have ht : ∀ w ∈ lw_g, w.before args s = true := fun w h => S.2.2.2.2 w (List.mem_cons_of_mem _ h)
  have hP : va_P D vwCl ((cW cy ad eb es mb mz tp os bits F G u nb ns T M id ft fo g dq ++ tl) ++ dy) s.heap := hP
  have hT : ((cW cy ad eb es mb mz tp os bits F G u nb ns T M id ft fo g dq ++ tl) ++ dy)[8]? = some (tE (ad 8) (ad 9) (ad 10) T) := rfl
  have hLb : ((cW cy ad eb es mb mz tp os bits F G u nb ns T M id ft fo g dq ++ tl) ++ dy)[9]? = some (aL (ad 9) mb eb nb) := rfl
  have hLs : ((cW cy ad eb es mb mz tp os bits F G u nb ns T M id ft fo g dq ++ tl) ++ dy)[10]? = some (aL (ad 10) mz es ns) := rfl
  have hST : STP ((cW cy ad eb es mb mz tp os bits F G u nb ns T M id ft fo g dq ++ tl) ++ dy) (ad 5) bits F G := STP_of (ks := 5) rfl hsi
  have hPL : PLP cy ((cW cy ad eb es mb mz tp os bits F G u nb ns T M id ft fo g dq ++ tl) ++ dy) (ad 6) g u := PLP_of (kp := 6) (kq := 7) rfl rfl hu4
  refine lv_aload_n hx hb dX11_pool_0 rfl (lv_at hl 0 rfl) ?_
  refine va_get (ci := 8) (C := RX11) (T := TX11) (N := 8) hx hb ht iFX11 hown hK hP 0 rfl rfl 3 (by decide) (ht _ kw1_126) (fun _ h9 => h9) rfl dX11_pool_1 ?_
  refine lv_iload_n hx hb dX11_pool_4 rfl (lv_at hl 1 rfl) ?_
  refine wr_V S (c_X5_join htp hos hsi hu4 hx0 hod hhas hu3) kw1_173 yv_X5_join ⟨Nat.le_of_ble_eq_true rfl, Nat.le_of_ble_eq_true rfl⟩ hK hP hD hS hA (va_recv hK hP (ci := 4) (q0 := 6) rfl rfl) rfl hl.1 rfl (Nat.le_of_ble_eq_true rfl) dX11_pool_5 ⟨(Nat.zero_le _), (Nat.zero_le _)⟩ (fun z1 H locs hz1 hP hD hS => ?_)
  have hP : va_P D vwCl ((cW cy ad eb es mb mz tp os bits F G (u + 1) nb ns T M id ft fo (upd g u (nI x)) dq ++ tl) ++ dy) H := hP
  have hD : va_D A ((cW cy ad eb es mb mz tp os bits F G (u + 1) nb ns T M id ft fo (upd g u (nI x)) dq ++ tl) ++ dy) := hD
  refine W.eq (g2 := F0 m 8 ls [.int (nI u)]) rfl ?_
  exact hend () rfl trivial hP hD hS dX11_pool_8
set_option maxHeartbeats 4000000 in
set_option maxRecDepth 100000 in
theorem c_X11_poolO {l : Launch} {D : va_G} {cy : Nat → ClassId} {ad : Nat → Nat} {tl dy : va_W} {eb es tp os bits F G u nb ns T M id : Nat} {mb mz : Int32} {ft fo : Nat → UInt8} {g : Nat → Int32} {dq : Nat → Nat} (htp : tp ≤ 1600) (hos : os ≤ 1620) (hsi : SI bits F G) (hu4 : u ≤ 4) {x : Nat} (hx0 : x < 2 ^ 32) (hod : tg_odd x = true ∨ tg_has g u x = true) : RO l yX11_pool cX11_pool 2 (some .int) 3 64 [.ref (ad 0), .int (nI x)] D cy ((cW cy ad eb es mb mz tp os bits F G u nb ns T M id ft fo g dq ++ tl) ++ dy) (.int (-1)) := by
  refine ROi (by decide) (lv0 := [(0, .ref (ad 0)), (1, .int (nI x))]) rfl (Nat.le_of_ble_eq_true rfl) ?_
  intro p e s m args below meth c ls Q S hP hK hend hl
  have hx := S.1
  have hb := S.2.1
  have hown : s.vm.findClass RX11 = some m.cls := S.2.2.2.1
  have ht : ∀ w ∈ lw_g, w.before args s = true := fun w h => S.2.2.2.2 w (List.mem_cons_of_mem _ h)
  have hP : va_P D vwCl ((cW cy ad eb es mb mz tp os bits F G u nb ns T M id ft fo g dq ++ tl) ++ dy) s.heap := hP
  have hT : ((cW cy ad eb es mb mz tp os bits F G u nb ns T M id ft fo g dq ++ tl) ++ dy)[8]? = some (tE (ad 8) (ad 9) (ad 10) T) := rfl
  have hLb : ((cW cy ad eb es mb mz tp os bits F G u nb ns T M id ft fo g dq ++ tl) ++ dy)[9]? = some (aL (ad 9) mb eb nb) := rfl
  have hLs : ((cW cy ad eb es mb mz tp os bits F G u nb ns T M id ft fo g dq ++ tl) ++ dy)[10]? = some (aL (ad 10) mz es ns) := rfl
  have hST : STP ((cW cy ad eb es mb mz tp os bits F G u nb ns T M id ft fo g dq ++ tl) ++ dy) (ad 5) bits F G := STP_of (ks := 5) rfl hsi
  have hPL : PLP cy ((cW cy ad eb es mb mz tp os bits F G u nb ns T M id ft fo g dq ++ tl) ++ dy) (ad 6) g u := PLP_of (kp := 6) (kq := 7) rfl rfl hu4
  refine lv_aload_n hx hb dX11_pool_0 rfl (lv_at hl 0 rfl) ?_
  refine va_get (ci := 8) (C := RX11) (T := TX11) (N := 8) hx hb ht iFX11 hown hK hP 0 rfl rfl 3 (by decide) (ht _ kw1_126) (fun _ h9 => h9) rfl dX11_pool_1 ?_
  refine lv_iload_n hx hb dX11_pool_4 rfl (lv_at hl 1 rfl) ?_
  refine ro_V S (c_X5_joinO htp hos hsi hu4 hx0 hod) kw1_173 yv_X5_join ⟨Nat.le_of_ble_eq_true rfl, Nat.le_of_ble_eq_true rfl⟩ hK hP (va_recv hK hP (ci := 4) (q0 := 6) rfl rfl) rfl hl.1 rfl (Nat.le_of_ble_eq_true rfl) dX11_pool_5 ⟨(Nat.zero_le _), (Nat.zero_le _)⟩ ?_
  exact hend (rfl) dX11_pool_8
set_option maxHeartbeats 4000000 in
set_option maxRecDepth 100000 in
theorem c_X11_poolF {l : Launch} {D : va_G} {cy : Nat → ClassId} {ad : Nat → Nat} {tl dy : va_W} {eb es tp os bits F G u nb ns T M id : Nat} {mb mz : Int32} {ft fo : Nat → UInt8} {g : Nat → Int32} {dq : Nat → Nat} (htp : tp ≤ 1600) (hos : os ≤ 1620) (hsi : SI bits F G) (hu4 : u ≤ 4) {x : Nat} (hx0 : x < 2 ^ 32) (hod : tg_odd x = false) (hhas : tg_has g u x = false) (hu3 : u = 4) : RO l yX11_pool cX11_pool 2 (some .int) 3 64 [.ref (ad 0), .int (nI x)] D cy ((cW cy ad eb es mb mz tp os bits F G u nb ns T M id ft fo g dq ++ tl) ++ dy) (.int (-2)) := by
  refine ROi (by decide) (lv0 := [(0, .ref (ad 0)), (1, .int (nI x))]) rfl (Nat.le_of_ble_eq_true rfl) ?_
  intro p e s m args below meth c ls Q S hP hK hend hl
  have hx := S.1
  have hb := S.2.1
  have hown : s.vm.findClass RX11 = some m.cls := S.2.2.2.1
  have ht : ∀ w ∈ lw_g, w.before args s = true := fun w h => S.2.2.2.2 w (List.mem_cons_of_mem _ h)
  have hP : va_P D vwCl ((cW cy ad eb es mb mz tp os bits F G u nb ns T M id ft fo g dq ++ tl) ++ dy) s.heap := hP
  have hT : ((cW cy ad eb es mb mz tp os bits F G u nb ns T M id ft fo g dq ++ tl) ++ dy)[8]? = some (tE (ad 8) (ad 9) (ad 10) T) := rfl
  have hLb : ((cW cy ad eb es mb mz tp os bits F G u nb ns T M id ft fo g dq ++ tl) ++ dy)[9]? = some (aL (ad 9) mb eb nb) := rfl
  have hLs : ((cW cy ad eb es mb mz tp os bits F G u nb ns T M id ft fo g dq ++ tl) ++ dy)[10]? = some (aL (ad 10) mz es ns) := rfl
  have hST : STP ((cW cy ad eb es mb mz tp os bits F G u nb ns T M id ft fo g dq ++ tl) ++ dy) (ad 5) bits F G := STP_of (ks := 5) rfl hsi
  have hPL : PLP cy ((cW cy ad eb es mb mz tp os bits F G u nb ns T M id ft fo g dq ++ tl) ++ dy) (ad 6) g u := PLP_of (kp := 6) (kq := 7) rfl rfl hu4
  refine lv_aload_n hx hb dX11_pool_0 rfl (lv_at hl 0 rfl) ?_
  refine va_get (ci := 8) (C := RX11) (T := TX11) (N := 8) hx hb ht iFX11 hown hK hP 0 rfl rfl 3 (by decide) (ht _ kw1_126) (fun _ h9 => h9) rfl dX11_pool_1 ?_
  refine lv_iload_n hx hb dX11_pool_4 rfl (lv_at hl 1 rfl) ?_
  refine ro_V S (c_X5_joinF htp hos hsi hu4 hx0 hod hhas hu3) kw1_173 yv_X5_join ⟨Nat.le_of_ble_eq_true rfl, Nat.le_of_ble_eq_true rfl⟩ hK hP (va_recv hK hP (ci := 4) (q0 := 6) rfl rfl) rfl hl.1 rfl (Nat.le_of_ble_eq_true rfl) dX11_pool_5 ⟨(Nat.zero_le _), (Nat.zero_le _)⟩ ?_
  exact hend (rfl) dX11_pool_8
theorem dX10_forget_0 : decode cX10_forget 0 = .ok (.aload_n 0, 1) := by decide +kernel
theorem dX10_forget_1 : decode cX10_forget 1 = .ok (.getfield 18, 3) := by decide +kernel
theorem dX10_forget_4 : decode cX10_forget 4 = .ok (.invokevirtual 37, 3) := by decide +kernel
theorem dX10_forget_7 : decode cX10_forget 7 = .ok (.aload_n 0, 1) := by decide +kernel
theorem dX10_forget_8 : decode cX10_forget 8 = .ok (.getfield 12, 3) := by decide +kernel
theorem dX10_forget_11 : decode cX10_forget 11 = .ok (.invokevirtual 37, 3) := by decide +kernel
theorem dX10_forget_14 : decode cX10_forget 14 = .ok (.return_, 1) := by decide +kernel
theorem yv_X10_forget : YV RX10 yX10_forget cX10_forget 1 none 0 := ⟨kw1_162, kw1_163, kw1_6, kw1_164, by decide +kernel⟩
set_option maxHeartbeats 4000000 in
set_option maxRecDepth 100000 in
theorem c_X10_forget {l : Launch} {D : va_G} {cy : Nat → ClassId} {e0 : Nat × Nat} {ad : Nat → Nat} {tl dy : va_W} {eb es tp os bits F G u nb ns T M id : Nat} {mb mz : Int32} {ft fo : Nat → UInt8} {g : Nat → Int32} {dq ba sa pt ih il ip pn op so fa fp st en : Nat → Nat} (hDY : DY cy e0.1 dy eb es nb ns ba sa pt ih il ip pn op so fa fp st en) : WRX (S := va_W) l yX10_forget cX10_forget 1 none 1 0 0 23 [.ref (ad 8)] D cy e0 ((cW cy ad eb es mb mz tp os bits F G u nb ns T M id ft fo g dq ++ tl) ++ dy) (fun _ => none) (fun z9 => DY cy e0.1 z9 eb es 0 0 ba sa pt ih il ip pn op so fa fp st en) (fun z9 => (cW cy ad eb es (mb + nI 1) (mz + nI 1) tp os bits F G u 0 0 T M id ft fo g dq ++ tl) ++ z9) := by
  refine WRXv (by decide) (lv0 := [(0, .ref (ad 8))]) rfl (Nat.le_of_ble_eq_true rfl) ?_
  intro p e s m args below meth c ls A Q S hnm hP hK hD hS hA hE hend hl
  have hx := S.1
  have hb := S.2.1
  have hown : s.vm.findClass RX10 = some m.cls := S.2.2.2.1
  have ht : ∀ w ∈ lw_g, w.before args s = true := fun w h => S.2.2.2.2 w (List.mem_cons_of_mem _ h)
  have hP : va_P D vwCl ((cW cy ad eb es mb mz tp os bits F G u nb ns T M id ft fo g dq ++ tl) ++ dy) s.heap := hP
  have hT : ((cW cy ad eb es mb mz tp os bits F G u nb ns T M id ft fo g dq ++ tl) ++ dy)[8]? = some (tE (ad 8) (ad 9) (ad 10) T) := rfl
  have hLb : ((cW cy ad eb es mb mz tp os bits F G u nb ns T M id ft fo g dq ++ tl) ++ dy)[9]? = some (aL (ad 9) mb eb nb) := rfl
  have hLs : ((cW cy ad eb es mb mz tp os bits F G u nb ns T M id ft fo g dq ++ tl) ++ dy)[10]? = some (aL (ad 10) mz es ns) := rfl
  have hB : TB1 cy ((cW cy ad eb es mb mz tp os bits F G u nb ns T M id ft fo g dq ++ tl) ++ dy) e0.1 eb nb ba pt ih il ip pn op := hDY.1.app
  have hS1 : TS1 cy ((cW cy ad eb es mb mz tp os bits F G u nb ns T M id ft fo g dq ++ tl) ++ dy) e0.1 es ns nb ba sa so fa fp st en := hDY.2.1.app
  refine lv_aload_n hx hb dX10_forget_0 rfl (lv_at hl 0 rfl) ?_
  refine va_get (ci := 7) (C := RX10) (T := TX10) (N := 3) hx hb ht iFX10 hown hK hP 8 rfl rfl 1 (by decide) (ht _ kw1_114) (fun _ h9 => h9) rfl dX10_forget_1 ?_
  have he4 := e0_outr hE hD
  obtain ⟨N4, f4, hAD4, -⟩ := hDY.2.1
  refine wr_V S (c_clear (pre := (cW cy ad eb es mb mz tp os bits F G u nb ns T M id ft fo g dq ++ tl)) (dy := dy) (kl := 10) rfl hAD4) kw1_165 yv_Jx4a65c_clear_da8c8 ⟨Nat.le_of_ble_eq_true rfl, Nat.le_of_ble_eq_true rfl⟩ hK hP hD hS hA (va_recv hK hP (ci := 0) (q0 := 10) rfl rfl) rfl hl.1 rfl (Nat.le_of_ble_eq_true rfl) dX10_forget_4 ⟨(Nat.zero_le _), (Nat.zero_le _)⟩ (fun u4 H locs hu4 hP hD hS => ?_)
  have hP : va_P D vwCl ((cW cy ad eb es mb (mz + nI 1) tp os bits F G u nb 0 T M id ft fo g dq ++ tl) ++ u4.2) H := hP
  have hD : va_D A ((cW cy ad eb es mb (mz + nI 1) tp os bits F G u nb 0 T M id ft fo g dq ++ tl) ++ u4.2) := hD
  have hDY_1 : DY cy e0.1 u4.2 eb es nb 0 ba sa pt ih il ip pn op so fa fp st en := ⟨hDY.1.kp hu4.2 (fun e => hDY.2.2 e.symm) he4, ⟨_, _, hu4.1, by omega, fun i hi => absurd hi (by omega), fun i j hi => absurd hi (by omega)⟩, hDY.2.2⟩
  have hT : ((cW cy ad eb es mb (mz + nI 1) tp os bits F G u nb 0 T M id ft fo g dq ++ tl) ++ u4.2)[8]? = some (tE (ad 8) (ad 9) (ad 10) T) := rfl
  have hLb : ((cW cy ad eb es mb (mz + nI 1) tp os bits F G u nb 0 T M id ft fo g dq ++ tl) ++ u4.2)[9]? = some (aL (ad 9) mb eb nb) := rfl
  have hLs : ((cW cy ad eb es mb (mz + nI 1) tp os bits F G u nb 0 T M id ft fo g dq ++ tl) ++ u4.2)[10]? = some (aL (ad 10) (mz + nI 1) es 0) := rfl
  have hB : TB1 cy ((cW cy ad eb es mb (mz + nI 1) tp os bits F G u nb 0 T M id ft fo g dq ++ tl) ++ u4.2) e0.1 eb nb ba pt ih il ip pn op := hDY_1.1.app
  have hS1 : TS1 cy ((cW cy ad eb es mb (mz + nI 1) tp os bits F G u nb 0 T M id ft fo g dq ++ tl) ++ u4.2) e0.1 es 0 nb ba sa so fa fp st en := hDY_1.2.1.app
  refine W.eq (g2 := F0 m 7 ls []) rfl ?_
  refine lv_aload_n hx hb dX10_forget_7 rfl (lv_at hl 0 rfl) ?_
  refine va_get (ci := 7) (C := RX10) (T := TX10) (N := 3) hx hb ht iFX10 hown hK hP 8 rfl rfl 0 (by decide) (ht _ kw1_113) (fun _ h9 => h9) rfl dX10_forget_8 ?_
  have he11 := e0_outr hE hD
  obtain ⟨N11, f11, hAD11, -⟩ := hDY_1.1
  refine wr_V S (c_clear (pre := (cW cy ad eb es mb (mz + nI 1) tp os bits F G u nb 0 T M id ft fo g dq ++ tl)) (dy := u4.2) (kl := 9) rfl hAD11) kw1_165 yv_Jx4a65c_clear_da8c8 ⟨Nat.le_of_ble_eq_true rfl, Nat.le_of_ble_eq_true rfl⟩ hK hP hD hS hA (va_recv hK hP (ci := 0) (q0 := 9) rfl rfl) rfl hl.1 rfl (Nat.le_of_ble_eq_true rfl) dX10_forget_11 ⟨(Nat.zero_le _), (Nat.zero_le _)⟩ (fun u11 H locs hu11 hP hD hS => ?_)
  have hP : va_P D vwCl ((cW cy ad eb es (mb + nI 1) (mz + nI 1) tp os bits F G u 0 0 T M id ft fo g dq ++ tl) ++ u11.2) H := hP
  have hD : va_D A ((cW cy ad eb es (mb + nI 1) (mz + nI 1) tp os bits F G u 0 0 T M id ft fo g dq ++ tl) ++ u11.2) := hD
  obtain ⟨N9, f9, hA9, -⟩ := hDY_1.2.1
  have hDY_2 : DY cy e0.1 u11.2 eb es 0 0 ba sa pt ih il ip pn op so fa fp st en := ⟨⟨_, _, hu11.1, by omega, fun i hi => absurd hi (by omega), fun i j hi => absurd hi (by omega)⟩, ⟨N9, f9, hA9.kp hu11.2 (fun e => by rw [← e]; exact hDY_1.2.2 e) he11, by omega, fun i hi => absurd hi (by omega), fun i j hi => absurd hi (by omega)⟩, hDY_1.2.2⟩
  have hT : ((cW cy ad eb es (mb + nI 1) (mz + nI 1) tp os bits F G u 0 0 T M id ft fo g dq ++ tl) ++ u11.2)[8]? = some (tE (ad 8) (ad 9) (ad 10) T) := rfl
  have hLb : ((cW cy ad eb es (mb + nI 1) (mz + nI 1) tp os bits F G u 0 0 T M id ft fo g dq ++ tl) ++ u11.2)[9]? = some (aL (ad 9) (mb + nI 1) eb 0) := rfl
  have hLs : ((cW cy ad eb es (mb + nI 1) (mz + nI 1) tp os bits F G u 0 0 T M id ft fo g dq ++ tl) ++ u11.2)[10]? = some (aL (ad 10) (mz + nI 1) es 0) := rfl
  have hB : TB1 cy ((cW cy ad eb es (mb + nI 1) (mz + nI 1) tp os bits F G u 0 0 T M id ft fo g dq ++ tl) ++ u11.2) e0.1 eb 0 ba pt ih il ip pn op := hDY_2.1.app
  have hS1 : TS1 cy ((cW cy ad eb es (mb + nI 1) (mz + nI 1) tp os bits F G u 0 0 T M id ft fo g dq ++ tl) ++ u11.2) e0.1 es 0 0 ba sa so fa fp st en := hDY_2.2.1.app
  refine W.eq (g2 := F0 m 14 ls []) rfl ?_
  exact hend _ hDY_2 hP hD hS dX10_forget_14
theorem dX11_prefix_0 : decode cX11_prefix 0 = .ok (.aload_n 0, 1) := by decide +kernel
theorem dX11_prefix_1 : decode cX11_prefix 1 = .ok (.getfield 24, 3) := by decide +kernel
theorem dX11_prefix_4 : decode cX11_prefix 4 = .ok (.lload_n 1, 1) := by decide +kernel
theorem dX11_prefix_5 : decode cX11_prefix 5 = .ok (.lload_n 3, 1) := by decide +kernel
theorem dX11_prefix_6 : decode cX11_prefix 6 = .ok (.iload 5, 2) := by decide +kernel
theorem dX11_prefix_8 : decode cX11_prefix 8 = .ok (.invokevirtual 53, 3) := by decide +kernel
theorem dX11_prefix_11 : decode cX11_prefix 11 = .ok (.ifCond .ne 5, 3) := by decide +kernel
theorem dX11_prefix_14 : decode cX11_prefix 14 = .ok (.iconst 0, 1) := by decide +kernel
theorem dX11_prefix_15 : decode cX11_prefix 15 = .ok (.ireturn, 1) := by decide +kernel
theorem dX11_prefix_16 : decode cX11_prefix 16 = .ok (.aload_n 0, 1) := by decide +kernel
theorem dX11_prefix_17 : decode cX11_prefix 17 = .ok (.getfield 38, 3) := by decide +kernel
theorem dX11_prefix_20 : decode cX11_prefix 20 = .ok (.invokevirtual 57, 3) := by decide +kernel
theorem dX11_prefix_23 : decode cX11_prefix 23 = .ok (.iconst 1, 1) := by decide +kernel
theorem dX11_prefix_24 : decode cX11_prefix 24 = .ok (.ireturn, 1) := by decide +kernel
theorem yv_X11_prefix : YV RX11 yX11_prefix cX11_prefix 6 (some .boolean) 3 := ⟨kw1_149, kw1_150, kw1_1, kw1_151, by decide +kernel⟩
set_option maxHeartbeats 4000000 in
set_option maxRecDepth 100000 in
theorem c_X11_prefix {l : Launch} {D : va_G} {cy : Nat → ClassId} {e0 : Nat × Nat} {ad : Nat → Nat} {tl dy : va_W} {eb es tp os bits F G u nb ns T M id : Nat} {mb mz : Int32} {ft fo : Nat → UInt8} {g : Nat → Int32} {dq ba sa pt ih il ip pn op so fa fp st en : Nat → Nat} (htp : tp ≤ 1600) (hos : os ≤ 1620) (hsi : SI bits F G) (hu4 : u ≤ 4) (hDY : DY cy e0.1 dy eb es nb ns ba sa pt ih il ip pn op so fa fp st en) (hb_pt : ∀ i, pt i < 2 ^ 31) (hb_ih : ∀ i, ih i < 2 ^ 64) (hb_il : ∀ i, il i < 2 ^ 64) (hb_ip : ∀ i, ip i < 2 ^ 31) (hb_pn : ∀ i, pn i < 2 ^ 31) (hb_op : ∀ i, op i < 2 ^ 31) (hb_fa : ∀ i, fa i < 2 ^ 32) (hb_fp : ∀ i, fp i < 2 ^ 31) (hb_st : ∀ i, st i ≤ 7) (hb_en : ∀ i, en i < 2 ^ 62) {hi lo len : Nat} (hhi : hi < 2 ^ 64) (hlo : lo < 2 ^ 64) (hlen : len = 32 ∨ len = 40 ∨ len = 48 ∨ len = 56 ∨ len = 64 ∨ len = 96) : WRX (S := va_W) l yX11_prefix cX11_prefix 6 (some .boolean) 2 0 0 45 [.ref (ad 0), .long (lN (hi)), .long (lN (lo)), .int (nI len)] D cy e0 ((cW cy ad eb es mb mz tp os bits F G u nb ns T M id ft fo g dq ++ tl) ++ dy) (fun u_ => some (.int (bI (true)))) (fun z9 => DY cy e0.1 z9 eb es 0 0 ba sa pt ih il ip pn op so fa fp st en) (fun z9 => (cW cy ad eb es (mb + nI 1) (mz + nI 1) tp os len (tg_pf len hi) (tg_pg len lo) u 0 0 T M id ft fo g dq ++ tl) ++ z9) := by
  refine WRXz (by decide) (lv0 := [(0, .ref (ad 0)), (1, .long (lN (hi))), (3, .long (lN (lo))), (5, .int (nI len))]) rfl (Nat.le_of_ble_eq_true rfl) ?_
  intro p e s m args below meth c ls A Q S hnm hP hK hD hS hA hE hend hl
  have hx := S.1
  have hb := S.2.1
  have hown : s.vm.findClass RX11 = some m.cls := S.2.2.2.1
  have ht : ∀ w ∈ lw_g, w.before args s = true := fun w h => S.2.2.2.2 w (List.mem_cons_of_mem _ h)
  have hP : va_P D vwCl ((cW cy ad eb es mb mz tp os bits F G u nb ns T M id ft fo g dq ++ tl) ++ dy) s.heap := hP
  have hT : ((cW cy ad eb es mb mz tp os bits F G u nb ns T M id ft fo g dq ++ tl) ++ dy)[8]? = some (tE (ad 8) (ad 9) (ad 10) T) := rfl
  have hLb : ((cW cy ad eb es mb mz tp os bits F G u nb ns T M id ft fo g dq ++ tl) ++ dy)[9]? = some (aL (ad 9) mb eb nb) := rfl
  have hLs : ((cW cy ad eb es mb mz tp os bits F G u nb ns T M id ft fo g dq ++ tl) ++ dy)[10]? = some (aL (ad 10) mz es ns) := rfl
  have hB : TB1 cy ((cW cy ad eb es mb mz tp os bits F G u nb ns T M id ft fo g dq ++ tl) ++ dy) e0.1 eb nb ba pt ih il ip pn op := hDY.1.app
  have hS1 : TS1 cy ((cW cy ad eb es mb mz tp os bits F G u nb ns T M id ft fo g dq ++ tl) ++ dy) e0.1 es ns nb ba sa so fa fp st en := hDY.2.1.app
  have hST : STP ((cW cy ad eb es mb mz tp os bits F G u nb ns T M id ft fo g dq ++ tl) ++ dy) (ad 5) bits F G := STP_of (ks := 5) rfl hsi
  have hPL : PLP cy ((cW cy ad eb es mb mz tp os bits F G u nb ns T M id ft fo g dq ++ tl) ++ dy) (ad 6) g u := PLP_of (kp := 6) (kq := 7) rfl rfl hu4
  refine lv_aload_n hx hb dX11_prefix_0 rfl (lv_at hl 0 rfl) ?_
  refine va_get (ci := 8) (C := RX11) (T := TX11) (N := 8) hx hb ht iFX11 hown hK hP 0 rfl rfl 2 (by decide) (ht _ kw1_125) (fun _ h9 => h9) rfl dX11_prefix_1 ?_
  refine lv_lload_n hx hb dX11_prefix_4 rfl (lv_at hl 1 rfl) ?_
  refine lv_lload_n hx hb dX11_prefix_5 rfl (lv_at hl 2 rfl) ?_
  refine lv_iload hx hb dX11_prefix_6 (lv_at hl 3 rfl) ?_
  refine wr_V S (c_X8_settle (ws := (cW cy ad eb es mb mz tp os bits F G u nb ns T M id ft fo g dq ++ tl) ++ dy) (ks := 5) rfl hhi hlo hlen) kw1_152 yv_X8_settle ⟨Nat.le_of_ble_eq_true rfl, Nat.le_of_ble_eq_true rfl⟩ hK hP hD hS hA (va_recv hK hP (ci := 6) (q0 := 5) rfl rfl) rfl hl.1 rfl (Nat.le_of_ble_eq_true rfl) dX11_prefix_8 ⟨(Nat.zero_le _), (Nat.zero_le _)⟩ (fun z1 H locs hz1 hP hD hS => ?_)
  have hP : va_P D vwCl ((cW cy ad eb es mb mz tp os len (tg_pf len hi) (tg_pg len lo) u nb ns T M id ft fo g dq ++ tl) ++ dy) H := hP
  have hD : va_D A ((cW cy ad eb es mb mz tp os len (tg_pf len hi) (tg_pg len lo) u nb ns T M id ft fo g dq ++ tl) ++ dy) := hD
  have hT : ((cW cy ad eb es mb mz tp os len (tg_pf len hi) (tg_pg len lo) u nb ns T M id ft fo g dq ++ tl) ++ dy)[8]? = some (tE (ad 8) (ad 9) (ad 10) T) := rfl
  have hLb : ((cW cy ad eb es mb mz tp os len (tg_pf len hi) (tg_pg len lo) u nb ns T M id ft fo g dq ++ tl) ++ dy)[9]? = some (aL (ad 9) mb eb nb) := rfl
  have hLs : ((cW cy ad eb es mb mz tp os len (tg_pf len hi) (tg_pg len lo) u nb ns T M id ft fo g dq ++ tl) ++ dy)[10]? = some (aL (ad 10) mz es ns) := rfl
  have hB : TB1 cy ((cW cy ad eb es mb mz tp os len (tg_pf len hi) (tg_pg len lo) u nb ns T M id ft fo g dq ++ tl) ++ dy) e0.1 eb nb ba pt ih il ip pn op := hDY.1.app
  have hS1 : TS1 cy ((cW cy ad eb es mb mz tp os len (tg_pf len hi) (tg_pg len lo) u nb ns T M id ft fo g dq ++ tl) ++ dy) e0.1 es ns nb ba sa so fa fp st en := hDY.2.1.app
  refine W.eq (g2 := F0 m 11 ls [.int (bI (true))]) rfl ?_
  refine nv_if_neb (tgt := 16) hx hb dX11_prefix_11 (by decide) (fun _ => ?_) (fun h => absurd h (by decide))
  refine lv_aload_n hx hb dX11_prefix_16 rfl (lv_at hl 0 rfl) ?_
  refine va_get (ci := 8) (C := RX11) (T := TX11) (N := 8) hx hb ht iFX11 hown hK hP 0 rfl rfl 4 (by decide) (ht _ kw1_127) (fun _ h9 => h9) rfl dX11_prefix_17 ?_
  refine wx_V S (c_X10_forget hDY) kw1_161 yv_X10_forget ⟨Nat.le_of_ble_eq_true rfl, Nat.le_of_ble_eq_true rfl⟩ hK hP hD hS hA hE (va_recv hK hP (ci := 7) (q0 := 8) rfl rfl) rfl hl.1 rfl (Nat.le_of_ble_eq_true rfl) dX11_prefix_20 ⟨(Nat.zero_le _), (Nat.zero_le _)⟩ (fun z2 H locs hz2 hP hD hS => ?_)
  have hP : va_P D vwCl ((cW cy ad eb es (mb + nI 1) (mz + nI 1) tp os len (tg_pf len hi) (tg_pg len lo) u 0 0 T M id ft fo g dq ++ tl) ++ z2) H := hP
  have hD : va_D A ((cW cy ad eb es (mb + nI 1) (mz + nI 1) tp os len (tg_pf len hi) (tg_pg len lo) u 0 0 T M id ft fo g dq ++ tl) ++ z2) := hD
  refine W.eq (g2 := F0 m 23 ls []) rfl ?_
  refine nv_iconst (k := 1) hx hb dX11_prefix_23 rfl ?_
  exact hend z2 (bI_t rfl) hz2 hP hD hS dX11_prefix_24
set_option maxHeartbeats 4000000 in
set_option maxRecDepth 100000 in
theorem c_X11_prefixG {l : Launch} {D : va_G} {cy : Nat → ClassId} {ad : Nat → Nat} {tl dy : va_W} {eb es tp os bits F G u nb ns T M id : Nat} {mb mz : Int32} {ft fo : Nat → UInt8} {g : Nat → Int32} {dq : Nat → Nat} (htp : tp ≤ 1600) (hos : os ≤ 1620) (hsi : SI bits F G) (hu4 : u ≤ 4) {hi lo len : Nat} (hle : len < 2 ^ 31) (hlen : ¬ (len = 32 ∨ len = 40 ∨ len = 48 ∨ len = 56 ∨ len = 64 ∨ len = 96)) : RO l yX11_prefix cX11_prefix 6 (some .boolean) 1 25 [.ref (ad 0), .long (lN (hi)), .long (lN (lo)), .int (nI len)] D cy ((cW cy ad eb es mb mz tp os bits F G u nb ns T M id ft fo g dq ++ tl) ++ dy) (.int (bI (false))) := by
  refine ROz (by decide) (lv0 := [(0, .ref (ad 0)), (1, .long (lN (hi))), (3, .long (lN (lo))), (5, .int (nI len))]) rfl (Nat.le_of_ble_eq_true rfl) ?_
  intro p e s m args below meth c ls Q S hP hK hend hl
  have hx := S.1
  have hb := S.2.1
  have hown : s.vm.findClass RX11 = some m.cls := S.2.2.2.1
  have ht : ∀ w ∈ lw_g, w.before args s = true := fun w h => S.2.2.2.2 w (List.mem_cons_of_mem _ h)
  have hP : va_P D vwCl ((cW cy ad eb es mb mz tp os bits F G u nb ns T M id ft fo g dq ++ tl) ++ dy) s.heap := hP
  have hT : ((cW cy ad eb es mb mz tp os bits F G u nb ns T M id ft fo g dq ++ tl) ++ dy)[8]? = some (tE (ad 8) (ad 9) (ad 10) T) := rfl
  have hLb : ((cW cy ad eb es mb mz tp os bits F G u nb ns T M id ft fo g dq ++ tl) ++ dy)[9]? = some (aL (ad 9) mb eb nb) := rfl
  have hLs : ((cW cy ad eb es mb mz tp os bits F G u nb ns T M id ft fo g dq ++ tl) ++ dy)[10]? = some (aL (ad 10) mz es ns) := rfl
  have hST : STP ((cW cy ad eb es mb mz tp os bits F G u nb ns T M id ft fo g dq ++ tl) ++ dy) (ad 5) bits F G := STP_of (ks := 5) rfl hsi
  have hPL : PLP cy ((cW cy ad eb es mb mz tp os bits F G u nb ns T M id ft fo g dq ++ tl) ++ dy) (ad 6) g u := PLP_of (kp := 6) (kq := 7) rfl rfl hu4
  refine lv_aload_n hx hb dX11_prefix_0 rfl (lv_at hl 0 rfl) ?_
  refine va_get (ci := 8) (C := RX11) (T := TX11) (N := 8) hx hb ht iFX11 hown hK hP 0 rfl rfl 2 (by decide) (ht _ kw1_125) (fun _ h9 => h9) rfl dX11_prefix_1 ?_
  refine lv_lload_n hx hb dX11_prefix_4 rfl (lv_at hl 1 rfl) ?_
  refine lv_lload_n hx hb dX11_prefix_5 rfl (lv_at hl 2 rfl) ?_
  refine lv_iload hx hb dX11_prefix_6 (lv_at hl 3 rfl) ?_
  refine ro_V S (c_X8_settleG hle hlen) kw1_152 yv_X8_settle ⟨Nat.le_of_ble_eq_true rfl, Nat.le_of_ble_eq_true rfl⟩ hK hP (va_recv hK hP (ci := 6) (q0 := 5) rfl rfl) rfl hl.1 rfl (Nat.le_of_ble_eq_true rfl) dX11_prefix_8 ⟨(Nat.zero_le _), (Nat.zero_le _)⟩ ?_
  refine nv_if_neb (tgt := 16) hx hb dX11_prefix_11 (by decide) (fun h => absurd h (by decide)) (fun _ => ?_)
  refine nv_iconst (k := 0) hx hb dX11_prefix_14 rfl ?_
  exact hend ((bI_f rfl)) dX11_prefix_15
set_option maxHeartbeats 4000000 in
set_option maxRecDepth 100000 in
theorem c_X11_prefixN {l : Launch} {D : va_G} {cy : Nat → ClassId} {ad : Nat → Nat} {tl dy : va_W} {eb es tp os bits F G u nb ns T M id : Nat} {mb mz : Int32} {ft fo : Nat → UInt8} {g : Nat → Int32} {dq : Nat → Nat} (htp : tp ≤ 1600) (hos : os ≤ 1620) (hsi : SI bits F G) (hu4 : u ≤ 4) {hi lo : Nat} {len : Int32} (hneg : len < 0) : RO l yX11_prefix cX11_prefix 6 (some .boolean) 1 25 [.ref (ad 0), .long (lN (hi)), .long (lN (lo)), .int len] D cy ((cW cy ad eb es mb mz tp os bits F G u nb ns T M id ft fo g dq ++ tl) ++ dy) (.int (bI (false))) := by
  refine ROz (by decide) (lv0 := [(0, .ref (ad 0)), (1, .long (lN (hi))), (3, .long (lN (lo))), (5, .int len)]) rfl (Nat.le_of_ble_eq_true rfl) ?_
  intro p e s m args below meth c ls Q S hP hK hend hl
  have hx := S.1
  have hb := S.2.1
  have hown : s.vm.findClass RX11 = some m.cls := S.2.2.2.1
  have ht : ∀ w ∈ lw_g, w.before args s = true := fun w h => S.2.2.2.2 w (List.mem_cons_of_mem _ h)
  have hP : va_P D vwCl ((cW cy ad eb es mb mz tp os bits F G u nb ns T M id ft fo g dq ++ tl) ++ dy) s.heap := hP
  have hT : ((cW cy ad eb es mb mz tp os bits F G u nb ns T M id ft fo g dq ++ tl) ++ dy)[8]? = some (tE (ad 8) (ad 9) (ad 10) T) := rfl
  have hLb : ((cW cy ad eb es mb mz tp os bits F G u nb ns T M id ft fo g dq ++ tl) ++ dy)[9]? = some (aL (ad 9) mb eb nb) := rfl
  have hLs : ((cW cy ad eb es mb mz tp os bits F G u nb ns T M id ft fo g dq ++ tl) ++ dy)[10]? = some (aL (ad 10) mz es ns) := rfl
  have hST : STP ((cW cy ad eb es mb mz tp os bits F G u nb ns T M id ft fo g dq ++ tl) ++ dy) (ad 5) bits F G := STP_of (ks := 5) rfl hsi
  have hPL : PLP cy ((cW cy ad eb es mb mz tp os bits F G u nb ns T M id ft fo g dq ++ tl) ++ dy) (ad 6) g u := PLP_of (kp := 6) (kq := 7) rfl rfl hu4
  refine lv_aload_n hx hb dX11_prefix_0 rfl (lv_at hl 0 rfl) ?_
  refine va_get (ci := 8) (C := RX11) (T := TX11) (N := 8) hx hb ht iFX11 hown hK hP 0 rfl rfl 2 (by decide) (ht _ kw1_125) (fun _ h9 => h9) rfl dX11_prefix_1 ?_
  refine lv_lload_n hx hb dX11_prefix_4 rfl (lv_at hl 1 rfl) ?_
  refine lv_lload_n hx hb dX11_prefix_5 rfl (lv_at hl 2 rfl) ?_
  refine lv_iload hx hb dX11_prefix_6 (lv_at hl 3 rfl) ?_
  refine ro_V S (c_X8_settleN hneg) kw1_152 yv_X8_settle ⟨Nat.le_of_ble_eq_true rfl, Nat.le_of_ble_eq_true rfl⟩ hK hP (va_recv hK hP (ci := 6) (q0 := 5) rfl rfl) rfl hl.1 rfl (Nat.le_of_ble_eq_true rfl) dX11_prefix_8 ⟨(Nat.zero_le _), (Nat.zero_le _)⟩ ?_
  refine nv_if_neb (tgt := 16) hx hb dX11_prefix_11 (by decide) (fun h => absurd h (by decide)) (fun _ => ?_)
  refine nv_iconst (k := 0) hx hb dX11_prefix_14 rfl ?_
  exact hend ((bI_f rfl)) dX11_prefix_15
set_option maxHeartbeats 4000000 in
set_option maxRecDepth 100000 in
theorem c_X11_signB {l : Launch} {D : va_G} {cy : Nat → ClassId} {ad : Nat → Nat} {tl dy : va_W} {eb es tp os bits F G u nb ns T M id : Nat} {mb mz : Int32} {ft fo : Nat → UInt8} {g : Nat → Int32} {dq : Nat → Nat} (htp : tp ≤ 1600) (hos : os ≤ 1620) (hsi : SI bits F G) (hu4 : u ≤ 4) {n9 a9 : Int32} (hbad : ¬ ∃ n a : Nat, n9 = nI n ∧ a9 = nI a ∧ tg_head (tg_rd ft tp) ≠ 0 ∧ tg_head (tg_rd ft tp) ≤ n ∧ n ≤ tp ∧ tg_head (tg_rd ft tp) ≤ a ∧ a + 2 ≤ n) : RO l yX11_sign cX11_sign 5 (some .int) 2 42 [.ref (ad 0), .int n9, .int a9] D cy ((cW cy ad eb es mb mz tp os bits F G u nb ns T M id ft fo g dq ++ tl) ++ dy) (.int (-1)) := by
  refine ROi (by decide) (lv0 := [(0, .ref (ad 0)), (1, .int n9), (2, .int a9)]) rfl (Nat.le_of_ble_eq_true rfl) ?_
  intro p e s m args below meth c ls Q S hP hK hend hl
  have hx := S.1
  have hb := S.2.1
  have hown : s.vm.findClass RX11 = some m.cls := S.2.2.2.1
  have ht : ∀ w ∈ lw_g, w.before args s = true := fun w h => S.2.2.2.2 w (List.mem_cons_of_mem _ h)
  have hP : va_P D vwCl ((cW cy ad eb es mb mz tp os bits F G u nb ns T M id ft fo g dq ++ tl) ++ dy) s.heap := hP
  have hT : ((cW cy ad eb es mb mz tp os bits F G u nb ns T M id ft fo g dq ++ tl) ++ dy)[8]? = some (tE (ad 8) (ad 9) (ad 10) T) := rfl
  have hLb : ((cW cy ad eb es mb mz tp os bits F G u nb ns T M id ft fo g dq ++ tl) ++ dy)[9]? = some (aL (ad 9) mb eb nb) := rfl
  have hLs : ((cW cy ad eb es mb mz tp os bits F G u nb ns T M id ft fo g dq ++ tl) ++ dy)[10]? = some (aL (ad 10) mz es ns) := rfl
  have hST : STP ((cW cy ad eb es mb mz tp os bits F G u nb ns T M id ft fo g dq ++ tl) ++ dy) (ad 5) bits F G := STP_of (ks := 5) rfl hsi
  have hPL : PLP cy ((cW cy ad eb es mb mz tp os bits F G u nb ns T M id ft fo g dq ++ tl) ++ dy) (ad 6) g u := PLP_of (kp := 6) (kq := 7) rfl rfl hu4
  have hhd : tg_head (tg_rd ft tp) = 0 ∨ tg_head (tg_rd ft tp) = 20 ∨ tg_head (tg_rd ft tp) = 40 := by unfold tg_head; (repeat' split) <;> omega
  refine lv_aload_n hx hb dX11_sign_0 rfl (lv_at hl 0 rfl) ?_
  refine va_get (ci := 8) (C := RX11) (T := TX11) (N := 8) hx hb ht iFX11 hown hK hP 0 rfl rfl 0 (by decide) (ht _ kw1_123) (fun _ h9 => h9) rfl dX11_sign_1 ?_
  refine ro_S S (c_X4_headOf (PK_of (ws := (cW cy ad eb es mb mz tp os bits F G u nb ns T M id ft fo g dq ++ tl) ++ dy) (kb := 1) (ka := 2) (N := 1600) rfl rfl (by omega) (by omega))) kw4_20 yv_X4_headOf ⟨Nat.le_of_ble_eq_true rfl, Nat.le_of_ble_eq_true rfl⟩ hK hP rfl hl.1 rfl (Nat.le_of_ble_eq_true rfl) dX11_sign_4 ⟨(Nat.zero_le _), (Nat.zero_le _)⟩ ?_
  refine lv_istore_n (lv' := [(3, .int (nI (tg_head (tg_rd ft tp)))), (0, .ref (ad 0)), (1, .int n9), (2, .int a9)]) hx hb dX11_sign_7 rfl hl (by decide) rfl (fun ls hl => ?_)
  refine lv_iload_n hx hb dX11_sign_8 rfl (lv_at hl 0 rfl) ?_
  refine nv_if_eq (tgt := 40) hx hb dX11_sign_9 (by decide) (by omega) (fun h9 => ?_) (fun h9 => ?_)
  · skip
    refine lv_iconst (v := -1) hx hb dX11_sign_40 (by decide) ?_
    exact hend (rfl) dX11_sign_41
  refine lv_iload_n hx hb dX11_sign_12 rfl (lv_at hl 2 rfl) ?_
  refine lv_iload_n hx hb dX11_sign_13 rfl (lv_at hl 0 rfl) ?_
  refine lv_icmp_lt (tgt := 40) hx hb dX11_sign_14 (by decide) (fun h14 => ?_) (fun h14 => ?_)
  · skip
    refine lv_iconst (v := -1) hx hb dX11_sign_40 (by decide) ?_
    exact hend (rfl) dX11_sign_41
  refine lv_iload_n hx hb dX11_sign_17 rfl (lv_at hl 2 rfl) ?_
  refine lv_aload_n hx hb dX11_sign_18 rfl (lv_at hl 1 rfl) ?_
  refine va_get (ci := 8) (C := RX11) (T := TX11) (N := 8) hx hb ht iFX11 hown hK hP 0 rfl rfl 0 (by decide) (ht _ kw1_123) (fun _ h9 => h9) rfl dX11_sign_19 ?_
  refine ro_V S (c_X1_length (PK_of (ws := (cW cy ad eb es mb mz tp os bits F G u nb ns T M id ft fo g dq ++ tl) ++ dy) (kb := 1) (ka := 2) (N := 1600) rfl rfl (by omega) (by omega))) kw1_220 yv_X1_length ⟨Nat.le_of_ble_eq_true rfl, Nat.le_of_ble_eq_true rfl⟩ hK hP (va_recv hK hP (ci := 2) (q0 := 1) rfl rfl) rfl hl.1 rfl (Nat.le_of_ble_eq_true rfl) dX11_sign_22 ⟨(Nat.zero_le _), (Nat.zero_le _)⟩ ?_
  refine lv_icmp_gt (tgt := 40) hx hb dX11_sign_25 (by decide) (fun h25 => ?_) (fun h25 => ?_)
  · skip
    refine lv_iconst (v := -1) hx hb dX11_sign_40 (by decide) ?_
    exact hend (rfl) dX11_sign_41
  refine lv_iload_n hx hb dX11_sign_28 rfl (lv_at hl 3 rfl) ?_
  refine lv_iload_n hx hb dX11_sign_29 rfl (lv_at hl 0 rfl) ?_
  refine lv_icmp_lt (tgt := 40) hx hb dX11_sign_30 (by decide) (fun h30 => ?_) (fun h30 => ?_)
  · skip
    refine lv_iconst (v := -1) hx hb dX11_sign_40 (by decide) ?_
    exact hend (rfl) dX11_sign_41
  refine lv_iload_n hx hb dX11_sign_33 rfl (lv_at hl 3 rfl) ?_
  refine lv_iload_n hx hb dX11_sign_34 rfl (lv_at hl 2 rfl) ?_
  refine nv_iconst (k := 2) hx hb dX11_sign_35 rfl ?_
  refine lv_isub hx hb dX11_sign_36 ?_
  refine lv_icmp_le (tgt := 42) hx hb dX11_sign_37 (by decide) (fun h37 => ?_) (fun h37 => ?_)
  · skip
    exact absurd (sg_nat (by omega) (by omega) (h9) h14 h25 h30 h37) hbad
  refine lv_iconst (v := -1) hx hb dX11_sign_40 (by decide) ?_
  exact hend (rfl) dX11_sign_41
