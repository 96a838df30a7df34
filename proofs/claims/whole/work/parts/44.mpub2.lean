theorem dX12_prefix_0 : decode cX12_prefix 0 = .ok (.iload 5, 2) := by decide +kernel
theorem dX12_prefix_2 : decode cX12_prefix 2 = .ok (.bipush 32, 2) := by decide +kernel
theorem dX12_prefix_4 : decode cX12_prefix 4 = .ok (.if_icmp .eq 40, 3) := by decide +kernel
theorem dX12_prefix_7 : decode cX12_prefix 7 = .ok (.iload 5, 2) := by decide +kernel
theorem dX12_prefix_9 : decode cX12_prefix 9 = .ok (.bipush 40, 2) := by decide +kernel
theorem dX12_prefix_11 : decode cX12_prefix 11 = .ok (.if_icmp .eq 33, 3) := by decide +kernel
theorem dX12_prefix_14 : decode cX12_prefix 14 = .ok (.iload 5, 2) := by decide +kernel
theorem dX12_prefix_16 : decode cX12_prefix 16 = .ok (.bipush 48, 2) := by decide +kernel
theorem dX12_prefix_18 : decode cX12_prefix 18 = .ok (.if_icmp .eq 26, 3) := by decide +kernel
theorem dX12_prefix_21 : decode cX12_prefix 21 = .ok (.iload 5, 2) := by decide +kernel
theorem dX12_prefix_23 : decode cX12_prefix 23 = .ok (.bipush 56, 2) := by decide +kernel
theorem dX12_prefix_25 : decode cX12_prefix 25 = .ok (.if_icmp .eq 19, 3) := by decide +kernel
theorem dX12_prefix_28 : decode cX12_prefix 28 = .ok (.iload 5, 2) := by decide +kernel
theorem dX12_prefix_30 : decode cX12_prefix 30 = .ok (.bipush 64, 2) := by decide +kernel
theorem dX12_prefix_32 : decode cX12_prefix 32 = .ok (.if_icmp .eq 12, 3) := by decide +kernel
theorem dX12_prefix_35 : decode cX12_prefix 35 = .ok (.iload 5, 2) := by decide +kernel
theorem dX12_prefix_37 : decode cX12_prefix 37 = .ok (.bipush 96, 2) := by decide +kernel
theorem dX12_prefix_39 : decode cX12_prefix 39 = .ok (.if_icmp .eq 5, 3) := by decide +kernel
theorem dX12_prefix_42 : decode cX12_prefix 42 = .ok (.iconst 0, 1) := by decide +kernel
theorem dX12_prefix_43 : decode cX12_prefix 43 = .ok (.ireturn, 1) := by decide +kernel
theorem dX12_prefix_44 : decode cX12_prefix 44 = .ok (.aload_n 0, 1) := by decide +kernel
theorem dX12_prefix_45 : decode cX12_prefix 45 = .ok (.iload 5, 2) := by decide +kernel
theorem dX12_prefix_47 : decode cX12_prefix 47 = .ok (.putfield 64, 3) := by decide +kernel
theorem dX12_prefix_50 : decode cX12_prefix 50 = .ok (.aload_n 0, 1) := by decide +kernel
theorem dX12_prefix_51 : decode cX12_prefix 51 = .ok (.iload 5, 2) := by decide +kernel
theorem dX12_prefix_53 : decode cX12_prefix 53 = .ok (.bipush 64, 2) := by decide +kernel
theorem dX12_prefix_55 : decode cX12_prefix 55 = .ok (.if_icmp .ge 17, 3) := by decide +kernel
theorem dX12_prefix_58 : decode cX12_prefix 58 = .ok (.lload_n 1, 1) := by decide +kernel
theorem dX12_prefix_59 : decode cX12_prefix 59 = .ok (.ldc2_w 69, 3) := by decide +kernel
theorem dX12_prefix_62 : decode cX12_prefix 62 = .ok (.bipush 64, 2) := by decide +kernel
theorem dX12_prefix_64 : decode cX12_prefix 64 = .ok (.iload 5, 2) := by decide +kernel
theorem dX12_prefix_66 : decode cX12_prefix 66 = .ok (.isub, 1) := by decide +kernel
theorem dX12_prefix_67 : decode cX12_prefix 67 = .ok (.lshl, 1) := by decide +kernel
theorem dX12_prefix_68 : decode cX12_prefix 68 = .ok (.land, 1) := by decide +kernel
theorem dX12_prefix_69 : decode cX12_prefix 69 = .ok (.goto 4, 3) := by decide +kernel
theorem dX12_prefix_72 : decode cX12_prefix 72 = .ok (.lload_n 1, 1) := by decide +kernel
theorem dX12_prefix_73 : decode cX12_prefix 73 = .ok (.putfield 71, 3) := by decide +kernel
theorem dX12_prefix_76 : decode cX12_prefix 76 = .ok (.aload_n 0, 1) := by decide +kernel
theorem dX12_prefix_77 : decode cX12_prefix 77 = .ok (.iload 5, 2) := by decide +kernel
theorem dX12_prefix_79 : decode cX12_prefix 79 = .ok (.bipush 96, 2) := by decide +kernel
theorem dX12_prefix_81 : decode cX12_prefix 81 = .ok (.if_icmp .ne 11, 3) := by decide +kernel
theorem dX12_prefix_84 : decode cX12_prefix 84 = .ok (.lload_n 3, 1) := by decide +kernel
theorem dX12_prefix_85 : decode cX12_prefix 85 = .ok (.ldc2_w 75, 3) := by decide +kernel
theorem dX12_prefix_88 : decode cX12_prefix 88 = .ok (.land, 1) := by decide +kernel
theorem dX12_prefix_89 : decode cX12_prefix 89 = .ok (.goto 4, 3) := by decide +kernel
theorem dX12_prefix_92 : decode cX12_prefix 92 = .ok (.lconst 0, 1) := by decide +kernel
theorem dX12_prefix_93 : decode cX12_prefix 93 = .ok (.putfield 77, 3) := by decide +kernel
theorem dX12_prefix_96 : decode cX12_prefix 96 = .ok (.aload_n 0, 1) := by decide +kernel
theorem dX12_prefix_97 : decode cX12_prefix 97 = .ok (.iconst 0, 1) := by decide +kernel
theorem dX12_prefix_98 : decode cX12_prefix 98 = .ok (.putfield 80, 3) := by decide +kernel
theorem dX12_prefix_101 : decode cX12_prefix 101 = .ok (.aload_n 0, 1) := by decide +kernel
theorem dX12_prefix_102 : decode cX12_prefix 102 = .ok (.iconst 0, 1) := by decide +kernel
theorem dX12_prefix_103 : decode cX12_prefix 103 = .ok (.putfield 83, 3) := by decide +kernel
theorem dX12_prefix_106 : decode cX12_prefix 106 = .ok (.iconst 1, 1) := by decide +kernel
theorem dX12_prefix_107 : decode cX12_prefix 107 = .ok (.ireturn, 1) := by decide +kernel
theorem yv_X12_prefix : YV RX12 yX12_prefix cX12_prefix 6 (some .boolean) 3 := ⟨kw4_197, kw4_198, kw1_10, kw4_199, by decide +kernel⟩
set_option maxHeartbeats 4000000 in
set_option maxRecDepth 100000 in
theorem c_X12_prefix {l : Launch} {D : va_G} {cy : Nat → ClassId} {o : Nat} {ad : Nat → Nat} {tl : va_W} {tp os sz bits F G u nb ns T M id : Nat} {ft fo fi : Nat → UInt8} {g : Nat → Int32} {pt ih il ip pn op so fa fp st en dr : Nat → Nat} {hi lo len : Nat} (hhi : hi < 2 ^ 64) (hlo : lo < 2 ^ 64) (hle : len < 2 ^ 31) : WR (S := Unit) l yX12_prefix cX12_prefix 6 (some .boolean) 0 0 0 0 [.ref o, .long (lN (hi)), .long (lN (lo)), .int (nI len)] D cy (mW cy o ad tp os sz bits F G u nb ns T M id ft fo fi g pt ih il ip pn op so fa fp st en dr ++ tl) (fun u_ => some (.int (bI (tg_isLen len)))) (fun _ => True) (fun _ => mW cy o ad tp os sz (if tg_isLen len = true then len else bits) (if tg_isLen len = true then tg_pf len hi else F) (if tg_isLen len = true then tg_pg len lo else G) u (if tg_isLen len = true then 0 else nb) (if tg_isLen len = true then 0 else ns) T M id ft fo fi g pt ih il ip pn op so fa fp st en dr ++ tl) := by
  refine WRz (by decide) (lv0 := [(0, .ref o), (1, .long (lN (hi))), (3, .long (lN (lo))), (5, .int (nI len))]) rfl (Nat.le_of_ble_eq_true rfl) ?_
  intro p e s m args below meth c ls A Q S hnm hP hK hD hS hA hend hl
  have hx := S.1
  have hb := S.2.1
  have hown : s.vm.findClass RX12 = some m.cls := S.2.2.2.1
  have ht : ∀ w ∈ lw_g, w.before args s = true := fun w h => S.2.2.2.2 w (List.mem_cons_of_mem _ h)
  have hP : va_P D vwCl (mW cy o ad tp os sz bits F G u nb ns T M id ft fo fi g pt ih il ip pn op so fa fp st en dr ++ tl) s.heap := hP
  have J44 : (len = 32 ∨ len = 40 ∨ len = 48 ∨ len = 56 ∨ len = 64 ∨ len = 96) → ∀ ls : Array Slot, lv_has ls 6 [(0, .ref o), (1, .long (lN (hi))), (3, .long (lN (lo))), (5, .int (nI len))] → W p l e (rmw 0 0 0 0) s m args below meth c s.heap [] 0 0 Q (F0 m 44 ls []) := by
    intro hlen ls hl
    refine lv_aload_n hx hb dX12_prefix_44 rfl (lv_at hl 0 rfl) ?_
    refine lv_iload hx hb dX12_prefix_45 (lv_at hl 3 rfl) ?_
    refine va_put (ci := 9) (C := RX12) (T := TX12) (N := 28) (ty := tyX12 6) hx hb ht iFX12 tyX12 tyX12_ok nmX12 hown hK hP hD hS 0 rfl rfl 6 (by decide) (ht _ kw4_116) (fun _ h9 => h9) rfl (by decide +kernel) (by first | rfl | decide) (by first | rfl | decide) (Nat.le_of_ble_eq_true rfl) dX12_prefix_47 (fun H locs hP hD hS => ?_)
    have hP : va_P D vwCl (mW cy o ad tp os sz len F G u nb ns T M id ft fo fi g pt ih il ip pn op so fa fp st en dr ++ tl) H := hP
    have hD : va_D A (mW cy o ad tp os sz len F G u nb ns T M id ft fo fi g pt ih il ip pn op so fa fp st en dr ++ tl) := hD
    refine lv_aload_n hx hb dX12_prefix_50 rfl (lv_at hl 0 rfl) ?_
    refine lv_iload hx hb dX12_prefix_51 (lv_at hl 3 rfl) ?_
    refine nv_bipush (k := 64) hx hb dX12_prefix_53 (by decide) ?_
    refine nv_icmp_ge (tgt := 72) hx hb dX12_prefix_55 (by decide) (by omega) (by omega) (fun h55 => ?_) (fun h55 => ?_)
    · skip
      refine lv_lload_n hx hb dX12_prefix_72 rfl (lv_at hl 1 rfl) ?_
      have eF : lN (hi) = lN (tg_pf len hi) := by rw [tg_pf, if_neg (by omega)]
      rw [eF]
      refine va_put (ci := 9) (C := RX12) (T := TX12) (N := 28) (ty := tyX12 7) hx hb ht iFX12 tyX12 tyX12_ok nmX12 hown hK hP hD hS 0 rfl rfl 7 (by decide) (ht _ kw4_117) (fun _ h9 => h9) rfl (by decide +kernel) (by first | rfl | decide) (by first | rfl | decide) (Nat.le_of_ble_eq_true rfl) dX12_prefix_73 (fun H locs hP hD hS => ?_)
      have hP : va_P D vwCl (mW cy o ad tp os sz len (tg_pf len hi) G u nb ns T M id ft fo fi g pt ih il ip pn op so fa fp st en dr ++ tl) H := hP
      have hD : va_D A (mW cy o ad tp os sz len (tg_pf len hi) G u nb ns T M id ft fo fi g pt ih il ip pn op so fa fp st en dr ++ tl) := hD
      refine lv_aload_n hx hb dX12_prefix_76 rfl (lv_at hl 0 rfl) ?_
      refine lv_iload hx hb dX12_prefix_77 (lv_at hl 3 rfl) ?_
      refine nv_bipush (k := 96) hx hb dX12_prefix_79 (by decide) ?_
      refine nv_icmp_ne (tgt := 92) hx hb dX12_prefix_81 (by decide) (by omega) (by omega) (fun h81 => ?_) (fun h81 => ?_)
      · skip
        refine lv_lconst (v := lN 0) hx hb dX12_prefix_92 (by decide) ?_
        have eG : lN (0) = lN (tg_pg len lo) := by rw [tg_pg, if_neg (by omega)]
        rw [eG]
        refine va_put (ci := 9) (C := RX12) (T := TX12) (N := 28) (ty := tyX12 8) hx hb ht iFX12 tyX12 tyX12_ok nmX12 hown hK hP hD hS 0 rfl rfl 8 (by decide) (ht _ kw4_118) (fun _ h9 => h9) rfl (by decide +kernel) (by first | rfl | decide) (by first | rfl | decide) (Nat.le_of_ble_eq_true rfl) dX12_prefix_93 (fun H locs hP hD hS => ?_)
        have hP : va_P D vwCl (mW cy o ad tp os sz len (tg_pf len hi) (tg_pg len lo) u nb ns T M id ft fo fi g pt ih il ip pn op so fa fp st en dr ++ tl) H := hP
        have hD : va_D A (mW cy o ad tp os sz len (tg_pf len hi) (tg_pg len lo) u nb ns T M id ft fo fi g pt ih il ip pn op so fa fp st en dr ++ tl) := hD
        refine lv_aload_n hx hb dX12_prefix_96 rfl (lv_at hl 0 rfl) ?_
        refine nv_iconst (k := 0) hx hb dX12_prefix_97 rfl ?_
        refine va_put (ci := 9) (C := RX12) (T := TX12) (N := 28) (ty := tyX12 11) hx hb ht iFX12 tyX12 tyX12_ok nmX12 hown hK hP hD hS 0 rfl rfl 11 (by decide) (ht _ kw4_121) (fun _ h9 => h9) rfl (by decide +kernel) (by first | rfl | decide) (by first | rfl | decide) (Nat.le_of_ble_eq_true rfl) dX12_prefix_98 (fun H locs hP hD hS => ?_)
        have hP : va_P D vwCl (mW cy o ad tp os sz len (tg_pf len hi) (tg_pg len lo) u 0 ns T M id ft fo fi g pt ih il ip pn op so fa fp st en dr ++ tl) H := hP
        have hD : va_D A (mW cy o ad tp os sz len (tg_pf len hi) (tg_pg len lo) u 0 ns T M id ft fo fi g pt ih il ip pn op so fa fp st en dr ++ tl) := hD
        refine lv_aload_n hx hb dX12_prefix_101 rfl (lv_at hl 0 rfl) ?_
        refine nv_iconst (k := 0) hx hb dX12_prefix_102 rfl ?_
        refine va_put (ci := 9) (C := RX12) (T := TX12) (N := 28) (ty := tyX12 18) hx hb ht iFX12 tyX12 tyX12_ok nmX12 hown hK hP hD hS 0 rfl rfl 18 (by decide) (ht _ kw4_128) (fun _ h9 => h9) rfl (by decide +kernel) (by first | rfl | decide) (by first | rfl | decide) (Nat.le_of_ble_eq_true rfl) dX12_prefix_103 (fun H locs hP hD hS => ?_)
        have hP : va_P D vwCl (mW cy o ad tp os sz len (tg_pf len hi) (tg_pg len lo) u 0 0 T M id ft fo fi g pt ih il ip pn op so fa fp st en dr ++ tl) H := hP
        have hD : va_D A (mW cy o ad tp os sz len (tg_pf len hi) (tg_pg len lo) u 0 0 T M id ft fo fi g pt ih il ip pn op so fa fp st en dr ++ tl) := hD
        refine nv_iconst (k := 1) hx hb dX12_prefix_106 rfl ?_
        have ec : tg_isLen len = true := decide_eq_true hlen
        exact hend () (by rw [ec]; rfl) trivial (by rw [ec]; exact hP) (by rw [ec]; exact hD) hS dX12_prefix_107
      refine lv_lload_n hx hb dX12_prefix_84 rfl (lv_at hl 2 rfl) ?_
      refine lv_ldc2 hx hb hown (ht _ kw4_201) dX12_prefix_85 ?_
      refine lv_land hx hb dX12_prefix_88 ?_
      refine lv_goto (tgt := 93) hx hb dX12_prefix_89 (by decide) ?_
      have eG : (lN (lo) &&& (-4294967296) : Int64) = lN (tg_pg len lo) := by rw [tg_pg, if_pos (by omega), m32, lN_hi hlo (by decide)]
      rw [eG]
      refine va_put (ci := 9) (C := RX12) (T := TX12) (N := 28) (ty := tyX12 8) hx hb ht iFX12 tyX12 tyX12_ok nmX12 hown hK hP hD hS 0 rfl rfl 8 (by decide) (ht _ kw4_118) (fun _ h9 => h9) rfl (by decide +kernel) (by first | rfl | decide) (by first | rfl | decide) (Nat.le_of_ble_eq_true rfl) dX12_prefix_93 (fun H locs hP hD hS => ?_)
      have hP : va_P D vwCl (mW cy o ad tp os sz len (tg_pf len hi) (tg_pg len lo) u nb ns T M id ft fo fi g pt ih il ip pn op so fa fp st en dr ++ tl) H := hP
      have hD : va_D A (mW cy o ad tp os sz len (tg_pf len hi) (tg_pg len lo) u nb ns T M id ft fo fi g pt ih il ip pn op so fa fp st en dr ++ tl) := hD
      refine lv_aload_n hx hb dX12_prefix_96 rfl (lv_at hl 0 rfl) ?_
      refine nv_iconst (k := 0) hx hb dX12_prefix_97 rfl ?_
      refine va_put (ci := 9) (C := RX12) (T := TX12) (N := 28) (ty := tyX12 11) hx hb ht iFX12 tyX12 tyX12_ok nmX12 hown hK hP hD hS 0 rfl rfl 11 (by decide) (ht _ kw4_121) (fun _ h9 => h9) rfl (by decide +kernel) (by first | rfl | decide) (by first | rfl | decide) (Nat.le_of_ble_eq_true rfl) dX12_prefix_98 (fun H locs hP hD hS => ?_)
      have hP : va_P D vwCl (mW cy o ad tp os sz len (tg_pf len hi) (tg_pg len lo) u 0 ns T M id ft fo fi g pt ih il ip pn op so fa fp st en dr ++ tl) H := hP
      have hD : va_D A (mW cy o ad tp os sz len (tg_pf len hi) (tg_pg len lo) u 0 ns T M id ft fo fi g pt ih il ip pn op so fa fp st en dr ++ tl) := hD
      refine lv_aload_n hx hb dX12_prefix_101 rfl (lv_at hl 0 rfl) ?_
      refine nv_iconst (k := 0) hx hb dX12_prefix_102 rfl ?_
      refine va_put (ci := 9) (C := RX12) (T := TX12) (N := 28) (ty := tyX12 18) hx hb ht iFX12 tyX12 tyX12_ok nmX12 hown hK hP hD hS 0 rfl rfl 18 (by decide) (ht _ kw4_128) (fun _ h9 => h9) rfl (by decide +kernel) (by first | rfl | decide) (by first | rfl | decide) (Nat.le_of_ble_eq_true rfl) dX12_prefix_103 (fun H locs hP hD hS => ?_)
      have hP : va_P D vwCl (mW cy o ad tp os sz len (tg_pf len hi) (tg_pg len lo) u 0 0 T M id ft fo fi g pt ih il ip pn op so fa fp st en dr ++ tl) H := hP
      have hD : va_D A (mW cy o ad tp os sz len (tg_pf len hi) (tg_pg len lo) u 0 0 T M id ft fo fi g pt ih il ip pn op so fa fp st en dr ++ tl) := hD
      refine nv_iconst (k := 1) hx hb dX12_prefix_106 rfl ?_
      have ec : tg_isLen len = true := decide_eq_true hlen
      exact hend () (by rw [ec]; rfl) trivial (by rw [ec]; exact hP) (by rw [ec]; exact hD) hS dX12_prefix_107
    refine lv_lload_n hx hb dX12_prefix_58 rfl (lv_at hl 1 rfl) ?_
    refine lv_ldc2 hx hb hown (ht _ kw4_200) dX12_prefix_59 ?_
    refine nv_bipush (k := 64) hx hb dX12_prefix_62 (by decide) ?_
    refine lv_iload hx hb dX12_prefix_64 (lv_at hl 3 rfl) ?_
    refine nv_isub hx hb (by omega) dX12_prefix_66 ?_
    refine lv_lshl hx hb dX12_prefix_67 rfl ?_
    refine lv_land hx hb dX12_prefix_68 ?_
    refine lv_goto (tgt := 73) hx hb dX12_prefix_69 (by decide) ?_
    have eF : (lN (hi) &&& ((-1) <<< ((nI (64 - len)).toInt64 &&& 63)) : Int64) = lN (tg_pf len hi) := by rw [tg_pf, if_pos (by omega)]; exact tg_hm_and hhi (by omega) (by omega)
    rw [eF]
    refine va_put (ci := 9) (C := RX12) (T := TX12) (N := 28) (ty := tyX12 7) hx hb ht iFX12 tyX12 tyX12_ok nmX12 hown hK hP hD hS 0 rfl rfl 7 (by decide) (ht _ kw4_117) (fun _ h9 => h9) rfl (by decide +kernel) (by first | rfl | decide) (by first | rfl | decide) (Nat.le_of_ble_eq_true rfl) dX12_prefix_73 (fun H locs hP hD hS => ?_)
    have hP : va_P D vwCl (mW cy o ad tp os sz len (tg_pf len hi) G u nb ns T M id ft fo fi g pt ih il ip pn op so fa fp st en dr ++ tl) H := hP
    have hD : va_D A (mW cy o ad tp os sz len (tg_pf len hi) G u nb ns T M id ft fo fi g pt ih il ip pn op so fa fp st en dr ++ tl) := hD
    refine lv_aload_n hx hb dX12_prefix_76 rfl (lv_at hl 0 rfl) ?_
    refine lv_iload hx hb dX12_prefix_77 (lv_at hl 3 rfl) ?_
    refine nv_bipush (k := 96) hx hb dX12_prefix_79 (by decide) ?_
    refine nv_icmp_ne (tgt := 92) hx hb dX12_prefix_81 (by decide) (by omega) (by omega) (fun h81 => ?_) (fun h81 => ?_)
    · skip
      refine lv_lconst (v := lN 0) hx hb dX12_prefix_92 (by decide) ?_
      have eG : lN (0) = lN (tg_pg len lo) := by rw [tg_pg, if_neg (by omega)]
      rw [eG]
      refine va_put (ci := 9) (C := RX12) (T := TX12) (N := 28) (ty := tyX12 8) hx hb ht iFX12 tyX12 tyX12_ok nmX12 hown hK hP hD hS 0 rfl rfl 8 (by decide) (ht _ kw4_118) (fun _ h9 => h9) rfl (by decide +kernel) (by first | rfl | decide) (by first | rfl | decide) (Nat.le_of_ble_eq_true rfl) dX12_prefix_93 (fun H locs hP hD hS => ?_)
      have hP : va_P D vwCl (mW cy o ad tp os sz len (tg_pf len hi) (tg_pg len lo) u nb ns T M id ft fo fi g pt ih il ip pn op so fa fp st en dr ++ tl) H := hP
      have hD : va_D A (mW cy o ad tp os sz len (tg_pf len hi) (tg_pg len lo) u nb ns T M id ft fo fi g pt ih il ip pn op so fa fp st en dr ++ tl) := hD
      refine lv_aload_n hx hb dX12_prefix_96 rfl (lv_at hl 0 rfl) ?_
      refine nv_iconst (k := 0) hx hb dX12_prefix_97 rfl ?_
      refine va_put (ci := 9) (C := RX12) (T := TX12) (N := 28) (ty := tyX12 11) hx hb ht iFX12 tyX12 tyX12_ok nmX12 hown hK hP hD hS 0 rfl rfl 11 (by decide) (ht _ kw4_121) (fun _ h9 => h9) rfl (by decide +kernel) (by first | rfl | decide) (by first | rfl | decide) (Nat.le_of_ble_eq_true rfl) dX12_prefix_98 (fun H locs hP hD hS => ?_)
      have hP : va_P D vwCl (mW cy o ad tp os sz len (tg_pf len hi) (tg_pg len lo) u 0 ns T M id ft fo fi g pt ih il ip pn op so fa fp st en dr ++ tl) H := hP
      have hD : va_D A (mW cy o ad tp os sz len (tg_pf len hi) (tg_pg len lo) u 0 ns T M id ft fo fi g pt ih il ip pn op so fa fp st en dr ++ tl) := hD
      refine lv_aload_n hx hb dX12_prefix_101 rfl (lv_at hl 0 rfl) ?_
      refine nv_iconst (k := 0) hx hb dX12_prefix_102 rfl ?_
      refine va_put (ci := 9) (C := RX12) (T := TX12) (N := 28) (ty := tyX12 18) hx hb ht iFX12 tyX12 tyX12_ok nmX12 hown hK hP hD hS 0 rfl rfl 18 (by decide) (ht _ kw4_128) (fun _ h9 => h9) rfl (by decide +kernel) (by first | rfl | decide) (by first | rfl | decide) (Nat.le_of_ble_eq_true rfl) dX12_prefix_103 (fun H locs hP hD hS => ?_)
      have hP : va_P D vwCl (mW cy o ad tp os sz len (tg_pf len hi) (tg_pg len lo) u 0 0 T M id ft fo fi g pt ih il ip pn op so fa fp st en dr ++ tl) H := hP
      have hD : va_D A (mW cy o ad tp os sz len (tg_pf len hi) (tg_pg len lo) u 0 0 T M id ft fo fi g pt ih il ip pn op so fa fp st en dr ++ tl) := hD
      refine nv_iconst (k := 1) hx hb dX12_prefix_106 rfl ?_
      have ec : tg_isLen len = true := decide_eq_true hlen
      exact hend () (by rw [ec]; rfl) trivial (by rw [ec]; exact hP) (by rw [ec]; exact hD) hS dX12_prefix_107
    refine lv_lload_n hx hb dX12_prefix_84 rfl (lv_at hl 2 rfl) ?_
    refine lv_ldc2 hx hb hown (ht _ kw4_201) dX12_prefix_85 ?_
    refine lv_land hx hb dX12_prefix_88 ?_
    refine lv_goto (tgt := 93) hx hb dX12_prefix_89 (by decide) ?_
    have eG : (lN (lo) &&& (-4294967296) : Int64) = lN (tg_pg len lo) := by rw [tg_pg, if_pos (by omega), m32, lN_hi hlo (by decide)]
    rw [eG]
    refine va_put (ci := 9) (C := RX12) (T := TX12) (N := 28) (ty := tyX12 8) hx hb ht iFX12 tyX12 tyX12_ok nmX12 hown hK hP hD hS 0 rfl rfl 8 (by decide) (ht _ kw4_118) (fun _ h9 => h9) rfl (by decide +kernel) (by first | rfl | decide) (by first | rfl | decide) (Nat.le_of_ble_eq_true rfl) dX12_prefix_93 (fun H locs hP hD hS => ?_)
    have hP : va_P D vwCl (mW cy o ad tp os sz len (tg_pf len hi) (tg_pg len lo) u nb ns T M id ft fo fi g pt ih il ip pn op so fa fp st en dr ++ tl) H := hP
    have hD : va_D A (mW cy o ad tp os sz len (tg_pf len hi) (tg_pg len lo) u nb ns T M id ft fo fi g pt ih il ip pn op so fa fp st en dr ++ tl) := hD
    refine lv_aload_n hx hb dX12_prefix_96 rfl (lv_at hl 0 rfl) ?_
    refine nv_iconst (k := 0) hx hb dX12_prefix_97 rfl ?_
    refine va_put (ci := 9) (C := RX12) (T := TX12) (N := 28) (ty := tyX12 11) hx hb ht iFX12 tyX12 tyX12_ok nmX12 hown hK hP hD hS 0 rfl rfl 11 (by decide) (ht _ kw4_121) (fun _ h9 => h9) rfl (by decide +kernel) (by first | rfl | decide) (by first | rfl | decide) (Nat.le_of_ble_eq_true rfl) dX12_prefix_98 (fun H locs hP hD hS => ?_)
    have hP : va_P D vwCl (mW cy o ad tp os sz len (tg_pf len hi) (tg_pg len lo) u 0 ns T M id ft fo fi g pt ih il ip pn op so fa fp st en dr ++ tl) H := hP
    have hD : va_D A (mW cy o ad tp os sz len (tg_pf len hi) (tg_pg len lo) u 0 ns T M id ft fo fi g pt ih il ip pn op so fa fp st en dr ++ tl) := hD
    refine lv_aload_n hx hb dX12_prefix_101 rfl (lv_at hl 0 rfl) ?_
    refine nv_iconst (k := 0) hx hb dX12_prefix_102 rfl ?_
    refine va_put (ci := 9) (C := RX12) (T := TX12) (N := 28) (ty := tyX12 18) hx hb ht iFX12 tyX12 tyX12_ok nmX12 hown hK hP hD hS 0 rfl rfl 18 (by decide) (ht _ kw4_128) (fun _ h9 => h9) rfl (by decide +kernel) (by first | rfl | decide) (by first | rfl | decide) (Nat.le_of_ble_eq_true rfl) dX12_prefix_103 (fun H locs hP hD hS => ?_)
    have hP : va_P D vwCl (mW cy o ad tp os sz len (tg_pf len hi) (tg_pg len lo) u 0 0 T M id ft fo fi g pt ih il ip pn op so fa fp st en dr ++ tl) H := hP
    have hD : va_D A (mW cy o ad tp os sz len (tg_pf len hi) (tg_pg len lo) u 0 0 T M id ft fo fi g pt ih il ip pn op so fa fp st en dr ++ tl) := hD
    refine nv_iconst (k := 1) hx hb dX12_prefix_106 rfl ?_
    have ec : tg_isLen len = true := decide_eq_true hlen
    exact hend () (by rw [ec]; rfl) trivial (by rw [ec]; exact hP) (by rw [ec]; exact hD) hS dX12_prefix_107
  refine lv_iload hx hb dX12_prefix_0 (lv_at hl 3 rfl) ?_
  refine nv_bipush (k := 32) hx hb dX12_prefix_2 (by decide) ?_
  refine nv_icmp_eq (tgt := 44) hx hb dX12_prefix_4 (by decide) (by omega) (by omega) (fun h4 => ?_) (fun h4 => ?_)
  · skip
    exact J44 (by omega) ls (lv_sub hl [0, 1, 2, 3] rfl)
  refine lv_iload hx hb dX12_prefix_7 (lv_at hl 3 rfl) ?_
  refine nv_bipush (k := 40) hx hb dX12_prefix_9 (by decide) ?_
  refine nv_icmp_eq (tgt := 44) hx hb dX12_prefix_11 (by decide) (by omega) (by omega) (fun h11 => ?_) (fun h11 => ?_)
  · skip
    exact J44 (by omega) ls (lv_sub hl [0, 1, 2, 3] rfl)
  refine lv_iload hx hb dX12_prefix_14 (lv_at hl 3 rfl) ?_
  refine nv_bipush (k := 48) hx hb dX12_prefix_16 (by decide) ?_
  refine nv_icmp_eq (tgt := 44) hx hb dX12_prefix_18 (by decide) (by omega) (by omega) (fun h18 => ?_) (fun h18 => ?_)
  · skip
    exact J44 (by omega) ls (lv_sub hl [0, 1, 2, 3] rfl)
  refine lv_iload hx hb dX12_prefix_21 (lv_at hl 3 rfl) ?_
  refine nv_bipush (k := 56) hx hb dX12_prefix_23 (by decide) ?_
  refine nv_icmp_eq (tgt := 44) hx hb dX12_prefix_25 (by decide) (by omega) (by omega) (fun h25 => ?_) (fun h25 => ?_)
  · skip
    exact J44 (by omega) ls (lv_sub hl [0, 1, 2, 3] rfl)
  refine lv_iload hx hb dX12_prefix_28 (lv_at hl 3 rfl) ?_
  refine nv_bipush (k := 64) hx hb dX12_prefix_30 (by decide) ?_
  refine nv_icmp_eq (tgt := 44) hx hb dX12_prefix_32 (by decide) (by omega) (by omega) (fun h32 => ?_) (fun h32 => ?_)
  · skip
    exact J44 (by omega) ls (lv_sub hl [0, 1, 2, 3] rfl)
  refine lv_iload hx hb dX12_prefix_35 (lv_at hl 3 rfl) ?_
  refine nv_bipush (k := 96) hx hb dX12_prefix_37 (by decide) ?_
  refine nv_icmp_eq (tgt := 44) hx hb dX12_prefix_39 (by decide) (by omega) (by omega) (fun h39 => ?_) (fun h39 => ?_)
  · skip
    exact J44 (by omega) ls (lv_sub hl [0, 1, 2, 3] rfl)
  refine nv_iconst (k := 0) hx hb dX12_prefix_42 rfl ?_
  have ec : tg_isLen len = false := decide_eq_false (by omega)
  exact hend () (by rw [ec]; rfl) trivial (by rw [ec]; exact hP) (by rw [ec]; exact hD) hS dX12_prefix_43
theorem dX12_bend_0 : decode cX12_bend 0 = .ok (.iload_n 1, 1) := by decide +kernel
theorem dX12_bend_1 : decode cX12_bend 1 = .ok (.i2l, 1) := by decide +kernel
theorem dX12_bend_2 : decode cX12_bend 2 = .ok (.lconst 0, 1) := by decide +kernel
theorem dX12_bend_3 : decode cX12_bend 3 = .ok (.aload_n 0, 1) := by decide +kernel
theorem dX12_bend_4 : decode cX12_bend 4 = .ok (.getfield 118, 3) := by decide +kernel
theorem dX12_bend_7 : decode cX12_bend 7 = .ok (.i2l, 1) := by decide +kernel
theorem dX12_bend_8 : decode cX12_bend 8 = .ok (.lconst 1, 1) := by decide +kernel
theorem dX12_bend_9 : decode cX12_bend 9 = .ok (.lsub, 1) := by decide +kernel
theorem dX12_bend_10 : decode cX12_bend 10 = .ok (.invokestatic 178, 3) := by decide +kernel
theorem dX12_bend_13 : decode cX12_bend 13 = .ok (.ifCond .ne 5, 3) := by decide +kernel
theorem dX12_bend_16 : decode cX12_bend 16 = .ok (.iconst (-1), 1) := by decide +kernel
theorem dX12_bend_17 : decode cX12_bend 17 = .ok (.ireturn, 1) := by decide +kernel
theorem dX12_bend_18 : decode cX12_bend 18 = .ok (.aload_n 0, 1) := by decide +kernel
theorem dX12_bend_19 : decode cX12_bend 19 = .ok (.getfield 7, 3) := by decide +kernel
theorem dX12_bend_22 : decode cX12_bend 22 = .ok (.iload_n 1, 1) := by decide +kernel
theorem dX12_bend_23 : decode cX12_bend 23 = .ok (.invokestatic 124, 3) := by decide +kernel
theorem dX12_bend_26 : decode cX12_bend 26 = .ok (.istore_n 3, 1) := by decide +kernel
theorem dX12_bend_27 : decode cX12_bend 27 = .ok (.aload_n 0, 1) := by decide +kernel
theorem dX12_bend_28 : decode cX12_bend 28 = .ok (.getfield 7, 3) := by decide +kernel
theorem dX12_bend_31 : decode cX12_bend 31 = .ok (.iload_n 1, 1) := by decide +kernel
theorem dX12_bend_32 : decode cX12_bend 32 = .ok (.iload_n 3, 1) := by decide +kernel
theorem dX12_bend_33 : decode cX12_bend 33 = .ok (.iload_n 2, 1) := by decide +kernel
theorem dX12_bend_34 : decode cX12_bend 34 = .ok (.ixor, 1) := by decide +kernel
theorem dX12_bend_35 : decode cX12_bend 35 = .ok (.i2b, 1) := by decide +kernel
theorem dX12_bend_36 : decode cX12_bend 36 = .ok (.bastore, 1) := by decide +kernel
theorem dX12_bend_37 : decode cX12_bend 37 = .ok (.iload_n 3, 1) := by decide +kernel
theorem dX12_bend_38 : decode cX12_bend 38 = .ok (.ireturn, 1) := by decide +kernel
theorem yv_X12_bend : YV RX12 yX12_bend cX12_bend 4 (some .int) 2 := ⟨kw5_176, kw5_177, kw1_10, kw5_178, by decide +kernel⟩
set_option maxHeartbeats 4000000 in
set_option maxRecDepth 100000 in
theorem c_X12_bend {l : Launch} {D : va_G} {cy : Nat → ClassId} {o : Nat} {ad : Nat → Nat} {tl : va_W} {tp os sz bits F G u nb ns T M id : Nat} {ft fo fi : Nat → UInt8} {g : Nat → Int32} {pt ih il ip pn op so fa fp st en dr : Nat → Nat} {x : Nat} {mk : Int32} (hx0 : x < tp) (htp : tp ≤ 1600) : WR (S := Unit) l yX12_bend cX12_bend 4 (some .int) 1 0 0 25 [.ref o, .int (nI x), .int mk] D cy (mW cy o ad tp os sz bits F G u nb ns T M id ft fo fi g pt ih il ip pn op so fa fp st en dr ++ tl) (fun u_ => some (.int (nI (tg_rd ft tp x)))) (fun _ => True) (fun _ => mW cy o ad tp os sz bits F G u nb ns T M id (va_up ft x (by8 (nI (tg_rd ft tp x) ^^^ mk))) fo fi g pt ih il ip pn op so fa fp st en dr ++ tl) := by
  refine WRi (by decide) (lv0 := [(0, .ref o), (1, .int (nI x)), (2, .int mk)]) rfl (Nat.le_of_ble_eq_true rfl) ?_
  intro p e s m args below meth c ls A Q S hnm hP hK hD hS hA hend hl
  have hx := S.1
  have hb := S.2.1
  have hown : s.vm.findClass RX12 = some m.cls := S.2.2.2.1
  have ht : ∀ w ∈ lw_g, w.before args s = true := fun w h => S.2.2.2.2 w (List.mem_cons_of_mem _ h)
  have hP : va_P D vwCl (mW cy o ad tp os sz bits F G u nb ns T M id ft fo fi g pt ih il ip pn op so fa fp st en dr ++ tl) s.heap := hP
  refine lv_iload_n hx hb dX12_bend_0 rfl (lv_at hl 1 rfl) ?_
  refine nv_i2l hx hb (by omega) dX12_bend_1 ?_
  refine lv_lconst (v := lN 0) hx hb dX12_bend_2 (by decide) ?_
  refine lv_aload_n hx hb dX12_bend_3 rfl (lv_at hl 0 rfl) ?_
  refine va_get (ci := 9) (C := RX12) (T := TX12) (N := 28) hx hb ht iFX12 hown hK hP 0 rfl rfl 1 (by decide) (ht _ kw4_111) (fun _ h9 => h9) rfl dX12_bend_4 ?_
  refine nv_i2l hx hb (by omega) dX12_bend_7 ?_
  refine lv_lconst (v := lN 1) hx hb dX12_bend_8 (by decide) ?_
  refine nv_lsub hx hb (by omega) dX12_bend_9 ?_
  refine ro_S S (c_X12_isIn (v := (lN (x))) (lo := (lN (0))) (hi := (lN (tp - 1)))) kw5_14 yv_X12_isIn ⟨Nat.le_of_ble_eq_true rfl, Nat.le_of_ble_eq_true rfl⟩ hK hP rfl hl.1 rfl (Nat.le_of_ble_eq_true rfl) dX12_bend_10 ⟨Nat.zero_le _, Nat.zero_le _⟩ ?_
  refine nv_if_neb (tgt := 18) hx hb dX12_bend_13 (by decide) (fun h13 => ?_) (fun h13 => ?_)
  · skip
    refine lv_aload_n hx hb dX12_bend_18 rfl (lv_at hl 0 rfl) ?_
    refine va_get (ci := 9) (C := RX12) (T := TX12) (N := 28) hx hb ht iFX12 hown hK hP 0 rfl rfl 0 (by decide) (ht _ kw4_110) (fun _ h9 => h9) rfl dX12_bend_19 ?_
    refine lv_iload_n hx hb dX12_bend_22 rfl (lv_at hl 1 rfl) ?_
    refine ro_S S (c_X12_at (AR_of (ws := mW cy o ad tp os sz bits F G u nb ns T M id ft fo fi g pt ih il ip pn op so fa fp st en dr ++ tl) (kr := 1) (N := 1600) rfl (by omega) (by omega)) (i := x) (by omega)) kw5_41 yv_X12_at ⟨Nat.le_of_ble_eq_true rfl, Nat.le_of_ble_eq_true rfl⟩ hK hP rfl hl.1 rfl (Nat.le_of_ble_eq_true rfl) dX12_bend_23 ⟨Nat.zero_le _, Nat.zero_le _⟩ ?_
    have hq23 := tg_rd_lt ft tp x
    refine lv_istore_n (lv' := [(3, .int (nI (tg_rd ft tp x))), (0, .ref o), (1, .int (nI x)), (2, .int mk)]) hx hb dX12_bend_26 rfl hl (by decide) rfl (fun ls hl => ?_)
    refine lv_aload_n hx hb dX12_bend_27 rfl (lv_at hl 1 rfl) ?_
    refine va_get (ci := 9) (C := RX12) (T := TX12) (N := 28) hx hb ht iFX12 hown hK hP 0 rfl rfl 0 (by decide) (ht _ kw4_110) (fun _ h9 => h9) rfl dX12_bend_28 ?_
    refine lv_iload_n hx hb dX12_bend_31 rfl (lv_at hl 2 rfl) ?_
    refine lv_iload_n hx hb dX12_bend_32 rfl (lv_at hl 0 rfl) ?_
    refine lv_iload_n hx hb dX12_bend_33 rfl (lv_at hl 3 rfl) ?_
    refine lv_ixor hx hb dX12_bend_34 ?_
    refine lv_i2b hx hb dX12_bend_35 rfl ?_
    refine nv_bast hx hb hK hP hD hS 1 rfl (by omega) (by omega) dX12_bend_36 (fun H locs hP hD hS => ?_)
    have hP : va_P D vwCl (mW cy o ad tp os sz bits F G u nb ns T M id (va_up ft x (by8 (((nI (tg_rd ft tp x) ^^^ (mk)).toInt8.toInt32)))) fo fi g pt ih il ip pn op so fa fp st en dr ++ tl) H := hP
    have hD : va_D A (mW cy o ad tp os sz bits F G u nb ns T M id (va_up ft x (by8 (((nI (tg_rd ft tp x) ^^^ (mk)).toInt8.toInt32)))) fo fi g pt ih il ip pn op so fa fp st en dr ++ tl) := hD
    refine lv_iload_n hx hb dX12_bend_37 rfl (lv_at hl 0 rfl) ?_
    rw [by8_n] at hP hD
    exact hend () rfl trivial hP hD hS dX12_bend_38
  exact absurd h13 (by rw [isIn_t (by omega) (by omega)]; decide)
