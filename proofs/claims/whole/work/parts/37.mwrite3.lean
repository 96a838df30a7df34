theorem dX12_makeSession_0 : decode cX12_makeSession 0 = .ok (.aload_n 0, 1) := by decide +kernel
theorem dX12_makeSession_1 : decode cX12_makeSession 1 = .ok (.getfield 83, 3) := by decide +kernel
theorem dX12_makeSession_4 : decode cX12_makeSession 4 = .ok (.istore 5, 2) := by decide +kernel
theorem dX12_makeSession_6 : decode cX12_makeSession 6 = .ok (.aload_n 0, 1) := by decide +kernel
theorem dX12_makeSession_7 : decode cX12_makeSession 7 = .ok (.dup, 1) := by decide +kernel
theorem dX12_makeSession_8 : decode cX12_makeSession 8 = .ok (.getfield 83, 3) := by decide +kernel
theorem dX12_makeSession_11 : decode cX12_makeSession 11 = .ok (.iconst 1, 1) := by decide +kernel
theorem dX12_makeSession_12 : decode cX12_makeSession 12 = .ok (.iadd, 1) := by decide +kernel
theorem dX12_makeSession_13 : decode cX12_makeSession 13 = .ok (.putfield 83, 3) := by decide +kernel
theorem dX12_makeSession_16 : decode cX12_makeSession 16 = .ok (.aload_n 0, 1) := by decide +kernel
theorem dX12_makeSession_17 : decode cX12_makeSession 17 = .ok (.getfield 42, 3) := by decide +kernel
theorem dX12_makeSession_20 : decode cX12_makeSession 20 = .ok (.iload 5, 2) := by decide +kernel
theorem dX12_makeSession_22 : decode cX12_makeSession 22 = .ok (.iload_n 1, 1) := by decide +kernel
theorem dX12_makeSession_23 : decode cX12_makeSession 23 = .ok (.iastore, 1) := by decide +kernel
theorem dX12_makeSession_24 : decode cX12_makeSession 24 = .ok (.aload_n 0, 1) := by decide +kernel
theorem dX12_makeSession_25 : decode cX12_makeSession 25 = .ok (.getfield 45, 3) := by decide +kernel
theorem dX12_makeSession_28 : decode cX12_makeSession 28 = .ok (.iload 5, 2) := by decide +kernel
theorem dX12_makeSession_30 : decode cX12_makeSession 30 = .ok (.iload_n 2, 1) := by decide +kernel
theorem dX12_makeSession_31 : decode cX12_makeSession 31 = .ok (.iastore, 1) := by decide +kernel
theorem dX12_makeSession_32 : decode cX12_makeSession 32 = .ok (.aload_n 0, 1) := by decide +kernel
theorem dX12_makeSession_33 : decode cX12_makeSession 33 = .ok (.getfield 48, 3) := by decide +kernel
theorem dX12_makeSession_36 : decode cX12_makeSession 36 = .ok (.iload 5, 2) := by decide +kernel
theorem dX12_makeSession_38 : decode cX12_makeSession 38 = .ok (.iload_n 3, 1) := by decide +kernel
theorem dX12_makeSession_39 : decode cX12_makeSession 39 = .ok (.iastore, 1) := by decide +kernel
theorem dX12_makeSession_40 : decode cX12_makeSession 40 = .ok (.aload_n 0, 1) := by decide +kernel
theorem dX12_makeSession_41 : decode cX12_makeSession 41 = .ok (.getfield 51, 3) := by decide +kernel
theorem dX12_makeSession_44 : decode cX12_makeSession 44 = .ok (.iload 5, 2) := by decide +kernel
theorem dX12_makeSession_46 : decode cX12_makeSession 46 = .ok (.aload_n 0, 1) := by decide +kernel
theorem dX12_makeSession_47 : decode cX12_makeSession 47 = .ok (.getfield 23, 3) := by decide +kernel
theorem dX12_makeSession_50 : decode cX12_makeSession 50 = .ok (.iload_n 1, 1) := by decide +kernel
theorem dX12_makeSession_51 : decode cX12_makeSession 51 = .ok (.iaload, 1) := by decide +kernel
theorem dX12_makeSession_52 : decode cX12_makeSession 52 = .ok (.bipush 6, 2) := by decide +kernel
theorem dX12_makeSession_54 : decode cX12_makeSession 54 = .ok (.if_icmp .eq 7, 3) := by decide +kernel
theorem dX12_makeSession_57 : decode cX12_makeSession 57 = .ok (.iconst 0, 1) := by decide +kernel
theorem dX12_makeSession_58 : decode cX12_makeSession 58 = .ok (.goto 13, 3) := by decide +kernel
theorem dX12_makeSession_61 : decode cX12_makeSession 61 = .ok (.iload 4, 2) := by decide +kernel
theorem dX12_makeSession_63 : decode cX12_makeSession 63 = .ok (.ifCond .eq 7, 3) := by decide +kernel
theorem dX12_makeSession_66 : decode cX12_makeSession 66 = .ok (.iconst 1, 1) := by decide +kernel
theorem dX12_makeSession_67 : decode cX12_makeSession 67 = .ok (.goto 4, 3) := by decide +kernel
theorem dX12_makeSession_70 : decode cX12_makeSession 70 = .ok (.iconst 2, 1) := by decide +kernel
theorem dX12_makeSession_71 : decode cX12_makeSession 71 = .ok (.iastore, 1) := by decide +kernel
theorem dX12_makeSession_72 : decode cX12_makeSession 72 = .ok (.aload_n 0, 1) := by decide +kernel
theorem dX12_makeSession_73 : decode cX12_makeSession 73 = .ok (.iload 5, 2) := by decide +kernel
theorem dX12_makeSession_75 : decode cX12_makeSession 75 = .ok (.invokevirtual 159, 3) := by decide +kernel
theorem dX12_makeSession_78 : decode cX12_makeSession 78 = .ok (.iload 5, 2) := by decide +kernel
theorem dX12_makeSession_80 : decode cX12_makeSession 80 = .ok (.ireturn, 1) := by decide +kernel
theorem yv_X12_makeSession : YV RX12 yX12_makeSession cX12_makeSession 6 (some .int) 4 := ⟨kw5_104, kws_36, kw1_10, kw5_105, by decide +kernel⟩
set_option maxHeartbeats 4000000 in
set_option maxRecDepth 100000 in
theorem c_X12_makeSession {l : Launch} {D : va_G} {cy : Nat → ClassId} {o : Nat} {ad : Nat → Nat} {tl : va_W} {tp os sz bits F G u nb ns T M id : Nat} {ft fo fi : Nat → UInt8} {g : Nat → Int32} {pt ih il ip pn op so fa fp st en dr : Nat → Nat} {b x port : Nat} {ins : Bool} (hns : ns < 128) (hb : b < 64) (hx0 : x < 2 ^ 32) (hpo : port < 2 ^ 31) (hpt : pt b < 2 ^ 31) : WR (S := Unit) l yX12_makeSession cX12_makeSession 6 (some .int) 1 0 0 23 [.ref o, .int (nI b), .int (nI x), .int (nI port), .int (bI (ins))] D cy (mW cy o ad tp os sz bits F G u nb ns T M id ft fo fi g pt ih il ip pn op so fa fp st en dr ++ tl) (fun u => some (.int (nI ns))) (fun _ => True) (fun _ => mW cy o ad tp os sz bits F G u nb (ns + 1) T M id ft fo fi g pt ih il ip pn op (va_up so ns b) (va_up fa ns x) (va_up fp ns port) (va_up st ns (tg_first_st (pt b) ins)) (va_up en ns (T + tg_life (tg_first_st (pt b) ins) (pt b))) dr ++ tl) := by
  refine WRi (by decide) (lv0 := [(0, .ref o), (1, .int (nI b)), (2, .int (nI x)), (3, .int (nI port)), (4, .int (bI (ins)))]) rfl (Nat.le_of_ble_eq_true rfl) ?_
  intro p e s m args below meth c ls A Q S hnm hP hK hD hS hA hend hl
  have hx := S.1
  have hb := S.2.1
  have hown : s.vm.findClass RX12 = some m.cls := S.2.2.2.1
  have ht : ∀ w ∈ lw_g, w.before args s = true := fun w h => S.2.2.2.2 w (List.mem_cons_of_mem _ h)
  have hP : va_P D vwCl (mW cy o ad tp os sz bits F G u nb ns T M id ft fo fi g pt ih il ip pn op so fa fp st en dr ++ tl) s.heap := hP
  refine lv_aload_n hx hb dX12_makeSession_0 rfl (lv_at hl 0 rfl) ?_
  refine va_get (ci := 9) (C := RX12) (T := TX12) (N := 28) hx hb ht iFX12 hown hK hP 0 rfl rfl 18 (by decide) (ht _ kw4_128) (fun _ h9 => h9) rfl dX12_makeSession_1 ?_
  refine lv_istore (lv' := [(5, .int (nI ns)), (0, .ref o), (1, .int (nI b)), (2, .int (nI x)), (3, .int (nI port)), (4, .int (bI (ins)))]) hx hb dX12_makeSession_4 hl (by decide) rfl (fun ls hl => ?_)
  refine lv_aload_n hx hb dX12_makeSession_6 rfl (lv_at hl 1 rfl) ?_
  refine lv_dup hx hb dX12_makeSession_7 rfl ?_
  refine va_get (ci := 9) (C := RX12) (T := TX12) (N := 28) hx hb ht iFX12 hown hK hP 0 rfl rfl 18 (by decide) (ht _ kw4_128) (fun _ h9 => h9) rfl dX12_makeSession_8 ?_
  refine nv_iconst (k := 1) hx hb dX12_makeSession_11 rfl ?_
  refine nv_iadd hx hb dX12_makeSession_12 ?_
  refine va_put (ci := 9) (C := RX12) (T := TX12) (N := 28) (ty := tyX12 18) hx hb ht iFX12 tyX12 tyX12_ok nmX12 hown hK hP hD hS 0 rfl rfl 18 (by decide) (ht _ kw4_128) (fun _ h9 => h9) rfl (by decide +kernel) (by first | rfl | decide) (by first | rfl | decide) (Nat.le_of_ble_eq_true rfl) dX12_makeSession_13 (fun H locs hP hD hS => ?_)
  have hP : va_P D vwCl (mW cy o ad tp os sz bits F G u nb (ns + 1) T M id ft fo fi g pt ih il ip pn op so fa fp st en dr ++ tl) H := hP
  have hD : va_D A (mW cy o ad tp os sz bits F G u nb (ns + 1) T M id ft fo fi g pt ih il ip pn op so fa fp st en dr ++ tl) := hD
  refine lv_aload_n hx hb dX12_makeSession_16 rfl (lv_at hl 1 rfl) ?_
  refine va_get (ci := 9) (C := RX12) (T := TX12) (N := 28) hx hb ht iFX12 hown hK hP 0 rfl rfl 19 (by decide) (ht _ kw4_129) (fun _ h9 => h9) rfl dX12_makeSession_17 ?_
  refine lv_iload hx hb dX12_makeSession_20 (lv_at hl 0 rfl) ?_
  refine lv_iload_n hx hb dX12_makeSession_22 rfl (lv_at hl 2 rfl) ?_
  refine nv_iast hx hb hK hP hD hS 11 rfl (by omega) (by omega) dX12_makeSession_23 (fun H locs hP hD hS => ?_)
  rw [ni_upd] at hP hD
  have hP : va_P D vwCl (mW cy o ad tp os sz bits F G u nb (ns + 1) T M id ft fo fi g pt ih il ip pn op (va_up so ns b) fa fp st en dr ++ tl) H := hP
  have hD : va_D A (mW cy o ad tp os sz bits F G u nb (ns + 1) T M id ft fo fi g pt ih il ip pn op (va_up so ns b) fa fp st en dr ++ tl) := hD
  refine lv_aload_n hx hb dX12_makeSession_24 rfl (lv_at hl 1 rfl) ?_
  refine va_get (ci := 9) (C := RX12) (T := TX12) (N := 28) hx hb ht iFX12 hown hK hP 0 rfl rfl 20 (by decide) (ht _ kw4_130) (fun _ h9 => h9) rfl dX12_makeSession_25 ?_
  refine lv_iload hx hb dX12_makeSession_28 (lv_at hl 0 rfl) ?_
  refine lv_iload_n hx hb dX12_makeSession_30 rfl (lv_at hl 3 rfl) ?_
  refine nv_iast hx hb hK hP hD hS 12 rfl (by omega) (by omega) dX12_makeSession_31 (fun H locs hP hD hS => ?_)
  rw [ni_upd] at hP hD
  have hP : va_P D vwCl (mW cy o ad tp os sz bits F G u nb (ns + 1) T M id ft fo fi g pt ih il ip pn op (va_up so ns b) (va_up fa ns x) fp st en dr ++ tl) H := hP
  have hD : va_D A (mW cy o ad tp os sz bits F G u nb (ns + 1) T M id ft fo fi g pt ih il ip pn op (va_up so ns b) (va_up fa ns x) fp st en dr ++ tl) := hD
  refine lv_aload_n hx hb dX12_makeSession_32 rfl (lv_at hl 1 rfl) ?_
  refine va_get (ci := 9) (C := RX12) (T := TX12) (N := 28) hx hb ht iFX12 hown hK hP 0 rfl rfl 21 (by decide) (ht _ kw4_131) (fun _ h9 => h9) rfl dX12_makeSession_33 ?_
  refine lv_iload hx hb dX12_makeSession_36 (lv_at hl 0 rfl) ?_
  refine lv_iload_n hx hb dX12_makeSession_38 rfl (lv_at hl 4 rfl) ?_
  refine nv_iast hx hb hK hP hD hS 13 rfl (by omega) (by omega) dX12_makeSession_39 (fun H locs hP hD hS => ?_)
  rw [ni_upd] at hP hD
  have hP : va_P D vwCl (mW cy o ad tp os sz bits F G u nb (ns + 1) T M id ft fo fi g pt ih il ip pn op (va_up so ns b) (va_up fa ns x) (va_up fp ns port) st en dr ++ tl) H := hP
  have hD : va_D A (mW cy o ad tp os sz bits F G u nb (ns + 1) T M id ft fo fi g pt ih il ip pn op (va_up so ns b) (va_up fa ns x) (va_up fp ns port) st en dr ++ tl) := hD
  refine lv_aload_n hx hb dX12_makeSession_40 rfl (lv_at hl 1 rfl) ?_
  refine va_get (ci := 9) (C := RX12) (T := TX12) (N := 28) hx hb ht iFX12 hown hK hP 0 rfl rfl 22 (by decide) (ht _ kw4_132) (fun _ h9 => h9) rfl dX12_makeSession_41 ?_
  refine lv_iload hx hb dX12_makeSession_44 (lv_at hl 0 rfl) ?_
  refine lv_aload_n hx hb dX12_makeSession_46 rfl (lv_at hl 1 rfl) ?_
  refine va_get (ci := 9) (C := RX12) (T := TX12) (N := 28) hx hb ht iFX12 hown hK hP 0 rfl rfl 12 (by decide) (ht _ kw4_122) (fun _ h9 => h9) rfl dX12_makeSession_47 ?_
  refine lv_iload_n hx hb dX12_makeSession_50 rfl (lv_at hl 2 rfl) ?_
  refine nv_iald hx hb hK hP 5 rfl (by omega) (by omega) dX12_makeSession_51 ?_
  refine nv_bipush (k := 6) hx hb dX12_makeSession_52 (by decide) ?_
  have J71 : ∀ v71 : Nat, v71 = tg_first_st (pt b) ins → ∀ ls : Array Slot, lv_has ls 6 [(5, .int (nI ns)), (0, .ref o), (1, .int (nI b)), (2, .int (nI x)), (3, .int (nI port)), (4, .int (bI (ins)))] → W p l e (rmw 1 0 0 23) s m args below meth c H locs 0 0 Q (F0 m 71 ls [.int (nI v71), .int (nI ns), .ref (ad 13)]) := by
    intro v71 hv71 ls hl
    have hv7 : v71 ≤ 2 := by rw [hv71]; unfold tg_first_st; (repeat' split) <;> omega
    refine nv_iast hx hb hK hP hD hS 14 rfl (by omega) (by omega) dX12_makeSession_71 (fun H locs hP hD hS => ?_)
    rw [ni_upd] at hP hD
    have hP : va_P D vwCl (mW cy o ad tp os sz bits F G u nb (ns + 1) T M id ft fo fi g pt ih il ip pn op (va_up so ns b) (va_up fa ns x) (va_up fp ns port) (va_up st ns v71) en dr ++ tl) H := hP
    have hD : va_D A (mW cy o ad tp os sz bits F G u nb (ns + 1) T M id ft fo fi g pt ih il ip pn op (va_up so ns b) (va_up fa ns x) (va_up fp ns port) (va_up st ns v71) en dr ++ tl) := hD
    refine lv_aload_n hx hb dX12_makeSession_72 rfl (lv_at hl 1 rfl) ?_
    refine lv_iload hx hb dX12_makeSession_73 (lv_at hl 0 rfl) ?_
    refine wr_V S (c_X12_anew (x := ns) (by omega) (by rw [va_up_self]; omega) (by rw [va_up_self]; omega) (by rw [va_up_self]; omega)) kw5_106 yv_X12_anew ⟨Nat.le_of_ble_eq_true rfl, Nat.le_of_ble_eq_true rfl⟩ hK hP hD hS hA (va_recv hK hP (ci := 9) (q0 := 0) rfl rfl) rfl hl.1 rfl (Nat.le_of_ble_eq_true rfl) dX12_makeSession_75 ⟨Nat.zero_le _, Nat.zero_le _⟩ (fun z_1 H locs hz_1 hP hD hS => ?_)
    have hP : va_P D vwCl (mW cy o ad tp os sz bits F G u nb (ns + 1) T M id ft fo fi g pt ih il ip pn op (va_up so ns b) (va_up fa ns x) (va_up fp ns port) (va_up st ns v71) (va_up en ns (T + tg_life ((va_up st ns v71) ns) (pt ((va_up so ns b) ns)))) dr ++ tl) H := hP
    have hD : va_D A (mW cy o ad tp os sz bits F G u nb (ns + 1) T M id ft fo fi g pt ih il ip pn op (va_up so ns b) (va_up fa ns x) (va_up fp ns port) (va_up st ns v71) (va_up en ns (T + tg_life ((va_up st ns v71) ns) (pt ((va_up so ns b) ns)))) dr ++ tl) := hD
    refine W.eq (g2 := F0 m 78 ls []) rfl ?_
    rw [va_up_self, va_up_self, hv71] at hP hD
    refine lv_iload hx hb dX12_makeSession_78 (lv_at hl 0 rfl) ?_
    exact hend () rfl trivial hP hD hS dX12_makeSession_80
  refine nv_icmp_eq (tgt := 61) hx hb dX12_makeSession_54 (by decide) (by omega) (by omega) (fun h54 => ?_) (fun h54 => ?_)
  · skip
    refine lv_iload hx hb dX12_makeSession_61 (lv_at hl 5 rfl) ?_
    refine nv_if_eqb (tgt := 70) hx hb dX12_makeSession_63 (by decide) (fun h63 => ?_) (fun h63 => ?_)
    · skip
      refine nv_iconst (k := 2) hx hb dX12_makeSession_70 rfl ?_
      exact J71 (2) (by unfold tg_first_st; first | rw [if_neg (by omega)] | rw [if_pos (by omega), if_pos h63] | rw [if_pos (by omega), if_neg (by rw [h63]; decide)]) ls (lv_sub hl [0, 1, 2, 3, 4, 5] rfl)
    refine nv_iconst (k := 1) hx hb dX12_makeSession_66 rfl ?_
    refine lv_goto (tgt := 71) hx hb dX12_makeSession_67 (by decide) ?_
    exact J71 (1) (by unfold tg_first_st; first | rw [if_neg (by omega)] | rw [if_pos (by omega), if_pos h63] | rw [if_pos (by omega), if_neg (by rw [h63]; decide)]) ls (lv_sub hl [0, 1, 2, 3, 4, 5] rfl)
  refine nv_iconst (k := 0) hx hb dX12_makeSession_57 rfl ?_
  refine lv_goto (tgt := 71) hx hb dX12_makeSession_58 (by decide) ?_
  exact J71 (0) (by unfold tg_first_st; first | rw [if_neg (by omega)] | rw [if_pos (by omega), if_pos h63] | rw [if_pos (by omega), if_neg (by rw [h63]; decide)]) ls (lv_sub hl [0, 1, 2, 3, 4, 5] rfl)
theorem dX12_goesOn_0 : decode cX12_goesOn 0 = .ok (.aload_n 0, 1) := by decide +kernel
theorem dX12_goesOn_1 : decode cX12_goesOn 1 = .ok (.getfield 51, 3) := by decide +kernel
theorem dX12_goesOn_4 : decode cX12_goesOn 4 = .ok (.iload_n 1, 1) := by decide +kernel
theorem dX12_goesOn_5 : decode cX12_goesOn 5 = .ok (.iaload, 1) := by decide +kernel
theorem dX12_goesOn_6 : decode cX12_goesOn 6 = .ok (.istore 4, 2) := by decide +kernel
theorem dX12_goesOn_8 : decode cX12_goesOn 8 = .ok (.iload 4, 2) := by decide +kernel
theorem dX12_goesOn_10 : decode cX12_goesOn 10 = .ok (.tableswitch 176 1 7 #[42, 64, 82, 117, 140, 176, 163], 42) := by decide +kernel
theorem dX12_goesOn_52 : decode cX12_goesOn 52 = .ok (.iload_n 2, 1) := by decide +kernel
theorem dX12_goesOn_53 : decode cX12_goesOn 53 = .ok (.iconst 1, 1) := by decide +kernel
theorem dX12_goesOn_54 : decode cX12_goesOn 54 = .ok (.if_icmp .ne 142, 3) := by decide +kernel
theorem dX12_goesOn_57 : decode cX12_goesOn 57 = .ok (.aload_n 0, 1) := by decide +kernel
theorem dX12_goesOn_58 : decode cX12_goesOn 58 = .ok (.iload_n 1, 1) := by decide +kernel
theorem dX12_goesOn_59 : decode cX12_goesOn 59 = .ok (.iload_n 3, 1) := by decide +kernel
theorem dX12_goesOn_60 : decode cX12_goesOn 60 = .ok (.ifCond .eq 7, 3) := by decide +kernel
theorem dX12_goesOn_63 : decode cX12_goesOn 63 = .ok (.iconst 1, 1) := by decide +kernel
theorem dX12_goesOn_64 : decode cX12_goesOn 64 = .ok (.goto 4, 3) := by decide +kernel
theorem dX12_goesOn_67 : decode cX12_goesOn 67 = .ok (.iconst 3, 1) := by decide +kernel
theorem dX12_goesOn_68 : decode cX12_goesOn 68 = .ok (.invokevirtual 166, 3) := by decide +kernel
theorem dX12_goesOn_71 : decode cX12_goesOn 71 = .ok (.goto 125, 3) := by decide +kernel
theorem dX12_goesOn_74 : decode cX12_goesOn 74 = .ok (.iload_n 2, 1) := by decide +kernel
theorem dX12_goesOn_75 : decode cX12_goesOn 75 = .ok (.iconst 1, 1) := by decide +kernel
theorem dX12_goesOn_76 : decode cX12_goesOn 76 = .ok (.if_icmp .ne 120, 3) := by decide +kernel
theorem dX12_goesOn_79 : decode cX12_goesOn 79 = .ok (.iload_n 3, 1) := by decide +kernel
theorem dX12_goesOn_80 : decode cX12_goesOn 80 = .ok (.ifCond .eq 116, 3) := by decide +kernel
theorem dX12_goesOn_83 : decode cX12_goesOn 83 = .ok (.aload_n 0, 1) := by decide +kernel
theorem dX12_goesOn_84 : decode cX12_goesOn 84 = .ok (.iload_n 1, 1) := by decide +kernel
theorem dX12_goesOn_85 : decode cX12_goesOn 85 = .ok (.iconst 3, 1) := by decide +kernel
theorem dX12_goesOn_86 : decode cX12_goesOn 86 = .ok (.invokevirtual 166, 3) := by decide +kernel
theorem dX12_goesOn_89 : decode cX12_goesOn 89 = .ok (.goto 107, 3) := by decide +kernel
theorem dX12_goesOn_92 : decode cX12_goesOn 92 = .ok (.aload_n 0, 1) := by decide +kernel
theorem dX12_goesOn_93 : decode cX12_goesOn 93 = .ok (.iload_n 1, 1) := by decide +kernel
theorem dX12_goesOn_94 : decode cX12_goesOn 94 = .ok (.iload_n 2, 1) := by decide +kernel
theorem dX12_goesOn_95 : decode cX12_goesOn 95 = .ok (.iconst 2, 1) := by decide +kernel
theorem dX12_goesOn_96 : decode cX12_goesOn 96 = .ok (.if_icmp .ne 15, 3) := by decide +kernel
theorem dX12_goesOn_99 : decode cX12_goesOn 99 = .ok (.iload_n 3, 1) := by decide +kernel
theorem dX12_goesOn_100 : decode cX12_goesOn 100 = .ok (.ifCond .eq 7, 3) := by decide +kernel
theorem dX12_goesOn_103 : decode cX12_goesOn 103 = .ok (.iconst 5, 1) := by decide +kernel
theorem dX12_goesOn_104 : decode cX12_goesOn 104 = .ok (.goto 17, 3) := by decide +kernel
theorem dX12_goesOn_107 : decode cX12_goesOn 107 = .ok (.iconst 4, 1) := by decide +kernel
theorem dX12_goesOn_108 : decode cX12_goesOn 108 = .ok (.goto 13, 3) := by decide +kernel
theorem dX12_goesOn_111 : decode cX12_goesOn 111 = .ok (.iload_n 2, 1) := by decide +kernel
theorem dX12_goesOn_112 : decode cX12_goesOn 112 = .ok (.ifCond .ne 8, 3) := by decide +kernel
theorem dX12_goesOn_115 : decode cX12_goesOn 115 = .ok (.bipush 7, 2) := by decide +kernel
theorem dX12_goesOn_117 : decode cX12_goesOn 117 = .ok (.goto 4, 3) := by decide +kernel
theorem dX12_goesOn_120 : decode cX12_goesOn 120 = .ok (.iconst 3, 1) := by decide +kernel
theorem dX12_goesOn_121 : decode cX12_goesOn 121 = .ok (.invokevirtual 166, 3) := by decide +kernel
theorem dX12_goesOn_124 : decode cX12_goesOn 124 = .ok (.goto 72, 3) := by decide +kernel
theorem dX12_goesOn_127 : decode cX12_goesOn 127 = .ok (.aload_n 0, 1) := by decide +kernel
theorem dX12_goesOn_128 : decode cX12_goesOn 128 = .ok (.iload_n 1, 1) := by decide +kernel
theorem dX12_goesOn_129 : decode cX12_goesOn 129 = .ok (.iload_n 2, 1) := by decide +kernel
theorem dX12_goesOn_130 : decode cX12_goesOn 130 = .ok (.iconst 2, 1) := by decide +kernel
theorem dX12_goesOn_131 : decode cX12_goesOn 131 = .ok (.if_icmp .ne 12, 3) := by decide +kernel
theorem dX12_goesOn_134 : decode cX12_goesOn 134 = .ok (.iload_n 3, 1) := by decide +kernel
theorem dX12_goesOn_135 : decode cX12_goesOn 135 = .ok (.ifCond .eq 8, 3) := by decide +kernel
theorem dX12_goesOn_138 : decode cX12_goesOn 138 = .ok (.bipush 6, 2) := by decide +kernel
theorem dX12_goesOn_140 : decode cX12_goesOn 140 = .ok (.goto 4, 3) := by decide +kernel
theorem dX12_goesOn_143 : decode cX12_goesOn 143 = .ok (.iconst 4, 1) := by decide +kernel
theorem dX12_goesOn_144 : decode cX12_goesOn 144 = .ok (.invokevirtual 166, 3) := by decide +kernel
theorem dX12_goesOn_147 : decode cX12_goesOn 147 = .ok (.goto 49, 3) := by decide +kernel
theorem dX12_goesOn_150 : decode cX12_goesOn 150 = .ok (.aload_n 0, 1) := by decide +kernel
theorem dX12_goesOn_151 : decode cX12_goesOn 151 = .ok (.iload_n 1, 1) := by decide +kernel
theorem dX12_goesOn_152 : decode cX12_goesOn 152 = .ok (.iload_n 2, 1) := by decide +kernel
theorem dX12_goesOn_153 : decode cX12_goesOn 153 = .ok (.iconst 2, 1) := by decide +kernel
theorem dX12_goesOn_154 : decode cX12_goesOn 154 = .ok (.if_icmp .ne 12, 3) := by decide +kernel
theorem dX12_goesOn_157 : decode cX12_goesOn 157 = .ok (.iload_n 3, 1) := by decide +kernel
theorem dX12_goesOn_158 : decode cX12_goesOn 158 = .ok (.ifCond .ne 8, 3) := by decide +kernel
theorem dX12_goesOn_161 : decode cX12_goesOn 161 = .ok (.bipush 6, 2) := by decide +kernel
theorem dX12_goesOn_163 : decode cX12_goesOn 163 = .ok (.goto 4, 3) := by decide +kernel
theorem dX12_goesOn_166 : decode cX12_goesOn 166 = .ok (.iconst 5, 1) := by decide +kernel
theorem dX12_goesOn_167 : decode cX12_goesOn 167 = .ok (.invokevirtual 166, 3) := by decide +kernel
theorem dX12_goesOn_170 : decode cX12_goesOn 170 = .ok (.goto 26, 3) := by decide +kernel
theorem dX12_goesOn_173 : decode cX12_goesOn 173 = .ok (.iload_n 2, 1) := by decide +kernel
theorem dX12_goesOn_174 : decode cX12_goesOn 174 = .ok (.ifCond .eq 22, 3) := by decide +kernel
theorem dX12_goesOn_177 : decode cX12_goesOn 177 = .ok (.aload_n 0, 1) := by decide +kernel
theorem dX12_goesOn_178 : decode cX12_goesOn 178 = .ok (.iload_n 1, 1) := by decide +kernel
theorem dX12_goesOn_179 : decode cX12_goesOn 179 = .ok (.iconst 3, 1) := by decide +kernel
theorem dX12_goesOn_180 : decode cX12_goesOn 180 = .ok (.invokevirtual 166, 3) := by decide +kernel
theorem dX12_goesOn_183 : decode cX12_goesOn 183 = .ok (.goto 13, 3) := by decide +kernel
theorem dX12_goesOn_186 : decode cX12_goesOn 186 = .ok (.iload 4, 2) := by decide +kernel
theorem dX12_goesOn_188 : decode cX12_goesOn 188 = .ok (.ifCond .ne 8, 3) := by decide +kernel
theorem dX12_goesOn_191 : decode cX12_goesOn 191 = .ok (.aload_n 0, 1) := by decide +kernel
theorem dX12_goesOn_192 : decode cX12_goesOn 192 = .ok (.iload_n 1, 1) := by decide +kernel
theorem dX12_goesOn_193 : decode cX12_goesOn 193 = .ok (.invokevirtual 159, 3) := by decide +kernel
theorem dX12_goesOn_196 : decode cX12_goesOn 196 = .ok (.return_, 1) := by decide +kernel
theorem yv_X12_goesOn : YV RX12 yX12_goesOn cX12_goesOn 5 none 3 := ⟨kw5_112, kws_38, kw1_10, kw5_113, by decide +kernel⟩
set_option maxHeartbeats 4000000 in
set_option maxRecDepth 100000 in
theorem c_X12_goesOn {l : Launch} {D : va_G} {cy : Nat → ClassId} {o : Nat} {ad : Nat → Nat} {tl : va_W} {tp os sz bits F G u nb ns T M id : Nat} {ft fo fi : Nat → UInt8} {g : Nat → Int32} {pt ih il ip pn op so fa fp st en dr : Nat → Nat} {x k9 : Nat} {ins : Bool} (hx0 : x < 128) (hk9 : k9 ≤ 3) (hst : st x < 2 ^ 31) (hso : so x < 64) (hpt : pt (so x) < 2 ^ 31) : WR (S := Unit) l yX12_goesOn cX12_goesOn 5 none 2 0 0 45 [.ref o, .int (nI x), .int (nI k9), .int (bI (ins))] D cy (mW cy o ad tp os sz bits F G u nb ns T M id ft fo fi g pt ih il ip pn op so fa fp st en dr ++ tl) (fun _ => none) (fun _ => True) (fun _ => mW cy o ad tp os sz bits F G u nb ns T M id ft fo fi g pt ih il ip pn op so fa fp (if tg_nxt (st x) (3 - k9) ins = 8 then st else va_up st x (tg_nxt (st x) (3 - k9) ins)) (if tg_nxt (st x) (3 - k9) ins = 8 then en else va_up en x (T + tg_life (tg_nxt (st x) (3 - k9) ins) (pt (so x)))) dr ++ tl) := by
  refine WRv (by decide) (lv0 := [(0, .ref o), (1, .int (nI x)), (2, .int (nI k9)), (3, .int (bI (ins)))]) rfl (Nat.le_of_ble_eq_true rfl) ?_
  intro p e s m args below meth c ls A Q S hnm hP hK hD hS hA hend hl
  have hx := S.1
  have hb := S.2.1
  have hown : s.vm.findClass RX12 = some m.cls := S.2.2.2.1
  have ht : ∀ w ∈ lw_g, w.before args s = true := fun w h => S.2.2.2.2 w (List.mem_cons_of_mem _ h)
  have hP : va_P D vwCl (mW cy o ad tp os sz bits F G u nb ns T M id ft fo fi g pt ih il ip pn op so fa fp st en dr ++ tl) s.heap := hP
  refine lv_aload_n hx hb dX12_goesOn_0 rfl (lv_at hl 0 rfl) ?_
  refine va_get (ci := 9) (C := RX12) (T := TX12) (N := 28) hx hb ht iFX12 hown hK hP 0 rfl rfl 22 (by decide) (ht _ kw4_132) (fun _ h9 => h9) rfl dX12_goesOn_1 ?_
  refine lv_iload_n hx hb dX12_goesOn_4 rfl (lv_at hl 1 rfl) ?_
  refine nv_iald hx hb hK hP 14 rfl (by omega) (by omega) dX12_goesOn_5 ?_
  refine lv_istore (lv' := [(4, .int (nI (st x))), (0, .ref o), (1, .int (nI x)), (2, .int (nI k9)), (3, .int (bI (ins)))]) hx hb dX12_goesOn_6 hl (by decide) rfl (fun ls hl => ?_)
  refine lv_iload hx hb dX12_goesOn_8 (lv_at hl 0 rfl) ?_
  by_cases hs10_0 : st x = 1
  · refine lv_tableIn (off := 42) (tgt := 52) hx hb dX12_goesOn_10 (by rw [hs10_0]; decide) (by rw [hs10_0]; decide) (by rw [hs10_0]; decide) (by decide) ?_
    refine lv_iload_n hx hb dX12_goesOn_52 rfl (lv_at hl 3 rfl) ?_
    refine nv_iconst (k := 1) hx hb dX12_goesOn_53 rfl ?_
    refine nv_icmp_ne (tgt := 196) hx hb dX12_goesOn_54 (by decide) (by omega) (by omega) (fun h54 => ?_) (fun h54 => ?_)
    · skip
      have en9 : tg_nxt (st x) (3 - k9) ins = 8 := by unfold tg_nxt; (repeat' split) <;> first | omega | (exfalso; simp_all; done)
      exact hend () trivial (by rw [en9]; exact hP) (by rw [en9]; exact hD) hS dX12_goesOn_196
    refine lv_aload_n hx hb dX12_goesOn_57 rfl (lv_at hl 1 rfl) ?_
    refine lv_iload_n hx hb dX12_goesOn_58 rfl (lv_at hl 2 rfl) ?_
    refine lv_iload_n hx hb dX12_goesOn_59 rfl (lv_at hl 4 rfl) ?_
    refine nv_if_eqb (tgt := 67) hx hb dX12_goesOn_60 (by decide) (fun h60 => ?_) (fun h60 => ?_)
    · skip
      refine nv_iconst (k := 3) hx hb dX12_goesOn_67 rfl ?_
      refine wr_V S (c_X12_becomes (x := x) (y := 3) (by omega) (by omega) (by omega) (by omega)) kw5_114 yv_X12_becomes ⟨Nat.le_of_ble_eq_true rfl, Nat.le_of_ble_eq_true rfl⟩ hK hP hD hS hA (va_recv hK hP (ci := 9) (q0 := 0) rfl rfl) rfl hl.1 rfl (Nat.le_of_ble_eq_true rfl) dX12_goesOn_68 ⟨Nat.zero_le _, Nat.zero_le _⟩ (fun z_1 H locs hz_1 hP hD hS => ?_)
      have hP : va_P D vwCl (mW cy o ad tp os sz bits F G u nb ns T M id ft fo fi g pt ih il ip pn op so fa fp (va_up st x 3) (va_up en x (T + tg_life 3 (pt (so x)))) dr ++ tl) H := hP
      have hD : va_D A (mW cy o ad tp os sz bits F G u nb ns T M id ft fo fi g pt ih il ip pn op so fa fp (va_up st x 3) (va_up en x (T + tg_life 3 (pt (so x)))) dr ++ tl) := hD
      refine W.eq (g2 := F0 m 71 ls []) rfl ?_
      refine lv_goto (tgt := 196) hx hb dX12_goesOn_71 (by decide) ?_
      have en9 : tg_nxt (st x) (3 - k9) ins = 3 := by unfold tg_nxt; (repeat' split) <;> first | omega | (exfalso; simp_all; done)
      exact hend () trivial (by rw [en9]; exact hP) (by rw [en9]; exact hD) hS dX12_goesOn_196
    refine nv_iconst (k := 1) hx hb dX12_goesOn_63 rfl ?_
    refine lv_goto (tgt := 68) hx hb dX12_goesOn_64 (by decide) ?_
    refine wr_V S (c_X12_becomes (x := x) (y := 1) (by omega) (by omega) (by omega) (by omega)) kw5_114 yv_X12_becomes ⟨Nat.le_of_ble_eq_true rfl, Nat.le_of_ble_eq_true rfl⟩ hK hP hD hS hA (va_recv hK hP (ci := 9) (q0 := 0) rfl rfl) rfl hl.1 rfl (Nat.le_of_ble_eq_true rfl) dX12_goesOn_68 ⟨Nat.zero_le _, Nat.zero_le _⟩ (fun z_2 H locs hz_2 hP hD hS => ?_)
    have hP : va_P D vwCl (mW cy o ad tp os sz bits F G u nb ns T M id ft fo fi g pt ih il ip pn op so fa fp (va_up st x 1) (va_up en x (T + tg_life 1 (pt (so x)))) dr ++ tl) H := hP
    have hD : va_D A (mW cy o ad tp os sz bits F G u nb ns T M id ft fo fi g pt ih il ip pn op so fa fp (va_up st x 1) (va_up en x (T + tg_life 1 (pt (so x)))) dr ++ tl) := hD
    refine W.eq (g2 := F0 m 71 ls []) rfl ?_
    refine lv_goto (tgt := 196) hx hb dX12_goesOn_71 (by decide) ?_
    have en9 : tg_nxt (st x) (3 - k9) ins = 1 := by unfold tg_nxt; (repeat' split) <;> first | omega | (exfalso; simp_all; done)
    exact hend () trivial (by rw [en9]; exact hP) (by rw [en9]; exact hD) hS dX12_goesOn_196
  by_cases hs10_1 : st x = 2
  · refine lv_tableIn (off := 64) (tgt := 74) hx hb dX12_goesOn_10 (by rw [hs10_1]; decide) (by rw [hs10_1]; decide) (by rw [hs10_1]; decide) (by decide) ?_
    refine lv_iload_n hx hb dX12_goesOn_74 rfl (lv_at hl 3 rfl) ?_
    refine nv_iconst (k := 1) hx hb dX12_goesOn_75 rfl ?_
    refine nv_icmp_ne (tgt := 196) hx hb dX12_goesOn_76 (by decide) (by omega) (by omega) (fun h76 => ?_) (fun h76 => ?_)
    · skip
      have en9 : tg_nxt (st x) (3 - k9) ins = 8 := by unfold tg_nxt; (repeat' split) <;> first | omega | (exfalso; simp_all; done)
      exact hend () trivial (by rw [en9]; exact hP) (by rw [en9]; exact hD) hS dX12_goesOn_196
    refine lv_iload_n hx hb dX12_goesOn_79 rfl (lv_at hl 4 rfl) ?_
    refine nv_if_eqb (tgt := 196) hx hb dX12_goesOn_80 (by decide) (fun h80 => ?_) (fun h80 => ?_)
    · skip
      have en9 : tg_nxt (st x) (3 - k9) ins = 8 := by unfold tg_nxt; (repeat' split) <;> first | omega | (exfalso; simp_all; done)
      exact hend () trivial (by rw [en9]; exact hP) (by rw [en9]; exact hD) hS dX12_goesOn_196
    refine lv_aload_n hx hb dX12_goesOn_83 rfl (lv_at hl 1 rfl) ?_
    refine lv_iload_n hx hb dX12_goesOn_84 rfl (lv_at hl 2 rfl) ?_
    refine nv_iconst (k := 3) hx hb dX12_goesOn_85 rfl ?_
    refine wr_V S (c_X12_becomes (x := x) (y := 3) (by omega) (by omega) (by omega) (by omega)) kw5_114 yv_X12_becomes ⟨Nat.le_of_ble_eq_true rfl, Nat.le_of_ble_eq_true rfl⟩ hK hP hD hS hA (va_recv hK hP (ci := 9) (q0 := 0) rfl rfl) rfl hl.1 rfl (Nat.le_of_ble_eq_true rfl) dX12_goesOn_86 ⟨Nat.zero_le _, Nat.zero_le _⟩ (fun z_3 H locs hz_3 hP hD hS => ?_)
    have hP : va_P D vwCl (mW cy o ad tp os sz bits F G u nb ns T M id ft fo fi g pt ih il ip pn op so fa fp (va_up st x 3) (va_up en x (T + tg_life 3 (pt (so x)))) dr ++ tl) H := hP
    have hD : va_D A (mW cy o ad tp os sz bits F G u nb ns T M id ft fo fi g pt ih il ip pn op so fa fp (va_up st x 3) (va_up en x (T + tg_life 3 (pt (so x)))) dr ++ tl) := hD
    refine W.eq (g2 := F0 m 89 ls []) rfl ?_
    refine lv_goto (tgt := 196) hx hb dX12_goesOn_89 (by decide) ?_
    have en9 : tg_nxt (st x) (3 - k9) ins = 3 := by unfold tg_nxt; (repeat' split) <;> first | omega | (exfalso; simp_all; done)
    exact hend () trivial (by rw [en9]; exact hP) (by rw [en9]; exact hD) hS dX12_goesOn_196
  by_cases hs10_2 : st x = 3
  · refine lv_tableIn (off := 82) (tgt := 92) hx hb dX12_goesOn_10 (by rw [hs10_2]; decide) (by rw [hs10_2]; decide) (by rw [hs10_2]; decide) (by decide) ?_
    refine lv_aload_n hx hb dX12_goesOn_92 rfl (lv_at hl 1 rfl) ?_
    refine lv_iload_n hx hb dX12_goesOn_93 rfl (lv_at hl 2 rfl) ?_
    refine lv_iload_n hx hb dX12_goesOn_94 rfl (lv_at hl 3 rfl) ?_
    refine nv_iconst (k := 2) hx hb dX12_goesOn_95 rfl ?_
    refine nv_icmp_ne (tgt := 111) hx hb dX12_goesOn_96 (by decide) (by omega) (by omega) (fun h96 => ?_) (fun h96 => ?_)
    · skip
      refine lv_iload_n hx hb dX12_goesOn_111 rfl (lv_at hl 3 rfl) ?_
      refine nv_if_ne (tgt := 120) hx hb dX12_goesOn_112 (by decide) (by omega) (fun h112 => ?_) (fun h112 => ?_)
      · skip
        refine nv_iconst (k := 3) hx hb dX12_goesOn_120 rfl ?_
        refine wr_V S (c_X12_becomes (x := x) (y := 3) (by omega) (by omega) (by omega) (by omega)) kw5_114 yv_X12_becomes ⟨Nat.le_of_ble_eq_true rfl, Nat.le_of_ble_eq_true rfl⟩ hK hP hD hS hA (va_recv hK hP (ci := 9) (q0 := 0) rfl rfl) rfl hl.1 rfl (Nat.le_of_ble_eq_true rfl) dX12_goesOn_121 ⟨Nat.zero_le _, Nat.zero_le _⟩ (fun z_4 H locs hz_4 hP hD hS => ?_)
        have hP : va_P D vwCl (mW cy o ad tp os sz bits F G u nb ns T M id ft fo fi g pt ih il ip pn op so fa fp (va_up st x 3) (va_up en x (T + tg_life 3 (pt (so x)))) dr ++ tl) H := hP
        have hD : va_D A (mW cy o ad tp os sz bits F G u nb ns T M id ft fo fi g pt ih il ip pn op so fa fp (va_up st x 3) (va_up en x (T + tg_life 3 (pt (so x)))) dr ++ tl) := hD
        refine W.eq (g2 := F0 m 124 ls []) rfl ?_
        refine lv_goto (tgt := 196) hx hb dX12_goesOn_124 (by decide) ?_
        have en9 : tg_nxt (st x) (3 - k9) ins = 3 := by unfold tg_nxt; (repeat' split) <;> first | omega | (exfalso; simp_all; done)
        exact hend () trivial (by rw [en9]; exact hP) (by rw [en9]; exact hD) hS dX12_goesOn_196
      refine nv_bipush (k := 7) hx hb dX12_goesOn_115 (by decide) ?_
      refine lv_goto (tgt := 121) hx hb dX12_goesOn_117 (by decide) ?_
      refine wr_V S (c_X12_becomes (x := x) (y := 7) (by omega) (by omega) (by omega) (by omega)) kw5_114 yv_X12_becomes ⟨Nat.le_of_ble_eq_true rfl, Nat.le_of_ble_eq_true rfl⟩ hK hP hD hS hA (va_recv hK hP (ci := 9) (q0 := 0) rfl rfl) rfl hl.1 rfl (Nat.le_of_ble_eq_true rfl) dX12_goesOn_121 ⟨Nat.zero_le _, Nat.zero_le _⟩ (fun z_5 H locs hz_5 hP hD hS => ?_)
      have hP : va_P D vwCl (mW cy o ad tp os sz bits F G u nb ns T M id ft fo fi g pt ih il ip pn op so fa fp (va_up st x 7) (va_up en x (T + tg_life 7 (pt (so x)))) dr ++ tl) H := hP
      have hD : va_D A (mW cy o ad tp os sz bits F G u nb ns T M id ft fo fi g pt ih il ip pn op so fa fp (va_up st x 7) (va_up en x (T + tg_life 7 (pt (so x)))) dr ++ tl) := hD
      refine W.eq (g2 := F0 m 124 ls []) rfl ?_
      refine lv_goto (tgt := 196) hx hb dX12_goesOn_124 (by decide) ?_
      have en9 : tg_nxt (st x) (3 - k9) ins = 7 := by unfold tg_nxt; (repeat' split) <;> first | omega | (exfalso; simp_all; done)
      exact hend () trivial (by rw [en9]; exact hP) (by rw [en9]; exact hD) hS dX12_goesOn_196
    refine lv_iload_n hx hb dX12_goesOn_99 rfl (lv_at hl 4 rfl) ?_
    refine nv_if_eqb (tgt := 107) hx hb dX12_goesOn_100 (by decide) (fun h100 => ?_) (fun h100 => ?_)
    · skip
      refine nv_iconst (k := 4) hx hb dX12_goesOn_107 rfl ?_
      refine lv_goto (tgt := 121) hx hb dX12_goesOn_108 (by decide) ?_
      refine wr_V S (c_X12_becomes (x := x) (y := 4) (by omega) (by omega) (by omega) (by omega)) kw5_114 yv_X12_becomes ⟨Nat.le_of_ble_eq_true rfl, Nat.le_of_ble_eq_true rfl⟩ hK hP hD hS hA (va_recv hK hP (ci := 9) (q0 := 0) rfl rfl) rfl hl.1 rfl (Nat.le_of_ble_eq_true rfl) dX12_goesOn_121 ⟨Nat.zero_le _, Nat.zero_le _⟩ (fun z_6 H locs hz_6 hP hD hS => ?_)
      have hP : va_P D vwCl (mW cy o ad tp os sz bits F G u nb ns T M id ft fo fi g pt ih il ip pn op so fa fp (va_up st x 4) (va_up en x (T + tg_life 4 (pt (so x)))) dr ++ tl) H := hP
      have hD : va_D A (mW cy o ad tp os sz bits F G u nb ns T M id ft fo fi g pt ih il ip pn op so fa fp (va_up st x 4) (va_up en x (T + tg_life 4 (pt (so x)))) dr ++ tl) := hD
      refine W.eq (g2 := F0 m 124 ls []) rfl ?_
      refine lv_goto (tgt := 196) hx hb dX12_goesOn_124 (by decide) ?_
      have en9 : tg_nxt (st x) (3 - k9) ins = 4 := by unfold tg_nxt; (repeat' split) <;> first | omega | (exfalso; simp_all; done)
      exact hend () trivial (by rw [en9]; exact hP) (by rw [en9]; exact hD) hS dX12_goesOn_196
    refine nv_iconst (k := 5) hx hb dX12_goesOn_103 rfl ?_
    refine lv_goto (tgt := 121) hx hb dX12_goesOn_104 (by decide) ?_
    refine wr_V S (c_X12_becomes (x := x) (y := 5) (by omega) (by omega) (by omega) (by omega)) kw5_114 yv_X12_becomes ⟨Nat.le_of_ble_eq_true rfl, Nat.le_of_ble_eq_true rfl⟩ hK hP hD hS hA (va_recv hK hP (ci := 9) (q0 := 0) rfl rfl) rfl hl.1 rfl (Nat.le_of_ble_eq_true rfl) dX12_goesOn_121 ⟨Nat.zero_le _, Nat.zero_le _⟩ (fun z_7 H locs hz_7 hP hD hS => ?_)
    have hP : va_P D vwCl (mW cy o ad tp os sz bits F G u nb ns T M id ft fo fi g pt ih il ip pn op so fa fp (va_up st x 5) (va_up en x (T + tg_life 5 (pt (so x)))) dr ++ tl) H := hP
    have hD : va_D A (mW cy o ad tp os sz bits F G u nb ns T M id ft fo fi g pt ih il ip pn op so fa fp (va_up st x 5) (va_up en x (T + tg_life 5 (pt (so x)))) dr ++ tl) := hD
    refine W.eq (g2 := F0 m 124 ls []) rfl ?_
    refine lv_goto (tgt := 196) hx hb dX12_goesOn_124 (by decide) ?_
    have en9 : tg_nxt (st x) (3 - k9) ins = 5 := by unfold tg_nxt; (repeat' split) <;> first | omega | (exfalso; simp_all; done)
    exact hend () trivial (by rw [en9]; exact hP) (by rw [en9]; exact hD) hS dX12_goesOn_196
  by_cases hs10_3 : st x = 4
  · refine lv_tableIn (off := 117) (tgt := 127) hx hb dX12_goesOn_10 (by rw [hs10_3]; decide) (by rw [hs10_3]; decide) (by rw [hs10_3]; decide) (by decide) ?_
    refine lv_aload_n hx hb dX12_goesOn_127 rfl (lv_at hl 1 rfl) ?_
    refine lv_iload_n hx hb dX12_goesOn_128 rfl (lv_at hl 2 rfl) ?_
    refine lv_iload_n hx hb dX12_goesOn_129 rfl (lv_at hl 3 rfl) ?_
    refine nv_iconst (k := 2) hx hb dX12_goesOn_130 rfl ?_
    refine nv_icmp_ne (tgt := 143) hx hb dX12_goesOn_131 (by decide) (by omega) (by omega) (fun h131 => ?_) (fun h131 => ?_)
    · skip
      refine nv_iconst (k := 4) hx hb dX12_goesOn_143 rfl ?_
      refine wr_V S (c_X12_becomes (x := x) (y := 4) (by omega) (by omega) (by omega) (by omega)) kw5_114 yv_X12_becomes ⟨Nat.le_of_ble_eq_true rfl, Nat.le_of_ble_eq_true rfl⟩ hK hP hD hS hA (va_recv hK hP (ci := 9) (q0 := 0) rfl rfl) rfl hl.1 rfl (Nat.le_of_ble_eq_true rfl) dX12_goesOn_144 ⟨Nat.zero_le _, Nat.zero_le _⟩ (fun z_8 H locs hz_8 hP hD hS => ?_)
      have hP : va_P D vwCl (mW cy o ad tp os sz bits F G u nb ns T M id ft fo fi g pt ih il ip pn op so fa fp (va_up st x 4) (va_up en x (T + tg_life 4 (pt (so x)))) dr ++ tl) H := hP
      have hD : va_D A (mW cy o ad tp os sz bits F G u nb ns T M id ft fo fi g pt ih il ip pn op so fa fp (va_up st x 4) (va_up en x (T + tg_life 4 (pt (so x)))) dr ++ tl) := hD
      refine W.eq (g2 := F0 m 147 ls []) rfl ?_
      refine lv_goto (tgt := 196) hx hb dX12_goesOn_147 (by decide) ?_
      have en9 : tg_nxt (st x) (3 - k9) ins = 4 := by unfold tg_nxt; (repeat' split) <;> first | omega | (exfalso; simp_all; done)
      exact hend () trivial (by rw [en9]; exact hP) (by rw [en9]; exact hD) hS dX12_goesOn_196
    refine lv_iload_n hx hb dX12_goesOn_134 rfl (lv_at hl 4 rfl) ?_
    refine nv_if_eqb (tgt := 143) hx hb dX12_goesOn_135 (by decide) (fun h135 => ?_) (fun h135 => ?_)
    · skip
      refine nv_iconst (k := 4) hx hb dX12_goesOn_143 rfl ?_
      refine wr_V S (c_X12_becomes (x := x) (y := 4) (by omega) (by omega) (by omega) (by omega)) kw5_114 yv_X12_becomes ⟨Nat.le_of_ble_eq_true rfl, Nat.le_of_ble_eq_true rfl⟩ hK hP hD hS hA (va_recv hK hP (ci := 9) (q0 := 0) rfl rfl) rfl hl.1 rfl (Nat.le_of_ble_eq_true rfl) dX12_goesOn_144 ⟨Nat.zero_le _, Nat.zero_le _⟩ (fun z_9 H locs hz_9 hP hD hS => ?_)
      have hP : va_P D vwCl (mW cy o ad tp os sz bits F G u nb ns T M id ft fo fi g pt ih il ip pn op so fa fp (va_up st x 4) (va_up en x (T + tg_life 4 (pt (so x)))) dr ++ tl) H := hP
      have hD : va_D A (mW cy o ad tp os sz bits F G u nb ns T M id ft fo fi g pt ih il ip pn op so fa fp (va_up st x 4) (va_up en x (T + tg_life 4 (pt (so x)))) dr ++ tl) := hD
      refine W.eq (g2 := F0 m 147 ls []) rfl ?_
      refine lv_goto (tgt := 196) hx hb dX12_goesOn_147 (by decide) ?_
      have en9 : tg_nxt (st x) (3 - k9) ins = 4 := by unfold tg_nxt; (repeat' split) <;> first | omega | (exfalso; simp_all; done)
      exact hend () trivial (by rw [en9]; exact hP) (by rw [en9]; exact hD) hS dX12_goesOn_196
    refine nv_bipush (k := 6) hx hb dX12_goesOn_138 (by decide) ?_
    refine lv_goto (tgt := 144) hx hb dX12_goesOn_140 (by decide) ?_
    refine wr_V S (c_X12_becomes (x := x) (y := 6) (by omega) (by omega) (by omega) (by omega)) kw5_114 yv_X12_becomes ⟨Nat.le_of_ble_eq_true rfl, Nat.le_of_ble_eq_true rfl⟩ hK hP hD hS hA (va_recv hK hP (ci := 9) (q0 := 0) rfl rfl) rfl hl.1 rfl (Nat.le_of_ble_eq_true rfl) dX12_goesOn_144 ⟨Nat.zero_le _, Nat.zero_le _⟩ (fun z_10 H locs hz_10 hP hD hS => ?_)
    have hP : va_P D vwCl (mW cy o ad tp os sz bits F G u nb ns T M id ft fo fi g pt ih il ip pn op so fa fp (va_up st x 6) (va_up en x (T + tg_life 6 (pt (so x)))) dr ++ tl) H := hP
    have hD : va_D A (mW cy o ad tp os sz bits F G u nb ns T M id ft fo fi g pt ih il ip pn op so fa fp (va_up st x 6) (va_up en x (T + tg_life 6 (pt (so x)))) dr ++ tl) := hD
    refine W.eq (g2 := F0 m 147 ls []) rfl ?_
    refine lv_goto (tgt := 196) hx hb dX12_goesOn_147 (by decide) ?_
    have en9 : tg_nxt (st x) (3 - k9) ins = 6 := by unfold tg_nxt; (repeat' split) <;> first | omega | (exfalso; simp_all; done)
    exact hend () trivial (by rw [en9]; exact hP) (by rw [en9]; exact hD) hS dX12_goesOn_196
  by_cases hs10_4 : st x = 5
  · refine lv_tableIn (off := 140) (tgt := 150) hx hb dX12_goesOn_10 (by rw [hs10_4]; decide) (by rw [hs10_4]; decide) (by rw [hs10_4]; decide) (by decide) ?_
    refine lv_aload_n hx hb dX12_goesOn_150 rfl (lv_at hl 1 rfl) ?_
    refine lv_iload_n hx hb dX12_goesOn_151 rfl (lv_at hl 2 rfl) ?_
    refine lv_iload_n hx hb dX12_goesOn_152 rfl (lv_at hl 3 rfl) ?_
    refine nv_iconst (k := 2) hx hb dX12_goesOn_153 rfl ?_
    refine nv_icmp_ne (tgt := 166) hx hb dX12_goesOn_154 (by decide) (by omega) (by omega) (fun h154 => ?_) (fun h154 => ?_)
    · skip
      refine nv_iconst (k := 5) hx hb dX12_goesOn_166 rfl ?_
      refine wr_V S (c_X12_becomes (x := x) (y := 5) (by omega) (by omega) (by omega) (by omega)) kw5_114 yv_X12_becomes ⟨Nat.le_of_ble_eq_true rfl, Nat.le_of_ble_eq_true rfl⟩ hK hP hD hS hA (va_recv hK hP (ci := 9) (q0 := 0) rfl rfl) rfl hl.1 rfl (Nat.le_of_ble_eq_true rfl) dX12_goesOn_167 ⟨Nat.zero_le _, Nat.zero_le _⟩ (fun z_11 H locs hz_11 hP hD hS => ?_)
      have hP : va_P D vwCl (mW cy o ad tp os sz bits F G u nb ns T M id ft fo fi g pt ih il ip pn op so fa fp (va_up st x 5) (va_up en x (T + tg_life 5 (pt (so x)))) dr ++ tl) H := hP
      have hD : va_D A (mW cy o ad tp os sz bits F G u nb ns T M id ft fo fi g pt ih il ip pn op so fa fp (va_up st x 5) (va_up en x (T + tg_life 5 (pt (so x)))) dr ++ tl) := hD
      refine W.eq (g2 := F0 m 170 ls []) rfl ?_
      refine lv_goto (tgt := 196) hx hb dX12_goesOn_170 (by decide) ?_
      have en9 : tg_nxt (st x) (3 - k9) ins = 5 := by unfold tg_nxt; (repeat' split) <;> first | omega | (exfalso; simp_all; done)
      exact hend () trivial (by rw [en9]; exact hP) (by rw [en9]; exact hD) hS dX12_goesOn_196
    refine lv_iload_n hx hb dX12_goesOn_157 rfl (lv_at hl 4 rfl) ?_
    refine nv_if_neb (tgt := 166) hx hb dX12_goesOn_158 (by decide) (fun h158 => ?_) (fun h158 => ?_)
    · skip
      refine nv_iconst (k := 5) hx hb dX12_goesOn_166 rfl ?_
      refine wr_V S (c_X12_becomes (x := x) (y := 5) (by omega) (by omega) (by omega) (by omega)) kw5_114 yv_X12_becomes ⟨Nat.le_of_ble_eq_true rfl, Nat.le_of_ble_eq_true rfl⟩ hK hP hD hS hA (va_recv hK hP (ci := 9) (q0 := 0) rfl rfl) rfl hl.1 rfl (Nat.le_of_ble_eq_true rfl) dX12_goesOn_167 ⟨Nat.zero_le _, Nat.zero_le _⟩ (fun z_12 H locs hz_12 hP hD hS => ?_)
      have hP : va_P D vwCl (mW cy o ad tp os sz bits F G u nb ns T M id ft fo fi g pt ih il ip pn op so fa fp (va_up st x 5) (va_up en x (T + tg_life 5 (pt (so x)))) dr ++ tl) H := hP
      have hD : va_D A (mW cy o ad tp os sz bits F G u nb ns T M id ft fo fi g pt ih il ip pn op so fa fp (va_up st x 5) (va_up en x (T + tg_life 5 (pt (so x)))) dr ++ tl) := hD
      refine W.eq (g2 := F0 m 170 ls []) rfl ?_
      refine lv_goto (tgt := 196) hx hb dX12_goesOn_170 (by decide) ?_
      have en9 : tg_nxt (st x) (3 - k9) ins = 5 := by unfold tg_nxt; (repeat' split) <;> first | omega | (exfalso; simp_all; done)
      exact hend () trivial (by rw [en9]; exact hP) (by rw [en9]; exact hD) hS dX12_goesOn_196
    refine nv_bipush (k := 6) hx hb dX12_goesOn_161 (by decide) ?_
    refine lv_goto (tgt := 167) hx hb dX12_goesOn_163 (by decide) ?_
    refine wr_V S (c_X12_becomes (x := x) (y := 6) (by omega) (by omega) (by omega) (by omega)) kw5_114 yv_X12_becomes ⟨Nat.le_of_ble_eq_true rfl, Nat.le_of_ble_eq_true rfl⟩ hK hP hD hS hA (va_recv hK hP (ci := 9) (q0 := 0) rfl rfl) rfl hl.1 rfl (Nat.le_of_ble_eq_true rfl) dX12_goesOn_167 ⟨Nat.zero_le _, Nat.zero_le _⟩ (fun z_13 H locs hz_13 hP hD hS => ?_)
    have hP : va_P D vwCl (mW cy o ad tp os sz bits F G u nb ns T M id ft fo fi g pt ih il ip pn op so fa fp (va_up st x 6) (va_up en x (T + tg_life 6 (pt (so x)))) dr ++ tl) H := hP
    have hD : va_D A (mW cy o ad tp os sz bits F G u nb ns T M id ft fo fi g pt ih il ip pn op so fa fp (va_up st x 6) (va_up en x (T + tg_life 6 (pt (so x)))) dr ++ tl) := hD
    refine W.eq (g2 := F0 m 170 ls []) rfl ?_
    refine lv_goto (tgt := 196) hx hb dX12_goesOn_170 (by decide) ?_
    have en9 : tg_nxt (st x) (3 - k9) ins = 6 := by unfold tg_nxt; (repeat' split) <;> first | omega | (exfalso; simp_all; done)
    exact hend () trivial (by rw [en9]; exact hP) (by rw [en9]; exact hD) hS dX12_goesOn_196
  by_cases hs10_5 : st x = 6
  · refine lv_tableIn (off := 176) (tgt := 186) hx hb dX12_goesOn_10 (by rw [hs10_5]; decide) (by rw [hs10_5]; decide) (by rw [hs10_5]; decide) (by decide) ?_
    refine lv_iload hx hb dX12_goesOn_186 (lv_at hl 0 rfl) ?_
    refine nv_if_ne (tgt := 196) hx hb dX12_goesOn_188 (by decide) (by omega) (fun h188 => ?_) (fun h188 => ?_)
    · skip
      have en9 : tg_nxt (st x) (3 - k9) ins = 8 := by unfold tg_nxt; (repeat' split) <;> first | omega | (exfalso; simp_all; done)
      exact hend () trivial (by rw [en9]; exact hP) (by rw [en9]; exact hD) hS dX12_goesOn_196
    refine lv_aload_n hx hb dX12_goesOn_191 rfl (lv_at hl 1 rfl) ?_
    refine lv_iload_n hx hb dX12_goesOn_192 rfl (lv_at hl 2 rfl) ?_
    refine wr_V S (c_X12_anew (x := x) (by omega) (by omega) (by omega) (by omega)) kw5_106 yv_X12_anew ⟨Nat.le_of_ble_eq_true rfl, Nat.le_of_ble_eq_true rfl⟩ hK hP hD hS hA (va_recv hK hP (ci := 9) (q0 := 0) rfl rfl) rfl hl.1 rfl (Nat.le_of_ble_eq_true rfl) dX12_goesOn_193 ⟨Nat.zero_le _, Nat.zero_le _⟩ (fun z_14 H locs hz_14 hP hD hS => ?_)
    have hP : va_P D vwCl (mW cy o ad tp os sz bits F G u nb ns T M id ft fo fi g pt ih il ip pn op so fa fp st (va_up en x (T + tg_life (st x) (pt (so x)))) dr ++ tl) H := hP
    have hD : va_D A (mW cy o ad tp os sz bits F G u nb ns T M id ft fo fi g pt ih il ip pn op so fa fp st (va_up en x (T + tg_life (st x) (pt (so x)))) dr ++ tl) := hD
    refine W.eq (g2 := F0 m 196 ls []) rfl ?_
    have est : va_up st x 0 = st := by have := va_up_id (f := st) (k := x); rwa [h188] at this
    rw [h188] at hP hD
    skip
    have hP : va_P D vwCl (mW cy o ad tp os sz bits F G u nb ns T M id ft fo fi g pt ih il ip pn op so fa fp (va_up st x 0) (va_up en x (T + tg_life 0 (pt (so x)))) dr ++ tl) H := by rw [est]; exact hP
    have hD : va_D A (mW cy o ad tp os sz bits F G u nb ns T M id ft fo fi g pt ih il ip pn op so fa fp (va_up st x 0) (va_up en x (T + tg_life 0 (pt (so x)))) dr ++ tl) := by rw [est]; exact hD
    have en9 : tg_nxt (st x) (3 - k9) ins = 0 := by unfold tg_nxt; (repeat' split) <;> first | omega | (exfalso; simp_all; done)
    exact hend () trivial (by rw [en9]; exact hP) (by rw [en9]; exact hD) hS dX12_goesOn_196
  by_cases hs10_6 : st x = 7
  · refine lv_tableIn (off := 163) (tgt := 173) hx hb dX12_goesOn_10 (by rw [hs10_6]; decide) (by rw [hs10_6]; decide) (by rw [hs10_6]; decide) (by decide) ?_
    refine lv_iload_n hx hb dX12_goesOn_173 rfl (lv_at hl 3 rfl) ?_
    refine nv_if_eq (tgt := 196) hx hb dX12_goesOn_174 (by decide) (by omega) (fun h174 => ?_) (fun h174 => ?_)
    · skip
      have en9 : tg_nxt (st x) (3 - k9) ins = 8 := by unfold tg_nxt; (repeat' split) <;> first | omega | (exfalso; simp_all; done)
      exact hend () trivial (by rw [en9]; exact hP) (by rw [en9]; exact hD) hS dX12_goesOn_196
    refine lv_aload_n hx hb dX12_goesOn_177 rfl (lv_at hl 1 rfl) ?_
    refine lv_iload_n hx hb dX12_goesOn_178 rfl (lv_at hl 2 rfl) ?_
    refine nv_iconst (k := 3) hx hb dX12_goesOn_179 rfl ?_
    refine wr_V S (c_X12_becomes (x := x) (y := 3) (by omega) (by omega) (by omega) (by omega)) kw5_114 yv_X12_becomes ⟨Nat.le_of_ble_eq_true rfl, Nat.le_of_ble_eq_true rfl⟩ hK hP hD hS hA (va_recv hK hP (ci := 9) (q0 := 0) rfl rfl) rfl hl.1 rfl (Nat.le_of_ble_eq_true rfl) dX12_goesOn_180 ⟨Nat.zero_le _, Nat.zero_le _⟩ (fun z_15 H locs hz_15 hP hD hS => ?_)
    have hP : va_P D vwCl (mW cy o ad tp os sz bits F G u nb ns T M id ft fo fi g pt ih il ip pn op so fa fp (va_up st x 3) (va_up en x (T + tg_life 3 (pt (so x)))) dr ++ tl) H := hP
    have hD : va_D A (mW cy o ad tp os sz bits F G u nb ns T M id ft fo fi g pt ih il ip pn op so fa fp (va_up st x 3) (va_up en x (T + tg_life 3 (pt (so x)))) dr ++ tl) := hD
    refine W.eq (g2 := F0 m 183 ls []) rfl ?_
    refine lv_goto (tgt := 196) hx hb dX12_goesOn_183 (by decide) ?_
    have en9 : tg_nxt (st x) (3 - k9) ins = 3 := by unfold tg_nxt; (repeat' split) <;> first | omega | (exfalso; simp_all; done)
    exact hend () trivial (by rw [en9]; exact hP) (by rw [en9]; exact hD) hS dX12_goesOn_196
  refine lv_tableOut (tgt := 186) hx hb dX12_goesOn_10 (by rw [nI_toInt (by omega)]; omega) (by decide) ?_
  refine lv_iload hx hb dX12_goesOn_186 (lv_at hl 0 rfl) ?_
  refine nv_if_ne (tgt := 196) hx hb dX12_goesOn_188 (by decide) (by omega) (fun h188 => ?_) (fun h188 => ?_)
  · skip
    have en9 : tg_nxt (st x) (3 - k9) ins = 8 := by unfold tg_nxt; (repeat' split) <;> first | omega | (exfalso; simp_all; done)
    exact hend () trivial (by rw [en9]; exact hP) (by rw [en9]; exact hD) hS dX12_goesOn_196
  refine lv_aload_n hx hb dX12_goesOn_191 rfl (lv_at hl 1 rfl) ?_
  refine lv_iload_n hx hb dX12_goesOn_192 rfl (lv_at hl 2 rfl) ?_
  refine wr_V S (c_X12_anew (x := x) (by omega) (by omega) (by omega) (by omega)) kw5_106 yv_X12_anew ⟨Nat.le_of_ble_eq_true rfl, Nat.le_of_ble_eq_true rfl⟩ hK hP hD hS hA (va_recv hK hP (ci := 9) (q0 := 0) rfl rfl) rfl hl.1 rfl (Nat.le_of_ble_eq_true rfl) dX12_goesOn_193 ⟨Nat.zero_le _, Nat.zero_le _⟩ (fun z_16 H locs hz_16 hP hD hS => ?_)
  have hP : va_P D vwCl (mW cy o ad tp os sz bits F G u nb ns T M id ft fo fi g pt ih il ip pn op so fa fp st (va_up en x (T + tg_life (st x) (pt (so x)))) dr ++ tl) H := hP
  have hD : va_D A (mW cy o ad tp os sz bits F G u nb ns T M id ft fo fi g pt ih il ip pn op so fa fp st (va_up en x (T + tg_life (st x) (pt (so x)))) dr ++ tl) := hD
  refine W.eq (g2 := F0 m 196 ls []) rfl ?_
  have est : va_up st x 0 = st := by have := va_up_id (f := st) (k := x); rwa [h188] at this
  rw [h188] at hP hD
  skip
  have hP : va_P D vwCl (mW cy o ad tp os sz bits F G u nb ns T M id ft fo fi g pt ih il ip pn op so fa fp (va_up st x 0) (va_up en x (T + tg_life 0 (pt (so x)))) dr ++ tl) H := by rw [est]; exact hP
  have hD : va_D A (mW cy o ad tp os sz bits F G u nb ns T M id ft fo fi g pt ih il ip pn op so fa fp (va_up st x 0) (va_up en x (T + tg_life 0 (pt (so x)))) dr ++ tl) := by rw [est]; exact hD
  have en9 : tg_nxt (st x) (3 - k9) ins = 0 := by unfold tg_nxt; (repeat' split) <;> first | omega | (exfalso; simp_all; done)
  exact hend () trivial (by rw [en9]; exact hP) (by rw [en9]; exact hD) hS dX12_goesOn_196
