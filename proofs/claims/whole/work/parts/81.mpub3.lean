set_option maxHeartbeats 4000000 in
set_option maxRecDepth 100000 in
theorem c_X12_bendN {l : Launch} {D : va_G} {cy : Nat → ClassId} {o : Nat} {ad : Nat → Nat} {tl : va_W} {tp os sz bits F G u nb ns T M id : Nat} {ft fo fi : Nat → UInt8} {g : Nat → Int32} {pt ih il ip pn op so fa fp st en dr : Nat → Nat} {i mk : Int32} (hin : tg_isIn i.toInt64 (lN 0) (lN tp - lN 1) = false) (htp : tp ≤ 1600) : RO l yX12_bend cX12_bend 4 (some .int) 1 25 [.ref o, .int i, .int mk] D cy (mW cy o ad tp os sz bits F G u nb ns T M id ft fo fi g pt ih il ip pn op so fa fp st en dr ++ tl) (.int (-1)) := by
  refine ROi (by decide) (lv0 := [(0, .ref o), (1, .int i), (2, .int mk)]) rfl (Nat.le_of_ble_eq_true rfl) ?_
  intro p e s m args below meth c ls Q S hP hK hend hl
  have hx := S.1
  have hb := S.2.1
  have hown : s.vm.findClass RX12 = some m.cls := S.2.2.2.1
  have ht : ∀ w ∈ lw_g, w.before args s = true := fun w h => S.2.2.2.2 w (List.mem_cons_of_mem _ h)
  have hP : va_P D vwCl (mW cy o ad tp os sz bits F G u nb ns T M id ft fo fi g pt ih il ip pn op so fa fp st en dr ++ tl) s.heap := hP
  refine lv_iload_n hx hb dX12_bend_0 rfl (lv_at hl 1 rfl) ?_
  refine lv_i2l hx hb dX12_bend_1 rfl ?_
  refine lv_lconst (v := lN 0) hx hb dX12_bend_2 (by decide) ?_
  refine lv_aload_n hx hb dX12_bend_3 rfl (lv_at hl 0 rfl) ?_
  refine va_get (ci := 9) (C := RX12) (T := TX12) (N := 28) hx hb ht iFX12 hown hK hP 0 rfl rfl 1 (by decide) (ht _ kw4_111) (fun _ h9 => h9) rfl dX12_bend_4 ?_
  refine nv_i2l hx hb (by omega) dX12_bend_7 ?_
  refine lv_lconst (v := lN 1) hx hb dX12_bend_8 (by decide) ?_
  refine lv_lsub hx hb dX12_bend_9 ?_
  refine ro_S S (c_X12_isIn (v := (i).toInt64) (lo := lN (0)) (hi := lN tp - lN 1)) kw5_14 yv_X12_isIn ⟨Nat.le_of_ble_eq_true rfl, Nat.le_of_ble_eq_true rfl⟩ hK hP rfl hl.1 rfl (Nat.le_of_ble_eq_true rfl) dX12_bend_10 ⟨(Nat.zero_le _), (Nat.zero_le _)⟩ ?_
  rw [hin]
  refine nv_if_neb (tgt := 18) hx hb dX12_bend_13 (by decide) (fun h => absurd h (by decide)) (fun _ => ?_)
  refine lv_iconst (v := -1) hx hb dX12_bend_16 (by decide) ?_
  exact hend (rfl) dX12_bend_17
theorem dX12_binding_0 : decode cX12_binding 0 = .ok (.iload_n 1, 1) := by decide +kernel
theorem dX12_binding_1 : decode cX12_binding 1 = .ok (.i2l, 1) := by decide +kernel
theorem dX12_binding_2 : decode cX12_binding 2 = .ok (.lconst 0, 1) := by decide +kernel
theorem dX12_binding_3 : decode cX12_binding 3 = .ok (.aload_n 0, 1) := by decide +kernel
theorem dX12_binding_4 : decode cX12_binding 4 = .ok (.getfield 80, 3) := by decide +kernel
theorem dX12_binding_7 : decode cX12_binding 7 = .ok (.i2l, 1) := by decide +kernel
theorem dX12_binding_8 : decode cX12_binding 8 = .ok (.lconst 1, 1) := by decide +kernel
theorem dX12_binding_9 : decode cX12_binding 9 = .ok (.lsub, 1) := by decide +kernel
theorem dX12_binding_10 : decode cX12_binding 10 = .ok (.invokestatic 178, 3) := by decide +kernel
theorem dX12_binding_13 : decode cX12_binding 13 = .ok (.ifCond .ne 5, 3) := by decide +kernel
theorem dX12_binding_16 : decode cX12_binding 16 = .ok (.iconst (-1), 1) := by decide +kernel
theorem dX12_binding_17 : decode cX12_binding 17 = .ok (.ireturn, 1) := by decide +kernel
theorem dX12_binding_18 : decode cX12_binding 18 = .ok (.iload_n 2, 1) := by decide +kernel
theorem dX12_binding_19 : decode cX12_binding 19 = .ok (.tableswitch 57 0 3 #[29, 36, 43, 50], 29) := by decide +kernel
theorem dX12_binding_48 : decode cX12_binding 48 = .ok (.aload_n 0, 1) := by decide +kernel
theorem dX12_binding_49 : decode cX12_binding 49 = .ok (.getfield 23, 3) := by decide +kernel
theorem dX12_binding_52 : decode cX12_binding 52 = .ok (.iload_n 1, 1) := by decide +kernel
theorem dX12_binding_53 : decode cX12_binding 53 = .ok (.iaload, 1) := by decide +kernel
theorem dX12_binding_54 : decode cX12_binding 54 = .ok (.ireturn, 1) := by decide +kernel
theorem dX12_binding_55 : decode cX12_binding 55 = .ok (.aload_n 0, 1) := by decide +kernel
theorem dX12_binding_56 : decode cX12_binding 56 = .ok (.getfield 33, 3) := by decide +kernel
theorem dX12_binding_59 : decode cX12_binding 59 = .ok (.iload_n 1, 1) := by decide +kernel
theorem dX12_binding_60 : decode cX12_binding 60 = .ok (.iaload, 1) := by decide +kernel
theorem dX12_binding_61 : decode cX12_binding 61 = .ok (.ireturn, 1) := by decide +kernel
theorem dX12_binding_62 : decode cX12_binding 62 = .ok (.aload_n 0, 1) := by decide +kernel
theorem dX12_binding_63 : decode cX12_binding 63 = .ok (.getfield 36, 3) := by decide +kernel
theorem dX12_binding_66 : decode cX12_binding 66 = .ok (.iload_n 1, 1) := by decide +kernel
theorem dX12_binding_67 : decode cX12_binding 67 = .ok (.iaload, 1) := by decide +kernel
theorem dX12_binding_68 : decode cX12_binding 68 = .ok (.ireturn, 1) := by decide +kernel
theorem dX12_binding_69 : decode cX12_binding 69 = .ok (.aload_n 0, 1) := by decide +kernel
theorem dX12_binding_70 : decode cX12_binding 70 = .ok (.getfield 39, 3) := by decide +kernel
theorem dX12_binding_73 : decode cX12_binding 73 = .ok (.iload_n 1, 1) := by decide +kernel
theorem dX12_binding_74 : decode cX12_binding 74 = .ok (.iaload, 1) := by decide +kernel
theorem dX12_binding_75 : decode cX12_binding 75 = .ok (.ireturn, 1) := by decide +kernel
theorem dX12_binding_76 : decode cX12_binding 76 = .ok (.iload_n 2, 1) := by decide +kernel
theorem dX12_binding_77 : decode cX12_binding 77 = .ok (.iconst 4, 1) := by decide +kernel
theorem dX12_binding_78 : decode cX12_binding 78 = .ok (.if_icmp .ne 11, 3) := by decide +kernel
theorem dX12_binding_81 : decode cX12_binding 81 = .ok (.aload_n 0, 1) := by decide +kernel
theorem dX12_binding_82 : decode cX12_binding 82 = .ok (.iload_n 1, 1) := by decide +kernel
theorem dX12_binding_83 : decode cX12_binding 83 = .ok (.invokevirtual 170, 3) := by decide +kernel
theorem dX12_binding_86 : decode cX12_binding 86 = .ok (.goto 4, 3) := by decide +kernel
theorem dX12_binding_89 : decode cX12_binding 89 = .ok (.iconst (-1), 1) := by decide +kernel
theorem dX12_binding_90 : decode cX12_binding 90 = .ok (.ireturn, 1) := by decide +kernel
theorem yv_X12_binding : YV RX12 yX12_binding cX12_binding 3 (some .int) 2 := ⟨kw5_190, kw5_191, kw1_10, kw5_192, by decide +kernel⟩
set_option maxHeartbeats 4000000 in
set_option maxRecDepth 100000 in
theorem c_X12_bindingN {l : Launch} {D : va_G} {cy : Nat → ClassId} {o : Nat} {ad : Nat → Nat} {tl : va_W} {tp os sz bits F G u nb ns T M id : Nat} {ft fo fi : Nat → UInt8} {g : Nat → Int32} {pt ih il ip pn op so fa fp st en dr : Nat → Nat} {i w : Int32} (hin : tg_isIn i.toInt64 (lN 0) (lN nb - lN 1) = false) (hnb : nb ≤ 64) : RO l yX12_binding cX12_binding 3 (some .int) 1 25 [.ref o, .int i, .int w] D cy (mW cy o ad tp os sz bits F G u nb ns T M id ft fo fi g pt ih il ip pn op so fa fp st en dr ++ tl) (.int (-1)) := by
  refine ROi (by decide) (lv0 := [(0, .ref o), (1, .int i), (2, .int w)]) rfl (Nat.le_of_ble_eq_true rfl) ?_
  intro p e s m args below meth c ls Q S hP hK hend hl
  have hx := S.1
  have hb := S.2.1
  have hown : s.vm.findClass RX12 = some m.cls := S.2.2.2.1
  have ht : ∀ w ∈ lw_g, w.before args s = true := fun w h => S.2.2.2.2 w (List.mem_cons_of_mem _ h)
  have hP : va_P D vwCl (mW cy o ad tp os sz bits F G u nb ns T M id ft fo fi g pt ih il ip pn op so fa fp st en dr ++ tl) s.heap := hP
  refine lv_iload_n hx hb dX12_binding_0 rfl (lv_at hl 1 rfl) ?_
  refine lv_i2l hx hb dX12_binding_1 rfl ?_
  refine lv_lconst (v := lN 0) hx hb dX12_binding_2 (by decide) ?_
  refine lv_aload_n hx hb dX12_binding_3 rfl (lv_at hl 0 rfl) ?_
  refine va_get (ci := 9) (C := RX12) (T := TX12) (N := 28) hx hb ht iFX12 hown hK hP 0 rfl rfl 11 (by decide) (ht _ kw4_121) (fun _ h9 => h9) rfl dX12_binding_4 ?_
  refine nv_i2l hx hb (by omega) dX12_binding_7 ?_
  refine lv_lconst (v := lN 1) hx hb dX12_binding_8 (by decide) ?_
  refine lv_lsub hx hb dX12_binding_9 ?_
  refine ro_S S (c_X12_isIn (v := (i).toInt64) (lo := lN (0)) (hi := lN nb - lN 1)) kw5_14 yv_X12_isIn ⟨Nat.le_of_ble_eq_true rfl, Nat.le_of_ble_eq_true rfl⟩ hK hP rfl hl.1 rfl (Nat.le_of_ble_eq_true rfl) dX12_binding_10 ⟨(Nat.zero_le _), (Nat.zero_le _)⟩ ?_
  rw [hin]
  refine nv_if_neb (tgt := 18) hx hb dX12_binding_13 (by decide) (fun h => absurd h (by decide)) (fun _ => ?_)
  refine lv_iconst (v := -1) hx hb dX12_binding_16 (by decide) ?_
  exact hend (rfl) dX12_binding_17
theorem dX12_inner_0 : decode cX12_inner 0 = .ok (.iload_n 1, 1) := by decide +kernel
theorem dX12_inner_1 : decode cX12_inner 1 = .ok (.i2l, 1) := by decide +kernel
theorem dX12_inner_2 : decode cX12_inner 2 = .ok (.lconst 0, 1) := by decide +kernel
theorem dX12_inner_3 : decode cX12_inner 3 = .ok (.aload_n 0, 1) := by decide +kernel
theorem dX12_inner_4 : decode cX12_inner 4 = .ok (.getfield 80, 3) := by decide +kernel
theorem dX12_inner_7 : decode cX12_inner 7 = .ok (.i2l, 1) := by decide +kernel
theorem dX12_inner_8 : decode cX12_inner 8 = .ok (.lconst 1, 1) := by decide +kernel
theorem dX12_inner_9 : decode cX12_inner 9 = .ok (.lsub, 1) := by decide +kernel
theorem dX12_inner_10 : decode cX12_inner 10 = .ok (.invokestatic 178, 3) := by decide +kernel
theorem dX12_inner_13 : decode cX12_inner 13 = .ok (.ifCond .ne 7, 3) := by decide +kernel
theorem dX12_inner_16 : decode cX12_inner 16 = .ok (.lconst 0, 1) := by decide +kernel
theorem dX12_inner_17 : decode cX12_inner 17 = .ok (.goto 22, 3) := by decide +kernel
theorem dX12_inner_20 : decode cX12_inner 20 = .ok (.iload_n 2, 1) := by decide +kernel
theorem dX12_inner_21 : decode cX12_inner 21 = .ok (.ifCond .eq 12, 3) := by decide +kernel
theorem dX12_inner_24 : decode cX12_inner 24 = .ok (.aload_n 0, 1) := by decide +kernel
theorem dX12_inner_25 : decode cX12_inner 25 = .ok (.getfield 30, 3) := by decide +kernel
theorem dX12_inner_28 : decode cX12_inner 28 = .ok (.iload_n 1, 1) := by decide +kernel
theorem dX12_inner_29 : decode cX12_inner 29 = .ok (.laload, 1) := by decide +kernel
theorem dX12_inner_30 : decode cX12_inner 30 = .ok (.goto 9, 3) := by decide +kernel
theorem dX12_inner_33 : decode cX12_inner 33 = .ok (.aload_n 0, 1) := by decide +kernel
theorem dX12_inner_34 : decode cX12_inner 34 = .ok (.getfield 26, 3) := by decide +kernel
theorem dX12_inner_37 : decode cX12_inner 37 = .ok (.iload_n 1, 1) := by decide +kernel
theorem dX12_inner_38 : decode cX12_inner 38 = .ok (.laload, 1) := by decide +kernel
theorem dX12_inner_39 : decode cX12_inner 39 = .ok (.lreturn, 1) := by decide +kernel
theorem yv_X12_inner : YV RX12 yX12_inner cX12_inner 3 (some .long) 2 := ⟨kw5_194, kw5_195, kw1_10, kw5_196, by decide +kernel⟩
set_option maxHeartbeats 4000000 in
set_option maxRecDepth 100000 in
theorem c_X12_innerN {l : Launch} {D : va_G} {cy : Nat → ClassId} {o : Nat} {ad : Nat → Nat} {tl : va_W} {tp os sz bits F G u nb ns T M id : Nat} {ft fo fi : Nat → UInt8} {g : Nat → Int32} {pt ih il ip pn op so fa fp st en dr : Nat → Nat} {i : Int32} {lw : Bool} (hin : tg_isIn i.toInt64 (lN 0) (lN nb - lN 1) = false) (hnb : nb ≤ 64) : RO l yX12_inner cX12_inner 3 (some .long) 1 25 [.ref o, .int i, .int (bI (lw))] D cy (mW cy o ad tp os sz bits F G u nb ns T M id ft fo fi g pt ih il ip pn op so fa fp st en dr ++ tl) (.long (lN 0)) := by
  refine ROl (by decide) (lv0 := [(0, .ref o), (1, .int i), (2, .int (bI (lw)))]) rfl (Nat.le_of_ble_eq_true rfl) ?_
  intro p e s m args below meth c ls Q S hP hK hend hl
  have hx := S.1
  have hb := S.2.1
  have hown : s.vm.findClass RX12 = some m.cls := S.2.2.2.1
  have ht : ∀ w ∈ lw_g, w.before args s = true := fun w h => S.2.2.2.2 w (List.mem_cons_of_mem _ h)
  have hP : va_P D vwCl (mW cy o ad tp os sz bits F G u nb ns T M id ft fo fi g pt ih il ip pn op so fa fp st en dr ++ tl) s.heap := hP
  refine lv_iload_n hx hb dX12_inner_0 rfl (lv_at hl 1 rfl) ?_
  refine lv_i2l hx hb dX12_inner_1 rfl ?_
  refine lv_lconst (v := lN 0) hx hb dX12_inner_2 (by decide) ?_
  refine lv_aload_n hx hb dX12_inner_3 rfl (lv_at hl 0 rfl) ?_
  refine va_get (ci := 9) (C := RX12) (T := TX12) (N := 28) hx hb ht iFX12 hown hK hP 0 rfl rfl 11 (by decide) (ht _ kw4_121) (fun _ h9 => h9) rfl dX12_inner_4 ?_
  refine nv_i2l hx hb (by omega) dX12_inner_7 ?_
  refine lv_lconst (v := lN 1) hx hb dX12_inner_8 (by decide) ?_
  refine lv_lsub hx hb dX12_inner_9 ?_
  refine ro_S S (c_X12_isIn (v := (i).toInt64) (lo := lN (0)) (hi := lN nb - lN 1)) kw5_14 yv_X12_isIn ⟨Nat.le_of_ble_eq_true rfl, Nat.le_of_ble_eq_true rfl⟩ hK hP rfl hl.1 rfl (Nat.le_of_ble_eq_true rfl) dX12_inner_10 ⟨(Nat.zero_le _), (Nat.zero_le _)⟩ ?_
  rw [hin]
  refine nv_if_neb (tgt := 20) hx hb dX12_inner_13 (by decide) (fun h => absurd h (by decide)) (fun _ => ?_)
  refine lv_lconst (v := lN 0) hx hb dX12_inner_16 (by decide) ?_
  refine lv_goto (tgt := 39) hx hb dX12_inner_17 (by decide) ?_
  exact hend (rfl) dX12_inner_39
theorem dX12_session_0 : decode cX12_session 0 = .ok (.iload_n 1, 1) := by decide +kernel
theorem dX12_session_1 : decode cX12_session 1 = .ok (.i2l, 1) := by decide +kernel
theorem dX12_session_2 : decode cX12_session 2 = .ok (.lconst 0, 1) := by decide +kernel
theorem dX12_session_3 : decode cX12_session 3 = .ok (.aload_n 0, 1) := by decide +kernel
theorem dX12_session_4 : decode cX12_session 4 = .ok (.getfield 83, 3) := by decide +kernel
theorem dX12_session_7 : decode cX12_session 7 = .ok (.i2l, 1) := by decide +kernel
theorem dX12_session_8 : decode cX12_session 8 = .ok (.lconst 1, 1) := by decide +kernel
theorem dX12_session_9 : decode cX12_session 9 = .ok (.lsub, 1) := by decide +kernel
theorem dX12_session_10 : decode cX12_session 10 = .ok (.invokestatic 178, 3) := by decide +kernel
theorem dX12_session_13 : decode cX12_session 13 = .ok (.ifCond .ne 5, 3) := by decide +kernel
theorem dX12_session_16 : decode cX12_session 16 = .ok (.iconst (-1), 1) := by decide +kernel
theorem dX12_session_17 : decode cX12_session 17 = .ok (.ireturn, 1) := by decide +kernel
theorem dX12_session_18 : decode cX12_session 18 = .ok (.iload_n 2, 1) := by decide +kernel
theorem dX12_session_19 : decode cX12_session 19 = .ok (.tableswitch 57 0 3 #[29, 36, 43, 50], 29) := by decide +kernel
theorem dX12_session_48 : decode cX12_session 48 = .ok (.aload_n 0, 1) := by decide +kernel
theorem dX12_session_49 : decode cX12_session 49 = .ok (.getfield 42, 3) := by decide +kernel
theorem dX12_session_52 : decode cX12_session 52 = .ok (.iload_n 1, 1) := by decide +kernel
theorem dX12_session_53 : decode cX12_session 53 = .ok (.iaload, 1) := by decide +kernel
theorem dX12_session_54 : decode cX12_session 54 = .ok (.ireturn, 1) := by decide +kernel
theorem dX12_session_55 : decode cX12_session 55 = .ok (.aload_n 0, 1) := by decide +kernel
theorem dX12_session_56 : decode cX12_session 56 = .ok (.getfield 45, 3) := by decide +kernel
theorem dX12_session_59 : decode cX12_session 59 = .ok (.iload_n 1, 1) := by decide +kernel
theorem dX12_session_60 : decode cX12_session 60 = .ok (.iaload, 1) := by decide +kernel
theorem dX12_session_61 : decode cX12_session 61 = .ok (.ireturn, 1) := by decide +kernel
theorem dX12_session_62 : decode cX12_session 62 = .ok (.aload_n 0, 1) := by decide +kernel
theorem dX12_session_63 : decode cX12_session 63 = .ok (.getfield 48, 3) := by decide +kernel
theorem dX12_session_66 : decode cX12_session 66 = .ok (.iload_n 1, 1) := by decide +kernel
theorem dX12_session_67 : decode cX12_session 67 = .ok (.iaload, 1) := by decide +kernel
theorem dX12_session_68 : decode cX12_session 68 = .ok (.ireturn, 1) := by decide +kernel
theorem dX12_session_69 : decode cX12_session 69 = .ok (.aload_n 0, 1) := by decide +kernel
theorem dX12_session_70 : decode cX12_session 70 = .ok (.getfield 51, 3) := by decide +kernel
theorem dX12_session_73 : decode cX12_session 73 = .ok (.iload_n 1, 1) := by decide +kernel
theorem dX12_session_74 : decode cX12_session 74 = .ok (.iaload, 1) := by decide +kernel
theorem dX12_session_75 : decode cX12_session 75 = .ok (.ireturn, 1) := by decide +kernel
theorem dX12_session_76 : decode cX12_session 76 = .ok (.iload_n 2, 1) := by decide +kernel
theorem dX12_session_77 : decode cX12_session 77 = .ok (.iconst 4, 1) := by decide +kernel
theorem dX12_session_78 : decode cX12_session 78 = .ok (.if_icmp .ne 17, 3) := by decide +kernel
theorem dX12_session_81 : decode cX12_session 81 = .ok (.aload_n 0, 1) := by decide +kernel
theorem dX12_session_82 : decode cX12_session 82 = .ok (.getfield 54, 3) := by decide +kernel
theorem dX12_session_85 : decode cX12_session 85 = .ok (.iload_n 1, 1) := by decide +kernel
theorem dX12_session_86 : decode cX12_session 86 = .ok (.iaload, 1) := by decide +kernel
theorem dX12_session_87 : decode cX12_session 87 = .ok (.aload_n 0, 1) := by decide +kernel
theorem dX12_session_88 : decode cX12_session 88 = .ok (.getfield 163, 3) := by decide +kernel
theorem dX12_session_91 : decode cX12_session 91 = .ok (.isub, 1) := by decide +kernel
theorem dX12_session_92 : decode cX12_session 92 = .ok (.goto 4, 3) := by decide +kernel
theorem dX12_session_95 : decode cX12_session 95 = .ok (.iconst (-1), 1) := by decide +kernel
theorem dX12_session_96 : decode cX12_session 96 = .ok (.ireturn, 1) := by decide +kernel
theorem yv_X12_session : YV RX12 yX12_session cX12_session 3 (some .int) 2 := ⟨kw5_198, kw5_199, kw1_10, kw5_200, by decide +kernel⟩
set_option maxHeartbeats 4000000 in
set_option maxRecDepth 100000 in
theorem c_X12_sessionN {l : Launch} {D : va_G} {cy : Nat → ClassId} {o : Nat} {ad : Nat → Nat} {tl : va_W} {tp os sz bits F G u nb ns T M id : Nat} {ft fo fi : Nat → UInt8} {g : Nat → Int32} {pt ih il ip pn op so fa fp st en dr : Nat → Nat} {i w : Int32} (hin : tg_isIn i.toInt64 (lN 0) (lN ns - lN 1) = false) (hns : ns ≤ 128) : RO l yX12_session cX12_session 3 (some .int) 1 25 [.ref o, .int i, .int w] D cy (mW cy o ad tp os sz bits F G u nb ns T M id ft fo fi g pt ih il ip pn op so fa fp st en dr ++ tl) (.int (-1)) := by
  refine ROi (by decide) (lv0 := [(0, .ref o), (1, .int i), (2, .int w)]) rfl (Nat.le_of_ble_eq_true rfl) ?_
  intro p e s m args below meth c ls Q S hP hK hend hl
  have hx := S.1
  have hb := S.2.1
  have hown : s.vm.findClass RX12 = some m.cls := S.2.2.2.1
  have ht : ∀ w ∈ lw_g, w.before args s = true := fun w h => S.2.2.2.2 w (List.mem_cons_of_mem _ h)
  have hP : va_P D vwCl (mW cy o ad tp os sz bits F G u nb ns T M id ft fo fi g pt ih il ip pn op so fa fp st en dr ++ tl) s.heap := hP
  refine lv_iload_n hx hb dX12_session_0 rfl (lv_at hl 1 rfl) ?_
  refine lv_i2l hx hb dX12_session_1 rfl ?_
  refine lv_lconst (v := lN 0) hx hb dX12_session_2 (by decide) ?_
  refine lv_aload_n hx hb dX12_session_3 rfl (lv_at hl 0 rfl) ?_
  refine va_get (ci := 9) (C := RX12) (T := TX12) (N := 28) hx hb ht iFX12 hown hK hP 0 rfl rfl 18 (by decide) (ht _ kw4_128) (fun _ h9 => h9) rfl dX12_session_4 ?_
  refine nv_i2l hx hb (by omega) dX12_session_7 ?_
  refine lv_lconst (v := lN 1) hx hb dX12_session_8 (by decide) ?_
  refine lv_lsub hx hb dX12_session_9 ?_
  refine ro_S S (c_X12_isIn (v := (i).toInt64) (lo := lN (0)) (hi := lN ns - lN 1)) kw5_14 yv_X12_isIn ⟨Nat.le_of_ble_eq_true rfl, Nat.le_of_ble_eq_true rfl⟩ hK hP rfl hl.1 rfl (Nat.le_of_ble_eq_true rfl) dX12_session_10 ⟨(Nat.zero_le _), (Nat.zero_le _)⟩ ?_
  rw [hin]
  refine nv_if_neb (tgt := 18) hx hb dX12_session_13 (by decide) (fun h => absurd h (by decide)) (fun _ => ?_)
  refine lv_iconst (v := -1) hx hb dX12_session_16 (by decide) ?_
  exact hend (rfl) dX12_session_17
theorem dX12_inside_0 : decode cX12_inside 0 = .ok (.iload_n 1, 1) := by decide +kernel
theorem dX12_inside_1 : decode cX12_inside 1 = .ok (.i2l, 1) := by decide +kernel
theorem dX12_inside_2 : decode cX12_inside 2 = .ok (.lconst 0, 1) := by decide +kernel
theorem dX12_inside_3 : decode cX12_inside 3 = .ok (.aload_n 0, 1) := by decide +kernel
theorem dX12_inside_4 : decode cX12_inside 4 = .ok (.getfield 118, 3) := by decide +kernel
theorem dX12_inside_7 : decode cX12_inside 7 = .ok (.i2l, 1) := by decide +kernel
theorem dX12_inside_8 : decode cX12_inside 8 = .ok (.invokestatic 178, 3) := by decide +kernel
theorem dX12_inside_11 : decode cX12_inside 11 = .ok (.ifCond .ne 5, 3) := by decide +kernel
theorem dX12_inside_14 : decode cX12_inside 14 = .ok (.iconst (-1), 1) := by decide +kernel
theorem dX12_inside_15 : decode cX12_inside 15 = .ok (.ireturn, 1) := by decide +kernel
theorem dX12_inside_16 : decode cX12_inside 16 = .ok (.aload_n 0, 1) := by decide +kernel
theorem dX12_inside_17 : decode cX12_inside 17 = .ok (.iload_n 1, 1) := by decide +kernel
theorem dX12_inside_18 : decode cX12_inside 18 = .ok (.invokevirtual 197, 3) := by decide +kernel
theorem dX12_inside_21 : decode cX12_inside 21 = .ok (.aload_n 0, 1) := by decide +kernel
theorem dX12_inside_22 : decode cX12_inside 22 = .ok (.invokevirtual 200, 3) := by decide +kernel
theorem dX12_inside_25 : decode cX12_inside 25 = .ok (.istore_n 2, 1) := by decide +kernel
theorem dX12_inside_26 : decode cX12_inside 26 = .ok (.iload_n 2, 1) := by decide +kernel
theorem dX12_inside_27 : decode cX12_inside 27 = .ok (.ifCond .le 9, 3) := by decide +kernel
theorem dX12_inside_30 : decode cX12_inside 30 = .ok (.aload_n 0, 1) := by decide +kernel
theorem dX12_inside_31 : decode cX12_inside 31 = .ok (.iload_n 2, 1) := by decide +kernel
theorem dX12_inside_32 : decode cX12_inside 32 = .ok (.invokevirtual 203, 3) := by decide +kernel
theorem dX12_inside_35 : decode cX12_inside 35 = .ok (.ireturn, 1) := by decide +kernel
theorem dX12_inside_36 : decode cX12_inside 36 = .ok (.aload_n 0, 1) := by decide +kernel
theorem dX12_inside_37 : decode cX12_inside 37 = .ok (.getfield 16, 3) := by decide +kernel
theorem dX12_inside_40 : decode cX12_inside 40 = .ok (.bipush 6, 2) := by decide +kernel
theorem dX12_inside_42 : decode cX12_inside 42 = .ok (.invokestatic 124, 3) := by decide +kernel
theorem dX12_inside_45 : decode cX12_inside 45 = .ok (.istore_n 3, 1) := by decide +kernel
theorem dX12_inside_46 : decode cX12_inside 46 = .ok (.iload_n 3, 1) := by decide +kernel
theorem dX12_inside_47 : decode cX12_inside 47 = .ok (.bipush 58, 2) := by decide +kernel
theorem dX12_inside_49 : decode cX12_inside 49 = .ok (.if_icmp .ne 7, 3) := by decide +kernel
theorem dX12_inside_52 : decode cX12_inside 52 = .ok (.iconst 1, 1) := by decide +kernel
theorem dX12_inside_53 : decode cX12_inside 53 = .ok (.goto 4, 3) := by decide +kernel
theorem dX12_inside_56 : decode cX12_inside 56 = .ok (.iload_n 3, 1) := by decide +kernel
theorem dX12_inside_57 : decode cX12_inside 57 = .ok (.istore 4, 2) := by decide +kernel
theorem dX12_inside_59 : decode cX12_inside 59 = .ok (.aload_n 0, 1) := by decide +kernel
theorem dX12_inside_60 : decode cX12_inside 60 = .ok (.getfield 16, 3) := by decide +kernel
theorem dX12_inside_63 : decode cX12_inside 63 = .ok (.bipush 8, 2) := by decide +kernel
theorem dX12_inside_65 : decode cX12_inside 65 = .ok (.invokestatic 193, 3) := by decide +kernel
theorem dX12_inside_68 : decode cX12_inside 68 = .ok (.lstore 5, 2) := by decide +kernel
theorem dX12_inside_70 : decode cX12_inside 70 = .ok (.aload_n 0, 1) := by decide +kernel
theorem dX12_inside_71 : decode cX12_inside 71 = .ok (.getfield 16, 3) := by decide +kernel
theorem dX12_inside_74 : decode cX12_inside 74 = .ok (.bipush 16, 2) := by decide +kernel
theorem dX12_inside_76 : decode cX12_inside 76 = .ok (.invokestatic 193, 3) := by decide +kernel
theorem dX12_inside_79 : decode cX12_inside 79 = .ok (.lstore 7, 2) := by decide +kernel
theorem dX12_inside_81 : decode cX12_inside 81 = .ok (.iload 4, 2) := by decide +kernel
theorem dX12_inside_83 : decode cX12_inside 83 = .ok (.iconst 1, 1) := by decide +kernel
theorem dX12_inside_84 : decode cX12_inside 84 = .ok (.if_icmp .ne 15, 3) := by decide +kernel
theorem dX12_inside_87 : decode cX12_inside 87 = .ok (.aload_n 0, 1) := by decide +kernel
theorem dX12_inside_88 : decode cX12_inside 88 = .ok (.getfield 16, 3) := by decide +kernel
theorem dX12_inside_91 : decode cX12_inside 91 = .ok (.bipush 44, 2) := by decide +kernel
theorem dX12_inside_93 : decode cX12_inside 93 = .ok (.invokestatic 128, 3) := by decide +kernel
theorem dX12_inside_96 : decode cX12_inside 96 = .ok (.goto 12, 3) := by decide +kernel
theorem dX12_inside_99 : decode cX12_inside 99 = .ok (.aload_n 0, 1) := by decide +kernel
theorem dX12_inside_100 : decode cX12_inside 100 = .ok (.getfield 16, 3) := by decide +kernel
theorem dX12_inside_103 : decode cX12_inside 103 = .ok (.bipush 40, 2) := by decide +kernel
theorem dX12_inside_105 : decode cX12_inside 105 = .ok (.invokestatic 128, 3) := by decide +kernel
theorem dX12_inside_108 : decode cX12_inside 108 = .ok (.istore 9, 2) := by decide +kernel
theorem dX12_inside_110 : decode cX12_inside 110 = .ok (.aload_n 0, 1) := by decide +kernel
theorem dX12_inside_111 : decode cX12_inside 111 = .ok (.aload_n 0, 1) := by decide +kernel
theorem dX12_inside_112 : decode cX12_inside 112 = .ok (.getfield 16, 3) := by decide +kernel
theorem dX12_inside_115 : decode cX12_inside 115 = .ok (.bipush 24, 2) := by decide +kernel
theorem dX12_inside_117 : decode cX12_inside 117 = .ok (.invokestatic 193, 3) := by decide +kernel
theorem dX12_inside_120 : decode cX12_inside 120 = .ok (.aload_n 0, 1) := by decide +kernel
theorem dX12_inside_121 : decode cX12_inside 121 = .ok (.getfield 16, 3) := by decide +kernel
theorem dX12_inside_124 : decode cX12_inside 124 = .ok (.bipush 32, 2) := by decide +kernel
theorem dX12_inside_126 : decode cX12_inside 126 = .ok (.invokestatic 193, 3) := by decide +kernel
theorem dX12_inside_129 : decode cX12_inside 129 = .ok (.invokevirtual 112, 3) := by decide +kernel
theorem dX12_inside_132 : decode cX12_inside 132 = .ok (.istore 10, 2) := by decide +kernel
theorem dX12_inside_134 : decode cX12_inside 134 = .ok (.iload 4, 2) := by decide +kernel
theorem dX12_inside_136 : decode cX12_inside 136 = .ok (.iconst 1, 1) := by decide +kernel
theorem dX12_inside_137 : decode cX12_inside 137 = .ok (.if_icmp .ne 7, 3) := by decide +kernel
theorem dX12_inside_140 : decode cX12_inside 140 = .ok (.iconst 0, 1) := by decide +kernel
theorem dX12_inside_141 : decode cX12_inside 141 = .ok (.goto 12, 3) := by decide +kernel
theorem dX12_inside_144 : decode cX12_inside 144 = .ok (.aload_n 0, 1) := by decide +kernel
theorem dX12_inside_145 : decode cX12_inside 145 = .ok (.getfield 16, 3) := by decide +kernel
theorem dX12_inside_148 : decode cX12_inside 148 = .ok (.bipush 42, 2) := by decide +kernel
theorem dX12_inside_150 : decode cX12_inside 150 = .ok (.invokestatic 128, 3) := by decide +kernel
theorem dX12_inside_153 : decode cX12_inside 153 = .ok (.istore 11, 2) := by decide +kernel
theorem dX12_inside_155 : decode cX12_inside 155 = .ok (.iload 4, 2) := by decide +kernel
theorem dX12_inside_157 : decode cX12_inside 157 = .ok (.bipush 6, 2) := by decide +kernel
theorem dX12_inside_159 : decode cX12_inside 159 = .ok (.if_icmp .ne 15, 3) := by decide +kernel
theorem dX12_inside_162 : decode cX12_inside 162 = .ok (.aload_n 0, 1) := by decide +kernel
theorem dX12_inside_163 : decode cX12_inside 163 = .ok (.getfield 16, 3) := by decide +kernel
theorem dX12_inside_166 : decode cX12_inside 166 = .ok (.bipush 40, 2) := by decide +kernel
theorem dX12_inside_168 : decode cX12_inside 168 = .ok (.invokestatic 206, 3) := by decide +kernel
theorem dX12_inside_171 : decode cX12_inside 171 = .ok (.goto 4, 3) := by decide +kernel
theorem dX12_inside_174 : decode cX12_inside 174 = .ok (.iconst 3, 1) := by decide +kernel
theorem dX12_inside_175 : decode cX12_inside 175 = .ok (.istore 12, 2) := by decide +kernel
theorem dX12_inside_177 : decode cX12_inside 177 = .ok (.aload_n 0, 1) := by decide +kernel
theorem dX12_inside_178 : decode cX12_inside 178 = .ok (.iload 4, 2) := by decide +kernel
theorem dX12_inside_180 : decode cX12_inside 180 = .ok (.lload 5, 2) := by decide +kernel
theorem dX12_inside_182 : decode cX12_inside 182 = .ok (.lload 7, 2) := by decide +kernel
theorem dX12_inside_184 : decode cX12_inside 184 = .ok (.iload 9, 2) := by decide +kernel
theorem dX12_inside_186 : decode cX12_inside 186 = .ok (.invokevirtual 209, 3) := by decide +kernel
theorem dX12_inside_189 : decode cX12_inside 189 = .ok (.istore 13, 2) := by decide +kernel
theorem dX12_inside_191 : decode cX12_inside 191 = .ok (.iload 13, 2) := by decide +kernel
theorem dX12_inside_193 : decode cX12_inside 193 = .ok (.ifCond .ge 7, 3) := by decide +kernel
theorem dX12_inside_196 : decode cX12_inside 196 = .ok (.iconst (-1), 1) := by decide +kernel
theorem dX12_inside_197 : decode cX12_inside 197 = .ok (.goto 13, 3) := by decide +kernel
theorem dX12_inside_200 : decode cX12_inside 200 = .ok (.aload_n 0, 1) := by decide +kernel
theorem dX12_inside_201 : decode cX12_inside 201 = .ok (.iload 13, 2) := by decide +kernel
theorem dX12_inside_203 : decode cX12_inside 203 = .ok (.iload 10, 2) := by decide +kernel
theorem dX12_inside_205 : decode cX12_inside 205 = .ok (.iload 11, 2) := by decide +kernel
theorem dX12_inside_207 : decode cX12_inside 207 = .ok (.invokevirtual 213, 3) := by decide +kernel
theorem dX12_inside_210 : decode cX12_inside 210 = .ok (.istore 14, 2) := by decide +kernel
theorem dX12_inside_212 : decode cX12_inside 212 = .ok (.iload 14, 2) := by decide +kernel
theorem dX12_inside_214 : decode cX12_inside 214 = .ok (.ifCond .ge 47, 3) := by decide +kernel
theorem dX12_inside_217 : decode cX12_inside 217 = .ok (.iload 4, 2) := by decide +kernel
theorem dX12_inside_219 : decode cX12_inside 219 = .ok (.bipush 6, 2) := by decide +kernel
theorem dX12_inside_221 : decode cX12_inside 221 = .ok (.if_icmp .ne 9, 3) := by decide +kernel
theorem dX12_inside_224 : decode cX12_inside 224 = .ok (.iload 12, 2) := by decide +kernel
theorem dX12_inside_226 : decode cX12_inside 226 = .ok (.iconst 1, 1) := by decide +kernel
theorem dX12_inside_227 : decode cX12_inside 227 = .ok (.if_icmp .ne 27, 3) := by decide +kernel
theorem dX12_inside_230 : decode cX12_inside 230 = .ok (.aload_n 0, 1) := by decide +kernel
theorem dX12_inside_231 : decode cX12_inside 231 = .ok (.getfield 83, 3) := by decide +kernel
theorem dX12_inside_234 : decode cX12_inside 234 = .ok (.sipush 128, 3) := by decide +kernel
theorem dX12_inside_237 : decode cX12_inside 237 = .ok (.if_icmp .eq 17, 3) := by decide +kernel
theorem dX12_inside_240 : decode cX12_inside 240 = .ok (.iload 13, 2) := by decide +kernel
theorem dX12_inside_242 : decode cX12_inside 242 = .ok (.ifCond .ge 19, 3) := by decide +kernel
theorem dX12_inside_245 : decode cX12_inside 245 = .ok (.aload_n 0, 1) := by decide +kernel
theorem dX12_inside_246 : decode cX12_inside 246 = .ok (.getfield 80, 3) := by decide +kernel
theorem dX12_inside_249 : decode cX12_inside 249 = .ok (.bipush 64, 2) := by decide +kernel
theorem dX12_inside_251 : decode cX12_inside 251 = .ok (.if_icmp .ne 10, 3) := by decide +kernel
theorem dX12_inside_254 : decode cX12_inside 254 = .ok (.aload_n 0, 1) := by decide +kernel
theorem dX12_inside_255 : decode cX12_inside 255 = .ok (.bipush 15, 2) := by decide +kernel
theorem dX12_inside_257 : decode cX12_inside 257 = .ok (.invokevirtual 203, 3) := by decide +kernel
theorem dX12_inside_260 : decode cX12_inside 260 = .ok (.ireturn, 1) := by decide +kernel
theorem dX12_inside_261 : decode cX12_inside 261 = .ok (.iload 13, 2) := by decide +kernel
theorem dX12_inside_263 : decode cX12_inside 263 = .ok (.ifCond .ge 17, 3) := by decide +kernel
theorem dX12_inside_266 : decode cX12_inside 266 = .ok (.aload_n 0, 1) := by decide +kernel
theorem dX12_inside_267 : decode cX12_inside 267 = .ok (.iload 4, 2) := by decide +kernel
theorem dX12_inside_269 : decode cX12_inside 269 = .ok (.lload 5, 2) := by decide +kernel
theorem dX12_inside_271 : decode cX12_inside 271 = .ok (.lload 7, 2) := by decide +kernel
theorem dX12_inside_273 : decode cX12_inside 273 = .ok (.iload 9, 2) := by decide +kernel
theorem dX12_inside_275 : decode cX12_inside 275 = .ok (.invokevirtual 216, 3) := by decide +kernel
theorem dX12_inside_278 : decode cX12_inside 278 = .ok (.istore 13, 2) := by decide +kernel
theorem dX12_inside_280 : decode cX12_inside 280 = .ok (.iload 14, 2) := by decide +kernel
theorem dX12_inside_282 : decode cX12_inside 282 = .ok (.ifCond .ge 19, 3) := by decide +kernel
theorem dX12_inside_285 : decode cX12_inside 285 = .ok (.aload_n 0, 1) := by decide +kernel
theorem dX12_inside_286 : decode cX12_inside 286 = .ok (.iload 13, 2) := by decide +kernel
theorem dX12_inside_288 : decode cX12_inside 288 = .ok (.iload 10, 2) := by decide +kernel
theorem dX12_inside_290 : decode cX12_inside 290 = .ok (.iload 11, 2) := by decide +kernel
theorem dX12_inside_292 : decode cX12_inside 292 = .ok (.iconst 1, 1) := by decide +kernel
theorem dX12_inside_293 : decode cX12_inside 293 = .ok (.invokevirtual 219, 3) := by decide +kernel
theorem dX12_inside_296 : decode cX12_inside 296 = .ok (.istore 14, 2) := by decide +kernel
theorem dX12_inside_298 : decode cX12_inside 298 = .ok (.goto 12, 3) := by decide +kernel
theorem dX12_inside_301 : decode cX12_inside 301 = .ok (.aload_n 0, 1) := by decide +kernel
theorem dX12_inside_302 : decode cX12_inside 302 = .ok (.iload 14, 2) := by decide +kernel
theorem dX12_inside_304 : decode cX12_inside 304 = .ok (.iload 12, 2) := by decide +kernel
theorem dX12_inside_306 : decode cX12_inside 306 = .ok (.iconst 1, 1) := by decide +kernel
theorem dX12_inside_307 : decode cX12_inside 307 = .ok (.invokevirtual 223, 3) := by decide +kernel
theorem dX12_inside_310 : decode cX12_inside 310 = .ok (.aload_n 0, 1) := by decide +kernel
theorem dX12_inside_311 : decode cX12_inside 311 = .ok (.iload 4, 2) := by decide +kernel
theorem dX12_inside_313 : decode cX12_inside 313 = .ok (.iload 13, 2) := by decide +kernel
theorem dX12_inside_315 : decode cX12_inside 315 = .ok (.iload 10, 2) := by decide +kernel
theorem dX12_inside_317 : decode cX12_inside 317 = .ok (.invokevirtual 227, 3) := by decide +kernel
theorem dX12_inside_320 : decode cX12_inside 320 = .ok (.aload_n 0, 1) := by decide +kernel
theorem dX12_inside_321 : decode cX12_inside 321 = .ok (.dup, 1) := by decide +kernel
theorem dX12_inside_322 : decode cX12_inside 322 = .ok (.getfield 231, 3) := by decide +kernel
theorem dX12_inside_325 : decode cX12_inside 325 = .ok (.iconst 1, 1) := by decide +kernel
theorem dX12_inside_326 : decode cX12_inside 326 = .ok (.iadd, 1) := by decide +kernel
theorem dX12_inside_327 : decode cX12_inside 327 = .ok (.putfield 231, 3) := by decide +kernel
theorem dX12_inside_330 : decode cX12_inside 330 = .ok (.aload_n 0, 1) := by decide +kernel
theorem dX12_inside_331 : decode cX12_inside 331 = .ok (.getfield 234, 3) := by decide +kernel
theorem dX12_inside_334 : decode cX12_inside 334 = .ok (.ireturn, 1) := by decide +kernel
theorem yv_X12_inside : YV RX12 yX12_inside cX12_inside 15 (some .int) 1 := ⟨kw5_30, kw5_31, kw1_10, kw5_32, by decide +kernel⟩
set_option maxHeartbeats 4000000 in
set_option maxRecDepth 100000 in
theorem c_X12_insideN {l : Launch} {D : va_G} {cy : Nat → ClassId} {o : Nat} {ad : Nat → Nat} {tl : va_W} {tp os sz bits F G u nb ns T M id : Nat} {ft fo fi : Nat → UInt8} {g : Nat → Int32} {pt ih il ip pn op so fa fp st en dr : Nat → Nat} {i : Int32} (hin : tg_isIn i.toInt64 (lN 0) (lN tp) = false) (htp : tp ≤ 1600) : RO l yX12_inside cX12_inside 15 (some .int) 1 25 [.ref o, .int i] D cy (mW cy o ad tp os sz bits F G u nb ns T M id ft fo fi g pt ih il ip pn op so fa fp st en dr ++ tl) (.int (-1)) := by
  refine ROi (by decide) (lv0 := [(0, .ref o), (1, .int i)]) rfl (Nat.le_of_ble_eq_true rfl) ?_
  intro p e s m args below meth c ls Q S hP hK hend hl
  have hx := S.1
  have hb := S.2.1
  have hown : s.vm.findClass RX12 = some m.cls := S.2.2.2.1
  have ht : ∀ w ∈ lw_g, w.before args s = true := fun w h => S.2.2.2.2 w (List.mem_cons_of_mem _ h)
  have hP : va_P D vwCl (mW cy o ad tp os sz bits F G u nb ns T M id ft fo fi g pt ih il ip pn op so fa fp st en dr ++ tl) s.heap := hP
  refine lv_iload_n hx hb dX12_inside_0 rfl (lv_at hl 1 rfl) ?_
  refine lv_i2l hx hb dX12_inside_1 rfl ?_
  refine lv_lconst (v := lN 0) hx hb dX12_inside_2 (by decide) ?_
  refine lv_aload_n hx hb dX12_inside_3 rfl (lv_at hl 0 rfl) ?_
  refine va_get (ci := 9) (C := RX12) (T := TX12) (N := 28) hx hb ht iFX12 hown hK hP 0 rfl rfl 1 (by decide) (ht _ kw4_111) (fun _ h9 => h9) rfl dX12_inside_4 ?_
  refine nv_i2l hx hb (by omega) dX12_inside_7 ?_
  refine ro_S S (c_X12_isIn (v := (i).toInt64) (lo := lN (0)) (hi := lN (tp))) kw5_14 yv_X12_isIn ⟨Nat.le_of_ble_eq_true rfl, Nat.le_of_ble_eq_true rfl⟩ hK hP rfl hl.1 rfl (Nat.le_of_ble_eq_true rfl) dX12_inside_8 ⟨(Nat.zero_le _), (Nat.zero_le _)⟩ ?_
  rw [hin]
  refine nv_if_neb (tgt := 16) hx hb dX12_inside_11 (by decide) (fun h => absurd h (by decide)) (fun _ => ?_)
  refine lv_iconst (v := -1) hx hb dX12_inside_14 (by decide) ?_
  exact hend (rfl) dX12_inside_15
theorem dX12_outside_0 : decode cX12_outside 0 = .ok (.iload_n 1, 1) := by decide +kernel
theorem dX12_outside_1 : decode cX12_outside 1 = .ok (.i2l, 1) := by decide +kernel
theorem dX12_outside_2 : decode cX12_outside 2 = .ok (.lconst 0, 1) := by decide +kernel
theorem dX12_outside_3 : decode cX12_outside 3 = .ok (.aload_n 0, 1) := by decide +kernel
theorem dX12_outside_4 : decode cX12_outside 4 = .ok (.getfield 118, 3) := by decide +kernel
theorem dX12_outside_7 : decode cX12_outside 7 = .ok (.i2l, 1) := by decide +kernel
theorem dX12_outside_8 : decode cX12_outside 8 = .ok (.invokestatic 178, 3) := by decide +kernel
theorem dX12_outside_11 : decode cX12_outside 11 = .ok (.ifCond .ne 5, 3) := by decide +kernel
theorem dX12_outside_14 : decode cX12_outside 14 = .ok (.iconst (-1), 1) := by decide +kernel
theorem dX12_outside_15 : decode cX12_outside 15 = .ok (.ireturn, 1) := by decide +kernel
theorem dX12_outside_16 : decode cX12_outside 16 = .ok (.aload_n 0, 1) := by decide +kernel
theorem dX12_outside_17 : decode cX12_outside 17 = .ok (.iload_n 1, 1) := by decide +kernel
theorem dX12_outside_18 : decode cX12_outside 18 = .ok (.invokevirtual 197, 3) := by decide +kernel
theorem dX12_outside_21 : decode cX12_outside 21 = .ok (.aload_n 0, 1) := by decide +kernel
theorem dX12_outside_22 : decode cX12_outside 22 = .ok (.invokevirtual 258, 3) := by decide +kernel
theorem dX12_outside_25 : decode cX12_outside 25 = .ok (.istore_n 2, 1) := by decide +kernel
theorem dX12_outside_26 : decode cX12_outside 26 = .ok (.iload_n 2, 1) := by decide +kernel
theorem dX12_outside_27 : decode cX12_outside 27 = .ok (.ifCond .le 9, 3) := by decide +kernel
theorem dX12_outside_30 : decode cX12_outside 30 = .ok (.aload_n 0, 1) := by decide +kernel
theorem dX12_outside_31 : decode cX12_outside 31 = .ok (.iload_n 2, 1) := by decide +kernel
theorem dX12_outside_32 : decode cX12_outside 32 = .ok (.invokevirtual 203, 3) := by decide +kernel
theorem dX12_outside_35 : decode cX12_outside 35 = .ok (.ireturn, 1) := by decide +kernel
theorem dX12_outside_36 : decode cX12_outside 36 = .ok (.aload_n 0, 1) := by decide +kernel
theorem dX12_outside_37 : decode cX12_outside 37 = .ok (.invokevirtual 251, 3) := by decide +kernel
theorem dX12_outside_40 : decode cX12_outside 40 = .ok (.ifCond .eq 8, 3) := by decide +kernel
theorem dX12_outside_43 : decode cX12_outside 43 = .ok (.aload_n 0, 1) := by decide +kernel
theorem dX12_outside_44 : decode cX12_outside 44 = .ok (.invokevirtual 261, 3) := by decide +kernel
theorem dX12_outside_47 : decode cX12_outside 47 = .ok (.ireturn, 1) := by decide +kernel
theorem dX12_outside_48 : decode cX12_outside 48 = .ok (.aload_n 0, 1) := by decide +kernel
theorem dX12_outside_49 : decode cX12_outside 49 = .ok (.getfield 16, 3) := by decide +kernel
theorem dX12_outside_52 : decode cX12_outside 52 = .ok (.bipush 9, 2) := by decide +kernel
theorem dX12_outside_54 : decode cX12_outside 54 = .ok (.invokestatic 124, 3) := by decide +kernel
theorem dX12_outside_57 : decode cX12_outside 57 = .ok (.istore_n 3, 1) := by decide +kernel
theorem dX12_outside_58 : decode cX12_outside 58 = .ok (.iload_n 3, 1) := by decide +kernel
theorem dX12_outside_59 : decode cX12_outside 59 = .ok (.iconst 1, 1) := by decide +kernel
theorem dX12_outside_60 : decode cX12_outside 60 = .ok (.if_icmp .ne 15, 3) := by decide +kernel
theorem dX12_outside_63 : decode cX12_outside 63 = .ok (.aload_n 0, 1) := by decide +kernel
theorem dX12_outside_64 : decode cX12_outside 64 = .ok (.getfield 16, 3) := by decide +kernel
theorem dX12_outside_67 : decode cX12_outside 67 = .ok (.bipush 24, 2) := by decide +kernel
theorem dX12_outside_69 : decode cX12_outside 69 = .ok (.invokestatic 128, 3) := by decide +kernel
theorem dX12_outside_72 : decode cX12_outside 72 = .ok (.goto 12, 3) := by decide +kernel
theorem dX12_outside_75 : decode cX12_outside 75 = .ok (.aload_n 0, 1) := by decide +kernel
theorem dX12_outside_76 : decode cX12_outside 76 = .ok (.getfield 16, 3) := by decide +kernel
theorem dX12_outside_79 : decode cX12_outside 79 = .ok (.bipush 22, 2) := by decide +kernel
theorem dX12_outside_81 : decode cX12_outside 81 = .ok (.invokestatic 128, 3) := by decide +kernel
theorem dX12_outside_84 : decode cX12_outside 84 = .ok (.istore 4, 2) := by decide +kernel
theorem dX12_outside_86 : decode cX12_outside 86 = .ok (.iload_n 3, 1) := by decide +kernel
theorem dX12_outside_87 : decode cX12_outside 87 = .ok (.iconst 1, 1) := by decide +kernel
theorem dX12_outside_88 : decode cX12_outside 88 = .ok (.if_icmp .ne 7, 3) := by decide +kernel
theorem dX12_outside_91 : decode cX12_outside 91 = .ok (.iconst 0, 1) := by decide +kernel
theorem dX12_outside_92 : decode cX12_outside 92 = .ok (.goto 12, 3) := by decide +kernel
theorem dX12_outside_95 : decode cX12_outside 95 = .ok (.aload_n 0, 1) := by decide +kernel
theorem dX12_outside_96 : decode cX12_outside 96 = .ok (.getfield 16, 3) := by decide +kernel
theorem dX12_outside_99 : decode cX12_outside 99 = .ok (.bipush 20, 2) := by decide +kernel
theorem dX12_outside_101 : decode cX12_outside 101 = .ok (.invokestatic 128, 3) := by decide +kernel
theorem dX12_outside_104 : decode cX12_outside 104 = .ok (.istore 5, 2) := by decide +kernel
theorem dX12_outside_106 : decode cX12_outside 106 = .ok (.iload_n 3, 1) := by decide +kernel
theorem dX12_outside_107 : decode cX12_outside 107 = .ok (.bipush 6, 2) := by decide +kernel
theorem dX12_outside_109 : decode cX12_outside 109 = .ok (.if_icmp .ne 15, 3) := by decide +kernel
theorem dX12_outside_112 : decode cX12_outside 112 = .ok (.aload_n 0, 1) := by decide +kernel
theorem dX12_outside_113 : decode cX12_outside 113 = .ok (.getfield 16, 3) := by decide +kernel
theorem dX12_outside_116 : decode cX12_outside 116 = .ok (.bipush 20, 2) := by decide +kernel
theorem dX12_outside_118 : decode cX12_outside 118 = .ok (.invokestatic 206, 3) := by decide +kernel
theorem dX12_outside_121 : decode cX12_outside 121 = .ok (.goto 4, 3) := by decide +kernel
theorem dX12_outside_124 : decode cX12_outside 124 = .ok (.iconst 3, 1) := by decide +kernel
theorem dX12_outside_125 : decode cX12_outside 125 = .ok (.istore 6, 2) := by decide +kernel
theorem dX12_outside_127 : decode cX12_outside 127 = .ok (.aload_n 0, 1) := by decide +kernel
theorem dX12_outside_128 : decode cX12_outside 128 = .ok (.iload_n 3, 1) := by decide +kernel
theorem dX12_outside_129 : decode cX12_outside 129 = .ok (.aload_n 0, 1) := by decide +kernel
theorem dX12_outside_130 : decode cX12_outside 130 = .ok (.aload_n 0, 1) := by decide +kernel
theorem dX12_outside_131 : decode cX12_outside 131 = .ok (.getfield 16, 3) := by decide +kernel
theorem dX12_outside_134 : decode cX12_outside 134 = .ok (.bipush 16, 2) := by decide +kernel
theorem dX12_outside_136 : decode cX12_outside 136 = .ok (.invokestatic 131, 3) := by decide +kernel
theorem dX12_outside_139 : decode cX12_outside 139 = .ok (.invokevirtual 93, 3) := by decide +kernel
theorem dX12_outside_142 : decode cX12_outside 142 = .ok (.iload 4, 2) := by decide +kernel
theorem dX12_outside_144 : decode cX12_outside 144 = .ok (.invokevirtual 155, 3) := by decide +kernel
theorem dX12_outside_147 : decode cX12_outside 147 = .ok (.istore 7, 2) := by decide +kernel
theorem dX12_outside_149 : decode cX12_outside 149 = .ok (.iload 7, 2) := by decide +kernel
theorem dX12_outside_151 : decode cX12_outside 151 = .ok (.ifCond .ge 7, 3) := by decide +kernel
theorem dX12_outside_154 : decode cX12_outside 154 = .ok (.iconst (-1), 1) := by decide +kernel
theorem dX12_outside_155 : decode cX12_outside 155 = .ok (.goto 20, 3) := by decide +kernel
theorem dX12_outside_158 : decode cX12_outside 158 = .ok (.aload_n 0, 1) := by decide +kernel
theorem dX12_outside_159 : decode cX12_outside 159 = .ok (.iload 7, 2) := by decide +kernel
theorem dX12_outside_161 : decode cX12_outside 161 = .ok (.aload_n 0, 1) := by decide +kernel
theorem dX12_outside_162 : decode cX12_outside 162 = .ok (.getfield 16, 3) := by decide +kernel
theorem dX12_outside_165 : decode cX12_outside 165 = .ok (.bipush 12, 2) := by decide +kernel
theorem dX12_outside_167 : decode cX12_outside 167 = .ok (.invokestatic 131, 3) := by decide +kernel
theorem dX12_outside_170 : decode cX12_outside 170 = .ok (.iload 5, 2) := by decide +kernel
theorem dX12_outside_172 : decode cX12_outside 172 = .ok (.invokevirtual 213, 3) := by decide +kernel
theorem dX12_outside_175 : decode cX12_outside 175 = .ok (.istore 8, 2) := by decide +kernel
theorem dX12_outside_177 : decode cX12_outside 177 = .ok (.iload 7, 2) := by decide +kernel
theorem dX12_outside_179 : decode cX12_outside 179 = .ok (.ifCond .lt 30, 3) := by decide +kernel
theorem dX12_outside_182 : decode cX12_outside 182 = .ok (.iload 8, 2) := by decide +kernel
theorem dX12_outside_184 : decode cX12_outside 184 = .ok (.ifCond .ge 32, 3) := by decide +kernel
theorem dX12_outside_187 : decode cX12_outside 187 = .ok (.iload_n 3, 1) := by decide +kernel
theorem dX12_outside_188 : decode cX12_outside 188 = .ok (.bipush 6, 2) := by decide +kernel
theorem dX12_outside_190 : decode cX12_outside 190 = .ok (.if_icmp .ne 9, 3) := by decide +kernel
theorem dX12_outside_193 : decode cX12_outside 193 = .ok (.iload 6, 2) := by decide +kernel
theorem dX12_outside_195 : decode cX12_outside 195 = .ok (.iconst 1, 1) := by decide +kernel
theorem dX12_outside_196 : decode cX12_outside 196 = .ok (.if_icmp .ne 13, 3) := by decide +kernel
theorem dX12_outside_199 : decode cX12_outside 199 = .ok (.aload_n 0, 1) := by decide +kernel
theorem dX12_outside_200 : decode cX12_outside 200 = .ok (.getfield 83, 3) := by decide +kernel
theorem dX12_outside_203 : decode cX12_outside 203 = .ok (.sipush 128, 3) := by decide +kernel
theorem dX12_outside_206 : decode cX12_outside 206 = .ok (.if_icmp .ne 10, 3) := by decide +kernel
theorem dX12_outside_209 : decode cX12_outside 209 = .ok (.aload_n 0, 1) := by decide +kernel
theorem dX12_outside_210 : decode cX12_outside 210 = .ok (.bipush 15, 2) := by decide +kernel
theorem dX12_outside_212 : decode cX12_outside 212 = .ok (.invokevirtual 203, 3) := by decide +kernel
theorem dX12_outside_215 : decode cX12_outside 215 = .ok (.ireturn, 1) := by decide +kernel
theorem dX12_outside_216 : decode cX12_outside 216 = .ok (.iload 8, 2) := by decide +kernel
theorem dX12_outside_218 : decode cX12_outside 218 = .ok (.ifCond .ge 26, 3) := by decide +kernel
theorem dX12_outside_221 : decode cX12_outside 221 = .ok (.aload_n 0, 1) := by decide +kernel
theorem dX12_outside_222 : decode cX12_outside 222 = .ok (.iload 7, 2) := by decide +kernel
theorem dX12_outside_224 : decode cX12_outside 224 = .ok (.aload_n 0, 1) := by decide +kernel
theorem dX12_outside_225 : decode cX12_outside 225 = .ok (.getfield 16, 3) := by decide +kernel
theorem dX12_outside_228 : decode cX12_outside 228 = .ok (.bipush 12, 2) := by decide +kernel
theorem dX12_outside_230 : decode cX12_outside 230 = .ok (.invokestatic 131, 3) := by decide +kernel
theorem dX12_outside_233 : decode cX12_outside 233 = .ok (.iload 5, 2) := by decide +kernel
theorem dX12_outside_235 : decode cX12_outside 235 = .ok (.iconst 0, 1) := by decide +kernel
theorem dX12_outside_236 : decode cX12_outside 236 = .ok (.invokevirtual 219, 3) := by decide +kernel
theorem dX12_outside_239 : decode cX12_outside 239 = .ok (.istore 8, 2) := by decide +kernel
theorem dX12_outside_241 : decode cX12_outside 241 = .ok (.goto 12, 3) := by decide +kernel
theorem dX12_outside_244 : decode cX12_outside 244 = .ok (.aload_n 0, 1) := by decide +kernel
theorem dX12_outside_245 : decode cX12_outside 245 = .ok (.iload 8, 2) := by decide +kernel
theorem dX12_outside_247 : decode cX12_outside 247 = .ok (.iload 6, 2) := by decide +kernel
theorem dX12_outside_249 : decode cX12_outside 249 = .ok (.iconst 0, 1) := by decide +kernel
theorem dX12_outside_250 : decode cX12_outside 250 = .ok (.invokevirtual 223, 3) := by decide +kernel
theorem dX12_outside_253 : decode cX12_outside 253 = .ok (.aload_n 0, 1) := by decide +kernel
theorem dX12_outside_254 : decode cX12_outside 254 = .ok (.iload 7, 2) := by decide +kernel
theorem dX12_outside_256 : decode cX12_outside 256 = .ok (.aload_n 0, 1) := by decide +kernel
theorem dX12_outside_257 : decode cX12_outside 257 = .ok (.getfield 121, 3) := by decide +kernel
theorem dX12_outside_260 : decode cX12_outside 260 = .ok (.bipush 20, 2) := by decide +kernel
theorem dX12_outside_262 : decode cX12_outside 262 = .ok (.isub, 1) := by decide +kernel
theorem dX12_outside_263 : decode cX12_outside 263 = .ok (.iload_n 3, 1) := by decide +kernel
theorem dX12_outside_264 : decode cX12_outside 264 = .ok (.iconst 1, 1) := by decide +kernel
theorem dX12_outside_265 : decode cX12_outside 265 = .ok (.if_icmp .ne 8, 3) := by decide +kernel
theorem dX12_outside_268 : decode cX12_outside 268 = .ok (.bipush 58, 2) := by decide +kernel
theorem dX12_outside_270 : decode cX12_outside 270 = .ok (.goto 4, 3) := by decide +kernel
theorem dX12_outside_273 : decode cX12_outside 273 = .ok (.iload_n 3, 1) := by decide +kernel
theorem dX12_outside_274 : decode cX12_outside 274 = .ok (.invokevirtual 264, 3) := by decide +kernel
theorem dX12_outside_277 : decode cX12_outside 277 = .ok (.bipush 20, 2) := by decide +kernel
theorem dX12_outside_279 : decode cX12_outside 279 = .ok (.istore 9, 2) := by decide +kernel
theorem dX12_outside_281 : decode cX12_outside 281 = .ok (.iload 9, 2) := by decide +kernel
theorem dX12_outside_283 : decode cX12_outside 283 = .ok (.aload_n 0, 1) := by decide +kernel
theorem dX12_outside_284 : decode cX12_outside 284 = .ok (.getfield 121, 3) := by decide +kernel
theorem dX12_outside_287 : decode cX12_outside 287 = .ok (.if_icmp .ge 26, 3) := by decide +kernel
theorem dX12_outside_290 : decode cX12_outside 290 = .ok (.aload_n 0, 1) := by decide +kernel
theorem dX12_outside_291 : decode cX12_outside 291 = .ok (.getfield 13, 3) := by decide +kernel
theorem dX12_outside_294 : decode cX12_outside 294 = .ok (.iload 9, 2) := by decide +kernel
theorem dX12_outside_296 : decode cX12_outside 296 = .ok (.bipush 20, 2) := by decide +kernel
theorem dX12_outside_298 : decode cX12_outside 298 = .ok (.iadd, 1) := by decide +kernel
theorem dX12_outside_299 : decode cX12_outside 299 = .ok (.aload_n 0, 1) := by decide +kernel
theorem dX12_outside_300 : decode cX12_outside 300 = .ok (.getfield 16, 3) := by decide +kernel
theorem dX12_outside_303 : decode cX12_outside 303 = .ok (.iload 9, 2) := by decide +kernel
theorem dX12_outside_305 : decode cX12_outside 305 = .ok (.baload, 1) := by decide +kernel
theorem dX12_outside_306 : decode cX12_outside 306 = .ok (.bastore, 1) := by decide +kernel
theorem dX12_outside_307 : decode cX12_outside 307 = .ok (.iinc 9 1, 3) := by decide +kernel
theorem dX12_outside_310 : decode cX12_outside 310 = .ok (.goto (-29), 3) := by decide +kernel
theorem dX12_outside_313 : decode cX12_outside 313 = .ok (.iload_n 3, 1) := by decide +kernel
theorem dX12_outside_314 : decode cX12_outside 314 = .ok (.iconst 1, 1) := by decide +kernel
theorem dX12_outside_315 : decode cX12_outside 315 = .ok (.if_icmp .ne 57, 3) := by decide +kernel
theorem dX12_outside_318 : decode cX12_outside 318 = .ok (.aload_n 0, 1) := by decide +kernel
theorem dX12_outside_319 : decode cX12_outside 319 = .ok (.getfield 13, 3) := by decide +kernel
theorem dX12_outside_322 : decode cX12_outside 322 = .ok (.bipush 40, 2) := by decide +kernel
theorem dX12_outside_324 : decode cX12_outside 324 = .ok (.iconst 1, 1) := by decide +kernel
theorem dX12_outside_325 : decode cX12_outside 325 = .ok (.aload_n 0, 1) := by decide +kernel
theorem dX12_outside_326 : decode cX12_outside 326 = .ok (.getfield 16, 3) := by decide +kernel
theorem dX12_outside_329 : decode cX12_outside 329 = .ok (.bipush 20, 2) := by decide +kernel
theorem dX12_outside_331 : decode cX12_outside 331 = .ok (.invokestatic 124, 3) := by decide +kernel
theorem dX12_outside_334 : decode cX12_outside 334 = .ok (.bipush 8, 2) := by decide +kernel
theorem dX12_outside_336 : decode cX12_outside 336 = .ok (.if_icmp .ne 9, 3) := by decide +kernel
theorem dX12_outside_339 : decode cX12_outside 339 = .ok (.ldc2_w 267, 3) := by decide +kernel
theorem dX12_outside_342 : decode cX12_outside 342 = .ok (.goto 6, 3) := by decide +kernel
theorem dX12_outside_345 : decode cX12_outside 345 = .ok (.ldc2_w 269, 3) := by decide +kernel
theorem dX12_outside_348 : decode cX12_outside 348 = .ok (.invokestatic 239, 3) := by decide +kernel
theorem dX12_outside_351 : decode cX12_outside 351 = .ok (.aload_n 0, 1) := by decide +kernel
theorem dX12_outside_352 : decode cX12_outside 352 = .ok (.getfield 13, 3) := by decide +kernel
theorem dX12_outside_355 : decode cX12_outside 355 = .ok (.bipush 44, 2) := by decide +kernel
theorem dX12_outside_357 : decode cX12_outside 357 = .ok (.iconst 2, 1) := by decide +kernel
theorem dX12_outside_358 : decode cX12_outside 358 = .ok (.aload_n 0, 1) := by decide +kernel
theorem dX12_outside_359 : decode cX12_outside 359 = .ok (.getfield 33, 3) := by decide +kernel
theorem dX12_outside_362 : decode cX12_outside 362 = .ok (.iload 7, 2) := by decide +kernel
theorem dX12_outside_364 : decode cX12_outside 364 = .ok (.iaload, 1) := by decide +kernel
theorem dX12_outside_365 : decode cX12_outside 365 = .ok (.i2l, 1) := by decide +kernel
theorem dX12_outside_366 : decode cX12_outside 366 = .ok (.invokestatic 239, 3) := by decide +kernel
theorem dX12_outside_369 : decode cX12_outside 369 = .ok (.goto 21, 3) := by decide +kernel
theorem dX12_outside_372 : decode cX12_outside 372 = .ok (.aload_n 0, 1) := by decide +kernel
theorem dX12_outside_373 : decode cX12_outside 373 = .ok (.getfield 13, 3) := by decide +kernel
theorem dX12_outside_376 : decode cX12_outside 376 = .ok (.bipush 42, 2) := by decide +kernel
theorem dX12_outside_378 : decode cX12_outside 378 = .ok (.iconst 2, 1) := by decide +kernel
theorem dX12_outside_379 : decode cX12_outside 379 = .ok (.aload_n 0, 1) := by decide +kernel
theorem dX12_outside_380 : decode cX12_outside 380 = .ok (.getfield 33, 3) := by decide +kernel
theorem dX12_outside_383 : decode cX12_outside 383 = .ok (.iload 7, 2) := by decide +kernel
theorem dX12_outside_385 : decode cX12_outside 385 = .ok (.iaload, 1) := by decide +kernel
theorem dX12_outside_386 : decode cX12_outside 386 = .ok (.i2l, 1) := by decide +kernel
theorem dX12_outside_387 : decode cX12_outside 387 = .ok (.invokestatic 239, 3) := by decide +kernel
theorem dX12_outside_390 : decode cX12_outside 390 = .ok (.aload_n 0, 1) := by decide +kernel
theorem dX12_outside_391 : decode cX12_outside 391 = .ok (.iload_n 3, 1) := by decide +kernel
theorem dX12_outside_392 : decode cX12_outside 392 = .ok (.iconst 1, 1) := by decide +kernel
theorem dX12_outside_393 : decode cX12_outside 393 = .ok (.if_icmp .ne 8, 3) := by decide +kernel
theorem dX12_outside_396 : decode cX12_outside 396 = .ok (.bipush 58, 2) := by decide +kernel
theorem dX12_outside_398 : decode cX12_outside 398 = .ok (.goto 4, 3) := by decide +kernel
theorem dX12_outside_401 : decode cX12_outside 401 = .ok (.iload_n 3, 1) := by decide +kernel
theorem dX12_outside_402 : decode cX12_outside 402 = .ok (.invokevirtual 271, 3) := by decide +kernel
theorem dX12_outside_405 : decode cX12_outside 405 = .ok (.aload_n 0, 1) := by decide +kernel
theorem dX12_outside_406 : decode cX12_outside 406 = .ok (.getfield 234, 3) := by decide +kernel
theorem dX12_outside_409 : decode cX12_outside 409 = .ok (.ireturn, 1) := by decide +kernel
theorem yv_X12_outside : YV RX12 yX12_outside cX12_outside 10 (some .int) 1 := ⟨kw5_132, kw5_133, kw1_10, kw5_134, by decide +kernel⟩
set_option maxHeartbeats 4000000 in
set_option maxRecDepth 100000 in
theorem c_X12_outsideN {l : Launch} {D : va_G} {cy : Nat → ClassId} {o : Nat} {ad : Nat → Nat} {tl : va_W} {tp os sz bits F G u nb ns T M id : Nat} {ft fo fi : Nat → UInt8} {g : Nat → Int32} {pt ih il ip pn op so fa fp st en dr : Nat → Nat} {i : Int32} (hin : tg_isIn i.toInt64 (lN 0) (lN tp) = false) (htp : tp ≤ 1600) : RO l yX12_outside cX12_outside 10 (some .int) 1 25 [.ref o, .int i] D cy (mW cy o ad tp os sz bits F G u nb ns T M id ft fo fi g pt ih il ip pn op so fa fp st en dr ++ tl) (.int (-1)) := by
  refine ROi (by decide) (lv0 := [(0, .ref o), (1, .int i)]) rfl (Nat.le_of_ble_eq_true rfl) ?_
  intro p e s m args below meth c ls Q S hP hK hend hl
  have hx := S.1
  have hb := S.2.1
  have hown : s.vm.findClass RX12 = some m.cls := S.2.2.2.1
  have ht : ∀ w ∈ lw_g, w.before args s = true := fun w h => S.2.2.2.2 w (List.mem_cons_of_mem _ h)
  have hP : va_P D vwCl (mW cy o ad tp os sz bits F G u nb ns T M id ft fo fi g pt ih il ip pn op so fa fp st en dr ++ tl) s.heap := hP
  refine lv_iload_n hx hb dX12_outside_0 rfl (lv_at hl 1 rfl) ?_
  refine lv_i2l hx hb dX12_outside_1 rfl ?_
  refine lv_lconst (v := lN 0) hx hb dX12_outside_2 (by decide) ?_
  refine lv_aload_n hx hb dX12_outside_3 rfl (lv_at hl 0 rfl) ?_
  refine va_get (ci := 9) (C := RX12) (T := TX12) (N := 28) hx hb ht iFX12 hown hK hP 0 rfl rfl 1 (by decide) (ht _ kw4_111) (fun _ h9 => h9) rfl dX12_outside_4 ?_
  refine nv_i2l hx hb (by omega) dX12_outside_7 ?_
  refine ro_S S (c_X12_isIn (v := (i).toInt64) (lo := lN (0)) (hi := lN (tp))) kw5_14 yv_X12_isIn ⟨Nat.le_of_ble_eq_true rfl, Nat.le_of_ble_eq_true rfl⟩ hK hP rfl hl.1 rfl (Nat.le_of_ble_eq_true rfl) dX12_outside_8 ⟨(Nat.zero_le _), (Nat.zero_le _)⟩ ?_
  rw [hin]
  refine nv_if_neb (tgt := 16) hx hb dX12_outside_11 (by decide) (fun h => absurd h (by decide)) (fun _ => ?_)
  refine lv_iconst (v := -1) hx hb dX12_outside_14 (by decide) ?_
  exact hend (rfl) dX12_outside_15
theorem dX12_tick_0 : decode cX12_tick 0 = .ok (.iload_n 1, 1) := by decide +kernel
theorem dX12_tick_1 : decode cX12_tick 1 = .ok (.i2l, 1) := by decide +kernel
theorem dX12_tick_2 : decode cX12_tick 2 = .ok (.lconst 0, 1) := by decide +kernel
theorem dX12_tick_3 : decode cX12_tick 3 = .ok (.ldc2_w 176, 3) := by decide +kernel
theorem dX12_tick_6 : decode cX12_tick 6 = .ok (.invokestatic 178, 3) := by decide +kernel
theorem dX12_tick_9 : decode cX12_tick 9 = .ok (.ifCond .ne 5, 3) := by decide +kernel
theorem dX12_tick_12 : decode cX12_tick 12 = .ok (.iconst (-1), 1) := by decide +kernel
theorem dX12_tick_13 : decode cX12_tick 13 = .ok (.ireturn, 1) := by decide +kernel
theorem dX12_tick_14 : decode cX12_tick 14 = .ok (.aload_n 0, 1) := by decide +kernel
theorem dX12_tick_15 : decode cX12_tick 15 = .ok (.dup, 1) := by decide +kernel
theorem dX12_tick_16 : decode cX12_tick 16 = .ok (.getfield 163, 3) := by decide +kernel
theorem dX12_tick_19 : decode cX12_tick 19 = .ok (.iload_n 1, 1) := by decide +kernel
theorem dX12_tick_20 : decode cX12_tick 20 = .ok (.iadd, 1) := by decide +kernel
theorem dX12_tick_21 : decode cX12_tick 21 = .ok (.putfield 163, 3) := by decide +kernel
theorem dX12_tick_24 : decode cX12_tick 24 = .ok (.aload_n 0, 1) := by decide +kernel
theorem dX12_tick_25 : decode cX12_tick 25 = .ok (.invokevirtual 182, 3) := by decide +kernel
theorem dX12_tick_28 : decode cX12_tick 28 = .ok (.ireturn, 1) := by decide +kernel
theorem yv_X12_tick : YV RX12 yX12_tick cX12_tick 2 (some .int) 1 := ⟨kw5_10, kw5_11, kw1_10, kw5_12, by decide +kernel⟩
set_option maxHeartbeats 4000000 in
set_option maxRecDepth 100000 in
theorem c_X12_tickN {l : Launch} {D : va_G} {cy : Nat → ClassId} {o : Nat} {ad : Nat → Nat} {tl : va_W} {tp os sz bits F G u nb ns T M id : Nat} {ft fo fi : Nat → UInt8} {g : Nat → Int32} {pt ih il ip pn op so fa fp st en dr : Nat → Nat} {i : Int32} (hin : tg_isIn i.toInt64 (lN 0) (lN 10000) = false) : RO l yX12_tick cX12_tick 2 (some .int) 1 25 [.ref o, .int i] D cy (mW cy o ad tp os sz bits F G u nb ns T M id ft fo fi g pt ih il ip pn op so fa fp st en dr ++ tl) (.int (-1)) := by
  refine ROi (by decide) (lv0 := [(0, .ref o), (1, .int i)]) rfl (Nat.le_of_ble_eq_true rfl) ?_
  intro p e s m args below meth c ls Q S hP hK hend hl
  have hx := S.1
  have hb := S.2.1
  have hown : s.vm.findClass RX12 = some m.cls := S.2.2.2.1
  have ht : ∀ w ∈ lw_g, w.before args s = true := fun w h => S.2.2.2.2 w (List.mem_cons_of_mem _ h)
  have hP : va_P D vwCl (mW cy o ad tp os sz bits F G u nb ns T M id ft fo fi g pt ih il ip pn op so fa fp st en dr ++ tl) s.heap := hP
  refine lv_iload_n hx hb dX12_tick_0 rfl (lv_at hl 1 rfl) ?_
  refine lv_i2l hx hb dX12_tick_1 rfl ?_
  refine lv_lconst (v := lN 0) hx hb dX12_tick_2 (by decide) ?_
  refine nv_ldc2 (k := 10000) hx hb hown (ht _ kw5_13) (by decide) dX12_tick_3 ?_
  refine ro_S S (c_X12_isIn (v := (i).toInt64) (lo := lN (0)) (hi := lN (10000))) kw5_14 yv_X12_isIn ⟨Nat.le_of_ble_eq_true rfl, Nat.le_of_ble_eq_true rfl⟩ hK hP rfl hl.1 rfl (Nat.le_of_ble_eq_true rfl) dX12_tick_6 ⟨(Nat.zero_le _), (Nat.zero_le _)⟩ ?_
  rw [hin]
  refine nv_if_neb (tgt := 14) hx hb dX12_tick_9 (by decide) (fun h => absurd h (by decide)) (fun _ => ?_)
  refine lv_iconst (v := -1) hx hb dX12_tick_12 (by decide) ?_
  exact hend (rfl) dX12_tick_13
set_option maxHeartbeats 4000000 in
set_option maxRecDepth 100000 in
theorem c_X12_prefixN {l : Launch} {D : va_G} {cy : Nat → ClassId} {o : Nat} {ad : Nat → Nat} {tl : va_W} {tp os sz bits F G u nb ns T M id : Nat} {ft fo fi : Nat → UInt8} {g : Nat → Int32} {pt ih il ip pn op so fa fp st en dr : Nat → Nat} {hi lo : Nat} {len : Int32} (hneg : len < 0) : RO l yX12_prefix cX12_prefix 6 (some .boolean) 0 0 [.ref o, .long (lN (hi)), .long (lN (lo)), .int len] D cy (mW cy o ad tp os sz bits F G u nb ns T M id ft fo fi g pt ih il ip pn op so fa fp st en dr ++ tl) (.int (bI (false))) := by
  refine ROz (by decide) (lv0 := [(0, .ref o), (1, .long (lN (hi))), (3, .long (lN (lo))), (5, .int len)]) rfl (Nat.le_of_ble_eq_true rfl) ?_
  intro p e s m args below meth c ls Q S hP hK hend hl
  have hx := S.1
  have hb := S.2.1
  have hown : s.vm.findClass RX12 = some m.cls := S.2.2.2.1
  have ht : ∀ w ∈ lw_g, w.before args s = true := fun w h => S.2.2.2.2 w (List.mem_cons_of_mem _ h)
  have hP : va_P D vwCl (mW cy o ad tp os sz bits F G u nb ns T M id ft fo fi g pt ih il ip pn op so fa fp st en dr ++ tl) s.heap := hP
  refine lv_iload hx hb dX12_prefix_0 (lv_at hl 3 rfl) ?_
  refine nv_bipush (k := 32) hx hb dX12_prefix_2 (by decide) ?_
  refine lv_icmp_eq (tgt := 44) hx hb dX12_prefix_4 (by decide) (fun h9 => absurd hneg (by rw [h9]; decide)) (fun _ => ?_)
  refine lv_iload hx hb dX12_prefix_7 (lv_at hl 3 rfl) ?_
  refine nv_bipush (k := 40) hx hb dX12_prefix_9 (by decide) ?_
  refine lv_icmp_eq (tgt := 44) hx hb dX12_prefix_11 (by decide) (fun h9 => absurd hneg (by rw [h9]; decide)) (fun _ => ?_)
  refine lv_iload hx hb dX12_prefix_14 (lv_at hl 3 rfl) ?_
  refine nv_bipush (k := 48) hx hb dX12_prefix_16 (by decide) ?_
  refine lv_icmp_eq (tgt := 44) hx hb dX12_prefix_18 (by decide) (fun h9 => absurd hneg (by rw [h9]; decide)) (fun _ => ?_)
  refine lv_iload hx hb dX12_prefix_21 (lv_at hl 3 rfl) ?_
  refine nv_bipush (k := 56) hx hb dX12_prefix_23 (by decide) ?_
  refine lv_icmp_eq (tgt := 44) hx hb dX12_prefix_25 (by decide) (fun h9 => absurd hneg (by rw [h9]; decide)) (fun _ => ?_)
  refine lv_iload hx hb dX12_prefix_28 (lv_at hl 3 rfl) ?_
  refine nv_bipush (k := 64) hx hb dX12_prefix_30 (by decide) ?_
  refine lv_icmp_eq (tgt := 44) hx hb dX12_prefix_32 (by decide) (fun h9 => absurd hneg (by rw [h9]; decide)) (fun _ => ?_)
  refine lv_iload hx hb dX12_prefix_35 (lv_at hl 3 rfl) ?_
  refine nv_bipush (k := 96) hx hb dX12_prefix_37 (by decide) ?_
  refine lv_icmp_eq (tgt := 44) hx hb dX12_prefix_39 (by decide) (fun h9 => absurd hneg (by rw [h9]; decide)) (fun _ => ?_)
  refine nv_iconst (k := 0) hx hb dX12_prefix_42 rfl ?_
  exact hend ((bI_f rfl)) dX12_prefix_43
set_option maxHeartbeats 4000000 in
set_option maxRecDepth 100000 in
theorem c_X12_binding {l : Launch} {D : va_G} {cy : Nat → ClassId} {o : Nat} {ad : Nat → Nat} {tl : va_W} {tp os sz bits F G u nb ns T M id : Nat} {ft fo fi : Nat → UInt8} {g : Nat → Int32} {pt ih il ip pn op so fa fp st en dr : Nat → Nat} (hb_pt : ∀ i, pt i < 2 ^ 31) (hb_ip : ∀ i, ip i < 2 ^ 31) (hb_pn : ∀ i, pn i < 2 ^ 31) (hb_op : ∀ i, op i < 2 ^ 31) (hb_so : ∀ i, so i < 2 ^ 31) {i w : Nat} (hi : i < nb) (hnb : nb ≤ 64) (hns : ns ≤ 128) (hw9 : w < 2 ^ 31) : RO l yX12_binding cX12_binding 3 (some .int) 1 25 [.ref o, .int (nI i), .int (nI w)] D cy (mW cy o ad tp os sz bits F G u nb ns T M id ft fo fi g pt ih il ip pn op so fa fp st en dr ++ tl) (.int (tg_bw pt ip pn op so ns i w)) := by
  refine ROi (by decide) (lv0 := [(0, .ref o), (1, .int (nI i)), (2, .int (nI w))]) rfl (Nat.le_of_ble_eq_true rfl) ?_
  intro p e s m args below meth c ls Q S hP hK hend hl
  have hx := S.1
  have hb := S.2.1
  have hown : s.vm.findClass RX12 = some m.cls := S.2.2.2.1
  have ht : ∀ w ∈ lw_g, w.before args s = true := fun w h => S.2.2.2.2 w (List.mem_cons_of_mem _ h)
  have hP : va_P D vwCl (mW cy o ad tp os sz bits F G u nb ns T M id ft fo fi g pt ih il ip pn op so fa fp st en dr ++ tl) s.heap := hP
  refine lv_iload_n hx hb dX12_binding_0 rfl (lv_at hl 1 rfl) ?_
  refine nv_i2l hx hb (by omega) dX12_binding_1 ?_
  refine lv_lconst (v := lN 0) hx hb dX12_binding_2 (by decide) ?_
  refine lv_aload_n hx hb dX12_binding_3 rfl (lv_at hl 0 rfl) ?_
  refine va_get (ci := 9) (C := RX12) (T := TX12) (N := 28) hx hb ht iFX12 hown hK hP 0 rfl rfl 11 (by decide) (ht _ kw4_121) (fun _ h9 => h9) rfl dX12_binding_4 ?_
  refine nv_i2l hx hb (by omega) dX12_binding_7 ?_
  refine lv_lconst (v := lN 1) hx hb dX12_binding_8 (by decide) ?_
  refine nv_lsub hx hb (by omega) dX12_binding_9 ?_
  refine ro_S S (c_X12_isIn (v := lN (i)) (lo := lN (0)) (hi := lN (nb - 1))) kw5_14 yv_X12_isIn ⟨Nat.le_of_ble_eq_true rfl, Nat.le_of_ble_eq_true rfl⟩ hK hP rfl hl.1 rfl (Nat.le_of_ble_eq_true rfl) dX12_binding_10 ⟨(Nat.zero_le _), (Nat.zero_le _)⟩ ?_
  rw [show tg_isIn (lN (i)) (lN (0)) (lN (nb - 1)) = true from (by rw [isIn_nat (by omega) (by omega) (by omega)]; exact decide_eq_true (by omega))]
  refine nv_if_neb (tgt := 18) hx hb dX12_binding_13 (by decide) (fun _ => ?_) (fun h => absurd h (by decide))
  refine lv_iload_n hx hb dX12_binding_18 rfl (lv_at hl 2 rfl) ?_
  by_cases hs19_0 : w = 0
  · refine lv_tableIn (off := 29) (tgt := 48) hx hb dX12_binding_19 (by rw [hs19_0]; decide) (by rw [hs19_0]; decide) (by rw [hs19_0]; decide) (by decide) ?_
    refine lv_aload_n hx hb dX12_binding_48 rfl (lv_at hl 0 rfl) ?_
    refine va_get (ci := 9) (C := RX12) (T := TX12) (N := 28) hx hb ht iFX12 hown hK hP 0 rfl rfl 12 (by decide) (ht _ kw4_122) (fun _ h9 => h9) rfl dX12_binding_49 ?_
    refine lv_iload_n hx hb dX12_binding_52 rfl (lv_at hl 1 rfl) ?_
    refine nv_iald hx hb hK hP 5 rfl (by omega) (by omega) dX12_binding_53 ?_
    exact hend ((by first | (exfalso; omega) | (unfold tg_bw; (repeat (first | rw [if_pos (by omega)] | rw [if_neg (by omega)]))))) dX12_binding_54
  by_cases hs19_1 : w = 1
  · refine lv_tableIn (off := 36) (tgt := 55) hx hb dX12_binding_19 (by rw [hs19_1]; decide) (by rw [hs19_1]; decide) (by rw [hs19_1]; decide) (by decide) ?_
    refine lv_aload_n hx hb dX12_binding_55 rfl (lv_at hl 0 rfl) ?_
    refine va_get (ci := 9) (C := RX12) (T := TX12) (N := 28) hx hb ht iFX12 hown hK hP 0 rfl rfl 15 (by decide) (ht _ kw4_125) (fun _ h9 => h9) rfl dX12_binding_56 ?_
    refine lv_iload_n hx hb dX12_binding_59 rfl (lv_at hl 1 rfl) ?_
    refine nv_iald hx hb hK hP 8 rfl (by omega) (by omega) dX12_binding_60 ?_
    exact hend ((by first | (exfalso; omega) | (unfold tg_bw; (repeat (first | rw [if_pos (by omega)] | rw [if_neg (by omega)]))))) dX12_binding_61
  by_cases hs19_2 : w = 2
  · refine lv_tableIn (off := 43) (tgt := 62) hx hb dX12_binding_19 (by rw [hs19_2]; decide) (by rw [hs19_2]; decide) (by rw [hs19_2]; decide) (by decide) ?_
    refine lv_aload_n hx hb dX12_binding_62 rfl (lv_at hl 0 rfl) ?_
    refine va_get (ci := 9) (C := RX12) (T := TX12) (N := 28) hx hb ht iFX12 hown hK hP 0 rfl rfl 16 (by decide) (ht _ kw4_126) (fun _ h9 => h9) rfl dX12_binding_63 ?_
    refine lv_iload_n hx hb dX12_binding_66 rfl (lv_at hl 1 rfl) ?_
    refine nv_iald hx hb hK hP 9 rfl (by omega) (by omega) dX12_binding_67 ?_
    exact hend ((by first | (exfalso; omega) | (unfold tg_bw; (repeat (first | rw [if_pos (by omega)] | rw [if_neg (by omega)]))))) dX12_binding_68
  by_cases hs19_3 : w = 3
  · refine lv_tableIn (off := 50) (tgt := 69) hx hb dX12_binding_19 (by rw [hs19_3]; decide) (by rw [hs19_3]; decide) (by rw [hs19_3]; decide) (by decide) ?_
    refine lv_aload_n hx hb dX12_binding_69 rfl (lv_at hl 0 rfl) ?_
    refine va_get (ci := 9) (C := RX12) (T := TX12) (N := 28) hx hb ht iFX12 hown hK hP 0 rfl rfl 17 (by decide) (ht _ kw4_127) (fun _ h9 => h9) rfl dX12_binding_70 ?_
    refine lv_iload_n hx hb dX12_binding_73 rfl (lv_at hl 1 rfl) ?_
    refine nv_iald hx hb hK hP 10 rfl (by omega) (by omega) dX12_binding_74 ?_
    exact hend ((by first | (exfalso; omega) | (unfold tg_bw; (repeat (first | rw [if_pos (by omega)] | rw [if_neg (by omega)]))))) dX12_binding_75
  refine lv_tableOut (tgt := 76) hx hb dX12_binding_19 (by rw [nI_toInt (by omega)]; omega) (by decide) ?_
  refine lv_iload_n hx hb dX12_binding_76 rfl (lv_at hl 2 rfl) ?_
  refine nv_iconst (k := 4) hx hb dX12_binding_77 rfl ?_
  refine nv_icmp_ne (tgt := 89) hx hb dX12_binding_78 (by decide) (by omega) (by omega) (fun h78 => ?_) (fun h78 => ?_)
  · skip
    refine lv_iconst (v := -1) hx hb dX12_binding_89 (by decide) ?_
    exact hend ((by first | (exfalso; omega) | (unfold tg_bw; (repeat (first | rw [if_pos (by omega)] | rw [if_neg (by omega)]))))) dX12_binding_90
  refine lv_aload_n hx hb dX12_binding_81 rfl (lv_at hl 0 rfl) ?_
  refine lv_iload_n hx hb dX12_binding_82 rfl (lv_at hl 1 rfl) ?_
  refine ro_V S (c_X12_sessionsOf (ws := mW cy o ad tp os sz bits F G u nb ns T M id ft fo fi g pt ih il ip pn op so fa fp st en dr ++ tl) (km := 0) rfl rfl rfl (k_so := 11) rfl hb_so hns (b := i) (by omega)) kw5_21 yv_X12_sessionsOf ⟨Nat.le_of_ble_eq_true rfl, Nat.le_of_ble_eq_true rfl⟩ hK hP (va_recv hK hP (ci := 9) (q0 := 0) rfl rfl) rfl hl.1 rfl (Nat.le_of_ble_eq_true rfl) dX12_binding_83 ⟨(Nat.zero_le _), (Nat.zero_le _)⟩ ?_
  have hq83 := tg_cnt_le (fun k => decide (so k = i)) ns
  refine lv_goto (tgt := 90) hx hb dX12_binding_86 (by decide) ?_
  exact hend ((by first | (exfalso; omega) | (unfold tg_bw; (repeat (first | rw [if_pos (by omega)] | rw [if_neg (by omega)]))))) dX12_binding_90
set_option maxHeartbeats 4000000 in
set_option maxRecDepth 100000 in
theorem c_X12_bindingW {l : Launch} {D : va_G} {cy : Nat → ClassId} {o : Nat} {ad : Nat → Nat} {tl : va_W} {tp os sz bits F G u nb ns T M id : Nat} {ft fo fi : Nat → UInt8} {g : Nat → Int32} {pt ih il ip pn op so fa fp st en dr : Nat → Nat} {i : Nat} {w : Int32} (hi : i < nb) (hnb : nb ≤ 64) (hneg : w < 0) : RO l yX12_binding cX12_binding 3 (some .int) 1 25 [.ref o, .int (nI i), .int w] D cy (mW cy o ad tp os sz bits F G u nb ns T M id ft fo fi g pt ih il ip pn op so fa fp st en dr ++ tl) (.int (-1)) := by
  refine ROi (by decide) (lv0 := [(0, .ref o), (1, .int (nI i)), (2, .int w)]) rfl (Nat.le_of_ble_eq_true rfl) ?_
  intro p e s m args below meth c ls Q S hP hK hend hl
  have hx := S.1
  have hb := S.2.1
  have hown : s.vm.findClass RX12 = some m.cls := S.2.2.2.1
  have ht : ∀ w ∈ lw_g, w.before args s = true := fun w h => S.2.2.2.2 w (List.mem_cons_of_mem _ h)
  have hP : va_P D vwCl (mW cy o ad tp os sz bits F G u nb ns T M id ft fo fi g pt ih il ip pn op so fa fp st en dr ++ tl) s.heap := hP
  refine lv_iload_n hx hb dX12_binding_0 rfl (lv_at hl 1 rfl) ?_
  refine nv_i2l hx hb (by omega) dX12_binding_1 ?_
  refine lv_lconst (v := lN 0) hx hb dX12_binding_2 (by decide) ?_
  refine lv_aload_n hx hb dX12_binding_3 rfl (lv_at hl 0 rfl) ?_
  refine va_get (ci := 9) (C := RX12) (T := TX12) (N := 28) hx hb ht iFX12 hown hK hP 0 rfl rfl 11 (by decide) (ht _ kw4_121) (fun _ h9 => h9) rfl dX12_binding_4 ?_
  refine nv_i2l hx hb (by omega) dX12_binding_7 ?_
  refine lv_lconst (v := lN 1) hx hb dX12_binding_8 (by decide) ?_
  refine nv_lsub hx hb (by omega) dX12_binding_9 ?_
  refine ro_S S (c_X12_isIn (v := lN (i)) (lo := lN (0)) (hi := lN (nb - 1))) kw5_14 yv_X12_isIn ⟨Nat.le_of_ble_eq_true rfl, Nat.le_of_ble_eq_true rfl⟩ hK hP rfl hl.1 rfl (Nat.le_of_ble_eq_true rfl) dX12_binding_10 ⟨(Nat.zero_le _), (Nat.zero_le _)⟩ ?_
  rw [show tg_isIn (lN (i)) (lN (0)) (lN (nb - 1)) = true from (by rw [isIn_nat (by omega) (by omega) (by omega)]; exact decide_eq_true (by omega))]
  refine nv_if_neb (tgt := 18) hx hb dX12_binding_13 (by decide) (fun _ => ?_) (fun h => absurd h (by decide))
  refine lv_iload_n hx hb dX12_binding_18 rfl (lv_at hl 2 rfl) ?_
  refine lv_tableOut (tgt := 76) hx hb dX12_binding_19 (Or.inl (neg_toInt hneg)) (by decide) ?_
  refine lv_iload_n hx hb dX12_binding_76 rfl (lv_at hl 2 rfl) ?_
  refine nv_iconst (k := 4) hx hb dX12_binding_77 rfl ?_
  refine lv_icmp_ne (tgt := 89) hx hb dX12_binding_78 (by decide) (fun h78 => ?_) (fun h78 => ?_)
  · skip
    refine lv_iconst (v := -1) hx hb dX12_binding_89 (by decide) ?_
    exact hend (rfl) dX12_binding_90
  exact absurd hneg (by rw [h78]; decide)
set_option maxHeartbeats 4000000 in
set_option maxRecDepth 100000 in
theorem c_X12_inner {l : Launch} {D : va_G} {cy : Nat → ClassId} {o : Nat} {ad : Nat → Nat} {tl : va_W} {tp os sz bits F G u nb ns T M id : Nat} {ft fo fi : Nat → UInt8} {g : Nat → Int32} {pt ih il ip pn op so fa fp st en dr : Nat → Nat} (hb_ih : ∀ i, ih i < 2 ^ 64) (hb_il : ∀ i, il i < 2 ^ 64) {i : Nat} {lw : Bool} (hi : i < nb) (hnb : nb ≤ 64) : RO l yX12_inner cX12_inner 3 (some .long) 1 25 [.ref o, .int (nI i), .int (bI (lw))] D cy (mW cy o ad tp os sz bits F G u nb ns T M id ft fo fi g pt ih il ip pn op so fa fp st en dr ++ tl) (.long (lN (if lw = true then il i else ih i))) := by
  refine ROl (by decide) (lv0 := [(0, .ref o), (1, .int (nI i)), (2, .int (bI (lw)))]) rfl (Nat.le_of_ble_eq_true rfl) ?_
  intro p e s m args below meth c ls Q S hP hK hend hl
  have hx := S.1
  have hb := S.2.1
  have hown : s.vm.findClass RX12 = some m.cls := S.2.2.2.1
  have ht : ∀ w ∈ lw_g, w.before args s = true := fun w h => S.2.2.2.2 w (List.mem_cons_of_mem _ h)
  have hP : va_P D vwCl (mW cy o ad tp os sz bits F G u nb ns T M id ft fo fi g pt ih il ip pn op so fa fp st en dr ++ tl) s.heap := hP
  refine lv_iload_n hx hb dX12_inner_0 rfl (lv_at hl 1 rfl) ?_
  refine nv_i2l hx hb (by omega) dX12_inner_1 ?_
  refine lv_lconst (v := lN 0) hx hb dX12_inner_2 (by decide) ?_
  refine lv_aload_n hx hb dX12_inner_3 rfl (lv_at hl 0 rfl) ?_
  refine va_get (ci := 9) (C := RX12) (T := TX12) (N := 28) hx hb ht iFX12 hown hK hP 0 rfl rfl 11 (by decide) (ht _ kw4_121) (fun _ h9 => h9) rfl dX12_inner_4 ?_
  refine nv_i2l hx hb (by omega) dX12_inner_7 ?_
  refine lv_lconst (v := lN 1) hx hb dX12_inner_8 (by decide) ?_
  refine nv_lsub hx hb (by omega) dX12_inner_9 ?_
  refine ro_S S (c_X12_isIn (v := lN (i)) (lo := lN (0)) (hi := lN (nb - 1))) kw5_14 yv_X12_isIn ⟨Nat.le_of_ble_eq_true rfl, Nat.le_of_ble_eq_true rfl⟩ hK hP rfl hl.1 rfl (Nat.le_of_ble_eq_true rfl) dX12_inner_10 ⟨(Nat.zero_le _), (Nat.zero_le _)⟩ ?_
  rw [show tg_isIn (lN (i)) (lN (0)) (lN (nb - 1)) = true from (by rw [isIn_nat (by omega) (by omega) (by omega)]; exact decide_eq_true (by omega))]
  refine nv_if_neb (tgt := 20) hx hb dX12_inner_13 (by decide) (fun _ => ?_) (fun h => absurd h (by decide))
  refine lv_iload_n hx hb dX12_inner_20 rfl (lv_at hl 2 rfl) ?_
  refine nv_if_eqb (tgt := 33) hx hb dX12_inner_21 (by decide) (fun h21 => ?_) (fun h21 => ?_)
  · skip
    refine lv_aload_n hx hb dX12_inner_33 rfl (lv_at hl 0 rfl) ?_
    refine va_get (ci := 9) (C := RX12) (T := TX12) (N := 28) hx hb ht iFX12 hown hK hP 0 rfl rfl 13 (by decide) (ht _ kw4_123) (fun _ h9 => h9) rfl dX12_inner_34 ?_
    refine lv_iload_n hx hb dX12_inner_37 rfl (lv_at hl 1 rfl) ?_
    refine nv_lald hx hb hK hP 6 rfl (by omega) (by omega) dX12_inner_38 ?_
    exact hend ((by first | rw [if_pos h21] | rw [if_neg (by rw [h21]; decide)])) dX12_inner_39
  refine lv_aload_n hx hb dX12_inner_24 rfl (lv_at hl 0 rfl) ?_
  refine va_get (ci := 9) (C := RX12) (T := TX12) (N := 28) hx hb ht iFX12 hown hK hP 0 rfl rfl 14 (by decide) (ht _ kw4_124) (fun _ h9 => h9) rfl dX12_inner_25 ?_
  refine lv_iload_n hx hb dX12_inner_28 rfl (lv_at hl 1 rfl) ?_
  refine nv_lald hx hb hK hP 7 rfl (by omega) (by omega) dX12_inner_29 ?_
  refine lv_goto (tgt := 39) hx hb dX12_inner_30 (by decide) ?_
  exact hend ((by first | rw [if_pos h21] | rw [if_neg (by rw [h21]; decide)])) dX12_inner_39
set_option maxHeartbeats 4000000 in
set_option maxRecDepth 100000 in
theorem c_X12_session {l : Launch} {D : va_G} {cy : Nat → ClassId} {o : Nat} {ad : Nat → Nat} {tl : va_W} {tp os sz bits F G u nb ns T M id : Nat} {ft fo fi : Nat → UInt8} {g : Nat → Int32} {pt ih il ip pn op so fa fp st en dr : Nat → Nat} (hb_so : ∀ i, so i < 2 ^ 31) (hb_fa : ∀ i, fa i < 2 ^ 32) (hb_fp : ∀ i, fp i < 2 ^ 31) (hb_st : ∀ i, st i ≤ 7) (hb_enT : ∀ i, i < ns → T ≤ en i) {i w : Nat} (hi : i < ns) (hns : ns ≤ 128) (hw9 : w < 2 ^ 31) : RO l yX12_session cX12_session 3 (some .int) 1 25 [.ref o, .int (nI i), .int (nI w)] D cy (mW cy o ad tp os sz bits F G u nb ns T M id ft fo fi g pt ih il ip pn op so fa fp st en dr ++ tl) (.int (tg_sw so fa fp st en T i w)) := by
  refine ROi (by decide) (lv0 := [(0, .ref o), (1, .int (nI i)), (2, .int (nI w))]) rfl (Nat.le_of_ble_eq_true rfl) ?_
  intro p e s m args below meth c ls Q S hP hK hend hl
  have hx := S.1
  have hb := S.2.1
  have hown : s.vm.findClass RX12 = some m.cls := S.2.2.2.1
  have ht : ∀ w ∈ lw_g, w.before args s = true := fun w h => S.2.2.2.2 w (List.mem_cons_of_mem _ h)
  have hP : va_P D vwCl (mW cy o ad tp os sz bits F G u nb ns T M id ft fo fi g pt ih il ip pn op so fa fp st en dr ++ tl) s.heap := hP
  refine lv_iload_n hx hb dX12_session_0 rfl (lv_at hl 1 rfl) ?_
  refine nv_i2l hx hb (by omega) dX12_session_1 ?_
  refine lv_lconst (v := lN 0) hx hb dX12_session_2 (by decide) ?_
  refine lv_aload_n hx hb dX12_session_3 rfl (lv_at hl 0 rfl) ?_
  refine va_get (ci := 9) (C := RX12) (T := TX12) (N := 28) hx hb ht iFX12 hown hK hP 0 rfl rfl 18 (by decide) (ht _ kw4_128) (fun _ h9 => h9) rfl dX12_session_4 ?_
  refine nv_i2l hx hb (by omega) dX12_session_7 ?_
  refine lv_lconst (v := lN 1) hx hb dX12_session_8 (by decide) ?_
  refine nv_lsub hx hb (by omega) dX12_session_9 ?_
  refine ro_S S (c_X12_isIn (v := lN (i)) (lo := lN (0)) (hi := lN (ns - 1))) kw5_14 yv_X12_isIn ⟨Nat.le_of_ble_eq_true rfl, Nat.le_of_ble_eq_true rfl⟩ hK hP rfl hl.1 rfl (Nat.le_of_ble_eq_true rfl) dX12_session_10 ⟨(Nat.zero_le _), (Nat.zero_le _)⟩ ?_
  rw [show tg_isIn (lN (i)) (lN (0)) (lN (ns - 1)) = true from (by rw [isIn_nat (by omega) (by omega) (by omega)]; exact decide_eq_true (by omega))]
  refine nv_if_neb (tgt := 18) hx hb dX12_session_13 (by decide) (fun _ => ?_) (fun h => absurd h (by decide))
  refine lv_iload_n hx hb dX12_session_18 rfl (lv_at hl 2 rfl) ?_
  by_cases hs19_0 : w = 0
  · refine lv_tableIn (off := 29) (tgt := 48) hx hb dX12_session_19 (by rw [hs19_0]; decide) (by rw [hs19_0]; decide) (by rw [hs19_0]; decide) (by decide) ?_
    refine lv_aload_n hx hb dX12_session_48 rfl (lv_at hl 0 rfl) ?_
    refine va_get (ci := 9) (C := RX12) (T := TX12) (N := 28) hx hb ht iFX12 hown hK hP 0 rfl rfl 19 (by decide) (ht _ kw4_129) (fun _ h9 => h9) rfl dX12_session_49 ?_
    refine lv_iload_n hx hb dX12_session_52 rfl (lv_at hl 1 rfl) ?_
    refine nv_iald hx hb hK hP 11 rfl (by omega) (by omega) dX12_session_53 ?_
    exact hend ((by first | (exfalso; omega) | (unfold tg_sw; (repeat (first | rw [if_pos (by omega)] | rw [if_neg (by omega)]))))) dX12_session_54
  by_cases hs19_1 : w = 1
  · refine lv_tableIn (off := 36) (tgt := 55) hx hb dX12_session_19 (by rw [hs19_1]; decide) (by rw [hs19_1]; decide) (by rw [hs19_1]; decide) (by decide) ?_
    refine lv_aload_n hx hb dX12_session_55 rfl (lv_at hl 0 rfl) ?_
    refine va_get (ci := 9) (C := RX12) (T := TX12) (N := 28) hx hb ht iFX12 hown hK hP 0 rfl rfl 20 (by decide) (ht _ kw4_130) (fun _ h9 => h9) rfl dX12_session_56 ?_
    refine lv_iload_n hx hb dX12_session_59 rfl (lv_at hl 1 rfl) ?_
    refine nv_iald hx hb hK hP 12 rfl (by omega) (by omega) dX12_session_60 ?_
    exact hend ((by first | (exfalso; omega) | (unfold tg_sw; (repeat (first | rw [if_pos (by omega)] | rw [if_neg (by omega)]))))) dX12_session_61
  by_cases hs19_2 : w = 2
  · refine lv_tableIn (off := 43) (tgt := 62) hx hb dX12_session_19 (by rw [hs19_2]; decide) (by rw [hs19_2]; decide) (by rw [hs19_2]; decide) (by decide) ?_
    refine lv_aload_n hx hb dX12_session_62 rfl (lv_at hl 0 rfl) ?_
    refine va_get (ci := 9) (C := RX12) (T := TX12) (N := 28) hx hb ht iFX12 hown hK hP 0 rfl rfl 21 (by decide) (ht _ kw4_131) (fun _ h9 => h9) rfl dX12_session_63 ?_
    refine lv_iload_n hx hb dX12_session_66 rfl (lv_at hl 1 rfl) ?_
    refine nv_iald hx hb hK hP 13 rfl (by omega) (by omega) dX12_session_67 ?_
    exact hend ((by first | (exfalso; omega) | (unfold tg_sw; (repeat (first | rw [if_pos (by omega)] | rw [if_neg (by omega)]))))) dX12_session_68
  by_cases hs19_3 : w = 3
  · refine lv_tableIn (off := 50) (tgt := 69) hx hb dX12_session_19 (by rw [hs19_3]; decide) (by rw [hs19_3]; decide) (by rw [hs19_3]; decide) (by decide) ?_
    refine lv_aload_n hx hb dX12_session_69 rfl (lv_at hl 0 rfl) ?_
    refine va_get (ci := 9) (C := RX12) (T := TX12) (N := 28) hx hb ht iFX12 hown hK hP 0 rfl rfl 22 (by decide) (ht _ kw4_132) (fun _ h9 => h9) rfl dX12_session_70 ?_
    refine lv_iload_n hx hb dX12_session_73 rfl (lv_at hl 1 rfl) ?_
    refine nv_iald hx hb hK hP 14 rfl (by omega) (by omega) dX12_session_74 ?_
    exact hend ((by first | (exfalso; omega) | (unfold tg_sw; (repeat (first | rw [if_pos (by omega)] | rw [if_neg (by omega)]))))) dX12_session_75
  refine lv_tableOut (tgt := 76) hx hb dX12_session_19 (by rw [nI_toInt (by omega)]; omega) (by decide) ?_
  refine lv_iload_n hx hb dX12_session_76 rfl (lv_at hl 2 rfl) ?_
  refine nv_iconst (k := 4) hx hb dX12_session_77 rfl ?_
  refine nv_icmp_ne (tgt := 95) hx hb dX12_session_78 (by decide) (by omega) (by omega) (fun h78 => ?_) (fun h78 => ?_)
  · skip
    refine lv_iconst (v := -1) hx hb dX12_session_95 (by decide) ?_
    exact hend ((by first | (exfalso; omega) | (unfold tg_sw; (repeat (first | rw [if_pos (by omega)] | rw [if_neg (by omega)]))))) dX12_session_96
  have hle9 := hb_enT i hi
  refine lv_aload_n hx hb dX12_session_81 rfl (lv_at hl 0 rfl) ?_
  refine va_get (ci := 9) (C := RX12) (T := TX12) (N := 28) hx hb ht iFX12 hown hK hP 0 rfl rfl 23 (by decide) (ht _ kw4_133) (fun _ h9 => h9) rfl dX12_session_82 ?_
  refine lv_iload_n hx hb dX12_session_85 rfl (lv_at hl 1 rfl) ?_
  refine nv_iald hx hb hK hP 15 rfl (by omega) (by omega) dX12_session_86 ?_
  refine lv_aload_n hx hb dX12_session_87 rfl (lv_at hl 0 rfl) ?_
  refine va_get (ci := 9) (C := RX12) (T := TX12) (N := 28) hx hb ht iFX12 hown hK hP 0 rfl rfl 24 (by decide) (ht _ kw4_134) (fun _ h9 => h9) rfl dX12_session_88 ?_
  refine nv_isub hx hb (by omega) dX12_session_91 ?_
  refine lv_goto (tgt := 96) hx hb dX12_session_92 (by decide) ?_
  exact hend ((by first | (exfalso; omega) | (unfold tg_sw; (repeat (first | rw [if_pos (by omega)] | rw [if_neg (by omega)]))))) dX12_session_96
set_option maxHeartbeats 4000000 in
set_option maxRecDepth 100000 in
theorem c_X12_sessionW {l : Launch} {D : va_G} {cy : Nat → ClassId} {o : Nat} {ad : Nat → Nat} {tl : va_W} {tp os sz bits F G u nb ns T M id : Nat} {ft fo fi : Nat → UInt8} {g : Nat → Int32} {pt ih il ip pn op so fa fp st en dr : Nat → Nat} {i : Nat} {w : Int32} (hi : i < ns) (hns : ns ≤ 128) (hneg : w < 0) : RO l yX12_session cX12_session 3 (some .int) 1 25 [.ref o, .int (nI i), .int w] D cy (mW cy o ad tp os sz bits F G u nb ns T M id ft fo fi g pt ih il ip pn op so fa fp st en dr ++ tl) (.int (-1)) := by
  refine ROi (by decide) (lv0 := [(0, .ref o), (1, .int (nI i)), (2, .int w)]) rfl (Nat.le_of_ble_eq_true rfl) ?_
  intro p e s m args below meth c ls Q S hP hK hend hl
  have hx := S.1
  have hb := S.2.1
  have hown : s.vm.findClass RX12 = some m.cls := S.2.2.2.1
  have ht : ∀ w ∈ lw_g, w.before args s = true := fun w h => S.2.2.2.2 w (List.mem_cons_of_mem _ h)
  have hP : va_P D vwCl (mW cy o ad tp os sz bits F G u nb ns T M id ft fo fi g pt ih il ip pn op so fa fp st en dr ++ tl) s.heap := hP
  refine lv_iload_n hx hb dX12_session_0 rfl (lv_at hl 1 rfl) ?_
  refine nv_i2l hx hb (by omega) dX12_session_1 ?_
  refine lv_lconst (v := lN 0) hx hb dX12_session_2 (by decide) ?_
  refine lv_aload_n hx hb dX12_session_3 rfl (lv_at hl 0 rfl) ?_
  refine va_get (ci := 9) (C := RX12) (T := TX12) (N := 28) hx hb ht iFX12 hown hK hP 0 rfl rfl 18 (by decide) (ht _ kw4_128) (fun _ h9 => h9) rfl dX12_session_4 ?_
  refine nv_i2l hx hb (by omega) dX12_session_7 ?_
  refine lv_lconst (v := lN 1) hx hb dX12_session_8 (by decide) ?_
  refine nv_lsub hx hb (by omega) dX12_session_9 ?_
  refine ro_S S (c_X12_isIn (v := lN (i)) (lo := lN (0)) (hi := lN (ns - 1))) kw5_14 yv_X12_isIn ⟨Nat.le_of_ble_eq_true rfl, Nat.le_of_ble_eq_true rfl⟩ hK hP rfl hl.1 rfl (Nat.le_of_ble_eq_true rfl) dX12_session_10 ⟨(Nat.zero_le _), (Nat.zero_le _)⟩ ?_
  rw [show tg_isIn (lN (i)) (lN (0)) (lN (ns - 1)) = true from (by rw [isIn_nat (by omega) (by omega) (by omega)]; exact decide_eq_true (by omega))]
  refine nv_if_neb (tgt := 18) hx hb dX12_session_13 (by decide) (fun _ => ?_) (fun h => absurd h (by decide))
  refine lv_iload_n hx hb dX12_session_18 rfl (lv_at hl 2 rfl) ?_
  refine lv_tableOut (tgt := 76) hx hb dX12_session_19 (Or.inl (neg_toInt hneg)) (by decide) ?_
  refine lv_iload_n hx hb dX12_session_76 rfl (lv_at hl 2 rfl) ?_
  refine nv_iconst (k := 4) hx hb dX12_session_77 rfl ?_
  refine lv_icmp_ne (tgt := 95) hx hb dX12_session_78 (by decide) (fun h78 => ?_) (fun h78 => ?_)
  · skip
    refine lv_iconst (v := -1) hx hb dX12_session_95 (by decide) ?_
    exact hend (rfl) dX12_session_96
  exact absurd hneg (by rw [h78]; decide)
theorem dX12_count_0 : decode cX12_count 0 = .ok (.iload_n 1, 1) := by decide +kernel
theorem dX12_count_1 : decode cX12_count 1 = .ok (.tableswitch 128 0 16 #[83, 88, 93, 98, 103, 108, 113, 118, 128, 128, 128, 128, 128, 128, 128, 128, 123], 83) := by decide +kernel
theorem dX12_count_84 : decode cX12_count 84 = .ok (.aload_n 0, 1) := by decide +kernel
theorem dX12_count_85 : decode cX12_count 85 = .ok (.getfield 80, 3) := by decide +kernel
theorem dX12_count_88 : decode cX12_count 88 = .ok (.ireturn, 1) := by decide +kernel
theorem dX12_count_89 : decode cX12_count 89 = .ok (.aload_n 0, 1) := by decide +kernel
theorem dX12_count_90 : decode cX12_count 90 = .ok (.getfield 83, 3) := by decide +kernel
theorem dX12_count_93 : decode cX12_count 93 = .ok (.ireturn, 1) := by decide +kernel
theorem dX12_count_94 : decode cX12_count 94 = .ok (.aload_n 0, 1) := by decide +kernel
theorem dX12_count_95 : decode cX12_count 95 = .ok (.getfield 86, 3) := by decide +kernel
theorem dX12_count_98 : decode cX12_count 98 = .ok (.ireturn, 1) := by decide +kernel
theorem dX12_count_99 : decode cX12_count 99 = .ok (.aload_n 0, 1) := by decide +kernel
theorem dX12_count_100 : decode cX12_count 100 = .ok (.getfield 64, 3) := by decide +kernel
theorem dX12_count_103 : decode cX12_count 103 = .ok (.ireturn, 1) := by decide +kernel
theorem dX12_count_104 : decode cX12_count 104 = .ok (.aload_n 0, 1) := by decide +kernel
theorem dX12_count_105 : decode cX12_count 105 = .ok (.getfield 118, 3) := by decide +kernel
theorem dX12_count_108 : decode cX12_count 108 = .ok (.ireturn, 1) := by decide +kernel
theorem dX12_count_109 : decode cX12_count 109 = .ok (.aload_n 0, 1) := by decide +kernel
theorem dX12_count_110 : decode cX12_count 110 = .ok (.getfield 234, 3) := by decide +kernel
theorem dX12_count_113 : decode cX12_count 113 = .ok (.ireturn, 1) := by decide +kernel
theorem dX12_count_114 : decode cX12_count 114 = .ok (.aload_n 0, 1) := by decide +kernel
theorem dX12_count_115 : decode cX12_count 115 = .ok (.getfield 163, 3) := by decide +kernel
theorem dX12_count_118 : decode cX12_count 118 = .ok (.ireturn, 1) := by decide +kernel
theorem dX12_count_119 : decode cX12_count 119 = .ok (.aload_n 0, 1) := by decide +kernel
theorem dX12_count_120 : decode cX12_count 120 = .ok (.getfield 231, 3) := by decide +kernel
theorem dX12_count_123 : decode cX12_count 123 = .ok (.ireturn, 1) := by decide +kernel
theorem dX12_count_124 : decode cX12_count 124 = .ok (.aload_n 0, 1) := by decide +kernel
theorem dX12_count_125 : decode cX12_count 125 = .ok (.getfield 60, 3) := by decide +kernel
theorem dX12_count_128 : decode cX12_count 128 = .ok (.ireturn, 1) := by decide +kernel
theorem dX12_count_129 : decode cX12_count 129 = .ok (.iload_n 1, 1) := by decide +kernel
theorem dX12_count_130 : decode cX12_count 130 = .ok (.i2l, 1) := by decide +kernel
theorem dX12_count_131 : decode cX12_count 131 = .ok (.ldc2_w 293, 3) := by decide +kernel
theorem dX12_count_134 : decode cX12_count 134 = .ok (.ldc2_w 295, 3) := by decide +kernel
theorem dX12_count_137 : decode cX12_count 137 = .ok (.invokestatic 178, 3) := by decide +kernel
theorem dX12_count_140 : decode cX12_count 140 = .ok (.ifCond .eq 12, 3) := by decide +kernel
theorem dX12_count_143 : decode cX12_count 143 = .ok (.aload_n 0, 1) := by decide +kernel
theorem dX12_count_144 : decode cX12_count 144 = .ok (.getfield 57, 3) := by decide +kernel
theorem dX12_count_147 : decode cX12_count 147 = .ok (.iload_n 1, 1) := by decide +kernel
theorem dX12_count_148 : decode cX12_count 148 = .ok (.iaload, 1) := by decide +kernel
theorem dX12_count_149 : decode cX12_count 149 = .ok (.goto 4, 3) := by decide +kernel
theorem dX12_count_152 : decode cX12_count 152 = .ok (.iconst (-1), 1) := by decide +kernel
theorem dX12_count_153 : decode cX12_count 153 = .ok (.ireturn, 1) := by decide +kernel
theorem yv_X12_count : YV RX12 yX12_count cX12_count 2 (some .int) 1 := ⟨kw5_202, kw5_203, kw1_10, kw5_204, by decide +kernel⟩
set_option maxHeartbeats 4000000 in
set_option maxRecDepth 100000 in
theorem c_X12_count {l : Launch} {D : va_G} {cy : Nat → ClassId} {o : Nat} {ad : Nat → Nat} {tl : va_W} {tp os sz bits F G u nb ns T M id : Nat} {ft fo fi : Nat → UInt8} {g : Nat → Int32} {pt ih il ip pn op so fa fp st en dr : Nat → Nat} {w : Nat} (hw9 : w < 2 ^ 31) : RO l yX12_count cX12_count 2 (some .int) 1 25 [.ref o, .int (nI w)] D cy (mW cy o ad tp os sz bits F G u nb ns T M id ft fo fi g pt ih il ip pn op so fa fp st en dr ++ tl) (.int (tg_cw nb ns u bits tp os T M id (fun k => dr (k + 10)) w)) := by
  refine ROi (by decide) (lv0 := [(0, .ref o), (1, .int (nI w))]) rfl (Nat.le_of_ble_eq_true rfl) ?_
  intro p e s m args below meth c ls Q S hP hK hend hl
  have hx := S.1
  have hb := S.2.1
  have hown : s.vm.findClass RX12 = some m.cls := S.2.2.2.1
  have ht : ∀ w ∈ lw_g, w.before args s = true := fun w h => S.2.2.2.2 w (List.mem_cons_of_mem _ h)
  have hP : va_P D vwCl (mW cy o ad tp os sz bits F G u nb ns T M id ft fo fi g pt ih il ip pn op so fa fp st en dr ++ tl) s.heap := hP
  refine lv_iload_n hx hb dX12_count_0 rfl (lv_at hl 1 rfl) ?_
  by_cases hs1_0 : w = 0
  · refine lv_tableIn (off := 83) (tgt := 84) hx hb dX12_count_1 (by rw [hs1_0]; decide) (by rw [hs1_0]; decide) (by rw [hs1_0]; decide) (by decide) ?_
    refine lv_aload_n hx hb dX12_count_84 rfl (lv_at hl 0 rfl) ?_
    refine va_get (ci := 9) (C := RX12) (T := TX12) (N := 28) hx hb ht iFX12 hown hK hP 0 rfl rfl 11 (by decide) (ht _ kw4_121) (fun _ h9 => h9) rfl dX12_count_85 ?_
    exact hend ((by first | (exfalso; omega) | (unfold tg_cw; (repeat (first | rw [if_pos (by omega)] | rw [if_neg (by omega)]))))) dX12_count_88
  by_cases hs1_1 : w = 1
  · refine lv_tableIn (off := 88) (tgt := 89) hx hb dX12_count_1 (by rw [hs1_1]; decide) (by rw [hs1_1]; decide) (by rw [hs1_1]; decide) (by decide) ?_
    refine lv_aload_n hx hb dX12_count_89 rfl (lv_at hl 0 rfl) ?_
    refine va_get (ci := 9) (C := RX12) (T := TX12) (N := 28) hx hb ht iFX12 hown hK hP 0 rfl rfl 18 (by decide) (ht _ kw4_128) (fun _ h9 => h9) rfl dX12_count_90 ?_
    exact hend ((by first | (exfalso; omega) | (unfold tg_cw; (repeat (first | rw [if_pos (by omega)] | rw [if_neg (by omega)]))))) dX12_count_93
  by_cases hs1_2 : w = 2
  · refine lv_tableIn (off := 93) (tgt := 94) hx hb dX12_count_1 (by rw [hs1_2]; decide) (by rw [hs1_2]; decide) (by rw [hs1_2]; decide) (by decide) ?_
    refine lv_aload_n hx hb dX12_count_94 rfl (lv_at hl 0 rfl) ?_
    refine va_get (ci := 9) (C := RX12) (T := TX12) (N := 28) hx hb ht iFX12 hown hK hP 0 rfl rfl 9 (by decide) (ht _ kw4_119) (fun _ h9 => h9) rfl dX12_count_95 ?_
    exact hend ((by first | (exfalso; omega) | (unfold tg_cw; (repeat (first | rw [if_pos (by omega)] | rw [if_neg (by omega)]))))) dX12_count_98
  by_cases hs1_3 : w = 3
  · refine lv_tableIn (off := 98) (tgt := 99) hx hb dX12_count_1 (by rw [hs1_3]; decide) (by rw [hs1_3]; decide) (by rw [hs1_3]; decide) (by decide) ?_
    refine lv_aload_n hx hb dX12_count_99 rfl (lv_at hl 0 rfl) ?_
    refine va_get (ci := 9) (C := RX12) (T := TX12) (N := 28) hx hb ht iFX12 hown hK hP 0 rfl rfl 6 (by decide) (ht _ kw4_116) (fun _ h9 => h9) rfl dX12_count_100 ?_
    exact hend ((by first | (exfalso; omega) | (unfold tg_cw; (repeat (first | rw [if_pos (by omega)] | rw [if_neg (by omega)]))))) dX12_count_103
  by_cases hs1_4 : w = 4
  · refine lv_tableIn (off := 103) (tgt := 104) hx hb dX12_count_1 (by rw [hs1_4]; decide) (by rw [hs1_4]; decide) (by rw [hs1_4]; decide) (by decide) ?_
    refine lv_aload_n hx hb dX12_count_104 rfl (lv_at hl 0 rfl) ?_
    refine va_get (ci := 9) (C := RX12) (T := TX12) (N := 28) hx hb ht iFX12 hown hK hP 0 rfl rfl 1 (by decide) (ht _ kw4_111) (fun _ h9 => h9) rfl dX12_count_105 ?_
    exact hend ((by first | (exfalso; omega) | (unfold tg_cw; (repeat (first | rw [if_pos (by omega)] | rw [if_neg (by omega)]))))) dX12_count_108
  by_cases hs1_5 : w = 5
  · refine lv_tableIn (off := 108) (tgt := 109) hx hb dX12_count_1 (by rw [hs1_5]; decide) (by rw [hs1_5]; decide) (by rw [hs1_5]; decide) (by decide) ?_
    refine lv_aload_n hx hb dX12_count_109 rfl (lv_at hl 0 rfl) ?_
    refine va_get (ci := 9) (C := RX12) (T := TX12) (N := 28) hx hb ht iFX12 hown hK hP 0 rfl rfl 3 (by decide) (ht _ kw4_113) (fun _ h9 => h9) rfl dX12_count_110 ?_
    exact hend ((by first | (exfalso; omega) | (unfold tg_cw; (repeat (first | rw [if_pos (by omega)] | rw [if_neg (by omega)]))))) dX12_count_113
  by_cases hs1_6 : w = 6
  · refine lv_tableIn (off := 113) (tgt := 114) hx hb dX12_count_1 (by rw [hs1_6]; decide) (by rw [hs1_6]; decide) (by rw [hs1_6]; decide) (by decide) ?_
    refine lv_aload_n hx hb dX12_count_114 rfl (lv_at hl 0 rfl) ?_
    refine va_get (ci := 9) (C := RX12) (T := TX12) (N := 28) hx hb ht iFX12 hown hK hP 0 rfl rfl 24 (by decide) (ht _ kw4_134) (fun _ h9 => h9) rfl dX12_count_115 ?_
    exact hend ((by first | (exfalso; omega) | (unfold tg_cw; (repeat (first | rw [if_pos (by omega)] | rw [if_neg (by omega)]))))) dX12_count_118
  by_cases hs1_7 : w = 7
  · refine lv_tableIn (off := 118) (tgt := 119) hx hb dX12_count_1 (by rw [hs1_7]; decide) (by rw [hs1_7]; decide) (by rw [hs1_7]; decide) (by decide) ?_
    refine lv_aload_n hx hb dX12_count_119 rfl (lv_at hl 0 rfl) ?_
    refine va_get (ci := 9) (C := RX12) (T := TX12) (N := 28) hx hb ht iFX12 hown hK hP 0 rfl rfl 25 (by decide) (ht _ kw4_135) (fun _ h9 => h9) rfl dX12_count_120 ?_
    exact hend ((by first | (exfalso; omega) | (unfold tg_cw; (repeat (first | rw [if_pos (by omega)] | rw [if_neg (by omega)]))))) dX12_count_123
  by_cases hs1_8 : w = 8
  · refine lv_tableIn (off := 128) (tgt := 129) hx hb dX12_count_1 (by rw [hs1_8]; decide) (by rw [hs1_8]; decide) (by rw [hs1_8]; decide) (by decide) ?_
    refine lv_iload_n hx hb dX12_count_129 rfl (lv_at hl 1 rfl) ?_
    refine nv_i2l hx hb (by omega) dX12_count_130 ?_
    refine nv_ldc2 (k := 10) hx hb hown (ht _ kw5_205) (by decide) dX12_count_131 ?_
    refine nv_ldc2 (k := 15) hx hb hown (ht _ kw5_206) (by decide) dX12_count_134 ?_
    refine ro_S S (c_X12_isIn (v := lN (w)) (lo := lN (10)) (hi := lN (15))) kw5_14 yv_X12_isIn ⟨Nat.le_of_ble_eq_true rfl, Nat.le_of_ble_eq_true rfl⟩ hK hP rfl hl.1 rfl (Nat.le_of_ble_eq_true rfl) dX12_count_137 ⟨(Nat.zero_le _), (Nat.zero_le _)⟩ ?_
    rw [isIn_nat (by omega) (by decide) (by decide)]
    refine nv_if_eqb (tgt := 152) hx hb dX12_count_140 (by decide) (fun h140 => ?_) (fun h140 => ?_)
    · skip
      refine lv_iconst (v := -1) hx hb dX12_count_152 (by decide) ?_
      exact hend ((by first | (have h9 := of_decide_eq_true h140; first | (exfalso; omega) | (unfold tg_cw; (repeat (first | rw [if_pos (by omega)] | rw [if_neg (by omega)])); exact congrArg (fun z => nI (dr z)) (show w = w - 10 + 10 by omega))) | (have h9 := of_decide_eq_false h140; first | (exfalso; omega) | (unfold tg_cw; (repeat (first | rw [if_pos (by omega)] | rw [if_neg (by omega)])))))) dX12_count_153
    have h9w := of_decide_eq_true h140
    refine lv_aload_n hx hb dX12_count_143 rfl (lv_at hl 0 rfl) ?_
    refine va_get (ci := 9) (C := RX12) (T := TX12) (N := 28) hx hb ht iFX12 hown hK hP 0 rfl rfl 26 (by decide) (ht _ kw4_136) (fun _ h9 => h9) rfl dX12_count_144 ?_
    refine lv_iload_n hx hb dX12_count_147 rfl (lv_at hl 1 rfl) ?_
    refine nv_iald hx hb hK hP 16 rfl (by omega) (by omega) dX12_count_148 ?_
    refine lv_goto (tgt := 153) hx hb dX12_count_149 (by decide) ?_
    exact hend ((by first | (have h9 := of_decide_eq_true h140; first | (exfalso; omega) | (unfold tg_cw; (repeat (first | rw [if_pos (by omega)] | rw [if_neg (by omega)])); exact congrArg (fun z => nI (dr z)) (show w = w - 10 + 10 by omega))) | (have h9 := of_decide_eq_false h140; first | (exfalso; omega) | (unfold tg_cw; (repeat (first | rw [if_pos (by omega)] | rw [if_neg (by omega)])))))) dX12_count_153
  by_cases hs1_9 : w = 9
  · refine lv_tableIn (off := 128) (tgt := 129) hx hb dX12_count_1 (by rw [hs1_9]; decide) (by rw [hs1_9]; decide) (by rw [hs1_9]; decide) (by decide) ?_
    refine lv_iload_n hx hb dX12_count_129 rfl (lv_at hl 1 rfl) ?_
    refine nv_i2l hx hb (by omega) dX12_count_130 ?_
    refine nv_ldc2 (k := 10) hx hb hown (ht _ kw5_205) (by decide) dX12_count_131 ?_
    refine nv_ldc2 (k := 15) hx hb hown (ht _ kw5_206) (by decide) dX12_count_134 ?_
    refine ro_S S (c_X12_isIn (v := lN (w)) (lo := lN (10)) (hi := lN (15))) kw5_14 yv_X12_isIn ⟨Nat.le_of_ble_eq_true rfl, Nat.le_of_ble_eq_true rfl⟩ hK hP rfl hl.1 rfl (Nat.le_of_ble_eq_true rfl) dX12_count_137 ⟨(Nat.zero_le _), (Nat.zero_le _)⟩ ?_
    rw [isIn_nat (by omega) (by decide) (by decide)]
    refine nv_if_eqb (tgt := 152) hx hb dX12_count_140 (by decide) (fun h140 => ?_) (fun h140 => ?_)
    · skip
      refine lv_iconst (v := -1) hx hb dX12_count_152 (by decide) ?_
      exact hend ((by first | (have h9 := of_decide_eq_true h140; first | (exfalso; omega) | (unfold tg_cw; (repeat (first | rw [if_pos (by omega)] | rw [if_neg (by omega)])); exact congrArg (fun z => nI (dr z)) (show w = w - 10 + 10 by omega))) | (have h9 := of_decide_eq_false h140; first | (exfalso; omega) | (unfold tg_cw; (repeat (first | rw [if_pos (by omega)] | rw [if_neg (by omega)])))))) dX12_count_153
    have h9w := of_decide_eq_true h140
    refine lv_aload_n hx hb dX12_count_143 rfl (lv_at hl 0 rfl) ?_
    refine va_get (ci := 9) (C := RX12) (T := TX12) (N := 28) hx hb ht iFX12 hown hK hP 0 rfl rfl 26 (by decide) (ht _ kw4_136) (fun _ h9 => h9) rfl dX12_count_144 ?_
    refine lv_iload_n hx hb dX12_count_147 rfl (lv_at hl 1 rfl) ?_
    refine nv_iald hx hb hK hP 16 rfl (by omega) (by omega) dX12_count_148 ?_
    refine lv_goto (tgt := 153) hx hb dX12_count_149 (by decide) ?_
    exact hend ((by first | (have h9 := of_decide_eq_true h140; first | (exfalso; omega) | (unfold tg_cw; (repeat (first | rw [if_pos (by omega)] | rw [if_neg (by omega)])); exact congrArg (fun z => nI (dr z)) (show w = w - 10 + 10 by omega))) | (have h9 := of_decide_eq_false h140; first | (exfalso; omega) | (unfold tg_cw; (repeat (first | rw [if_pos (by omega)] | rw [if_neg (by omega)])))))) dX12_count_153
  by_cases hs1_10 : w = 10
  · refine lv_tableIn (off := 128) (tgt := 129) hx hb dX12_count_1 (by rw [hs1_10]; decide) (by rw [hs1_10]; decide) (by rw [hs1_10]; decide) (by decide) ?_
    refine lv_iload_n hx hb dX12_count_129 rfl (lv_at hl 1 rfl) ?_
    refine nv_i2l hx hb (by omega) dX12_count_130 ?_
    refine nv_ldc2 (k := 10) hx hb hown (ht _ kw5_205) (by decide) dX12_count_131 ?_
    refine nv_ldc2 (k := 15) hx hb hown (ht _ kw5_206) (by decide) dX12_count_134 ?_
    refine ro_S S (c_X12_isIn (v := lN (w)) (lo := lN (10)) (hi := lN (15))) kw5_14 yv_X12_isIn ⟨Nat.le_of_ble_eq_true rfl, Nat.le_of_ble_eq_true rfl⟩ hK hP rfl hl.1 rfl (Nat.le_of_ble_eq_true rfl) dX12_count_137 ⟨(Nat.zero_le _), (Nat.zero_le _)⟩ ?_
    rw [isIn_nat (by omega) (by decide) (by decide)]
    refine nv_if_eqb (tgt := 152) hx hb dX12_count_140 (by decide) (fun h140 => ?_) (fun h140 => ?_)
    · skip
      refine lv_iconst (v := -1) hx hb dX12_count_152 (by decide) ?_
      exact hend ((by first | (have h9 := of_decide_eq_true h140; first | (exfalso; omega) | (unfold tg_cw; (repeat (first | rw [if_pos (by omega)] | rw [if_neg (by omega)])); exact congrArg (fun z => nI (dr z)) (show w = w - 10 + 10 by omega))) | (have h9 := of_decide_eq_false h140; first | (exfalso; omega) | (unfold tg_cw; (repeat (first | rw [if_pos (by omega)] | rw [if_neg (by omega)])))))) dX12_count_153
    have h9w := of_decide_eq_true h140
    refine lv_aload_n hx hb dX12_count_143 rfl (lv_at hl 0 rfl) ?_
    refine va_get (ci := 9) (C := RX12) (T := TX12) (N := 28) hx hb ht iFX12 hown hK hP 0 rfl rfl 26 (by decide) (ht _ kw4_136) (fun _ h9 => h9) rfl dX12_count_144 ?_
    refine lv_iload_n hx hb dX12_count_147 rfl (lv_at hl 1 rfl) ?_
    refine nv_iald hx hb hK hP 16 rfl (by omega) (by omega) dX12_count_148 ?_
    refine lv_goto (tgt := 153) hx hb dX12_count_149 (by decide) ?_
    exact hend ((by first | (have h9 := of_decide_eq_true h140; first | (exfalso; omega) | (unfold tg_cw; (repeat (first | rw [if_pos (by omega)] | rw [if_neg (by omega)])); exact congrArg (fun z => nI (dr z)) (show w = w - 10 + 10 by omega))) | (have h9 := of_decide_eq_false h140; first | (exfalso; omega) | (unfold tg_cw; (repeat (first | rw [if_pos (by omega)] | rw [if_neg (by omega)])))))) dX12_count_153
  by_cases hs1_11 : w = 11
  · refine lv_tableIn (off := 128) (tgt := 129) hx hb dX12_count_1 (by rw [hs1_11]; decide) (by rw [hs1_11]; decide) (by rw [hs1_11]; decide) (by decide) ?_
    refine lv_iload_n hx hb dX12_count_129 rfl (lv_at hl 1 rfl) ?_
    refine nv_i2l hx hb (by omega) dX12_count_130 ?_
    refine nv_ldc2 (k := 10) hx hb hown (ht _ kw5_205) (by decide) dX12_count_131 ?_
    refine nv_ldc2 (k := 15) hx hb hown (ht _ kw5_206) (by decide) dX12_count_134 ?_
    refine ro_S S (c_X12_isIn (v := lN (w)) (lo := lN (10)) (hi := lN (15))) kw5_14 yv_X12_isIn ⟨Nat.le_of_ble_eq_true rfl, Nat.le_of_ble_eq_true rfl⟩ hK hP rfl hl.1 rfl (Nat.le_of_ble_eq_true rfl) dX12_count_137 ⟨(Nat.zero_le _), (Nat.zero_le _)⟩ ?_
    rw [isIn_nat (by omega) (by decide) (by decide)]
    refine nv_if_eqb (tgt := 152) hx hb dX12_count_140 (by decide) (fun h140 => ?_) (fun h140 => ?_)
    · skip
      refine lv_iconst (v := -1) hx hb dX12_count_152 (by decide) ?_
      exact hend ((by first | (have h9 := of_decide_eq_true h140; first | (exfalso; omega) | (unfold tg_cw; (repeat (first | rw [if_pos (by omega)] | rw [if_neg (by omega)])); exact congrArg (fun z => nI (dr z)) (show w = w - 10 + 10 by omega))) | (have h9 := of_decide_eq_false h140; first | (exfalso; omega) | (unfold tg_cw; (repeat (first | rw [if_pos (by omega)] | rw [if_neg (by omega)])))))) dX12_count_153
    have h9w := of_decide_eq_true h140
    refine lv_aload_n hx hb dX12_count_143 rfl (lv_at hl 0 rfl) ?_
    refine va_get (ci := 9) (C := RX12) (T := TX12) (N := 28) hx hb ht iFX12 hown hK hP 0 rfl rfl 26 (by decide) (ht _ kw4_136) (fun _ h9 => h9) rfl dX12_count_144 ?_
    refine lv_iload_n hx hb dX12_count_147 rfl (lv_at hl 1 rfl) ?_
    refine nv_iald hx hb hK hP 16 rfl (by omega) (by omega) dX12_count_148 ?_
    refine lv_goto (tgt := 153) hx hb dX12_count_149 (by decide) ?_
    exact hend ((by first | (have h9 := of_decide_eq_true h140; first | (exfalso; omega) | (unfold tg_cw; (repeat (first | rw [if_pos (by omega)] | rw [if_neg (by omega)])); exact congrArg (fun z => nI (dr z)) (show w = w - 10 + 10 by omega))) | (have h9 := of_decide_eq_false h140; first | (exfalso; omega) | (unfold tg_cw; (repeat (first | rw [if_pos (by omega)] | rw [if_neg (by omega)])))))) dX12_count_153
  by_cases hs1_12 : w = 12
  · refine lv_tableIn (off := 128) (tgt := 129) hx hb dX12_count_1 (by rw [hs1_12]; decide) (by rw [hs1_12]; decide) (by rw [hs1_12]; decide) (by decide) ?_
    refine lv_iload_n hx hb dX12_count_129 rfl (lv_at hl 1 rfl) ?_
    refine nv_i2l hx hb (by omega) dX12_count_130 ?_
    refine nv_ldc2 (k := 10) hx hb hown (ht _ kw5_205) (by decide) dX12_count_131 ?_
    refine nv_ldc2 (k := 15) hx hb hown (ht _ kw5_206) (by decide) dX12_count_134 ?_
    refine ro_S S (c_X12_isIn (v := lN (w)) (lo := lN (10)) (hi := lN (15))) kw5_14 yv_X12_isIn ⟨Nat.le_of_ble_eq_true rfl, Nat.le_of_ble_eq_true rfl⟩ hK hP rfl hl.1 rfl (Nat.le_of_ble_eq_true rfl) dX12_count_137 ⟨(Nat.zero_le _), (Nat.zero_le _)⟩ ?_
    rw [isIn_nat (by omega) (by decide) (by decide)]
    refine nv_if_eqb (tgt := 152) hx hb dX12_count_140 (by decide) (fun h140 => ?_) (fun h140 => ?_)
    · skip
      refine lv_iconst (v := -1) hx hb dX12_count_152 (by decide) ?_
      exact hend ((by first | (have h9 := of_decide_eq_true h140; first | (exfalso; omega) | (unfold tg_cw; (repeat (first | rw [if_pos (by omega)] | rw [if_neg (by omega)])); exact congrArg (fun z => nI (dr z)) (show w = w - 10 + 10 by omega))) | (have h9 := of_decide_eq_false h140; first | (exfalso; omega) | (unfold tg_cw; (repeat (first | rw [if_pos (by omega)] | rw [if_neg (by omega)])))))) dX12_count_153
    have h9w := of_decide_eq_true h140
    refine lv_aload_n hx hb dX12_count_143 rfl (lv_at hl 0 rfl) ?_
    refine va_get (ci := 9) (C := RX12) (T := TX12) (N := 28) hx hb ht iFX12 hown hK hP 0 rfl rfl 26 (by decide) (ht _ kw4_136) (fun _ h9 => h9) rfl dX12_count_144 ?_
    refine lv_iload_n hx hb dX12_count_147 rfl (lv_at hl 1 rfl) ?_
    refine nv_iald hx hb hK hP 16 rfl (by omega) (by omega) dX12_count_148 ?_
    refine lv_goto (tgt := 153) hx hb dX12_count_149 (by decide) ?_
    exact hend ((by first | (have h9 := of_decide_eq_true h140; first | (exfalso; omega) | (unfold tg_cw; (repeat (first | rw [if_pos (by omega)] | rw [if_neg (by omega)])); exact congrArg (fun z => nI (dr z)) (show w = w - 10 + 10 by omega))) | (have h9 := of_decide_eq_false h140; first | (exfalso; omega) | (unfold tg_cw; (repeat (first | rw [if_pos (by omega)] | rw [if_neg (by omega)])))))) dX12_count_153
  by_cases hs1_13 : w = 13
  · refine lv_tableIn (off := 128) (tgt := 129) hx hb dX12_count_1 (by rw [hs1_13]; decide) (by rw [hs1_13]; decide) (by rw [hs1_13]; decide) (by decide) ?_
    refine lv_iload_n hx hb dX12_count_129 rfl (lv_at hl 1 rfl) ?_
    refine nv_i2l hx hb (by omega) dX12_count_130 ?_
    refine nv_ldc2 (k := 10) hx hb hown (ht _ kw5_205) (by decide) dX12_count_131 ?_
    refine nv_ldc2 (k := 15) hx hb hown (ht _ kw5_206) (by decide) dX12_count_134 ?_
    refine ro_S S (c_X12_isIn (v := lN (w)) (lo := lN (10)) (hi := lN (15))) kw5_14 yv_X12_isIn ⟨Nat.le_of_ble_eq_true rfl, Nat.le_of_ble_eq_true rfl⟩ hK hP rfl hl.1 rfl (Nat.le_of_ble_eq_true rfl) dX12_count_137 ⟨(Nat.zero_le _), (Nat.zero_le _)⟩ ?_
    rw [isIn_nat (by omega) (by decide) (by decide)]
    refine nv_if_eqb (tgt := 152) hx hb dX12_count_140 (by decide) (fun h140 => ?_) (fun h140 => ?_)
    · skip
      refine lv_iconst (v := -1) hx hb dX12_count_152 (by decide) ?_
      exact hend ((by first | (have h9 := of_decide_eq_true h140; first | (exfalso; omega) | (unfold tg_cw; (repeat (first | rw [if_pos (by omega)] | rw [if_neg (by omega)])); exact congrArg (fun z => nI (dr z)) (show w = w - 10 + 10 by omega))) | (have h9 := of_decide_eq_false h140; first | (exfalso; omega) | (unfold tg_cw; (repeat (first | rw [if_pos (by omega)] | rw [if_neg (by omega)])))))) dX12_count_153
    have h9w := of_decide_eq_true h140
    refine lv_aload_n hx hb dX12_count_143 rfl (lv_at hl 0 rfl) ?_
    refine va_get (ci := 9) (C := RX12) (T := TX12) (N := 28) hx hb ht iFX12 hown hK hP 0 rfl rfl 26 (by decide) (ht _ kw4_136) (fun _ h9 => h9) rfl dX12_count_144 ?_
    refine lv_iload_n hx hb dX12_count_147 rfl (lv_at hl 1 rfl) ?_
    refine nv_iald hx hb hK hP 16 rfl (by omega) (by omega) dX12_count_148 ?_
    refine lv_goto (tgt := 153) hx hb dX12_count_149 (by decide) ?_
    exact hend ((by first | (have h9 := of_decide_eq_true h140; first | (exfalso; omega) | (unfold tg_cw; (repeat (first | rw [if_pos (by omega)] | rw [if_neg (by omega)])); exact congrArg (fun z => nI (dr z)) (show w = w - 10 + 10 by omega))) | (have h9 := of_decide_eq_false h140; first | (exfalso; omega) | (unfold tg_cw; (repeat (first | rw [if_pos (by omega)] | rw [if_neg (by omega)])))))) dX12_count_153
  by_cases hs1_14 : w = 14
  · refine lv_tableIn (off := 128) (tgt := 129) hx hb dX12_count_1 (by rw [hs1_14]; decide) (by rw [hs1_14]; decide) (by rw [hs1_14]; decide) (by decide) ?_
    refine lv_iload_n hx hb dX12_count_129 rfl (lv_at hl 1 rfl) ?_
    refine nv_i2l hx hb (by omega) dX12_count_130 ?_
    refine nv_ldc2 (k := 10) hx hb hown (ht _ kw5_205) (by decide) dX12_count_131 ?_
    refine nv_ldc2 (k := 15) hx hb hown (ht _ kw5_206) (by decide) dX12_count_134 ?_
    refine ro_S S (c_X12_isIn (v := lN (w)) (lo := lN (10)) (hi := lN (15))) kw5_14 yv_X12_isIn ⟨Nat.le_of_ble_eq_true rfl, Nat.le_of_ble_eq_true rfl⟩ hK hP rfl hl.1 rfl (Nat.le_of_ble_eq_true rfl) dX12_count_137 ⟨(Nat.zero_le _), (Nat.zero_le _)⟩ ?_
    rw [isIn_nat (by omega) (by decide) (by decide)]
    refine nv_if_eqb (tgt := 152) hx hb dX12_count_140 (by decide) (fun h140 => ?_) (fun h140 => ?_)
    · skip
      refine lv_iconst (v := -1) hx hb dX12_count_152 (by decide) ?_
      exact hend ((by first | (have h9 := of_decide_eq_true h140; first | (exfalso; omega) | (unfold tg_cw; (repeat (first | rw [if_pos (by omega)] | rw [if_neg (by omega)])); exact congrArg (fun z => nI (dr z)) (show w = w - 10 + 10 by omega))) | (have h9 := of_decide_eq_false h140; first | (exfalso; omega) | (unfold tg_cw; (repeat (first | rw [if_pos (by omega)] | rw [if_neg (by omega)])))))) dX12_count_153
    have h9w := of_decide_eq_true h140
    refine lv_aload_n hx hb dX12_count_143 rfl (lv_at hl 0 rfl) ?_
    refine va_get (ci := 9) (C := RX12) (T := TX12) (N := 28) hx hb ht iFX12 hown hK hP 0 rfl rfl 26 (by decide) (ht _ kw4_136) (fun _ h9 => h9) rfl dX12_count_144 ?_
    refine lv_iload_n hx hb dX12_count_147 rfl (lv_at hl 1 rfl) ?_
    refine nv_iald hx hb hK hP 16 rfl (by omega) (by omega) dX12_count_148 ?_
    refine lv_goto (tgt := 153) hx hb dX12_count_149 (by decide) ?_
    exact hend ((by first | (have h9 := of_decide_eq_true h140; first | (exfalso; omega) | (unfold tg_cw; (repeat (first | rw [if_pos (by omega)] | rw [if_neg (by omega)])); exact congrArg (fun z => nI (dr z)) (show w = w - 10 + 10 by omega))) | (have h9 := of_decide_eq_false h140; first | (exfalso; omega) | (unfold tg_cw; (repeat (first | rw [if_pos (by omega)] | rw [if_neg (by omega)])))))) dX12_count_153
  by_cases hs1_15 : w = 15
  · refine lv_tableIn (off := 128) (tgt := 129) hx hb dX12_count_1 (by rw [hs1_15]; decide) (by rw [hs1_15]; decide) (by rw [hs1_15]; decide) (by decide) ?_
    refine lv_iload_n hx hb dX12_count_129 rfl (lv_at hl 1 rfl) ?_
    refine nv_i2l hx hb (by omega) dX12_count_130 ?_
    refine nv_ldc2 (k := 10) hx hb hown (ht _ kw5_205) (by decide) dX12_count_131 ?_
    refine nv_ldc2 (k := 15) hx hb hown (ht _ kw5_206) (by decide) dX12_count_134 ?_
    refine ro_S S (c_X12_isIn (v := lN (w)) (lo := lN (10)) (hi := lN (15))) kw5_14 yv_X12_isIn ⟨Nat.le_of_ble_eq_true rfl, Nat.le_of_ble_eq_true rfl⟩ hK hP rfl hl.1 rfl (Nat.le_of_ble_eq_true rfl) dX12_count_137 ⟨(Nat.zero_le _), (Nat.zero_le _)⟩ ?_
    rw [isIn_nat (by omega) (by decide) (by decide)]
    refine nv_if_eqb (tgt := 152) hx hb dX12_count_140 (by decide) (fun h140 => ?_) (fun h140 => ?_)
    · skip
      refine lv_iconst (v := -1) hx hb dX12_count_152 (by decide) ?_
      exact hend ((by first | (have h9 := of_decide_eq_true h140; first | (exfalso; omega) | (unfold tg_cw; (repeat (first | rw [if_pos (by omega)] | rw [if_neg (by omega)])); exact congrArg (fun z => nI (dr z)) (show w = w - 10 + 10 by omega))) | (have h9 := of_decide_eq_false h140; first | (exfalso; omega) | (unfold tg_cw; (repeat (first | rw [if_pos (by omega)] | rw [if_neg (by omega)])))))) dX12_count_153
    have h9w := of_decide_eq_true h140
    refine lv_aload_n hx hb dX12_count_143 rfl (lv_at hl 0 rfl) ?_
    refine va_get (ci := 9) (C := RX12) (T := TX12) (N := 28) hx hb ht iFX12 hown hK hP 0 rfl rfl 26 (by decide) (ht _ kw4_136) (fun _ h9 => h9) rfl dX12_count_144 ?_
    refine lv_iload_n hx hb dX12_count_147 rfl (lv_at hl 1 rfl) ?_
    refine nv_iald hx hb hK hP 16 rfl (by omega) (by omega) dX12_count_148 ?_
    refine lv_goto (tgt := 153) hx hb dX12_count_149 (by decide) ?_
    exact hend ((by first | (have h9 := of_decide_eq_true h140; first | (exfalso; omega) | (unfold tg_cw; (repeat (first | rw [if_pos (by omega)] | rw [if_neg (by omega)])); exact congrArg (fun z => nI (dr z)) (show w = w - 10 + 10 by omega))) | (have h9 := of_decide_eq_false h140; first | (exfalso; omega) | (unfold tg_cw; (repeat (first | rw [if_pos (by omega)] | rw [if_neg (by omega)])))))) dX12_count_153
  by_cases hs1_16 : w = 16
  · refine lv_tableIn (off := 123) (tgt := 124) hx hb dX12_count_1 (by rw [hs1_16]; decide) (by rw [hs1_16]; decide) (by rw [hs1_16]; decide) (by decide) ?_
    refine lv_aload_n hx hb dX12_count_124 rfl (lv_at hl 0 rfl) ?_
    refine va_get (ci := 9) (C := RX12) (T := TX12) (N := 28) hx hb ht iFX12 hown hK hP 0 rfl rfl 27 (by decide) (ht _ kw4_137) (fun _ h9 => h9) rfl dX12_count_125 ?_
    exact hend ((by first | (exfalso; omega) | (unfold tg_cw; (repeat (first | rw [if_pos (by omega)] | rw [if_neg (by omega)]))))) dX12_count_128
  refine lv_tableOut (tgt := 129) hx hb dX12_count_1 (by rw [nI_toInt (by omega)]; omega) (by decide) ?_
  refine lv_iload_n hx hb dX12_count_129 rfl (lv_at hl 1 rfl) ?_
  refine nv_i2l hx hb (by omega) dX12_count_130 ?_
  refine nv_ldc2 (k := 10) hx hb hown (ht _ kw5_205) (by decide) dX12_count_131 ?_
  refine nv_ldc2 (k := 15) hx hb hown (ht _ kw5_206) (by decide) dX12_count_134 ?_
  refine ro_S S (c_X12_isIn (v := lN (w)) (lo := lN (10)) (hi := lN (15))) kw5_14 yv_X12_isIn ⟨Nat.le_of_ble_eq_true rfl, Nat.le_of_ble_eq_true rfl⟩ hK hP rfl hl.1 rfl (Nat.le_of_ble_eq_true rfl) dX12_count_137 ⟨(Nat.zero_le _), (Nat.zero_le _)⟩ ?_
  rw [isIn_nat (by omega) (by decide) (by decide)]
  refine nv_if_eqb (tgt := 152) hx hb dX12_count_140 (by decide) (fun h140 => ?_) (fun h140 => ?_)
  · skip
    refine lv_iconst (v := -1) hx hb dX12_count_152 (by decide) ?_
    exact hend ((by first | (have h9 := of_decide_eq_true h140; first | (exfalso; omega) | (unfold tg_cw; (repeat (first | rw [if_pos (by omega)] | rw [if_neg (by omega)])); exact congrArg (fun z => nI (dr z)) (show w = w - 10 + 10 by omega))) | (have h9 := of_decide_eq_false h140; first | (exfalso; omega) | (unfold tg_cw; (repeat (first | rw [if_pos (by omega)] | rw [if_neg (by omega)])))))) dX12_count_153
  have h9w := of_decide_eq_true h140
  refine lv_aload_n hx hb dX12_count_143 rfl (lv_at hl 0 rfl) ?_
  refine va_get (ci := 9) (C := RX12) (T := TX12) (N := 28) hx hb ht iFX12 hown hK hP 0 rfl rfl 26 (by decide) (ht _ kw4_136) (fun _ h9 => h9) rfl dX12_count_144 ?_
  refine lv_iload_n hx hb dX12_count_147 rfl (lv_at hl 1 rfl) ?_
  refine nv_iald hx hb hK hP 16 rfl (by omega) (by omega) dX12_count_148 ?_
  refine lv_goto (tgt := 153) hx hb dX12_count_149 (by decide) ?_
  exact hend ((by first | (have h9 := of_decide_eq_true h140; first | (exfalso; omega) | (unfold tg_cw; (repeat (first | rw [if_pos (by omega)] | rw [if_neg (by omega)])); exact congrArg (fun z => nI (dr z)) (show w = w - 10 + 10 by omega))) | (have h9 := of_decide_eq_false h140; first | (exfalso; omega) | (unfold tg_cw; (repeat (first | rw [if_pos (by omega)] | rw [if_neg (by omega)])))))) dX12_count_153
set_option maxHeartbeats 4000000 in
set_option maxRecDepth 100000 in
theorem c_X12_countW {l : Launch} {D : va_G} {cy : Nat → ClassId} {o : Nat} {ad : Nat → Nat} {tl : va_W} {tp os sz bits F G u nb ns T M id : Nat} {ft fo fi : Nat → UInt8} {g : Nat → Int32} {pt ih il ip pn op so fa fp st en dr : Nat → Nat} {w : Int32} (hneg : w < 0) : RO l yX12_count cX12_count 2 (some .int) 1 25 [.ref o, .int w] D cy (mW cy o ad tp os sz bits F G u nb ns T M id ft fo fi g pt ih il ip pn op so fa fp st en dr ++ tl) (.int (-1)) := by
  refine ROi (by decide) (lv0 := [(0, .ref o), (1, .int w)]) rfl (Nat.le_of_ble_eq_true rfl) ?_
  intro p e s m args below meth c ls Q S hP hK hend hl
  have hx := S.1
  have hb := S.2.1
  have hown : s.vm.findClass RX12 = some m.cls := S.2.2.2.1
  have ht : ∀ w ∈ lw_g, w.before args s = true := fun w h => S.2.2.2.2 w (List.mem_cons_of_mem _ h)
  have hP : va_P D vwCl (mW cy o ad tp os sz bits F G u nb ns T M id ft fo fi g pt ih il ip pn op so fa fp st en dr ++ tl) s.heap := hP
  refine lv_iload_n hx hb dX12_count_0 rfl (lv_at hl 1 rfl) ?_
  refine lv_tableOut (tgt := 129) hx hb dX12_count_1 (Or.inl (neg_toInt hneg)) (by decide) ?_
  refine lv_iload_n hx hb dX12_count_129 rfl (lv_at hl 1 rfl) ?_
  refine lv_i2l hx hb dX12_count_130 rfl ?_
  refine nv_ldc2 (k := 10) hx hb hown (ht _ kw5_205) (by decide) dX12_count_131 ?_
  refine nv_ldc2 (k := 15) hx hb hown (ht _ kw5_206) (by decide) dX12_count_134 ?_
  refine ro_S S (c_X12_isIn (v := (w).toInt64) (lo := lN (10)) (hi := lN (15))) kw5_14 yv_X12_isIn ⟨Nat.le_of_ble_eq_true rfl, Nat.le_of_ble_eq_true rfl⟩ hK hP rfl hl.1 rfl (Nat.le_of_ble_eq_true rfl) dX12_count_137 ⟨(Nat.zero_le _), (Nat.zero_le _)⟩ ?_
  rw [isIn_neg hneg (by decide)]
  refine nv_if_eqb (tgt := 152) hx hb dX12_count_140 (by decide) (fun _ => ?_) (fun h => absurd h (by decide))
  refine lv_iconst (v := -1) hx hb dX12_count_152 (by decide) ?_
  exact hend (rfl) dX12_count_153
theorem dX12_feed_0 : decode cX12_feed 0 = .ok (.aload_n 0, 1) := by decide +kernel
theorem dX12_feed_1 : decode cX12_feed 1 = .ok (.getfield 118, 3) := by decide +kernel
theorem dX12_feed_4 : decode cX12_feed 4 = .ok (.bipush 20, 2) := by decide +kernel
theorem dX12_feed_6 : decode cX12_feed 6 = .ok (.iadd, 1) := by decide +kernel
theorem dX12_feed_7 : decode cX12_feed 7 = .ok (.sipush 1600, 3) := by decide +kernel
theorem dX12_feed_10 : decode cX12_feed 10 = .ok (.if_icmp .le 5, 3) := by decide +kernel
theorem dX12_feed_13 : decode cX12_feed 13 = .ok (.iconst 0, 1) := by decide +kernel
theorem dX12_feed_14 : decode cX12_feed 14 = .ok (.ireturn, 1) := by decide +kernel
theorem dX12_feed_15 : decode cX12_feed 15 = .ok (.iconst 0, 1) := by decide +kernel
theorem dX12_feed_16 : decode cX12_feed 16 = .ok (.istore 6, 2) := by decide +kernel
theorem dX12_feed_18 : decode cX12_feed 18 = .ok (.iload 6, 2) := by decide +kernel
theorem dX12_feed_20 : decode cX12_feed 20 = .ok (.bipush 20, 2) := by decide +kernel
theorem dX12_feed_22 : decode cX12_feed 22 = .ok (.if_icmp .ge 90, 3) := by decide +kernel
theorem dX12_feed_25 : decode cX12_feed 25 = .ok (.iload 6, 2) := by decide +kernel
theorem dX12_feed_27 : decode cX12_feed 27 = .ok (.iconst 4, 1) := by decide +kernel
theorem dX12_feed_28 : decode cX12_feed 28 = .ok (.if_icmp .ge 7, 3) := by decide +kernel
theorem dX12_feed_31 : decode cX12_feed 31 = .ok (.iload_n 1, 1) := by decide +kernel
theorem dX12_feed_32 : decode cX12_feed 32 = .ok (.goto 39, 3) := by decide +kernel
theorem dX12_feed_35 : decode cX12_feed 35 = .ok (.iload 6, 2) := by decide +kernel
theorem dX12_feed_37 : decode cX12_feed 37 = .ok (.bipush 8, 2) := by decide +kernel
theorem dX12_feed_39 : decode cX12_feed 39 = .ok (.if_icmp .ge 7, 3) := by decide +kernel
theorem dX12_feed_42 : decode cX12_feed 42 = .ok (.iload_n 2, 1) := by decide +kernel
theorem dX12_feed_43 : decode cX12_feed 43 = .ok (.goto 28, 3) := by decide +kernel
theorem dX12_feed_46 : decode cX12_feed 46 = .ok (.iload 6, 2) := by decide +kernel
theorem dX12_feed_48 : decode cX12_feed 48 = .ok (.bipush 12, 2) := by decide +kernel
theorem dX12_feed_50 : decode cX12_feed 50 = .ok (.if_icmp .ge 7, 3) := by decide +kernel
theorem dX12_feed_53 : decode cX12_feed 53 = .ok (.iload_n 3, 1) := by decide +kernel
theorem dX12_feed_54 : decode cX12_feed 54 = .ok (.goto 17, 3) := by decide +kernel
theorem dX12_feed_57 : decode cX12_feed 57 = .ok (.iload 6, 2) := by decide +kernel
theorem dX12_feed_59 : decode cX12_feed 59 = .ok (.bipush 16, 2) := by decide +kernel
theorem dX12_feed_61 : decode cX12_feed 61 = .ok (.if_icmp .ge 8, 3) := by decide +kernel
theorem dX12_feed_64 : decode cX12_feed 64 = .ok (.iload 4, 2) := by decide +kernel
theorem dX12_feed_66 : decode cX12_feed 66 = .ok (.goto 5, 3) := by decide +kernel
theorem dX12_feed_69 : decode cX12_feed 69 = .ok (.iload 5, 2) := by decide +kernel
theorem dX12_feed_71 : decode cX12_feed 71 = .ok (.istore 7, 2) := by decide +kernel
theorem dX12_feed_73 : decode cX12_feed 73 = .ok (.aload_n 0, 1) := by decide +kernel
theorem dX12_feed_74 : decode cX12_feed 74 = .ok (.getfield 7, 3) := by decide +kernel
theorem dX12_feed_77 : decode cX12_feed 77 = .ok (.aload_n 0, 1) := by decide +kernel
theorem dX12_feed_78 : decode cX12_feed 78 = .ok (.getfield 118, 3) := by decide +kernel
theorem dX12_feed_81 : decode cX12_feed 81 = .ok (.iload 7, 2) := by decide +kernel
theorem dX12_feed_83 : decode cX12_feed 83 = .ok (.bipush 24, 2) := by decide +kernel
theorem dX12_feed_85 : decode cX12_feed 85 = .ok (.bipush 8, 2) := by decide +kernel
theorem dX12_feed_87 : decode cX12_feed 87 = .ok (.iload 6, 2) := by decide +kernel
theorem dX12_feed_89 : decode cX12_feed 89 = .ok (.iconst 4, 1) := by decide +kernel
theorem dX12_feed_90 : decode cX12_feed 90 = .ok (.irem, 1) := by decide +kernel
theorem dX12_feed_91 : decode cX12_feed 91 = .ok (.imul, 1) := by decide +kernel
theorem dX12_feed_92 : decode cX12_feed 92 = .ok (.isub, 1) := by decide +kernel
theorem dX12_feed_93 : decode cX12_feed 93 = .ok (.ishr, 1) := by decide +kernel
theorem dX12_feed_94 : decode cX12_feed 94 = .ok (.i2b, 1) := by decide +kernel
theorem dX12_feed_95 : decode cX12_feed 95 = .ok (.bastore, 1) := by decide +kernel
theorem dX12_feed_96 : decode cX12_feed 96 = .ok (.aload_n 0, 1) := by decide +kernel
theorem dX12_feed_97 : decode cX12_feed 97 = .ok (.dup, 1) := by decide +kernel
theorem dX12_feed_98 : decode cX12_feed 98 = .ok (.getfield 118, 3) := by decide +kernel
theorem dX12_feed_101 : decode cX12_feed 101 = .ok (.iconst 1, 1) := by decide +kernel
theorem dX12_feed_102 : decode cX12_feed 102 = .ok (.iadd, 1) := by decide +kernel
theorem dX12_feed_103 : decode cX12_feed 103 = .ok (.putfield 118, 3) := by decide +kernel
theorem dX12_feed_106 : decode cX12_feed 106 = .ok (.iinc 6 1, 3) := by decide +kernel
theorem dX12_feed_109 : decode cX12_feed 109 = .ok (.goto (-91), 3) := by decide +kernel
theorem dX12_feed_112 : decode cX12_feed 112 = .ok (.iconst 1, 1) := by decide +kernel
theorem dX12_feed_113 : decode cX12_feed 113 = .ok (.ireturn, 1) := by decide +kernel
theorem yv_X12_feed : YV RX12 yX12_feed cX12_feed 8 (some .boolean) 5 := ⟨kw5_6, kw5_7, kw1_10, kw5_8, by decide +kernel⟩
set_option maxHeartbeats 4000000 in
set_option maxRecDepth 100000 in
theorem c_X12_feedG {l : Launch} {D : va_G} {cy : Nat → ClassId} {o : Nat} {ad : Nat → Nat} {tl : va_W} {tp os sz bits F G u nb ns T M id : Nat} {ft fo fi : Nat → UInt8} {g : Nat → Int32} {pt ih il ip pn op so fa fp st en dr : Nat → Nat} {a b c9 d9 e9 : Int32} (hbig : 1580 < tp) (htp : tp ≤ 1600) : RO l yX12_feed cX12_feed 8 (some .boolean) 0 0 [.ref o, .int a, .int b, .int c9, .int d9, .int e9] D cy (mW cy o ad tp os sz bits F G u nb ns T M id ft fo fi g pt ih il ip pn op so fa fp st en dr ++ tl) (.int (bI (false))) := by
  refine ROz (by decide) (lv0 := [(0, .ref o), (1, .int a), (2, .int b), (3, .int c9), (4, .int d9), (5, .int e9)]) rfl (Nat.le_of_ble_eq_true rfl) ?_
  intro p e s m args below meth c ls Q S hP hK hend hl
  have hx := S.1
  have hb := S.2.1
  have hown : s.vm.findClass RX12 = some m.cls := S.2.2.2.1
  have ht : ∀ w ∈ lw_g, w.before args s = true := fun w h => S.2.2.2.2 w (List.mem_cons_of_mem _ h)
  have hP : va_P D vwCl (mW cy o ad tp os sz bits F G u nb ns T M id ft fo fi g pt ih il ip pn op so fa fp st en dr ++ tl) s.heap := hP
  refine lv_aload_n hx hb dX12_feed_0 rfl (lv_at hl 0 rfl) ?_
  refine va_get (ci := 9) (C := RX12) (T := TX12) (N := 28) hx hb ht iFX12 hown hK hP 0 rfl rfl 1 (by decide) (ht _ kw4_111) (fun _ h9 => h9) rfl dX12_feed_1 ?_
  refine nv_bipush (k := 20) hx hb dX12_feed_4 (by decide) ?_
  refine nv_iadd hx hb dX12_feed_6 ?_
  refine nv_sipush (k := 1600) hx hb dX12_feed_7 (by decide) ?_
  refine nv_icmp_le (tgt := 15) hx hb dX12_feed_10 (by decide) (by omega) (by omega) (fun h10 => ?_) (fun h10 => ?_)
  · skip
    exact absurd h10 (by omega)
  refine nv_iconst (k := 0) hx hb dX12_feed_13 rfl ?_
  exact hend ((bI_f rfl)) dX12_feed_14
set_option maxHeartbeats 4000000 in
set_option maxRecDepth 100000 in
theorem c_X12_feed {l : Launch} {D : va_G} {cy : Nat → ClassId} {o : Nat} {ad : Nat → Nat} {tl : va_W} {tp os sz bits F G u nb ns T M id : Nat} {ft fo fi : Nat → UInt8} {g : Nat → Int32} {pt ih il ip pn op so fa fp st en dr : Nat → Nat} {a b c9 d9 e9 : Nat} (ha : a < 2 ^ 32) (hb2 : b < 2 ^ 32) (hc2 : c9 < 2 ^ 32) (hd2 : d9 < 2 ^ 32) (he2 : e9 < 2 ^ 32) (hbig : tp ≤ 1580) : WR (S := Unit) l yX12_feed cX12_feed 8 (some .boolean) 0 0 0 0 [.ref o, .int (nI a), .int (nI b), .int (nI c9), .int (nI d9), .int (nI e9)] D cy (mW cy o ad tp os sz bits F G u nb ns T M id ft fo fi g pt ih il ip pn op so fa fp st en dr ++ tl) (fun u_ => some (.int (bI (true)))) (fun _ => True) (fun _ => mW cy o ad (tp + 20) os sz bits F G u nb ns T M id (tg_feed ft tp a b c9 d9 e9) fo fi g pt ih il ip pn op so fa fp st en dr ++ tl) := by
  refine WRz (by decide) (lv0 := [(0, .ref o), (1, .int (nI a)), (2, .int (nI b)), (3, .int (nI c9)), (4, .int (nI d9)), (5, .int (nI e9))]) rfl (Nat.le_of_ble_eq_true rfl) ?_
  intro p e s m args below meth c ls A Q S hnm hP hK hD hS hA hend hl
  have hx := S.1
  have hb := S.2.1
  have hown : s.vm.findClass RX12 = some m.cls := S.2.2.2.1
  have ht : ∀ w ∈ lw_g, w.before args s = true := fun w h => S.2.2.2.2 w (List.mem_cons_of_mem _ h)
  have hP : va_P D vwCl (mW cy o ad tp os sz bits F G u nb ns T M id ft fo fi g pt ih il ip pn op so fa fp st en dr ++ tl) s.heap := hP
  refine lv_aload_n hx hb dX12_feed_0 rfl (lv_at hl 0 rfl) ?_
  refine va_get (ci := 9) (C := RX12) (T := TX12) (N := 28) hx hb ht iFX12 hown hK hP 0 rfl rfl 1 (by decide) (ht _ kw4_111) (fun _ h9 => h9) rfl dX12_feed_1 ?_
  refine nv_bipush (k := 20) hx hb dX12_feed_4 (by decide) ?_
  refine nv_iadd hx hb dX12_feed_6 ?_
  refine nv_sipush (k := 1600) hx hb dX12_feed_7 (by decide) ?_
  refine nv_icmp_le (tgt := 15) hx hb dX12_feed_10 (by decide) (by omega) (by omega) (fun h10 => ?_) (fun h10 => ?_)
  · skip
    refine nv_iconst (k := 0) hx hb dX12_feed_15 rfl ?_
    refine lv_istore (lv' := [(6, .int (nI 0)), (0, .ref o), (1, .int (nI a)), (2, .int (nI b)), (3, .int (nI c9)), (4, .int (nI d9)), (5, .int (nI e9))]) hx hb dX12_feed_16 hl (by decide) rfl (fun ls hl => ?_)
    have L18 : ∀ (fu k : Nat) (H : Heap) (locs : List Loc), 20 - k < fu → k ≤ 20 → va_P D vwCl (mW cy o ad (tp + k) os sz bits F G u nb ns T M id ((fun i => if tp ≤ i ∧ i < tp + k then tg_feed ft tp a b c9 d9 e9 i else ft i)) fo fi g pt ih il ip pn op so fa fp st en dr ++ tl) H → va_D A (mW cy o ad (tp + k) os sz bits F G u nb ns T M id ((fun i => if tp ≤ i ∧ i < tp + k then tg_feed ft tp a b c9 d9 e9 i else ft i)) fo fi g pt ih il ip pn op so fa fp st en dr ++ tl) → va_S A s.heap H locs → ∀ ls : Array Slot, lv_has ls 8 [(0, .ref o), (1, .int (nI a)), (2, .int (nI b)), (3, .int (nI c9)), (4, .int (nI d9)), (5, .int (nI e9)), (6, .int (nI k))] → W p l e (rmw 0 0 0 0) s m args below meth c H locs 0 0 Q (F0 m 18 ls []) := by
      intro fu
      induction fu with
      | zero => intro k H locs h9; omega
      | succ fu ihh =>
        intro k H locs hfu hk hP hD hS ls hl
        refine lv_iload hx hb dX12_feed_18 (lv_at hl 6 rfl) ?_
        refine nv_bipush (k := 20) hx hb dX12_feed_20 (by decide) ?_
        refine nv_icmp_ge (tgt := 112) hx hb dX12_feed_22 (by decide) (by omega) (by omega) (fun h22 => ?_) (fun h22 => ?_)
        · skip
          refine nv_iconst (k := 1) hx hb dX12_feed_112 rfl ?_
          have ek : k = 20 := by omega
          subst ek
          have e9 : (fun i => if tp ≤ i ∧ i < tp + 20 then tg_feed ft tp a b c9 d9 e9 i else ft i) = tg_feed ft tp a b c9 d9 e9 := by
            funext i
            by_cases h : tp ≤ i ∧ i < tp + 20
            · rw [if_pos h]
            · rw [if_neg h, feed_out (by omega)]
          rw [e9] at hP hD
          exact hend () (bI_t rfl) trivial hP hD hS dX12_feed_113
        refine lv_iload hx hb dX12_feed_25 (lv_at hl 6 rfl) ?_
        refine nv_iconst (k := 4) hx hb dX12_feed_27 rfl ?_
        refine nv_icmp_ge (tgt := 35) hx hb dX12_feed_28 (by decide) (by omega) (by omega) (fun h28 => ?_) (fun h28 => ?_)
        · skip
          refine lv_iload hx hb dX12_feed_35 (lv_at hl 6 rfl) ?_
          refine nv_bipush (k := 8) hx hb dX12_feed_37 (by decide) ?_
          refine nv_icmp_ge (tgt := 46) hx hb dX12_feed_39 (by decide) (by omega) (by omega) (fun h39 => ?_) (fun h39 => ?_)
          · skip
            refine lv_iload hx hb dX12_feed_46 (lv_at hl 6 rfl) ?_
            refine nv_bipush (k := 12) hx hb dX12_feed_48 (by decide) ?_
            refine nv_icmp_ge (tgt := 57) hx hb dX12_feed_50 (by decide) (by omega) (by omega) (fun h50 => ?_) (fun h50 => ?_)
            · skip
              refine lv_iload hx hb dX12_feed_57 (lv_at hl 6 rfl) ?_
              refine nv_bipush (k := 16) hx hb dX12_feed_59 (by decide) ?_
              refine nv_icmp_ge (tgt := 69) hx hb dX12_feed_61 (by decide) (by omega) (by omega) (fun h61 => ?_) (fun h61 => ?_)
              · skip
                refine lv_iload hx hb dX12_feed_69 (lv_at hl 5 rfl) ?_
                refine lv_istore (lv' := [(7, .int (nI e9)), (0, .ref o), (1, .int (nI a)), (2, .int (nI b)), (3, .int (nI c9)), (4, .int (nI d9)), (5, .int (nI e9)), (6, .int (nI k))]) hx hb dX12_feed_71 hl (by decide) rfl (fun ls hl => ?_)
                refine lv_aload_n hx hb dX12_feed_73 rfl (lv_at hl 1 rfl) ?_
                refine va_get (ci := 9) (C := RX12) (T := TX12) (N := 28) hx hb ht iFX12 hown hK hP 0 rfl rfl 0 (by decide) (ht _ kw4_110) (fun _ h9 => h9) rfl dX12_feed_74 ?_
                refine lv_aload_n hx hb dX12_feed_77 rfl (lv_at hl 1 rfl) ?_
                refine va_get (ci := 9) (C := RX12) (T := TX12) (N := 28) hx hb ht iFX12 hown hK hP 0 rfl rfl 1 (by decide) (ht _ kw4_111) (fun _ h9 => h9) rfl dX12_feed_78 ?_
                refine lv_iload hx hb dX12_feed_81 (lv_at hl 0 rfl) ?_
                refine nv_bipush (k := 24) hx hb dX12_feed_83 (by decide) ?_
                refine nv_bipush (k := 8) hx hb dX12_feed_85 (by decide) ?_
                refine lv_iload hx hb dX12_feed_87 (lv_at hl 7 rfl) ?_
                refine nv_iconst (k := 4) hx hb dX12_feed_89 rfl ?_
                refine nv_irem hx hb (by omega) (by omega) (by omega) dX12_feed_90 ?_
                refine nv_imul hx hb dX12_feed_91 ?_
                refine nv_isub hx hb (by omega) dX12_feed_92 ?_
                refine lv_ishr hx hb dX12_feed_93 ?_
                refine lv_i2b hx hb dX12_feed_94 rfl ?_
                refine nv_bast hx hb hK hP hD hS 1 rfl (by omega) (by omega) dX12_feed_95 (fun H locs hP hD hS => ?_)
                have hP : va_P D vwCl (mW cy o ad (tp + k) os sz bits F G u nb ns T M id (va_up ((fun i => if tp ≤ i ∧ i < tp + k then tg_feed ft tp a b c9 d9 e9 i else ft i)) (tp + k) (by8 (((nI (e9) >>> (nI (24 - (8 * (k % 4))) &&& 31)).toInt8.toInt32)))) fo fi g pt ih il ip pn op so fa fp st en dr ++ tl) H := hP
                have hD : va_D A (mW cy o ad (tp + k) os sz bits F G u nb ns T M id (va_up ((fun i => if tp ≤ i ∧ i < tp + k then tg_feed ft tp a b c9 d9 e9 i else ft i)) (tp + k) (by8 (((nI (e9) >>> (nI (24 - (8 * (k % 4))) &&& 31)).toInt8.toInt32)))) fo fi g pt ih il ip pn op so fa fp st en dr ++ tl) := hD
                refine lv_aload_n hx hb dX12_feed_96 rfl (lv_at hl 1 rfl) ?_
                refine lv_dup hx hb dX12_feed_97 rfl ?_
                refine va_get (ci := 9) (C := RX12) (T := TX12) (N := 28) hx hb ht iFX12 hown hK hP 0 rfl rfl 1 (by decide) (ht _ kw4_111) (fun _ h9 => h9) rfl dX12_feed_98 ?_
                refine nv_iconst (k := 1) hx hb dX12_feed_101 rfl ?_
                refine nv_iadd hx hb dX12_feed_102 ?_
                refine va_put (ci := 9) (C := RX12) (T := TX12) (N := 28) (ty := tyX12 1) hx hb ht iFX12 tyX12 tyX12_ok nmX12 hown hK hP hD hS 0 rfl rfl 1 (by decide) (ht _ kw4_111) (fun _ h9 => h9) rfl (by decide +kernel) (by first | rfl | decide) (by first | rfl | decide) (Nat.le_of_ble_eq_true rfl) dX12_feed_103 (fun H locs hP hD hS => ?_)
                have hP : va_P D vwCl (mW cy o ad ((tp + k) + 1) os sz bits F G u nb ns T M id (va_up ((fun i => if tp ≤ i ∧ i < tp + k then tg_feed ft tp a b c9 d9 e9 i else ft i)) (tp + k) (by8 (((nI (e9) >>> (nI (24 - (8 * (k % 4))) &&& 31)).toInt8.toInt32)))) fo fi g pt ih il ip pn op so fa fp st en dr ++ tl) H := hP
                have hD : va_D A (mW cy o ad ((tp + k) + 1) os sz bits F G u nb ns T M id (va_up ((fun i => if tp ≤ i ∧ i < tp + k then tg_feed ft tp a b c9 d9 e9 i else ft i)) (tp + k) (by8 (((nI (e9) >>> (nI (24 - (8 * (k % 4))) &&& 31)).toInt8.toInt32)))) fo fi g pt ih il ip pn op so fa fp st en dr ++ tl) := hD
                refine lv_iinc (v := (nI (k + 1))) (lv' := [(6, .int (nI (k + 1))), (7, .int (nI e9)), (0, .ref o), (1, .int (nI a)), (2, .int (nI b)), (3, .int (nI c9)), (4, .int (nI d9)), (5, .int (nI e9))]) hx hb dX12_feed_106 hl (k := 7) rfl (nI_inc _ _) (by decide) rfl (fun ls hl => ?_)
                refine lv_goto (tgt := 18) hx hb dX12_feed_109 (by decide) ?_
                have e1 : va_up ((fun i => if tp ≤ i ∧ i < tp + k then tg_feed ft tp a b c9 d9 e9 i else ft i)) (tp + k) (by8 (((nI (e9) >>> (nI (24 - (8 * (k % 4))) &&& 31)).toInt8.toInt32))) = (fun i => if tp ≤ i ∧ i < tp + (k + 1) then tg_feed ft tp a b c9 d9 e9 i else ft i) := by
                  funext i
                  rw [by8_n, by8_sr (by omega) (by omega)]
                  unfold va_up
                  by_cases h : i = tp + k
                  · rw [if_pos h, if_pos (by omega), h, feed_at (by omega)]
                    congr 2
                    (repeat' split) <;> first | rfl | (exfalso; omega)
                  · rw [if_neg h]
                    dsimp only
                    by_cases h2 : tp ≤ i ∧ i < tp + k
                    · rw [if_pos h2, if_pos (by omega)]
                    · rw [if_neg h2, if_neg (by omega)]
                rw [e1] at hP hD
                exact ihh (k + 1) H locs (by omega) (by omega) hP hD hS ls (lv_sub hl [2, 3, 4, 5, 6, 7, 0] rfl)
              refine lv_iload hx hb dX12_feed_64 (lv_at hl 4 rfl) ?_
              refine lv_goto (tgt := 71) hx hb dX12_feed_66 (by decide) ?_
              refine lv_istore (lv' := [(7, .int (nI d9)), (0, .ref o), (1, .int (nI a)), (2, .int (nI b)), (3, .int (nI c9)), (4, .int (nI d9)), (5, .int (nI e9)), (6, .int (nI k))]) hx hb dX12_feed_71 hl (by decide) rfl (fun ls hl => ?_)
              refine lv_aload_n hx hb dX12_feed_73 rfl (lv_at hl 1 rfl) ?_
              refine va_get (ci := 9) (C := RX12) (T := TX12) (N := 28) hx hb ht iFX12 hown hK hP 0 rfl rfl 0 (by decide) (ht _ kw4_110) (fun _ h9 => h9) rfl dX12_feed_74 ?_
              refine lv_aload_n hx hb dX12_feed_77 rfl (lv_at hl 1 rfl) ?_
              refine va_get (ci := 9) (C := RX12) (T := TX12) (N := 28) hx hb ht iFX12 hown hK hP 0 rfl rfl 1 (by decide) (ht _ kw4_111) (fun _ h9 => h9) rfl dX12_feed_78 ?_
              refine lv_iload hx hb dX12_feed_81 (lv_at hl 0 rfl) ?_
              refine nv_bipush (k := 24) hx hb dX12_feed_83 (by decide) ?_
              refine nv_bipush (k := 8) hx hb dX12_feed_85 (by decide) ?_
              refine lv_iload hx hb dX12_feed_87 (lv_at hl 7 rfl) ?_
              refine nv_iconst (k := 4) hx hb dX12_feed_89 rfl ?_
              refine nv_irem hx hb (by omega) (by omega) (by omega) dX12_feed_90 ?_
              refine nv_imul hx hb dX12_feed_91 ?_
              refine nv_isub hx hb (by omega) dX12_feed_92 ?_
              refine lv_ishr hx hb dX12_feed_93 ?_
              refine lv_i2b hx hb dX12_feed_94 rfl ?_
              refine nv_bast hx hb hK hP hD hS 1 rfl (by omega) (by omega) dX12_feed_95 (fun H locs hP hD hS => ?_)
              have hP : va_P D vwCl (mW cy o ad (tp + k) os sz bits F G u nb ns T M id (va_up ((fun i => if tp ≤ i ∧ i < tp + k then tg_feed ft tp a b c9 d9 e9 i else ft i)) (tp + k) (by8 (((nI (d9) >>> (nI (24 - (8 * (k % 4))) &&& 31)).toInt8.toInt32)))) fo fi g pt ih il ip pn op so fa fp st en dr ++ tl) H := hP
              have hD : va_D A (mW cy o ad (tp + k) os sz bits F G u nb ns T M id (va_up ((fun i => if tp ≤ i ∧ i < tp + k then tg_feed ft tp a b c9 d9 e9 i else ft i)) (tp + k) (by8 (((nI (d9) >>> (nI (24 - (8 * (k % 4))) &&& 31)).toInt8.toInt32)))) fo fi g pt ih il ip pn op so fa fp st en dr ++ tl) := hD
              refine lv_aload_n hx hb dX12_feed_96 rfl (lv_at hl 1 rfl) ?_
              refine lv_dup hx hb dX12_feed_97 rfl ?_
              refine va_get (ci := 9) (C := RX12) (T := TX12) (N := 28) hx hb ht iFX12 hown hK hP 0 rfl rfl 1 (by decide) (ht _ kw4_111) (fun _ h9 => h9) rfl dX12_feed_98 ?_
              refine nv_iconst (k := 1) hx hb dX12_feed_101 rfl ?_
              refine nv_iadd hx hb dX12_feed_102 ?_
              refine va_put (ci := 9) (C := RX12) (T := TX12) (N := 28) (ty := tyX12 1) hx hb ht iFX12 tyX12 tyX12_ok nmX12 hown hK hP hD hS 0 rfl rfl 1 (by decide) (ht _ kw4_111) (fun _ h9 => h9) rfl (by decide +kernel) (by first | rfl | decide) (by first | rfl | decide) (Nat.le_of_ble_eq_true rfl) dX12_feed_103 (fun H locs hP hD hS => ?_)
              have hP : va_P D vwCl (mW cy o ad ((tp + k) + 1) os sz bits F G u nb ns T M id (va_up ((fun i => if tp ≤ i ∧ i < tp + k then tg_feed ft tp a b c9 d9 e9 i else ft i)) (tp + k) (by8 (((nI (d9) >>> (nI (24 - (8 * (k % 4))) &&& 31)).toInt8.toInt32)))) fo fi g pt ih il ip pn op so fa fp st en dr ++ tl) H := hP
              have hD : va_D A (mW cy o ad ((tp + k) + 1) os sz bits F G u nb ns T M id (va_up ((fun i => if tp ≤ i ∧ i < tp + k then tg_feed ft tp a b c9 d9 e9 i else ft i)) (tp + k) (by8 (((nI (d9) >>> (nI (24 - (8 * (k % 4))) &&& 31)).toInt8.toInt32)))) fo fi g pt ih il ip pn op so fa fp st en dr ++ tl) := hD
              refine lv_iinc (v := (nI (k + 1))) (lv' := [(6, .int (nI (k + 1))), (7, .int (nI d9)), (0, .ref o), (1, .int (nI a)), (2, .int (nI b)), (3, .int (nI c9)), (4, .int (nI d9)), (5, .int (nI e9))]) hx hb dX12_feed_106 hl (k := 7) rfl (nI_inc _ _) (by decide) rfl (fun ls hl => ?_)
              refine lv_goto (tgt := 18) hx hb dX12_feed_109 (by decide) ?_
              have e1 : va_up ((fun i => if tp ≤ i ∧ i < tp + k then tg_feed ft tp a b c9 d9 e9 i else ft i)) (tp + k) (by8 (((nI (d9) >>> (nI (24 - (8 * (k % 4))) &&& 31)).toInt8.toInt32))) = (fun i => if tp ≤ i ∧ i < tp + (k + 1) then tg_feed ft tp a b c9 d9 e9 i else ft i) := by
                funext i
                rw [by8_n, by8_sr (by omega) (by omega)]
                unfold va_up
                by_cases h : i = tp + k
                · rw [if_pos h, if_pos (by omega), h, feed_at (by omega)]
                  congr 2
                  (repeat' split) <;> first | rfl | (exfalso; omega)
                · rw [if_neg h]
                  dsimp only
                  by_cases h2 : tp ≤ i ∧ i < tp + k
                  · rw [if_pos h2, if_pos (by omega)]
                  · rw [if_neg h2, if_neg (by omega)]
              rw [e1] at hP hD
              exact ihh (k + 1) H locs (by omega) (by omega) hP hD hS ls (lv_sub hl [2, 3, 4, 5, 6, 7, 0] rfl)
            refine lv_iload_n hx hb dX12_feed_53 rfl (lv_at hl 3 rfl) ?_
            refine lv_goto (tgt := 71) hx hb dX12_feed_54 (by decide) ?_
            refine lv_istore (lv' := [(7, .int (nI c9)), (0, .ref o), (1, .int (nI a)), (2, .int (nI b)), (3, .int (nI c9)), (4, .int (nI d9)), (5, .int (nI e9)), (6, .int (nI k))]) hx hb dX12_feed_71 hl (by decide) rfl (fun ls hl => ?_)
            refine lv_aload_n hx hb dX12_feed_73 rfl (lv_at hl 1 rfl) ?_
            refine va_get (ci := 9) (C := RX12) (T := TX12) (N := 28) hx hb ht iFX12 hown hK hP 0 rfl rfl 0 (by decide) (ht _ kw4_110) (fun _ h9 => h9) rfl dX12_feed_74 ?_
            refine lv_aload_n hx hb dX12_feed_77 rfl (lv_at hl 1 rfl) ?_
            refine va_get (ci := 9) (C := RX12) (T := TX12) (N := 28) hx hb ht iFX12 hown hK hP 0 rfl rfl 1 (by decide) (ht _ kw4_111) (fun _ h9 => h9) rfl dX12_feed_78 ?_
            refine lv_iload hx hb dX12_feed_81 (lv_at hl 0 rfl) ?_
            refine nv_bipush (k := 24) hx hb dX12_feed_83 (by decide) ?_
            refine nv_bipush (k := 8) hx hb dX12_feed_85 (by decide) ?_
            refine lv_iload hx hb dX12_feed_87 (lv_at hl 7 rfl) ?_
            refine nv_iconst (k := 4) hx hb dX12_feed_89 rfl ?_
            refine nv_irem hx hb (by omega) (by omega) (by omega) dX12_feed_90 ?_
            refine nv_imul hx hb dX12_feed_91 ?_
            refine nv_isub hx hb (by omega) dX12_feed_92 ?_
            refine lv_ishr hx hb dX12_feed_93 ?_
            refine lv_i2b hx hb dX12_feed_94 rfl ?_
            refine nv_bast hx hb hK hP hD hS 1 rfl (by omega) (by omega) dX12_feed_95 (fun H locs hP hD hS => ?_)
            have hP : va_P D vwCl (mW cy o ad (tp + k) os sz bits F G u nb ns T M id (va_up ((fun i => if tp ≤ i ∧ i < tp + k then tg_feed ft tp a b c9 d9 e9 i else ft i)) (tp + k) (by8 (((nI (c9) >>> (nI (24 - (8 * (k % 4))) &&& 31)).toInt8.toInt32)))) fo fi g pt ih il ip pn op so fa fp st en dr ++ tl) H := hP
            have hD : va_D A (mW cy o ad (tp + k) os sz bits F G u nb ns T M id (va_up ((fun i => if tp ≤ i ∧ i < tp + k then tg_feed ft tp a b c9 d9 e9 i else ft i)) (tp + k) (by8 (((nI (c9) >>> (nI (24 - (8 * (k % 4))) &&& 31)).toInt8.toInt32)))) fo fi g pt ih il ip pn op so fa fp st en dr ++ tl) := hD
            refine lv_aload_n hx hb dX12_feed_96 rfl (lv_at hl 1 rfl) ?_
            refine lv_dup hx hb dX12_feed_97 rfl ?_
            refine va_get (ci := 9) (C := RX12) (T := TX12) (N := 28) hx hb ht iFX12 hown hK hP 0 rfl rfl 1 (by decide) (ht _ kw4_111) (fun _ h9 => h9) rfl dX12_feed_98 ?_
            refine nv_iconst (k := 1) hx hb dX12_feed_101 rfl ?_
            refine nv_iadd hx hb dX12_feed_102 ?_
            refine va_put (ci := 9) (C := RX12) (T := TX12) (N := 28) (ty := tyX12 1) hx hb ht iFX12 tyX12 tyX12_ok nmX12 hown hK hP hD hS 0 rfl rfl 1 (by decide) (ht _ kw4_111) (fun _ h9 => h9) rfl (by decide +kernel) (by first | rfl | decide) (by first | rfl | decide) (Nat.le_of_ble_eq_true rfl) dX12_feed_103 (fun H locs hP hD hS => ?_)
            have hP : va_P D vwCl (mW cy o ad ((tp + k) + 1) os sz bits F G u nb ns T M id (va_up ((fun i => if tp ≤ i ∧ i < tp + k then tg_feed ft tp a b c9 d9 e9 i else ft i)) (tp + k) (by8 (((nI (c9) >>> (nI (24 - (8 * (k % 4))) &&& 31)).toInt8.toInt32)))) fo fi g pt ih il ip pn op so fa fp st en dr ++ tl) H := hP
            have hD : va_D A (mW cy o ad ((tp + k) + 1) os sz bits F G u nb ns T M id (va_up ((fun i => if tp ≤ i ∧ i < tp + k then tg_feed ft tp a b c9 d9 e9 i else ft i)) (tp + k) (by8 (((nI (c9) >>> (nI (24 - (8 * (k % 4))) &&& 31)).toInt8.toInt32)))) fo fi g pt ih il ip pn op so fa fp st en dr ++ tl) := hD
            refine lv_iinc (v := (nI (k + 1))) (lv' := [(6, .int (nI (k + 1))), (7, .int (nI c9)), (0, .ref o), (1, .int (nI a)), (2, .int (nI b)), (3, .int (nI c9)), (4, .int (nI d9)), (5, .int (nI e9))]) hx hb dX12_feed_106 hl (k := 7) rfl (nI_inc _ _) (by decide) rfl (fun ls hl => ?_)
            refine lv_goto (tgt := 18) hx hb dX12_feed_109 (by decide) ?_
            have e1 : va_up ((fun i => if tp ≤ i ∧ i < tp + k then tg_feed ft tp a b c9 d9 e9 i else ft i)) (tp + k) (by8 (((nI (c9) >>> (nI (24 - (8 * (k % 4))) &&& 31)).toInt8.toInt32))) = (fun i => if tp ≤ i ∧ i < tp + (k + 1) then tg_feed ft tp a b c9 d9 e9 i else ft i) := by
              funext i
              rw [by8_n, by8_sr (by omega) (by omega)]
              unfold va_up
              by_cases h : i = tp + k
              · rw [if_pos h, if_pos (by omega), h, feed_at (by omega)]
                congr 2
                (repeat' split) <;> first | rfl | (exfalso; omega)
              · rw [if_neg h]
                dsimp only
                by_cases h2 : tp ≤ i ∧ i < tp + k
                · rw [if_pos h2, if_pos (by omega)]
                · rw [if_neg h2, if_neg (by omega)]
            rw [e1] at hP hD
            exact ihh (k + 1) H locs (by omega) (by omega) hP hD hS ls (lv_sub hl [2, 3, 4, 5, 6, 7, 0] rfl)
          refine lv_iload_n hx hb dX12_feed_42 rfl (lv_at hl 2 rfl) ?_
          refine lv_goto (tgt := 71) hx hb dX12_feed_43 (by decide) ?_
          refine lv_istore (lv' := [(7, .int (nI b)), (0, .ref o), (1, .int (nI a)), (2, .int (nI b)), (3, .int (nI c9)), (4, .int (nI d9)), (5, .int (nI e9)), (6, .int (nI k))]) hx hb dX12_feed_71 hl (by decide) rfl (fun ls hl => ?_)
          refine lv_aload_n hx hb dX12_feed_73 rfl (lv_at hl 1 rfl) ?_
          refine va_get (ci := 9) (C := RX12) (T := TX12) (N := 28) hx hb ht iFX12 hown hK hP 0 rfl rfl 0 (by decide) (ht _ kw4_110) (fun _ h9 => h9) rfl dX12_feed_74 ?_
          refine lv_aload_n hx hb dX12_feed_77 rfl (lv_at hl 1 rfl) ?_
          refine va_get (ci := 9) (C := RX12) (T := TX12) (N := 28) hx hb ht iFX12 hown hK hP 0 rfl rfl 1 (by decide) (ht _ kw4_111) (fun _ h9 => h9) rfl dX12_feed_78 ?_
          refine lv_iload hx hb dX12_feed_81 (lv_at hl 0 rfl) ?_
          refine nv_bipush (k := 24) hx hb dX12_feed_83 (by decide) ?_
          refine nv_bipush (k := 8) hx hb dX12_feed_85 (by decide) ?_
          refine lv_iload hx hb dX12_feed_87 (lv_at hl 7 rfl) ?_
          refine nv_iconst (k := 4) hx hb dX12_feed_89 rfl ?_
          refine nv_irem hx hb (by omega) (by omega) (by omega) dX12_feed_90 ?_
          refine nv_imul hx hb dX12_feed_91 ?_
          refine nv_isub hx hb (by omega) dX12_feed_92 ?_
          refine lv_ishr hx hb dX12_feed_93 ?_
          refine lv_i2b hx hb dX12_feed_94 rfl ?_
          refine nv_bast hx hb hK hP hD hS 1 rfl (by omega) (by omega) dX12_feed_95 (fun H locs hP hD hS => ?_)
          have hP : va_P D vwCl (mW cy o ad (tp + k) os sz bits F G u nb ns T M id (va_up ((fun i => if tp ≤ i ∧ i < tp + k then tg_feed ft tp a b c9 d9 e9 i else ft i)) (tp + k) (by8 (((nI (b) >>> (nI (24 - (8 * (k % 4))) &&& 31)).toInt8.toInt32)))) fo fi g pt ih il ip pn op so fa fp st en dr ++ tl) H := hP
          have hD : va_D A (mW cy o ad (tp + k) os sz bits F G u nb ns T M id (va_up ((fun i => if tp ≤ i ∧ i < tp + k then tg_feed ft tp a b c9 d9 e9 i else ft i)) (tp + k) (by8 (((nI (b) >>> (nI (24 - (8 * (k % 4))) &&& 31)).toInt8.toInt32)))) fo fi g pt ih il ip pn op so fa fp st en dr ++ tl) := hD
          refine lv_aload_n hx hb dX12_feed_96 rfl (lv_at hl 1 rfl) ?_
          refine lv_dup hx hb dX12_feed_97 rfl ?_
          refine va_get (ci := 9) (C := RX12) (T := TX12) (N := 28) hx hb ht iFX12 hown hK hP 0 rfl rfl 1 (by decide) (ht _ kw4_111) (fun _ h9 => h9) rfl dX12_feed_98 ?_
          refine nv_iconst (k := 1) hx hb dX12_feed_101 rfl ?_
          refine nv_iadd hx hb dX12_feed_102 ?_
          refine va_put (ci := 9) (C := RX12) (T := TX12) (N := 28) (ty := tyX12 1) hx hb ht iFX12 tyX12 tyX12_ok nmX12 hown hK hP hD hS 0 rfl rfl 1 (by decide) (ht _ kw4_111) (fun _ h9 => h9) rfl (by decide +kernel) (by first | rfl | decide) (by first | rfl | decide) (Nat.le_of_ble_eq_true rfl) dX12_feed_103 (fun H locs hP hD hS => ?_)
          have hP : va_P D vwCl (mW cy o ad ((tp + k) + 1) os sz bits F G u nb ns T M id (va_up ((fun i => if tp ≤ i ∧ i < tp + k then tg_feed ft tp a b c9 d9 e9 i else ft i)) (tp + k) (by8 (((nI (b) >>> (nI (24 - (8 * (k % 4))) &&& 31)).toInt8.toInt32)))) fo fi g pt ih il ip pn op so fa fp st en dr ++ tl) H := hP
          have hD : va_D A (mW cy o ad ((tp + k) + 1) os sz bits F G u nb ns T M id (va_up ((fun i => if tp ≤ i ∧ i < tp + k then tg_feed ft tp a b c9 d9 e9 i else ft i)) (tp + k) (by8 (((nI (b) >>> (nI (24 - (8 * (k % 4))) &&& 31)).toInt8.toInt32)))) fo fi g pt ih il ip pn op so fa fp st en dr ++ tl) := hD
          refine lv_iinc (v := (nI (k + 1))) (lv' := [(6, .int (nI (k + 1))), (7, .int (nI b)), (0, .ref o), (1, .int (nI a)), (2, .int (nI b)), (3, .int (nI c9)), (4, .int (nI d9)), (5, .int (nI e9))]) hx hb dX12_feed_106 hl (k := 7) rfl (nI_inc _ _) (by decide) rfl (fun ls hl => ?_)
          refine lv_goto (tgt := 18) hx hb dX12_feed_109 (by decide) ?_
          have e1 : va_up ((fun i => if tp ≤ i ∧ i < tp + k then tg_feed ft tp a b c9 d9 e9 i else ft i)) (tp + k) (by8 (((nI (b) >>> (nI (24 - (8 * (k % 4))) &&& 31)).toInt8.toInt32))) = (fun i => if tp ≤ i ∧ i < tp + (k + 1) then tg_feed ft tp a b c9 d9 e9 i else ft i) := by
            funext i
            rw [by8_n, by8_sr (by omega) (by omega)]
            unfold va_up
            by_cases h : i = tp + k
            · rw [if_pos h, if_pos (by omega), h, feed_at (by omega)]
              congr 2
              (repeat' split) <;> first | rfl | (exfalso; omega)
            · rw [if_neg h]
              dsimp only
              by_cases h2 : tp ≤ i ∧ i < tp + k
              · rw [if_pos h2, if_pos (by omega)]
              · rw [if_neg h2, if_neg (by omega)]
          rw [e1] at hP hD
          exact ihh (k + 1) H locs (by omega) (by omega) hP hD hS ls (lv_sub hl [2, 3, 4, 5, 6, 7, 0] rfl)
        refine lv_iload_n hx hb dX12_feed_31 rfl (lv_at hl 1 rfl) ?_
        refine lv_goto (tgt := 71) hx hb dX12_feed_32 (by decide) ?_
        refine lv_istore (lv' := [(7, .int (nI a)), (0, .ref o), (1, .int (nI a)), (2, .int (nI b)), (3, .int (nI c9)), (4, .int (nI d9)), (5, .int (nI e9)), (6, .int (nI k))]) hx hb dX12_feed_71 hl (by decide) rfl (fun ls hl => ?_)
        refine lv_aload_n hx hb dX12_feed_73 rfl (lv_at hl 1 rfl) ?_
        refine va_get (ci := 9) (C := RX12) (T := TX12) (N := 28) hx hb ht iFX12 hown hK hP 0 rfl rfl 0 (by decide) (ht _ kw4_110) (fun _ h9 => h9) rfl dX12_feed_74 ?_
        refine lv_aload_n hx hb dX12_feed_77 rfl (lv_at hl 1 rfl) ?_
        refine va_get (ci := 9) (C := RX12) (T := TX12) (N := 28) hx hb ht iFX12 hown hK hP 0 rfl rfl 1 (by decide) (ht _ kw4_111) (fun _ h9 => h9) rfl dX12_feed_78 ?_
        refine lv_iload hx hb dX12_feed_81 (lv_at hl 0 rfl) ?_
        refine nv_bipush (k := 24) hx hb dX12_feed_83 (by decide) ?_
        refine nv_bipush (k := 8) hx hb dX12_feed_85 (by decide) ?_
        refine lv_iload hx hb dX12_feed_87 (lv_at hl 7 rfl) ?_
        refine nv_iconst (k := 4) hx hb dX12_feed_89 rfl ?_
        refine nv_irem hx hb (by omega) (by omega) (by omega) dX12_feed_90 ?_
        refine nv_imul hx hb dX12_feed_91 ?_
        refine nv_isub hx hb (by omega) dX12_feed_92 ?_
        refine lv_ishr hx hb dX12_feed_93 ?_
        refine lv_i2b hx hb dX12_feed_94 rfl ?_
        refine nv_bast hx hb hK hP hD hS 1 rfl (by omega) (by omega) dX12_feed_95 (fun H locs hP hD hS => ?_)
        have hP : va_P D vwCl (mW cy o ad (tp + k) os sz bits F G u nb ns T M id (va_up ((fun i => if tp ≤ i ∧ i < tp + k then tg_feed ft tp a b c9 d9 e9 i else ft i)) (tp + k) (by8 (((nI (a) >>> (nI (24 - (8 * (k % 4))) &&& 31)).toInt8.toInt32)))) fo fi g pt ih il ip pn op so fa fp st en dr ++ tl) H := hP
        have hD : va_D A (mW cy o ad (tp + k) os sz bits F G u nb ns T M id (va_up ((fun i => if tp ≤ i ∧ i < tp + k then tg_feed ft tp a b c9 d9 e9 i else ft i)) (tp + k) (by8 (((nI (a) >>> (nI (24 - (8 * (k % 4))) &&& 31)).toInt8.toInt32)))) fo fi g pt ih il ip pn op so fa fp st en dr ++ tl) := hD
        refine lv_aload_n hx hb dX12_feed_96 rfl (lv_at hl 1 rfl) ?_
        refine lv_dup hx hb dX12_feed_97 rfl ?_
        refine va_get (ci := 9) (C := RX12) (T := TX12) (N := 28) hx hb ht iFX12 hown hK hP 0 rfl rfl 1 (by decide) (ht _ kw4_111) (fun _ h9 => h9) rfl dX12_feed_98 ?_
        refine nv_iconst (k := 1) hx hb dX12_feed_101 rfl ?_
        refine nv_iadd hx hb dX12_feed_102 ?_
        refine va_put (ci := 9) (C := RX12) (T := TX12) (N := 28) (ty := tyX12 1) hx hb ht iFX12 tyX12 tyX12_ok nmX12 hown hK hP hD hS 0 rfl rfl 1 (by decide) (ht _ kw4_111) (fun _ h9 => h9) rfl (by decide +kernel) (by first | rfl | decide) (by first | rfl | decide) (Nat.le_of_ble_eq_true rfl) dX12_feed_103 (fun H locs hP hD hS => ?_)
        have hP : va_P D vwCl (mW cy o ad ((tp + k) + 1) os sz bits F G u nb ns T M id (va_up ((fun i => if tp ≤ i ∧ i < tp + k then tg_feed ft tp a b c9 d9 e9 i else ft i)) (tp + k) (by8 (((nI (a) >>> (nI (24 - (8 * (k % 4))) &&& 31)).toInt8.toInt32)))) fo fi g pt ih il ip pn op so fa fp st en dr ++ tl) H := hP
        have hD : va_D A (mW cy o ad ((tp + k) + 1) os sz bits F G u nb ns T M id (va_up ((fun i => if tp ≤ i ∧ i < tp + k then tg_feed ft tp a b c9 d9 e9 i else ft i)) (tp + k) (by8 (((nI (a) >>> (nI (24 - (8 * (k % 4))) &&& 31)).toInt8.toInt32)))) fo fi g pt ih il ip pn op so fa fp st en dr ++ tl) := hD
        refine lv_iinc (v := (nI (k + 1))) (lv' := [(6, .int (nI (k + 1))), (7, .int (nI a)), (0, .ref o), (1, .int (nI a)), (2, .int (nI b)), (3, .int (nI c9)), (4, .int (nI d9)), (5, .int (nI e9))]) hx hb dX12_feed_106 hl (k := 7) rfl (nI_inc _ _) (by decide) rfl (fun ls hl => ?_)
        refine lv_goto (tgt := 18) hx hb dX12_feed_109 (by decide) ?_
        have e1 : va_up ((fun i => if tp ≤ i ∧ i < tp + k then tg_feed ft tp a b c9 d9 e9 i else ft i)) (tp + k) (by8 (((nI (a) >>> (nI (24 - (8 * (k % 4))) &&& 31)).toInt8.toInt32))) = (fun i => if tp ≤ i ∧ i < tp + (k + 1) then tg_feed ft tp a b c9 d9 e9 i else ft i) := by
          funext i
          rw [by8_n, by8_sr (by omega) (by omega)]
          unfold va_up
          by_cases h : i = tp + k
          · rw [if_pos h, if_pos (by omega), h, feed_at (by omega)]
            congr 2
            (repeat' split) <;> first | rfl | (exfalso; omega)
          · rw [if_neg h]
            dsimp only
            by_cases h2 : tp ≤ i ∧ i < tp + k
            · rw [if_pos h2, if_pos (by omega)]
            · rw [if_neg h2, if_neg (by omega)]
        rw [e1] at hP hD
        exact ihh (k + 1) H locs (by omega) (by omega) hP hD hS ls (lv_sub hl [2, 3, 4, 5, 6, 7, 0] rfl)
    have e0 : ft = (fun i => if tp ≤ i ∧ i < tp + 0 then tg_feed ft tp a b c9 d9 e9 i else ft i) := by funext i; rw [if_neg (by omega)]
    exact L18 21 0 s.heap [] (by omega) (by omega) (by rw [← e0]; exact hP) (by rw [← e0]; exact hD) hS ls (lv_sub hl [1, 2, 3, 4, 5, 6, 0] rfl)
  exact absurd h10 (by omega)
theorem dX12_sign_0 : decode cX12_sign 0 = .ok (.iload_n 1, 1) := by decide +kernel
theorem dX12_sign_1 : decode cX12_sign 1 = .ok (.i2l, 1) := by decide +kernel
theorem dX12_sign_2 : decode cX12_sign 2 = .ok (.ldc2_w 289, 3) := by decide +kernel
theorem dX12_sign_5 : decode cX12_sign 5 = .ok (.aload_n 0, 1) := by decide +kernel
theorem dX12_sign_6 : decode cX12_sign 6 = .ok (.getfield 118, 3) := by decide +kernel
theorem dX12_sign_9 : decode cX12_sign 9 = .ok (.i2l, 1) := by decide +kernel
theorem dX12_sign_10 : decode cX12_sign 10 = .ok (.invokestatic 178, 3) := by decide +kernel
theorem dX12_sign_13 : decode cX12_sign 13 = .ok (.ifCond .ne 5, 3) := by decide +kernel
theorem dX12_sign_16 : decode cX12_sign 16 = .ok (.iconst (-1), 1) := by decide +kernel
theorem dX12_sign_17 : decode cX12_sign 17 = .ok (.ireturn, 1) := by decide +kernel
theorem dX12_sign_18 : decode cX12_sign 18 = .ok (.aload_n 0, 1) := by decide +kernel
theorem dX12_sign_19 : decode cX12_sign 19 = .ok (.getfield 7, 3) := by decide +kernel
theorem dX12_sign_22 : decode cX12_sign 22 = .ok (.iconst 0, 1) := by decide +kernel
theorem dX12_sign_23 : decode cX12_sign 23 = .ok (.invokestatic 124, 3) := by decide +kernel
theorem dX12_sign_26 : decode cX12_sign 26 = .ok (.iconst 4, 1) := by decide +kernel
theorem dX12_sign_27 : decode cX12_sign 27 = .ok (.ishr, 1) := by decide +kernel
theorem dX12_sign_28 : decode cX12_sign 28 = .ok (.istore_n 3, 1) := by decide +kernel
theorem dX12_sign_29 : decode cX12_sign 29 = .ok (.iload_n 3, 1) := by decide +kernel
theorem dX12_sign_30 : decode cX12_sign 30 = .ok (.iconst 4, 1) := by decide +kernel
theorem dX12_sign_31 : decode cX12_sign 31 = .ok (.if_icmp .ne 8, 3) := by decide +kernel
theorem dX12_sign_34 : decode cX12_sign 34 = .ok (.bipush 20, 2) := by decide +kernel
theorem dX12_sign_36 : decode cX12_sign 36 = .ok (.goto 5, 3) := by decide +kernel
theorem dX12_sign_39 : decode cX12_sign 39 = .ok (.bipush 40, 2) := by decide +kernel
theorem dX12_sign_41 : decode cX12_sign 41 = .ok (.istore 4, 2) := by decide +kernel
theorem dX12_sign_43 : decode cX12_sign 43 = .ok (.iload_n 3, 1) := by decide +kernel
theorem dX12_sign_44 : decode cX12_sign 44 = .ok (.iconst 4, 1) := by decide +kernel
theorem dX12_sign_45 : decode cX12_sign 45 = .ok (.if_icmp .eq 9, 3) := by decide +kernel
theorem dX12_sign_48 : decode cX12_sign 48 = .ok (.iload_n 3, 1) := by decide +kernel
theorem dX12_sign_49 : decode cX12_sign 49 = .ok (.bipush 6, 2) := by decide +kernel
theorem dX12_sign_51 : decode cX12_sign 51 = .ok (.if_icmp .ne 26, 3) := by decide +kernel
theorem dX12_sign_54 : decode cX12_sign 54 = .ok (.iload_n 1, 1) := by decide +kernel
theorem dX12_sign_55 : decode cX12_sign 55 = .ok (.iload 4, 2) := by decide +kernel
theorem dX12_sign_57 : decode cX12_sign 57 = .ok (.if_icmp .lt 20, 3) := by decide +kernel
theorem dX12_sign_60 : decode cX12_sign 60 = .ok (.iload_n 2, 1) := by decide +kernel
theorem dX12_sign_61 : decode cX12_sign 61 = .ok (.i2l, 1) := by decide +kernel
theorem dX12_sign_62 : decode cX12_sign 62 = .ok (.iload 4, 2) := by decide +kernel
theorem dX12_sign_64 : decode cX12_sign 64 = .ok (.i2l, 1) := by decide +kernel
theorem dX12_sign_65 : decode cX12_sign 65 = .ok (.iload_n 1, 1) := by decide +kernel
theorem dX12_sign_66 : decode cX12_sign 66 = .ok (.i2l, 1) := by decide +kernel
theorem dX12_sign_67 : decode cX12_sign 67 = .ok (.ldc2_w 291, 3) := by decide +kernel
theorem dX12_sign_70 : decode cX12_sign 70 = .ok (.lsub, 1) := by decide +kernel
theorem dX12_sign_71 : decode cX12_sign 71 = .ok (.invokestatic 178, 3) := by decide +kernel
theorem dX12_sign_74 : decode cX12_sign 74 = .ok (.ifCond .ne 5, 3) := by decide +kernel
theorem dX12_sign_77 : decode cX12_sign 77 = .ok (.iconst (-1), 1) := by decide +kernel
theorem dX12_sign_78 : decode cX12_sign 78 = .ok (.ireturn, 1) := by decide +kernel
theorem dX12_sign_79 : decode cX12_sign 79 = .ok (.aload_n 0, 1) := by decide +kernel
theorem dX12_sign_80 : decode cX12_sign 80 = .ok (.getfield 7, 3) := by decide +kernel
theorem dX12_sign_83 : decode cX12_sign 83 = .ok (.iload 4, 2) := by decide +kernel
theorem dX12_sign_85 : decode cX12_sign 85 = .ok (.iload_n 1, 1) := by decide +kernel
theorem dX12_sign_86 : decode cX12_sign 86 = .ok (.iload_n 2, 1) := by decide +kernel
theorem dX12_sign_87 : decode cX12_sign 87 = .ok (.iload_n 3, 1) := by decide +kernel
theorem dX12_sign_88 : decode cX12_sign 88 = .ok (.iconst 4, 1) := by decide +kernel
theorem dX12_sign_89 : decode cX12_sign 89 = .ok (.if_icmp .ne 15, 3) := by decide +kernel
theorem dX12_sign_92 : decode cX12_sign 92 = .ok (.aload_n 0, 1) := by decide +kernel
theorem dX12_sign_93 : decode cX12_sign 93 = .ok (.getfield 7, 3) := by decide +kernel
theorem dX12_sign_96 : decode cX12_sign 96 = .ok (.bipush 9, 2) := by decide +kernel
theorem dX12_sign_98 : decode cX12_sign 98 = .ok (.invokestatic 124, 3) := by decide +kernel
theorem dX12_sign_101 : decode cX12_sign 101 = .ok (.goto 12, 3) := by decide +kernel
theorem dX12_sign_104 : decode cX12_sign 104 = .ok (.aload_n 0, 1) := by decide +kernel
theorem dX12_sign_105 : decode cX12_sign 105 = .ok (.getfield 7, 3) := by decide +kernel
theorem dX12_sign_108 : decode cX12_sign 108 = .ok (.bipush 6, 2) := by decide +kernel
theorem dX12_sign_110 : decode cX12_sign 110 = .ok (.invokestatic 124, 3) := by decide +kernel
theorem dX12_sign_113 : decode cX12_sign 113 = .ok (.invokestatic 148, 3) := by decide +kernel
theorem dX12_sign_116 : decode cX12_sign 116 = .ok (.istore 5, 2) := by decide +kernel
theorem dX12_sign_118 : decode cX12_sign 118 = .ok (.aload_n 0, 1) := by decide +kernel
theorem dX12_sign_119 : decode cX12_sign 119 = .ok (.getfield 7, 3) := by decide +kernel
theorem dX12_sign_122 : decode cX12_sign 122 = .ok (.iload_n 2, 1) := by decide +kernel
theorem dX12_sign_123 : decode cX12_sign 123 = .ok (.iconst 2, 1) := by decide +kernel
theorem dX12_sign_124 : decode cX12_sign 124 = .ok (.iload 5, 2) := by decide +kernel
theorem dX12_sign_126 : decode cX12_sign 126 = .ok (.i2l, 1) := by decide +kernel
theorem dX12_sign_127 : decode cX12_sign 127 = .ok (.invokestatic 239, 3) := by decide +kernel
theorem dX12_sign_130 : decode cX12_sign 130 = .ok (.iload 5, 2) := by decide +kernel
theorem dX12_sign_132 : decode cX12_sign 132 = .ok (.ireturn, 1) := by decide +kernel
theorem yv_X12_sign : YV RX12 yX12_sign cX12_sign 6 (some .int) 2 := ⟨kw5_180, kw5_181, kw1_10, kw5_182, by decide +kernel⟩
set_option maxHeartbeats 4000000 in
set_option maxRecDepth 100000 in
theorem c_X12_signN {l : Launch} {D : va_G} {cy : Nat → ClassId} {o : Nat} {ad : Nat → Nat} {tl : va_W} {tp os sz bits F G u nb ns T M id : Nat} {ft fo fi : Nat → UInt8} {g : Nat → Int32} {pt ih il ip pn op so fa fp st en dr : Nat → Nat} {n9 a9 : Int32} (hin : tg_isIn n9.toInt64 (lN 20) (lN tp) = false) (htp : tp ≤ 1600) : RO l yX12_sign cX12_sign 6 (some .int) 1 25 [.ref o, .int n9, .int a9] D cy (mW cy o ad tp os sz bits F G u nb ns T M id ft fo fi g pt ih il ip pn op so fa fp st en dr ++ tl) (.int (-1)) := by
  refine ROi (by decide) (lv0 := [(0, .ref o), (1, .int n9), (2, .int a9)]) rfl (Nat.le_of_ble_eq_true rfl) ?_
  intro p e s m args below meth c ls Q S hP hK hend hl
  have hx := S.1
  have hb := S.2.1
  have hown : s.vm.findClass RX12 = some m.cls := S.2.2.2.1
  have ht : ∀ w ∈ lw_g, w.before args s = true := fun w h => S.2.2.2.2 w (List.mem_cons_of_mem _ h)
  have hP : va_P D vwCl (mW cy o ad tp os sz bits F G u nb ns T M id ft fo fi g pt ih il ip pn op so fa fp st en dr ++ tl) s.heap := hP
  refine lv_iload_n hx hb dX12_sign_0 rfl (lv_at hl 1 rfl) ?_
  refine lv_i2l hx hb dX12_sign_1 rfl ?_
  refine nv_ldc2 (k := 20) hx hb hown (ht _ kw5_183) (by decide) dX12_sign_2 ?_
  refine lv_aload_n hx hb dX12_sign_5 rfl (lv_at hl 0 rfl) ?_
  refine va_get (ci := 9) (C := RX12) (T := TX12) (N := 28) hx hb ht iFX12 hown hK hP 0 rfl rfl 1 (by decide) (ht _ kw4_111) (fun _ h9 => h9) rfl dX12_sign_6 ?_
  refine nv_i2l hx hb (by omega) dX12_sign_9 ?_
  refine ro_S S (c_X12_isIn (v := (n9).toInt64) (lo := lN (20)) (hi := lN (tp))) kw5_14 yv_X12_isIn ⟨Nat.le_of_ble_eq_true rfl, Nat.le_of_ble_eq_true rfl⟩ hK hP rfl hl.1 rfl (Nat.le_of_ble_eq_true rfl) dX12_sign_10 ⟨(Nat.zero_le _), (Nat.zero_le _)⟩ ?_
  rw [hin]
  refine nv_if_neb (tgt := 18) hx hb dX12_sign_13 (by decide) (fun h => absurd h (by decide)) (fun _ => ?_)
  refine lv_iconst (v := -1) hx hb dX12_sign_16 (by decide) ?_
  exact hend (rfl) dX12_sign_17
set_option maxHeartbeats 4000000 in
set_option maxRecDepth 100000 in
theorem c_X12_signV {l : Launch} {D : va_G} {cy : Nat → ClassId} {o : Nat} {ad : Nat → Nat} {tl : va_W} {tp os sz bits F G u nb ns T M id : Nat} {ft fo fi : Nat → UInt8} {g : Nat → Int32} {pt ih il ip pn op so fa fp st en dr : Nat → Nat} {n9 : Nat} (hn1 : 20 ≤ n9) (hn2 : n9 ≤ tp) (htp : tp ≤ 1600) {a9 : Int32} (hbad : tg_head (tg_rd ft tp) = 0 ∨ n9 < tg_head (tg_rd ft tp)) : RO l yX12_sign cX12_sign 6 (some .int) 1 25 [.ref o, .int (nI n9), .int a9] D cy (mW cy o ad tp os sz bits F G u nb ns T M id ft fo fi g pt ih il ip pn op so fa fp st en dr ++ tl) (.int (-1)) := by
  refine ROi (by decide) (lv0 := [(0, .ref o), (1, .int (nI n9)), (2, .int a9)]) rfl (Nat.le_of_ble_eq_true rfl) ?_
  intro p e s m args below meth c ls Q S hP hK hend hl
  have hx := S.1
  have hb := S.2.1
  have hown : s.vm.findClass RX12 = some m.cls := S.2.2.2.1
  have ht : ∀ w ∈ lw_g, w.before args s = true := fun w h => S.2.2.2.2 w (List.mem_cons_of_mem _ h)
  have hP : va_P D vwCl (mW cy o ad tp os sz bits F G u nb ns T M id ft fo fi g pt ih il ip pn op so fa fp st en dr ++ tl) s.heap := hP
  have hv9 : tg_head (tg_rd ft tp) = (if tg_rd ft tp 0 / 16 = 4 then 20 else if tg_rd ft tp 0 / 16 = 6 then 40 else 0) := rfl
  refine lv_iload_n hx hb dX12_sign_0 rfl (lv_at hl 1 rfl) ?_
  refine nv_i2l hx hb (by omega) dX12_sign_1 ?_
  refine nv_ldc2 (k := 20) hx hb hown (ht _ kw5_183) (by decide) dX12_sign_2 ?_
  refine lv_aload_n hx hb dX12_sign_5 rfl (lv_at hl 0 rfl) ?_
  refine va_get (ci := 9) (C := RX12) (T := TX12) (N := 28) hx hb ht iFX12 hown hK hP 0 rfl rfl 1 (by decide) (ht _ kw4_111) (fun _ h9 => h9) rfl dX12_sign_6 ?_
  refine nv_i2l hx hb (by omega) dX12_sign_9 ?_
  refine ro_S S (c_X12_isIn (v := lN (n9)) (lo := lN (20)) (hi := lN (tp))) kw5_14 yv_X12_isIn ⟨Nat.le_of_ble_eq_true rfl, Nat.le_of_ble_eq_true rfl⟩ hK hP rfl hl.1 rfl (Nat.le_of_ble_eq_true rfl) dX12_sign_10 ⟨(Nat.zero_le _), (Nat.zero_le _)⟩ ?_
  rw [show tg_isIn (lN (n9)) (lN (20)) (lN (tp)) = true from (by rw [isIn_nat (by omega) (by omega) (by omega)]; exact decide_eq_true (by omega))]
  refine nv_if_neb (tgt := 18) hx hb dX12_sign_13 (by decide) (fun _ => ?_) (fun h => absurd h (by decide))
  refine lv_aload_n hx hb dX12_sign_18 rfl (lv_at hl 0 rfl) ?_
  refine va_get (ci := 9) (C := RX12) (T := TX12) (N := 28) hx hb ht iFX12 hown hK hP 0 rfl rfl 0 (by decide) (ht _ kw4_110) (fun _ h9 => h9) rfl dX12_sign_19 ?_
  refine nv_iconst (k := 0) hx hb dX12_sign_22 rfl ?_
  refine ro_S S (c_X12_at (AR_of (ws := mW cy o ad tp os sz bits F G u nb ns T M id ft fo fi g pt ih il ip pn op so fa fp st en dr ++ tl) (kr := 1) (N := 1600) (n := tp) rfl (by omega) (by omega)) (i := 0) (by omega)) kw5_41 yv_X12_at ⟨Nat.le_of_ble_eq_true rfl, Nat.le_of_ble_eq_true rfl⟩ hK hP rfl hl.1 rfl (Nat.le_of_ble_eq_true rfl) dX12_sign_23 ⟨(Nat.zero_le _), (Nat.zero_le _)⟩ ?_
  have hq23 := tg_rd_lt ft tp 0
  refine nv_iconst (k := 4) hx hb dX12_sign_26 rfl ?_
  refine nv_ishr hx hb (by omega) (by omega) dX12_sign_27 ?_
  have hr0 := tg_rd_lt ft tp 0
  refine lv_istore_n (lv' := [(3, .int (nI ((tg_rd ft tp 0) / 2 ^ 4))), (0, .ref o), (1, .int (nI n9)), (2, .int a9)]) hx hb dX12_sign_28 rfl hl (by decide) rfl (fun ls hl => ?_)
  refine lv_iload_n hx hb dX12_sign_29 rfl (lv_at hl 0 rfl) ?_
  refine nv_iconst (k := 4) hx hb dX12_sign_30 rfl ?_
  refine nv_icmp_ne (tgt := 39) hx hb dX12_sign_31 (by decide) (by omega) (by omega) (fun h31 => ?_) (fun h31 => ?_)
  · skip
    refine nv_bipush (k := 40) hx hb dX12_sign_39 (by decide) ?_
    refine lv_istore (lv' := [(4, .int (nI 40)), (3, .int (nI ((tg_rd ft tp 0) / 2 ^ 4))), (0, .ref o), (1, .int (nI n9)), (2, .int a9)]) hx hb dX12_sign_41 hl (by decide) rfl (fun ls hl => ?_)
    refine lv_iload_n hx hb dX12_sign_43 rfl (lv_at hl 1 rfl) ?_
    refine nv_iconst (k := 4) hx hb dX12_sign_44 rfl ?_
    refine nv_icmp_eq (tgt := 54) hx hb dX12_sign_45 (by decide) (by omega) (by omega) (fun h45 => ?_) (fun h45 => ?_)
    · skip
      refine lv_iload_n hx hb dX12_sign_54 rfl (lv_at hl 3 rfl) ?_
      refine lv_iload hx hb dX12_sign_55 (lv_at hl 0 rfl) ?_
      refine nv_icmp_lt (tgt := 77) hx hb dX12_sign_57 (by decide) (by omega) (by omega) (fun h57 => ?_) (fun h57 => ?_)
      · skip
        refine lv_iconst (v := -1) hx hb dX12_sign_77 (by decide) ?_
        exact hend (rfl) dX12_sign_78
      exfalso; split at hv9 <;> (try split at hv9) <;> omega
    refine lv_iload_n hx hb dX12_sign_48 rfl (lv_at hl 1 rfl) ?_
    refine nv_bipush (k := 6) hx hb dX12_sign_49 (by decide) ?_
    refine nv_icmp_ne (tgt := 77) hx hb dX12_sign_51 (by decide) (by omega) (by omega) (fun h51 => ?_) (fun h51 => ?_)
    · skip
      refine lv_iconst (v := -1) hx hb dX12_sign_77 (by decide) ?_
      exact hend (rfl) dX12_sign_78
    refine lv_iload_n hx hb dX12_sign_54 rfl (lv_at hl 3 rfl) ?_
    refine lv_iload hx hb dX12_sign_55 (lv_at hl 0 rfl) ?_
    refine nv_icmp_lt (tgt := 77) hx hb dX12_sign_57 (by decide) (by omega) (by omega) (fun h57 => ?_) (fun h57 => ?_)
    · skip
      refine lv_iconst (v := -1) hx hb dX12_sign_77 (by decide) ?_
      exact hend (rfl) dX12_sign_78
    exfalso; split at hv9 <;> (try split at hv9) <;> omega
  refine nv_bipush (k := 20) hx hb dX12_sign_34 (by decide) ?_
  refine lv_goto (tgt := 41) hx hb dX12_sign_36 (by decide) ?_
  refine lv_istore (lv' := [(4, .int (nI 20)), (3, .int (nI ((tg_rd ft tp 0) / 2 ^ 4))), (0, .ref o), (1, .int (nI n9)), (2, .int a9)]) hx hb dX12_sign_41 hl (by decide) rfl (fun ls hl => ?_)
  refine lv_iload_n hx hb dX12_sign_43 rfl (lv_at hl 1 rfl) ?_
  refine nv_iconst (k := 4) hx hb dX12_sign_44 rfl ?_
  refine nv_icmp_eq (tgt := 54) hx hb dX12_sign_45 (by decide) (by omega) (by omega) (fun h45 => ?_) (fun h45 => ?_)
  · skip
    refine lv_iload_n hx hb dX12_sign_54 rfl (lv_at hl 3 rfl) ?_
    refine lv_iload hx hb dX12_sign_55 (lv_at hl 0 rfl) ?_
    refine nv_icmp_lt (tgt := 77) hx hb dX12_sign_57 (by decide) (by omega) (by omega) (fun h57 => ?_) (fun h57 => ?_)
    · skip
      refine lv_iconst (v := -1) hx hb dX12_sign_77 (by decide) ?_
      exact hend (rfl) dX12_sign_78
    exfalso; split at hv9 <;> (try split at hv9) <;> omega
  refine lv_iload_n hx hb dX12_sign_48 rfl (lv_at hl 1 rfl) ?_
  refine nv_bipush (k := 6) hx hb dX12_sign_49 (by decide) ?_
  refine nv_icmp_ne (tgt := 77) hx hb dX12_sign_51 (by decide) (by omega) (by omega) (fun h51 => ?_) (fun h51 => ?_)
  · skip
    refine lv_iconst (v := -1) hx hb dX12_sign_77 (by decide) ?_
    exact hend (rfl) dX12_sign_78
  refine lv_iload_n hx hb dX12_sign_54 rfl (lv_at hl 3 rfl) ?_
  refine lv_iload hx hb dX12_sign_55 (lv_at hl 0 rfl) ?_
  refine nv_icmp_lt (tgt := 77) hx hb dX12_sign_57 (by decide) (by omega) (by omega) (fun h57 => ?_) (fun h57 => ?_)
  · skip
    refine lv_iconst (v := -1) hx hb dX12_sign_77 (by decide) ?_
    exact hend (rfl) dX12_sign_78
  exfalso; split at hv9 <;> (try split at hv9) <;> omega
set_option maxHeartbeats 4000000 in
set_option maxRecDepth 100000 in
theorem c_X12_signP {l : Launch} {D : va_G} {cy : Nat → ClassId} {o : Nat} {ad : Nat → Nat} {tl : va_W} {tp os sz bits F G u nb ns T M id : Nat} {ft fo fi : Nat → UInt8} {g : Nat → Int32} {pt ih il ip pn op so fa fp st en dr : Nat → Nat} {n9 : Nat} (hn1 : 20 ≤ n9) (hn2 : n9 ≤ tp) (htp : tp ≤ 1600) {a9 : Int32} (hh0 : tg_head (tg_rd ft tp) ≠ 0) (hn3 : tg_head (tg_rd ft tp) ≤ n9) (hin : tg_isIn a9.toInt64 (lN (tg_head (tg_rd ft tp))) (lN (n9 - 2)) = false) : RO l yX12_sign cX12_sign 6 (some .int) 1 25 [.ref o, .int (nI n9), .int a9] D cy (mW cy o ad tp os sz bits F G u nb ns T M id ft fo fi g pt ih il ip pn op so fa fp st en dr ++ tl) (.int (-1)) := by
  refine ROi (by decide) (lv0 := [(0, .ref o), (1, .int (nI n9)), (2, .int a9)]) rfl (Nat.le_of_ble_eq_true rfl) ?_
  intro p e s m args below meth c ls Q S hP hK hend hl
  have hx := S.1
  have hb := S.2.1
  have hown : s.vm.findClass RX12 = some m.cls := S.2.2.2.1
  have ht : ∀ w ∈ lw_g, w.before args s = true := fun w h => S.2.2.2.2 w (List.mem_cons_of_mem _ h)
  have hP : va_P D vwCl (mW cy o ad tp os sz bits F G u nb ns T M id ft fo fi g pt ih il ip pn op so fa fp st en dr ++ tl) s.heap := hP
  have hv9 : tg_head (tg_rd ft tp) = (if tg_rd ft tp 0 / 16 = 4 then 20 else if tg_rd ft tp 0 / 16 = 6 then 40 else 0) := rfl
  refine lv_iload_n hx hb dX12_sign_0 rfl (lv_at hl 1 rfl) ?_
  refine nv_i2l hx hb (by omega) dX12_sign_1 ?_
  refine nv_ldc2 (k := 20) hx hb hown (ht _ kw5_183) (by decide) dX12_sign_2 ?_
  refine lv_aload_n hx hb dX12_sign_5 rfl (lv_at hl 0 rfl) ?_
  refine va_get (ci := 9) (C := RX12) (T := TX12) (N := 28) hx hb ht iFX12 hown hK hP 0 rfl rfl 1 (by decide) (ht _ kw4_111) (fun _ h9 => h9) rfl dX12_sign_6 ?_
  refine nv_i2l hx hb (by omega) dX12_sign_9 ?_
  refine ro_S S (c_X12_isIn (v := lN (n9)) (lo := lN (20)) (hi := lN (tp))) kw5_14 yv_X12_isIn ⟨Nat.le_of_ble_eq_true rfl, Nat.le_of_ble_eq_true rfl⟩ hK hP rfl hl.1 rfl (Nat.le_of_ble_eq_true rfl) dX12_sign_10 ⟨(Nat.zero_le _), (Nat.zero_le _)⟩ ?_
  rw [show tg_isIn (lN (n9)) (lN (20)) (lN (tp)) = true from (by rw [isIn_nat (by omega) (by omega) (by omega)]; exact decide_eq_true (by omega))]
  refine nv_if_neb (tgt := 18) hx hb dX12_sign_13 (by decide) (fun _ => ?_) (fun h => absurd h (by decide))
  refine lv_aload_n hx hb dX12_sign_18 rfl (lv_at hl 0 rfl) ?_
  refine va_get (ci := 9) (C := RX12) (T := TX12) (N := 28) hx hb ht iFX12 hown hK hP 0 rfl rfl 0 (by decide) (ht _ kw4_110) (fun _ h9 => h9) rfl dX12_sign_19 ?_
  refine nv_iconst (k := 0) hx hb dX12_sign_22 rfl ?_
  refine ro_S S (c_X12_at (AR_of (ws := mW cy o ad tp os sz bits F G u nb ns T M id ft fo fi g pt ih il ip pn op so fa fp st en dr ++ tl) (kr := 1) (N := 1600) (n := tp) rfl (by omega) (by omega)) (i := 0) (by omega)) kw5_41 yv_X12_at ⟨Nat.le_of_ble_eq_true rfl, Nat.le_of_ble_eq_true rfl⟩ hK hP rfl hl.1 rfl (Nat.le_of_ble_eq_true rfl) dX12_sign_23 ⟨(Nat.zero_le _), (Nat.zero_le _)⟩ ?_
  have hq23 := tg_rd_lt ft tp 0
  refine nv_iconst (k := 4) hx hb dX12_sign_26 rfl ?_
  refine nv_ishr hx hb (by omega) (by omega) dX12_sign_27 ?_
  have hr0 := tg_rd_lt ft tp 0
  refine lv_istore_n (lv' := [(3, .int (nI ((tg_rd ft tp 0) / 2 ^ 4))), (0, .ref o), (1, .int (nI n9)), (2, .int a9)]) hx hb dX12_sign_28 rfl hl (by decide) rfl (fun ls hl => ?_)
  refine lv_iload_n hx hb dX12_sign_29 rfl (lv_at hl 0 rfl) ?_
  refine nv_iconst (k := 4) hx hb dX12_sign_30 rfl ?_
  refine nv_icmp_ne (tgt := 39) hx hb dX12_sign_31 (by decide) (by omega) (by omega) (fun h31 => ?_) (fun h31 => ?_)
  · skip
    refine nv_bipush (k := 40) hx hb dX12_sign_39 (by decide) ?_
    refine lv_istore (lv' := [(4, .int (nI 40)), (3, .int (nI ((tg_rd ft tp 0) / 2 ^ 4))), (0, .ref o), (1, .int (nI n9)), (2, .int a9)]) hx hb dX12_sign_41 hl (by decide) rfl (fun ls hl => ?_)
    refine lv_iload_n hx hb dX12_sign_43 rfl (lv_at hl 1 rfl) ?_
    refine nv_iconst (k := 4) hx hb dX12_sign_44 rfl ?_
    refine nv_icmp_eq (tgt := 54) hx hb dX12_sign_45 (by decide) (by omega) (by omega) (fun h45 => ?_) (fun h45 => ?_)
    · skip
      refine lv_iload_n hx hb dX12_sign_54 rfl (lv_at hl 3 rfl) ?_
      refine lv_iload hx hb dX12_sign_55 (lv_at hl 0 rfl) ?_
      refine nv_icmp_lt (tgt := 77) hx hb dX12_sign_57 (by decide) (by omega) (by omega) (fun h57 => ?_) (fun h57 => ?_)
      · skip
        refine lv_iconst (v := -1) hx hb dX12_sign_77 (by decide) ?_
        exact hend (rfl) dX12_sign_78
      refine lv_iload_n hx hb dX12_sign_60 rfl (lv_at hl 4 rfl) ?_
      refine lv_i2l hx hb dX12_sign_61 rfl ?_
      refine lv_iload hx hb dX12_sign_62 (lv_at hl 0 rfl) ?_
      refine nv_i2l hx hb (by omega) dX12_sign_64 ?_
      refine lv_iload_n hx hb dX12_sign_65 rfl (lv_at hl 3 rfl) ?_
      refine nv_i2l hx hb (by omega) dX12_sign_66 ?_
      refine nv_ldc2 (k := 2) hx hb hown (ht _ kw5_184) (by decide) dX12_sign_67 ?_
      refine nv_lsub hx hb (by omega) dX12_sign_70 ?_
      refine ro_S S (c_X12_isIn (v := (a9).toInt64) (lo := lN (40)) (hi := lN (n9 - 2))) kw5_14 yv_X12_isIn ⟨Nat.le_of_ble_eq_true rfl, Nat.le_of_ble_eq_true rfl⟩ hK hP rfl hl.1 rfl (Nat.le_of_ble_eq_true rfl) dX12_sign_71 ⟨(Nat.zero_le _), (Nat.zero_le _)⟩ ?_
      rw [show tg_isIn ((a9).toInt64) (lN (40)) (lN (n9 - 2)) = false from (by first | exact hin | (split at hv9 <;> (try split at hv9) <;> first | (rw [hv9] at hin; exact hin) | (exfalso; omega)))]
      refine nv_if_neb (tgt := 79) hx hb dX12_sign_74 (by decide) (fun h => absurd h (by decide)) (fun _ => ?_)
      refine lv_iconst (v := -1) hx hb dX12_sign_77 (by decide) ?_
      exact hend (rfl) dX12_sign_78
    refine lv_iload_n hx hb dX12_sign_48 rfl (lv_at hl 1 rfl) ?_
    refine nv_bipush (k := 6) hx hb dX12_sign_49 (by decide) ?_
    refine nv_icmp_ne (tgt := 77) hx hb dX12_sign_51 (by decide) (by omega) (by omega) (fun h51 => ?_) (fun h51 => ?_)
    · skip
      refine lv_iconst (v := -1) hx hb dX12_sign_77 (by decide) ?_
      exact hend (rfl) dX12_sign_78
    refine lv_iload_n hx hb dX12_sign_54 rfl (lv_at hl 3 rfl) ?_
    refine lv_iload hx hb dX12_sign_55 (lv_at hl 0 rfl) ?_
    refine nv_icmp_lt (tgt := 77) hx hb dX12_sign_57 (by decide) (by omega) (by omega) (fun h57 => ?_) (fun h57 => ?_)
    · skip
      refine lv_iconst (v := -1) hx hb dX12_sign_77 (by decide) ?_
      exact hend (rfl) dX12_sign_78
    refine lv_iload_n hx hb dX12_sign_60 rfl (lv_at hl 4 rfl) ?_
    refine lv_i2l hx hb dX12_sign_61 rfl ?_
    refine lv_iload hx hb dX12_sign_62 (lv_at hl 0 rfl) ?_
    refine nv_i2l hx hb (by omega) dX12_sign_64 ?_
    refine lv_iload_n hx hb dX12_sign_65 rfl (lv_at hl 3 rfl) ?_
    refine nv_i2l hx hb (by omega) dX12_sign_66 ?_
    refine nv_ldc2 (k := 2) hx hb hown (ht _ kw5_184) (by decide) dX12_sign_67 ?_
    refine nv_lsub hx hb (by omega) dX12_sign_70 ?_
    refine ro_S S (c_X12_isIn (v := (a9).toInt64) (lo := lN (40)) (hi := lN (n9 - 2))) kw5_14 yv_X12_isIn ⟨Nat.le_of_ble_eq_true rfl, Nat.le_of_ble_eq_true rfl⟩ hK hP rfl hl.1 rfl (Nat.le_of_ble_eq_true rfl) dX12_sign_71 ⟨(Nat.zero_le _), (Nat.zero_le _)⟩ ?_
    rw [show tg_isIn ((a9).toInt64) (lN (40)) (lN (n9 - 2)) = false from (by first | exact hin | (split at hv9 <;> (try split at hv9) <;> first | (rw [hv9] at hin; exact hin) | (exfalso; omega)))]
    refine nv_if_neb (tgt := 79) hx hb dX12_sign_74 (by decide) (fun h => absurd h (by decide)) (fun _ => ?_)
    refine lv_iconst (v := -1) hx hb dX12_sign_77 (by decide) ?_
    exact hend (rfl) dX12_sign_78
  refine nv_bipush (k := 20) hx hb dX12_sign_34 (by decide) ?_
  refine lv_goto (tgt := 41) hx hb dX12_sign_36 (by decide) ?_
  refine lv_istore (lv' := [(4, .int (nI 20)), (3, .int (nI ((tg_rd ft tp 0) / 2 ^ 4))), (0, .ref o), (1, .int (nI n9)), (2, .int a9)]) hx hb dX12_sign_41 hl (by decide) rfl (fun ls hl => ?_)
  refine lv_iload_n hx hb dX12_sign_43 rfl (lv_at hl 1 rfl) ?_
  refine nv_iconst (k := 4) hx hb dX12_sign_44 rfl ?_
  refine nv_icmp_eq (tgt := 54) hx hb dX12_sign_45 (by decide) (by omega) (by omega) (fun h45 => ?_) (fun h45 => ?_)
  · skip
    refine lv_iload_n hx hb dX12_sign_54 rfl (lv_at hl 3 rfl) ?_
    refine lv_iload hx hb dX12_sign_55 (lv_at hl 0 rfl) ?_
    refine nv_icmp_lt (tgt := 77) hx hb dX12_sign_57 (by decide) (by omega) (by omega) (fun h57 => ?_) (fun h57 => ?_)
    · skip
      refine lv_iconst (v := -1) hx hb dX12_sign_77 (by decide) ?_
      exact hend (rfl) dX12_sign_78
    refine lv_iload_n hx hb dX12_sign_60 rfl (lv_at hl 4 rfl) ?_
    refine lv_i2l hx hb dX12_sign_61 rfl ?_
    refine lv_iload hx hb dX12_sign_62 (lv_at hl 0 rfl) ?_
    refine nv_i2l hx hb (by omega) dX12_sign_64 ?_
    refine lv_iload_n hx hb dX12_sign_65 rfl (lv_at hl 3 rfl) ?_
    refine nv_i2l hx hb (by omega) dX12_sign_66 ?_
    refine nv_ldc2 (k := 2) hx hb hown (ht _ kw5_184) (by decide) dX12_sign_67 ?_
    refine nv_lsub hx hb (by omega) dX12_sign_70 ?_
    refine ro_S S (c_X12_isIn (v := (a9).toInt64) (lo := lN (20)) (hi := lN (n9 - 2))) kw5_14 yv_X12_isIn ⟨Nat.le_of_ble_eq_true rfl, Nat.le_of_ble_eq_true rfl⟩ hK hP rfl hl.1 rfl (Nat.le_of_ble_eq_true rfl) dX12_sign_71 ⟨(Nat.zero_le _), (Nat.zero_le _)⟩ ?_
    rw [show tg_isIn ((a9).toInt64) (lN (20)) (lN (n9 - 2)) = false from (by first | exact hin | (split at hv9 <;> (try split at hv9) <;> first | (rw [hv9] at hin; exact hin) | (exfalso; omega)))]
    refine nv_if_neb (tgt := 79) hx hb dX12_sign_74 (by decide) (fun h => absurd h (by decide)) (fun _ => ?_)
    refine lv_iconst (v := -1) hx hb dX12_sign_77 (by decide) ?_
    exact hend (rfl) dX12_sign_78
  refine lv_iload_n hx hb dX12_sign_48 rfl (lv_at hl 1 rfl) ?_
  refine nv_bipush (k := 6) hx hb dX12_sign_49 (by decide) ?_
  refine nv_icmp_ne (tgt := 77) hx hb dX12_sign_51 (by decide) (by omega) (by omega) (fun h51 => ?_) (fun h51 => ?_)
  · skip
    refine lv_iconst (v := -1) hx hb dX12_sign_77 (by decide) ?_
    exact hend (rfl) dX12_sign_78
  refine lv_iload_n hx hb dX12_sign_54 rfl (lv_at hl 3 rfl) ?_
  refine lv_iload hx hb dX12_sign_55 (lv_at hl 0 rfl) ?_
  refine nv_icmp_lt (tgt := 77) hx hb dX12_sign_57 (by decide) (by omega) (by omega) (fun h57 => ?_) (fun h57 => ?_)
  · skip
    refine lv_iconst (v := -1) hx hb dX12_sign_77 (by decide) ?_
    exact hend (rfl) dX12_sign_78
  refine lv_iload_n hx hb dX12_sign_60 rfl (lv_at hl 4 rfl) ?_
  refine lv_i2l hx hb dX12_sign_61 rfl ?_
  refine lv_iload hx hb dX12_sign_62 (lv_at hl 0 rfl) ?_
  refine nv_i2l hx hb (by omega) dX12_sign_64 ?_
  refine lv_iload_n hx hb dX12_sign_65 rfl (lv_at hl 3 rfl) ?_
  refine nv_i2l hx hb (by omega) dX12_sign_66 ?_
  refine nv_ldc2 (k := 2) hx hb hown (ht _ kw5_184) (by decide) dX12_sign_67 ?_
  refine nv_lsub hx hb (by omega) dX12_sign_70 ?_
  refine ro_S S (c_X12_isIn (v := (a9).toInt64) (lo := lN (20)) (hi := lN (n9 - 2))) kw5_14 yv_X12_isIn ⟨Nat.le_of_ble_eq_true rfl, Nat.le_of_ble_eq_true rfl⟩ hK hP rfl hl.1 rfl (Nat.le_of_ble_eq_true rfl) dX12_sign_71 ⟨(Nat.zero_le _), (Nat.zero_le _)⟩ ?_
  rw [show tg_isIn ((a9).toInt64) (lN (20)) (lN (n9 - 2)) = false from (by first | exact hin | (split at hv9 <;> (try split at hv9) <;> first | (rw [hv9] at hin; exact hin) | (exfalso; omega)))]
  refine nv_if_neb (tgt := 79) hx hb dX12_sign_74 (by decide) (fun h => absurd h (by decide)) (fun _ => ?_)
  refine lv_iconst (v := -1) hx hb dX12_sign_77 (by decide) ?_
  exact hend (rfl) dX12_sign_78
