theorem dX12_lackOfInside_0 : decode cX12_lackOfInside 0 = .ok (.aload_n 0, 1) := by decide +kernel
theorem dX12_lackOfInside_1 : decode cX12_lackOfInside 1 = .ok (.getfield 121, 3) := by decide +kernel
theorem dX12_lackOfInside_4 : decode cX12_lackOfInside 4 = .ok (.bipush 40, 2) := by decide +kernel
theorem dX12_lackOfInside_6 : decode cX12_lackOfInside 6 = .ok (.if_icmp .lt 36, 3) := by decide +kernel
theorem dX12_lackOfInside_9 : decode cX12_lackOfInside 9 = .ok (.aload_n 0, 1) := by decide +kernel
theorem dX12_lackOfInside_10 : decode cX12_lackOfInside 10 = .ok (.getfield 16, 3) := by decide +kernel
theorem dX12_lackOfInside_13 : decode cX12_lackOfInside 13 = .ok (.iconst 0, 1) := by decide +kernel
theorem dX12_lackOfInside_14 : decode cX12_lackOfInside 14 = .ok (.invokestatic 124, 3) := by decide +kernel
theorem dX12_lackOfInside_17 : decode cX12_lackOfInside 17 = .ok (.iconst 4, 1) := by decide +kernel
theorem dX12_lackOfInside_18 : decode cX12_lackOfInside 18 = .ok (.ishr, 1) := by decide +kernel
theorem dX12_lackOfInside_19 : decode cX12_lackOfInside 19 = .ok (.bipush 6, 2) := by decide +kernel
theorem dX12_lackOfInside_21 : decode cX12_lackOfInside 21 = .ok (.if_icmp .ne 21, 3) := by decide +kernel
theorem dX12_lackOfInside_24 : decode cX12_lackOfInside 24 = .ok (.aload_n 0, 1) := by decide +kernel
theorem dX12_lackOfInside_25 : decode cX12_lackOfInside 25 = .ok (.getfield 16, 3) := by decide +kernel
theorem dX12_lackOfInside_28 : decode cX12_lackOfInside 28 = .ok (.iconst 4, 1) := by decide +kernel
theorem dX12_lackOfInside_29 : decode cX12_lackOfInside 29 = .ok (.invokestatic 128, 3) := by decide +kernel
theorem dX12_lackOfInside_32 : decode cX12_lackOfInside 32 = .ok (.aload_n 0, 1) := by decide +kernel
theorem dX12_lackOfInside_33 : decode cX12_lackOfInside 33 = .ok (.getfield 121, 3) := by decide +kernel
theorem dX12_lackOfInside_36 : decode cX12_lackOfInside 36 = .ok (.bipush 40, 2) := by decide +kernel
theorem dX12_lackOfInside_38 : decode cX12_lackOfInside 38 = .ok (.isub, 1) := by decide +kernel
theorem dX12_lackOfInside_39 : decode cX12_lackOfInside 39 = .ok (.if_icmp .eq 6, 3) := by decide +kernel
theorem dX12_lackOfInside_42 : decode cX12_lackOfInside 42 = .ok (.bipush 10, 2) := by decide +kernel
theorem dX12_lackOfInside_44 : decode cX12_lackOfInside 44 = .ok (.ireturn, 1) := by decide +kernel
theorem dX12_lackOfInside_45 : decode cX12_lackOfInside 45 = .ok (.aload_n 0, 1) := by decide +kernel
theorem dX12_lackOfInside_46 : decode cX12_lackOfInside 46 = .ok (.getfield 16, 3) := by decide +kernel
theorem dX12_lackOfInside_49 : decode cX12_lackOfInside 49 = .ok (.bipush 6, 2) := by decide +kernel
theorem dX12_lackOfInside_51 : decode cX12_lackOfInside 51 = .ok (.invokestatic 124, 3) := by decide +kernel
theorem dX12_lackOfInside_54 : decode cX12_lackOfInside 54 = .ok (.istore_n 1, 1) := by decide +kernel
theorem dX12_lackOfInside_55 : decode cX12_lackOfInside 55 = .ok (.iload_n 1, 1) := by decide +kernel
theorem dX12_lackOfInside_56 : decode cX12_lackOfInside 56 = .ok (.bipush 6, 2) := by decide +kernel
theorem dX12_lackOfInside_58 : decode cX12_lackOfInside 58 = .ok (.if_icmp .eq 15, 3) := by decide +kernel
theorem dX12_lackOfInside_61 : decode cX12_lackOfInside 61 = .ok (.iload_n 1, 1) := by decide +kernel
theorem dX12_lackOfInside_62 : decode cX12_lackOfInside 62 = .ok (.bipush 17, 2) := by decide +kernel
theorem dX12_lackOfInside_64 : decode cX12_lackOfInside 64 = .ok (.if_icmp .eq 9, 3) := by decide +kernel
theorem dX12_lackOfInside_67 : decode cX12_lackOfInside 67 = .ok (.iload_n 1, 1) := by decide +kernel
theorem dX12_lackOfInside_68 : decode cX12_lackOfInside 68 = .ok (.bipush 58, 2) := by decide +kernel
theorem dX12_lackOfInside_70 : decode cX12_lackOfInside 70 = .ok (.if_icmp .ne 49, 3) := by decide +kernel
theorem dX12_lackOfInside_73 : decode cX12_lackOfInside 73 = .ok (.aload_n 0, 1) := by decide +kernel
theorem dX12_lackOfInside_74 : decode cX12_lackOfInside 74 = .ok (.bipush 40, 2) := by decide +kernel
theorem dX12_lackOfInside_76 : decode cX12_lackOfInside 76 = .ok (.iload_n 1, 1) := by decide +kernel
theorem dX12_lackOfInside_77 : decode cX12_lackOfInside 77 = .ok (.invokevirtual 186, 3) := by decide +kernel
theorem dX12_lackOfInside_80 : decode cX12_lackOfInside 80 = .ok (.ifCond .ne 39, 3) := by decide +kernel
theorem dX12_lackOfInside_83 : decode cX12_lackOfInside 83 = .ok (.iload_n 1, 1) := by decide +kernel
theorem dX12_lackOfInside_84 : decode cX12_lackOfInside 84 = .ok (.bipush 58, 2) := by decide +kernel
theorem dX12_lackOfInside_86 : decode cX12_lackOfInside 86 = .ok (.if_icmp .ne 36, 3) := by decide +kernel
theorem dX12_lackOfInside_89 : decode cX12_lackOfInside 89 = .ok (.aload_n 0, 1) := by decide +kernel
theorem dX12_lackOfInside_90 : decode cX12_lackOfInside 90 = .ok (.getfield 16, 3) := by decide +kernel
theorem dX12_lackOfInside_93 : decode cX12_lackOfInside 93 = .ok (.bipush 40, 2) := by decide +kernel
theorem dX12_lackOfInside_95 : decode cX12_lackOfInside 95 = .ok (.invokestatic 124, 3) := by decide +kernel
theorem dX12_lackOfInside_98 : decode cX12_lackOfInside 98 = .ok (.sipush 128, 3) := by decide +kernel
theorem dX12_lackOfInside_101 : decode cX12_lackOfInside 101 = .ok (.if_icmp .eq 21, 3) := by decide +kernel
theorem dX12_lackOfInside_104 : decode cX12_lackOfInside 104 = .ok (.aload_n 0, 1) := by decide +kernel
theorem dX12_lackOfInside_105 : decode cX12_lackOfInside 105 = .ok (.getfield 16, 3) := by decide +kernel
theorem dX12_lackOfInside_108 : decode cX12_lackOfInside 108 = .ok (.bipush 40, 2) := by decide +kernel
theorem dX12_lackOfInside_110 : decode cX12_lackOfInside 110 = .ok (.invokestatic 124, 3) := by decide +kernel
theorem dX12_lackOfInside_113 : decode cX12_lackOfInside 113 = .ok (.sipush 129, 3) := by decide +kernel
theorem dX12_lackOfInside_116 : decode cX12_lackOfInside 116 = .ok (.if_icmp .eq 6, 3) := by decide +kernel
theorem dX12_lackOfInside_119 : decode cX12_lackOfInside 119 = .ok (.bipush 11, 2) := by decide +kernel
theorem dX12_lackOfInside_121 : decode cX12_lackOfInside 121 = .ok (.ireturn, 1) := by decide +kernel
theorem dX12_lackOfInside_122 : decode cX12_lackOfInside 122 = .ok (.aload_n 0, 1) := by decide +kernel
theorem dX12_lackOfInside_123 : decode cX12_lackOfInside 123 = .ok (.bipush 40, 2) := by decide +kernel
theorem dX12_lackOfInside_125 : decode cX12_lackOfInside 125 = .ok (.iload_n 1, 1) := by decide +kernel
theorem dX12_lackOfInside_126 : decode cX12_lackOfInside 126 = .ok (.invokevirtual 190, 3) := by decide +kernel
theorem dX12_lackOfInside_129 : decode cX12_lackOfInside 129 = .ok (.ifCond .ne 6, 3) := by decide +kernel
theorem dX12_lackOfInside_132 : decode cX12_lackOfInside 132 = .ok (.bipush 12, 2) := by decide +kernel
theorem dX12_lackOfInside_134 : decode cX12_lackOfInside 134 = .ok (.ireturn, 1) := by decide +kernel
theorem dX12_lackOfInside_135 : decode cX12_lackOfInside 135 = .ok (.aload_n 0, 1) := by decide +kernel
theorem dX12_lackOfInside_136 : decode cX12_lackOfInside 136 = .ok (.getfield 16, 3) := by decide +kernel
theorem dX12_lackOfInside_139 : decode cX12_lackOfInside 139 = .ok (.bipush 7, 2) := by decide +kernel
theorem dX12_lackOfInside_141 : decode cX12_lackOfInside 141 = .ok (.invokestatic 124, 3) := by decide +kernel
theorem dX12_lackOfInside_144 : decode cX12_lackOfInside 144 = .ok (.iconst 2, 1) := by decide +kernel
theorem dX12_lackOfInside_145 : decode cX12_lackOfInside 145 = .ok (.if_icmp .ge 6, 3) := by decide +kernel
theorem dX12_lackOfInside_148 : decode cX12_lackOfInside 148 = .ok (.bipush 13, 2) := by decide +kernel
theorem dX12_lackOfInside_150 : decode cX12_lackOfInside 150 = .ok (.ireturn, 1) := by decide +kernel
theorem dX12_lackOfInside_151 : decode cX12_lackOfInside 151 = .ok (.aload_n 0, 1) := by decide +kernel
theorem dX12_lackOfInside_152 : decode cX12_lackOfInside 152 = .ok (.getfield 64, 3) := by decide +kernel
theorem dX12_lackOfInside_155 : decode cX12_lackOfInside 155 = .ok (.ifCond .le 92, 3) := by decide +kernel
theorem dX12_lackOfInside_158 : decode cX12_lackOfInside 158 = .ok (.aload_n 0, 1) := by decide +kernel
theorem dX12_lackOfInside_159 : decode cX12_lackOfInside 159 = .ok (.getfield 86, 3) := by decide +kernel
theorem dX12_lackOfInside_162 : decode cX12_lackOfInside 162 = .ok (.ifCond .le 85, 3) := by decide +kernel
theorem dX12_lackOfInside_165 : decode cX12_lackOfInside 165 = .ok (.aload_n 0, 1) := by decide +kernel
theorem dX12_lackOfInside_166 : decode cX12_lackOfInside 166 = .ok (.aload_n 0, 1) := by decide +kernel
theorem dX12_lackOfInside_167 : decode cX12_lackOfInside 167 = .ok (.getfield 16, 3) := by decide +kernel
theorem dX12_lackOfInside_170 : decode cX12_lackOfInside 170 = .ok (.bipush 24, 2) := by decide +kernel
theorem dX12_lackOfInside_172 : decode cX12_lackOfInside 172 = .ok (.invokestatic 193, 3) := by decide +kernel
theorem dX12_lackOfInside_175 : decode cX12_lackOfInside 175 = .ok (.aload_n 0, 1) := by decide +kernel
theorem dX12_lackOfInside_176 : decode cX12_lackOfInside 176 = .ok (.getfield 16, 3) := by decide +kernel
theorem dX12_lackOfInside_179 : decode cX12_lackOfInside 179 = .ok (.bipush 32, 2) := by decide +kernel
theorem dX12_lackOfInside_181 : decode cX12_lackOfInside 181 = .ok (.invokestatic 193, 3) := by decide +kernel
theorem dX12_lackOfInside_184 : decode cX12_lackOfInside 184 = .ok (.invokevirtual 108, 3) := by decide +kernel
theorem dX12_lackOfInside_187 : decode cX12_lackOfInside 187 = .ok (.ifCond .eq 60, 3) := by decide +kernel
theorem dX12_lackOfInside_190 : decode cX12_lackOfInside 190 = .ok (.aload_n 0, 1) := by decide +kernel
theorem dX12_lackOfInside_191 : decode cX12_lackOfInside 191 = .ok (.aload_n 0, 1) := by decide +kernel
theorem dX12_lackOfInside_192 : decode cX12_lackOfInside 192 = .ok (.getfield 16, 3) := by decide +kernel
theorem dX12_lackOfInside_195 : decode cX12_lackOfInside 195 = .ok (.bipush 24, 2) := by decide +kernel
theorem dX12_lackOfInside_197 : decode cX12_lackOfInside 197 = .ok (.invokestatic 193, 3) := by decide +kernel
theorem dX12_lackOfInside_200 : decode cX12_lackOfInside 200 = .ok (.aload_n 0, 1) := by decide +kernel
theorem dX12_lackOfInside_201 : decode cX12_lackOfInside 201 = .ok (.getfield 16, 3) := by decide +kernel
theorem dX12_lackOfInside_204 : decode cX12_lackOfInside 204 = .ok (.bipush 32, 2) := by decide +kernel
theorem dX12_lackOfInside_206 : decode cX12_lackOfInside 206 = .ok (.invokestatic 193, 3) := by decide +kernel
theorem dX12_lackOfInside_209 : decode cX12_lackOfInside 209 = .ok (.invokevirtual 112, 3) := by decide +kernel
theorem dX12_lackOfInside_212 : decode cX12_lackOfInside 212 = .ok (.invokestatic 89, 3) := by decide +kernel
theorem dX12_lackOfInside_215 : decode cX12_lackOfInside 215 = .ok (.ifCond .ne 32, 3) := by decide +kernel
theorem dX12_lackOfInside_218 : decode cX12_lackOfInside 218 = .ok (.aload_n 0, 1) := by decide +kernel
theorem dX12_lackOfInside_219 : decode cX12_lackOfInside 219 = .ok (.aload_n 0, 1) := by decide +kernel
theorem dX12_lackOfInside_220 : decode cX12_lackOfInside 220 = .ok (.getfield 16, 3) := by decide +kernel
theorem dX12_lackOfInside_223 : decode cX12_lackOfInside 223 = .ok (.bipush 8, 2) := by decide +kernel
theorem dX12_lackOfInside_225 : decode cX12_lackOfInside 225 = .ok (.invokestatic 193, 3) := by decide +kernel
theorem dX12_lackOfInside_228 : decode cX12_lackOfInside 228 = .ok (.aload_n 0, 1) := by decide +kernel
theorem dX12_lackOfInside_229 : decode cX12_lackOfInside 229 = .ok (.getfield 16, 3) := by decide +kernel
theorem dX12_lackOfInside_232 : decode cX12_lackOfInside 232 = .ok (.bipush 16, 2) := by decide +kernel
theorem dX12_lackOfInside_234 : decode cX12_lackOfInside 234 = .ok (.invokestatic 193, 3) := by decide +kernel
theorem dX12_lackOfInside_237 : decode cX12_lackOfInside 237 = .ok (.invokevirtual 108, 3) := by decide +kernel
theorem dX12_lackOfInside_240 : decode cX12_lackOfInside 240 = .ok (.ifCond .ne 7, 3) := by decide +kernel
theorem dX12_lackOfInside_243 : decode cX12_lackOfInside 243 = .ok (.iconst 1, 1) := by decide +kernel
theorem dX12_lackOfInside_244 : decode cX12_lackOfInside 244 = .ok (.goto 4, 3) := by decide +kernel
theorem dX12_lackOfInside_247 : decode cX12_lackOfInside 247 = .ok (.iconst 0, 1) := by decide +kernel
theorem dX12_lackOfInside_248 : decode cX12_lackOfInside 248 = .ok (.istore_n 2, 1) := by decide +kernel
theorem dX12_lackOfInside_249 : decode cX12_lackOfInside 249 = .ok (.iload_n 2, 1) := by decide +kernel
theorem dX12_lackOfInside_250 : decode cX12_lackOfInside 250 = .ok (.ifCond .eq 7, 3) := by decide +kernel
theorem dX12_lackOfInside_253 : decode cX12_lackOfInside 253 = .ok (.iconst 0, 1) := by decide +kernel
theorem dX12_lackOfInside_254 : decode cX12_lackOfInside 254 = .ok (.goto 5, 3) := by decide +kernel
theorem dX12_lackOfInside_257 : decode cX12_lackOfInside 257 = .ok (.bipush 14, 2) := by decide +kernel
theorem dX12_lackOfInside_259 : decode cX12_lackOfInside 259 = .ok (.ireturn, 1) := by decide +kernel
theorem yv_X12_lackOfInside : YV RX12 yX12_lackOfInside cX12_lackOfInside 3 (some .int) 0 := ⟨kw5_39, kws_27, kw1_10, kw5_40, by decide +kernel⟩
set_option maxHeartbeats 4000000 in
set_option maxRecDepth 100000 in
theorem c_X12_lackOfInside {l : Launch} {D : va_G} {cy : Nat → ClassId} {ws : va_W} {n : Nat} {f : Nat → UInt8} {km mo : Nat} {fs : List Value} (hm0 : ws[km]? = some (mo, .inr (9, fs))) {ai : Nat}  {bits : Nat} {F : Nat} {G : Nat} {u : Nat} (hf_in : fs[4]? = some (.ref ai)) (hf_size : fs[5]? = some (.int (nI n))) (hf_bits : fs[6]? = some (.int (nI bits))) (hf_prefixHigh : fs[7]? = some (.long (lN (F)))) (hf_prefixLow : fs[8]? = some (.long (lN (G)))) (hf_pools : fs[9]? = some (.int (nI u))) (hR : AR cy ws ai f n) (hsi : SI bits F G) (hu : u ≤ 4) : RO l yX12_lackOfInside cX12_lackOfInside 3 (some .int) 5 119 [.ref mo] D cy ws (.int (nI (tg_in (tg_rd f n) n bits F G u))) := by
  refine ROi (by decide) (lv0 := [(0, .ref mo)]) rfl (Nat.le_of_ble_eq_true rfl) ?_
  intro p e s m args below meth c ls Q S hP hK hend hl
  have hx := S.1
  have hb := S.2.1
  have hown : s.vm.findClass RX12 = some m.cls := S.2.2.2.1
  have ht : ∀ w ∈ lw_g, w.before args s = true := fun w h => S.2.2.2.2 w (List.mem_cons_of_mem _ h)
  obtain ⟨kr, N, hr0, hnN, hN⟩ := id hR
  have hbits := hsi.b
  have hF := hsi.F
  have hG := hsi.G
  refine lv_aload_n hx hb dX12_lackOfInside_0 rfl (lv_at hl 0 rfl) ?_
  refine va_get (ci := 9) (C := RX12) (T := TX12) (N := 28) hx hb ht iFX12 hown hK hP km hm0 rfl 5 (by decide) (ht _ kw4_115) (fun _ h9 => h9) hf_size dX12_lackOfInside_1 ?_
  refine nv_bipush (k := 40) hx hb dX12_lackOfInside_4 (by decide) ?_
  refine nv_icmp_lt (tgt := 42) hx hb dX12_lackOfInside_6 (by decide) (by omega) (by omega) (fun h6 => ?_) (fun h6 => ?_)
  · skip
    refine nv_bipush (k := 10) hx hb dX12_lackOfInside_42 (by decide) ?_
    exact hend ((congrArg nI (by simp only [tg_in]; rw [if_pos (show tg_fr6 (tg_rd f n) n = false from decide_eq_false (by omega))]))) dX12_lackOfInside_44
  refine lv_aload_n hx hb dX12_lackOfInside_9 rfl (lv_at hl 0 rfl) ?_
  refine va_get (ci := 9) (C := RX12) (T := TX12) (N := 28) hx hb ht iFX12 hown hK hP km hm0 rfl 4 (by decide) (ht _ kw4_114) (fun _ h9 => h9) hf_in dX12_lackOfInside_10 ?_
  refine nv_iconst (k := 0) hx hb dX12_lackOfInside_13 rfl ?_
  refine ro_S S (c_X12_at hR (i := 0) (by omega)) kw5_41 yv_X12_at ⟨Nat.le_of_ble_eq_true rfl, Nat.le_of_ble_eq_true rfl⟩ hK hP rfl hl.1 rfl (Nat.le_of_ble_eq_true rfl) dX12_lackOfInside_14 ⟨Nat.zero_le _, Nat.zero_le _⟩ ?_
  have hq14 := tg_rd_lt f n 0
  refine nv_iconst (k := 4) hx hb dX12_lackOfInside_17 rfl ?_
  refine nv_ishr hx hb (by omega) (by omega) dX12_lackOfInside_18 ?_
  refine nv_bipush (k := 6) hx hb dX12_lackOfInside_19 (by decide) ?_
  refine nv_icmp_ne (tgt := 42) hx hb dX12_lackOfInside_21 (by decide) (by omega) (by omega) (fun h21 => ?_) (fun h21 => ?_)
  · skip
    refine nv_bipush (k := 10) hx hb dX12_lackOfInside_42 (by decide) ?_
    exact hend ((congrArg nI (by simp only [tg_in]; rw [if_pos (show tg_fr6 (tg_rd f n) n = false from decide_eq_false (by omega))]))) dX12_lackOfInside_44
  refine lv_aload_n hx hb dX12_lackOfInside_24 rfl (lv_at hl 0 rfl) ?_
  refine va_get (ci := 9) (C := RX12) (T := TX12) (N := 28) hx hb ht iFX12 hown hK hP km hm0 rfl 4 (by decide) (ht _ kw4_114) (fun _ h9 => h9) hf_in dX12_lackOfInside_25 ?_
  refine nv_iconst (k := 4) hx hb dX12_lackOfInside_28 rfl ?_
  refine ro_S S (c_X12_two hR (i := 4) (by omega)) kw5_44 yv_X12_two ⟨Nat.le_of_ble_eq_true rfl, Nat.le_of_ble_eq_true rfl⟩ hK hP rfl hl.1 rfl (Nat.le_of_ble_eq_true rfl) dX12_lackOfInside_29 ⟨Nat.zero_le _, Nat.zero_le _⟩ ?_
  have hq29 := tg_pr_lt f n 4
  refine lv_aload_n hx hb dX12_lackOfInside_32 rfl (lv_at hl 0 rfl) ?_
  refine va_get (ci := 9) (C := RX12) (T := TX12) (N := 28) hx hb ht iFX12 hown hK hP km hm0 rfl 5 (by decide) (ht _ kw4_115) (fun _ h9 => h9) hf_size dX12_lackOfInside_33 ?_
  refine nv_bipush (k := 40) hx hb dX12_lackOfInside_36 (by decide) ?_
  refine nv_isub hx hb (by omega) dX12_lackOfInside_38 ?_
  refine nv_icmp_eq (tgt := 45) hx hb dX12_lackOfInside_39 (by decide) (by omega) (by omega) (fun h39 => ?_) (fun h39 => ?_)
  · skip
    have hfr : tg_fr6 (tg_rd f n) n = true := decide_eq_true (by omega)
    refine lv_aload_n hx hb dX12_lackOfInside_45 rfl (lv_at hl 0 rfl) ?_
    refine va_get (ci := 9) (C := RX12) (T := TX12) (N := 28) hx hb ht iFX12 hown hK hP km hm0 rfl 4 (by decide) (ht _ kw4_114) (fun _ h9 => h9) hf_in dX12_lackOfInside_46 ?_
    refine nv_bipush (k := 6) hx hb dX12_lackOfInside_49 (by decide) ?_
    refine ro_S S (c_X12_at hR (i := 6) (by omega)) kw5_41 yv_X12_at ⟨Nat.le_of_ble_eq_true rfl, Nat.le_of_ble_eq_true rfl⟩ hK hP rfl hl.1 rfl (Nat.le_of_ble_eq_true rfl) dX12_lackOfInside_51 ⟨Nat.zero_le _, Nat.zero_le _⟩ ?_
    have hq51 := tg_rd_lt f n 6
    refine lv_istore_n (lv' := [(1, .int (nI (tg_rd f n 6))), (0, .ref mo)]) hx hb dX12_lackOfInside_54 rfl hl (by decide) rfl (fun ls hl => ?_)
    have J122 : tg_kn6 (tg_rd f n) n = true → (tg_rd f n 6 = 6 ∨ tg_rd f n 6 = 17 ∨ tg_rd f n 6 = 58) → tg_bad (tg_rd f n) n 40 (tg_rd f n 6) = false → ∀ ls : Array Slot, lv_has ls 3 [(1, .int (nI (tg_rd f n 6))), (0, .ref mo)] → W p l e (rmo 5 119) s m args below meth c s.heap [] 0 0 Q (F0 m 122 ls []) := by
      intro hkn hq3 hbd ls hl
      have hsz := bad_sz (by omega) hbd
      refine lv_aload_n hx hb dX12_lackOfInside_122 rfl (lv_at hl 1 rfl) ?_
      refine nv_bipush (k := 40) hx hb dX12_lackOfInside_123 (by decide) ?_
      refine lv_iload_n hx hb dX12_lackOfInside_125 rfl (lv_at hl 0 rfl) ?_
      refine ro_V S (c_X12_isRight hm0 hf_in hf_size hR (hd := 40) (q := tg_rd f n 6) (by omega) (by omega) (by omega)) kw5_51 yv_X12_isRight ⟨Nat.le_of_ble_eq_true rfl, Nat.le_of_ble_eq_true rfl⟩ hK hP (va_recv hK hP (ci := 9) (q0 := km) rfl hm0) rfl hl.1 rfl (Nat.le_of_ble_eq_true rfl) dX12_lackOfInside_126 ⟨Nat.zero_le _, Nat.zero_le _⟩ ?_
      refine nv_if_neb (tgt := 135) hx hb dX12_lackOfInside_129 (by decide) (fun h129 => ?_) (fun h129 => ?_)
      · skip
        have hpo : tg_partOk (tg_rd f n) n 40 = true := h129
        refine lv_aload_n hx hb dX12_lackOfInside_135 rfl (lv_at hl 1 rfl) ?_
        refine va_get (ci := 9) (C := RX12) (T := TX12) (N := 28) hx hb ht iFX12 hown hK hP km hm0 rfl 4 (by decide) (ht _ kw4_114) (fun _ h9 => h9) hf_in dX12_lackOfInside_136 ?_
        refine nv_bipush (k := 7) hx hb dX12_lackOfInside_139 (by decide) ?_
        refine ro_S S (c_X12_at hR (i := 7) (by omega)) kw5_41 yv_X12_at ⟨Nat.le_of_ble_eq_true rfl, Nat.le_of_ble_eq_true rfl⟩ hK hP rfl hl.1 rfl (Nat.le_of_ble_eq_true rfl) dX12_lackOfInside_141 ⟨Nat.zero_le _, Nat.zero_le _⟩ ?_
        have hq141 := tg_rd_lt f n 7
        refine nv_iconst (k := 2) hx hb dX12_lackOfInside_144 rfl ?_
        refine nv_icmp_ge (tgt := 151) hx hb dX12_lackOfInside_145 (by decide) (by omega) (by omega) (fun h145 => ?_) (fun h145 => ?_)
        · skip
          refine lv_aload_n hx hb dX12_lackOfInside_151 rfl (lv_at hl 1 rfl) ?_
          refine va_get (ci := 9) (C := RX12) (T := TX12) (N := 28) hx hb ht iFX12 hown hK hP km hm0 rfl 6 (by decide) (ht _ kw4_116) (fun _ h9 => h9) hf_bits dX12_lackOfInside_152 ?_
          refine nv_if_le (tgt := 247) hx hb dX12_lackOfInside_155 (by decide) (by omega) (fun h155 => ?_) (fun h155 => ?_)
          · skip
            refine nv_iconst (k := 0) hx hb dX12_lackOfInside_247 rfl ?_
            refine lv_istore_n (lv' := [(2, .int (nI 0)), (1, .int (nI (tg_rd f n 6))), (0, .ref mo)]) hx hb dX12_lackOfInside_248 rfl hl (by decide) rfl (fun ls hl => ?_)
            refine lv_iload_n hx hb dX12_lackOfInside_249 rfl (lv_at hl 0 rfl) ?_
            refine nv_if_eq (tgt := 257) hx hb dX12_lackOfInside_250 (by decide) (by omega) (fun _ => ?_) (fun h => absurd h (by decide))
            refine nv_bipush (k := 14) hx hb dX12_lackOfInside_257 (by decide) ?_
            exact hend ((congrArg nI (by simp only [tg_in]; rw [if_neg (nfalse hfr), if_neg (nfalse hkn), if_neg (nfalse hpo), if_neg (by omega), if_neg (show ¬ tg_pl6 (tg_rd f n) bits F G u = true by first | (simp [tg_pl6, h155]; done) | (simp [tg_pl6, h162]; done) | (simp [tg_pl6, h187]; done) | (simp [tg_pl6, h187, h215]; done) | (simp [tg_pl6, h187, h215, h240]; done))]))) dX12_lackOfInside_259
          refine lv_aload_n hx hb dX12_lackOfInside_158 rfl (lv_at hl 1 rfl) ?_
          refine va_get (ci := 9) (C := RX12) (T := TX12) (N := 28) hx hb ht iFX12 hown hK hP km hm0 rfl 9 (by decide) (ht _ kw4_119) (fun _ h9 => h9) hf_pools dX12_lackOfInside_159 ?_
          refine nv_if_le (tgt := 247) hx hb dX12_lackOfInside_162 (by decide) (by omega) (fun h162 => ?_) (fun h162 => ?_)
          · skip
            refine nv_iconst (k := 0) hx hb dX12_lackOfInside_247 rfl ?_
            refine lv_istore_n (lv' := [(2, .int (nI 0)), (1, .int (nI (tg_rd f n 6))), (0, .ref mo)]) hx hb dX12_lackOfInside_248 rfl hl (by decide) rfl (fun ls hl => ?_)
            refine lv_iload_n hx hb dX12_lackOfInside_249 rfl (lv_at hl 0 rfl) ?_
            refine nv_if_eq (tgt := 257) hx hb dX12_lackOfInside_250 (by decide) (by omega) (fun _ => ?_) (fun h => absurd h (by decide))
            refine nv_bipush (k := 14) hx hb dX12_lackOfInside_257 (by decide) ?_
            exact hend ((congrArg nI (by simp only [tg_in]; rw [if_neg (nfalse hfr), if_neg (nfalse hkn), if_neg (nfalse hpo), if_neg (by omega), if_neg (show ¬ tg_pl6 (tg_rd f n) bits F G u = true by first | (simp [tg_pl6, h155]; done) | (simp [tg_pl6, h162]; done) | (simp [tg_pl6, h187]; done) | (simp [tg_pl6, h187, h215]; done) | (simp [tg_pl6, h187, h215, h240]; done))]))) dX12_lackOfInside_259
          refine lv_aload_n hx hb dX12_lackOfInside_165 rfl (lv_at hl 1 rfl) ?_
          refine lv_aload_n hx hb dX12_lackOfInside_166 rfl (lv_at hl 1 rfl) ?_
          refine va_get (ci := 9) (C := RX12) (T := TX12) (N := 28) hx hb ht iFX12 hown hK hP km hm0 rfl 4 (by decide) (ht _ kw4_114) (fun _ h9 => h9) hf_in dX12_lackOfInside_167 ?_
          refine nv_bipush (k := 24) hx hb dX12_lackOfInside_170 (by decide) ?_
          refine ro_S S (c_X12_eight hR (i := 24) (by omega)) kw5_69 yv_X12_eight ⟨Nat.le_of_ble_eq_true rfl, Nat.le_of_ble_eq_true rfl⟩ hK hP rfl hl.1 rfl (Nat.le_of_ble_eq_true rfl) dX12_lackOfInside_172 ⟨Nat.zero_le _, Nat.zero_le _⟩ ?_
          have hq172 := tg_ei_lt f n 24
          refine lv_aload_n hx hb dX12_lackOfInside_175 rfl (lv_at hl 1 rfl) ?_
          refine va_get (ci := 9) (C := RX12) (T := TX12) (N := 28) hx hb ht iFX12 hown hK hP km hm0 rfl 4 (by decide) (ht _ kw4_114) (fun _ h9 => h9) hf_in dX12_lackOfInside_176 ?_
          refine nv_bipush (k := 32) hx hb dX12_lackOfInside_179 (by decide) ?_
          refine ro_S S (c_X12_eight hR (i := 32) (by omega)) kw5_69 yv_X12_eight ⟨Nat.le_of_ble_eq_true rfl, Nat.le_of_ble_eq_true rfl⟩ hK hP rfl hl.1 rfl (Nat.le_of_ble_eq_true rfl) dX12_lackOfInside_181 ⟨Nat.zero_le _, Nat.zero_le _⟩ ?_
          have hq181 := tg_ei_lt f n 32
          refine ro_V S (c_X12_isOfPrefix hm0 hf_bits hf_prefixHigh hf_prefixLow hsi (hi := tg_ei (tg_rd f n) 24) (lo := tg_ei (tg_rd f n) 32) (by omega) (by omega)) kw4_233 yv_X12_isOfPrefix ⟨Nat.le_of_ble_eq_true rfl, Nat.le_of_ble_eq_true rfl⟩ hK hP (va_recv hK hP (ci := 9) (q0 := km) rfl hm0) rfl hl.1 rfl (Nat.le_of_ble_eq_true rfl) dX12_lackOfInside_184 ⟨Nat.zero_le _, Nat.zero_le _⟩ ?_
          refine nv_if_eqb (tgt := 247) hx hb dX12_lackOfInside_187 (by decide) (fun h187 => ?_) (fun h187 => ?_)
          · skip
            refine nv_iconst (k := 0) hx hb dX12_lackOfInside_247 rfl ?_
            refine lv_istore_n (lv' := [(2, .int (nI 0)), (1, .int (nI (tg_rd f n 6))), (0, .ref mo)]) hx hb dX12_lackOfInside_248 rfl hl (by decide) rfl (fun ls hl => ?_)
            refine lv_iload_n hx hb dX12_lackOfInside_249 rfl (lv_at hl 0 rfl) ?_
            refine nv_if_eq (tgt := 257) hx hb dX12_lackOfInside_250 (by decide) (by omega) (fun _ => ?_) (fun h => absurd h (by decide))
            refine nv_bipush (k := 14) hx hb dX12_lackOfInside_257 (by decide) ?_
            exact hend ((congrArg nI (by simp only [tg_in]; rw [if_neg (nfalse hfr), if_neg (nfalse hkn), if_neg (nfalse hpo), if_neg (by omega), if_neg (show ¬ tg_pl6 (tg_rd f n) bits F G u = true by first | (simp [tg_pl6, h155]; done) | (simp [tg_pl6, h162]; done) | (simp [tg_pl6, h187]; done) | (simp [tg_pl6, h187, h215]; done) | (simp [tg_pl6, h187, h215, h240]; done))]))) dX12_lackOfInside_259
          refine lv_aload_n hx hb dX12_lackOfInside_190 rfl (lv_at hl 1 rfl) ?_
          refine lv_aload_n hx hb dX12_lackOfInside_191 rfl (lv_at hl 1 rfl) ?_
          refine va_get (ci := 9) (C := RX12) (T := TX12) (N := 28) hx hb ht iFX12 hown hK hP km hm0 rfl 4 (by decide) (ht _ kw4_114) (fun _ h9 => h9) hf_in dX12_lackOfInside_192 ?_
          refine nv_bipush (k := 24) hx hb dX12_lackOfInside_195 (by decide) ?_
          refine ro_S S (c_X12_eight hR (i := 24) (by omega)) kw5_69 yv_X12_eight ⟨Nat.le_of_ble_eq_true rfl, Nat.le_of_ble_eq_true rfl⟩ hK hP rfl hl.1 rfl (Nat.le_of_ble_eq_true rfl) dX12_lackOfInside_197 ⟨Nat.zero_le _, Nat.zero_le _⟩ ?_
          have hq197 := tg_ei_lt f n 24
          refine lv_aload_n hx hb dX12_lackOfInside_200 rfl (lv_at hl 1 rfl) ?_
          refine va_get (ci := 9) (C := RX12) (T := TX12) (N := 28) hx hb ht iFX12 hown hK hP km hm0 rfl 4 (by decide) (ht _ kw4_114) (fun _ h9 => h9) hf_in dX12_lackOfInside_201 ?_
          refine nv_bipush (k := 32) hx hb dX12_lackOfInside_204 (by decide) ?_
          refine ro_S S (c_X12_eight hR (i := 32) (by omega)) kw5_69 yv_X12_eight ⟨Nat.le_of_ble_eq_true rfl, Nat.le_of_ble_eq_true rfl⟩ hK hP rfl hl.1 rfl (Nat.le_of_ble_eq_true rfl) dX12_lackOfInside_206 ⟨Nat.zero_le _, Nat.zero_le _⟩ ?_
          have hq206 := tg_ei_lt f n 32
          refine ro_V S (c_X12_drawnOf hm0 hf_bits (by omega) (hi := tg_ei (tg_rd f n) 24) (lo := tg_ei (tg_rd f n) 32) (by omega) (by omega)) kw4_237 yv_X12_drawnOf ⟨Nat.le_of_ble_eq_true rfl, Nat.le_of_ble_eq_true rfl⟩ hK hP (va_recv hK hP (ci := 9) (q0 := km) rfl hm0) rfl hl.1 rfl (Nat.le_of_ble_eq_true rfl) dX12_lackOfInside_209 ⟨Nat.zero_le _, Nat.zero_le _⟩ ?_
          have hq209 := tg_dr_lt (bits := bits) (hi := tg_ei (tg_rd f n) 24) (lo := tg_ei (tg_rd f n) 32) (by omega)
          refine ro_S S (c_X12_isOdd (x := tg_dr bits (tg_ei (tg_rd f n) 24) (tg_ei (tg_rd f n) 32)) (by omega)) kw4_206 yv_X12_isOdd ⟨Nat.le_of_ble_eq_true rfl, Nat.le_of_ble_eq_true rfl⟩ hK hP rfl hl.1 rfl (Nat.le_of_ble_eq_true rfl) dX12_lackOfInside_212 ⟨Nat.zero_le _, Nat.zero_le _⟩ ?_
          refine nv_if_neb (tgt := 247) hx hb dX12_lackOfInside_215 (by decide) (fun h215 => ?_) (fun h215 => ?_)
          · skip
            refine nv_iconst (k := 0) hx hb dX12_lackOfInside_247 rfl ?_
            refine lv_istore_n (lv' := [(2, .int (nI 0)), (1, .int (nI (tg_rd f n 6))), (0, .ref mo)]) hx hb dX12_lackOfInside_248 rfl hl (by decide) rfl (fun ls hl => ?_)
            refine lv_iload_n hx hb dX12_lackOfInside_249 rfl (lv_at hl 0 rfl) ?_
            refine nv_if_eq (tgt := 257) hx hb dX12_lackOfInside_250 (by decide) (by omega) (fun _ => ?_) (fun h => absurd h (by decide))
            refine nv_bipush (k := 14) hx hb dX12_lackOfInside_257 (by decide) ?_
            exact hend ((congrArg nI (by simp only [tg_in]; rw [if_neg (nfalse hfr), if_neg (nfalse hkn), if_neg (nfalse hpo), if_neg (by omega), if_neg (show ¬ tg_pl6 (tg_rd f n) bits F G u = true by first | (simp [tg_pl6, h155]; done) | (simp [tg_pl6, h162]; done) | (simp [tg_pl6, h187]; done) | (simp [tg_pl6, h187, h215]; done) | (simp [tg_pl6, h187, h215, h240]; done))]))) dX12_lackOfInside_259
          refine lv_aload_n hx hb dX12_lackOfInside_218 rfl (lv_at hl 1 rfl) ?_
          refine lv_aload_n hx hb dX12_lackOfInside_219 rfl (lv_at hl 1 rfl) ?_
          refine va_get (ci := 9) (C := RX12) (T := TX12) (N := 28) hx hb ht iFX12 hown hK hP km hm0 rfl 4 (by decide) (ht _ kw4_114) (fun _ h9 => h9) hf_in dX12_lackOfInside_220 ?_
          refine nv_bipush (k := 8) hx hb dX12_lackOfInside_223 (by decide) ?_
          refine ro_S S (c_X12_eight hR (i := 8) (by omega)) kw5_69 yv_X12_eight ⟨Nat.le_of_ble_eq_true rfl, Nat.le_of_ble_eq_true rfl⟩ hK hP rfl hl.1 rfl (Nat.le_of_ble_eq_true rfl) dX12_lackOfInside_225 ⟨Nat.zero_le _, Nat.zero_le _⟩ ?_
          have hq225 := tg_ei_lt f n 8
          refine lv_aload_n hx hb dX12_lackOfInside_228 rfl (lv_at hl 1 rfl) ?_
          refine va_get (ci := 9) (C := RX12) (T := TX12) (N := 28) hx hb ht iFX12 hown hK hP km hm0 rfl 4 (by decide) (ht _ kw4_114) (fun _ h9 => h9) hf_in dX12_lackOfInside_229 ?_
          refine nv_bipush (k := 16) hx hb dX12_lackOfInside_232 (by decide) ?_
          refine ro_S S (c_X12_eight hR (i := 16) (by omega)) kw5_69 yv_X12_eight ⟨Nat.le_of_ble_eq_true rfl, Nat.le_of_ble_eq_true rfl⟩ hK hP rfl hl.1 rfl (Nat.le_of_ble_eq_true rfl) dX12_lackOfInside_234 ⟨Nat.zero_le _, Nat.zero_le _⟩ ?_
          have hq234 := tg_ei_lt f n 16
          refine ro_V S (c_X12_isOfPrefix hm0 hf_bits hf_prefixHigh hf_prefixLow hsi (hi := tg_ei (tg_rd f n) 8) (lo := tg_ei (tg_rd f n) 16) (by omega) (by omega)) kw4_233 yv_X12_isOfPrefix ⟨Nat.le_of_ble_eq_true rfl, Nat.le_of_ble_eq_true rfl⟩ hK hP (va_recv hK hP (ci := 9) (q0 := km) rfl hm0) rfl hl.1 rfl (Nat.le_of_ble_eq_true rfl) dX12_lackOfInside_237 ⟨Nat.zero_le _, Nat.zero_le _⟩ ?_
          refine nv_if_neb (tgt := 247) hx hb dX12_lackOfInside_240 (by decide) (fun h240 => ?_) (fun h240 => ?_)
          · skip
            refine nv_iconst (k := 0) hx hb dX12_lackOfInside_247 rfl ?_
            refine lv_istore_n (lv' := [(2, .int (nI 0)), (1, .int (nI (tg_rd f n 6))), (0, .ref mo)]) hx hb dX12_lackOfInside_248 rfl hl (by decide) rfl (fun ls hl => ?_)
            refine lv_iload_n hx hb dX12_lackOfInside_249 rfl (lv_at hl 0 rfl) ?_
            refine nv_if_eq (tgt := 257) hx hb dX12_lackOfInside_250 (by decide) (by omega) (fun _ => ?_) (fun h => absurd h (by decide))
            refine nv_bipush (k := 14) hx hb dX12_lackOfInside_257 (by decide) ?_
            exact hend ((congrArg nI (by simp only [tg_in]; rw [if_neg (nfalse hfr), if_neg (nfalse hkn), if_neg (nfalse hpo), if_neg (by omega), if_neg (show ¬ tg_pl6 (tg_rd f n) bits F G u = true by first | (simp [tg_pl6, h155]; done) | (simp [tg_pl6, h162]; done) | (simp [tg_pl6, h187]; done) | (simp [tg_pl6, h187, h215]; done) | (simp [tg_pl6, h187, h215, h240]; done))]))) dX12_lackOfInside_259
          refine nv_iconst (k := 1) hx hb dX12_lackOfInside_243 rfl ?_
          refine lv_goto (tgt := 248) hx hb dX12_lackOfInside_244 (by decide) ?_
          refine lv_istore_n (lv' := [(2, .int (nI 1)), (1, .int (nI (tg_rd f n 6))), (0, .ref mo)]) hx hb dX12_lackOfInside_248 rfl hl (by decide) rfl (fun ls hl => ?_)
          refine lv_iload_n hx hb dX12_lackOfInside_249 rfl (lv_at hl 0 rfl) ?_
          refine nv_if_eq (tgt := 257) hx hb dX12_lackOfInside_250 (by decide) (by omega) (fun h => absurd h (by decide)) (fun _ => ?_)
          refine nv_iconst (k := 0) hx hb dX12_lackOfInside_253 rfl ?_
          refine lv_goto (tgt := 259) hx hb dX12_lackOfInside_254 (by decide) ?_
          exact hend ((congrArg nI (by simp only [tg_in]; rw [if_neg (nfalse hfr), if_neg (nfalse hkn), if_neg (nfalse hpo), if_neg (by omega), if_pos (show tg_pl6 (tg_rd f n) bits F G u = true by simp [tg_pl6, h187, h215, h240]; omega)]))) dX12_lackOfInside_259
        refine nv_bipush (k := 13) hx hb dX12_lackOfInside_148 (by decide) ?_
        exact hend ((congrArg nI (by simp only [tg_in]; rw [if_neg (nfalse hfr), if_neg (nfalse hkn), if_neg (nfalse hpo), if_pos (by omega)]))) dX12_lackOfInside_150
      refine nv_bipush (k := 12) hx hb dX12_lackOfInside_132 (by decide) ?_
      exact hend ((congrArg nI (by simp only [tg_in]; rw [if_neg (nfalse hfr), if_neg (nfalse hkn), if_pos (show tg_partOk (tg_rd f n) n 40 = false from h129)]))) dX12_lackOfInside_134
    have J73 : (tg_rd f n 6 = 6 ∨ tg_rd f n 6 = 17 ∨ tg_rd f n 6 = 58) → ∀ ls : Array Slot, lv_has ls 3 [(1, .int (nI (tg_rd f n 6))), (0, .ref mo)] → W p l e (rmo 5 119) s m args below meth c s.heap [] 0 0 Q (F0 m 73 ls []) := by
      intro hq3 ls hl
      refine lv_aload_n hx hb dX12_lackOfInside_73 rfl (lv_at hl 1 rfl) ?_
      refine nv_bipush (k := 40) hx hb dX12_lackOfInside_74 (by decide) ?_
      refine lv_iload_n hx hb dX12_lackOfInside_76 rfl (lv_at hl 0 rfl) ?_
      refine ro_V S (c_X12_isBadPart hm0 hf_in hf_size hR (hd := 40) (q := tg_rd f n 6) (by omega) (by omega)) kw5_47 yv_X12_isBadPart ⟨Nat.le_of_ble_eq_true rfl, Nat.le_of_ble_eq_true rfl⟩ hK hP (va_recv hK hP (ci := 9) (q0 := km) rfl hm0) rfl hl.1 rfl (Nat.le_of_ble_eq_true rfl) dX12_lackOfInside_77 ⟨Nat.zero_le _, Nat.zero_le _⟩ ?_
      refine nv_if_neb (tgt := 119) hx hb dX12_lackOfInside_80 (by decide) (fun h80 => ?_) (fun h80 => ?_)
      · skip
        refine nv_bipush (k := 11) hx hb dX12_lackOfInside_119 (by decide) ?_
        exact hend ((congrArg nI (by simp only [tg_in]; rw [if_neg (nfalse hfr), if_pos (kn6_f (by first | exact Or.inl ⟨by omega, by omega, by omega⟩ | exact Or.inr (Or.inl (by assumption)) | exact Or.inr (Or.inr ⟨by omega, by omega, by omega⟩)))]))) dX12_lackOfInside_121
      have hsz0 := bad_sz (by omega) h80
      refine lv_iload_n hx hb dX12_lackOfInside_83 rfl (lv_at hl 0 rfl) ?_
      refine nv_bipush (k := 58) hx hb dX12_lackOfInside_84 (by decide) ?_
      refine nv_icmp_ne (tgt := 122) hx hb dX12_lackOfInside_86 (by decide) (by omega) (by omega) (fun h86 => ?_) (fun h86 => ?_)
      · skip
        exact J122 (by exact kn6_t hq3 h80 (fun q => by omega)) (by exact hq3) (by exact h80) ls (lv_sub hl [0, 1] rfl)
      refine lv_aload_n hx hb dX12_lackOfInside_89 rfl (lv_at hl 1 rfl) ?_
      refine va_get (ci := 9) (C := RX12) (T := TX12) (N := 28) hx hb ht iFX12 hown hK hP km hm0 rfl 4 (by decide) (ht _ kw4_114) (fun _ h9 => h9) hf_in dX12_lackOfInside_90 ?_
      refine nv_bipush (k := 40) hx hb dX12_lackOfInside_93 (by decide) ?_
      refine ro_S S (c_X12_at hR (i := 40) (by omega)) kw5_41 yv_X12_at ⟨Nat.le_of_ble_eq_true rfl, Nat.le_of_ble_eq_true rfl⟩ hK hP rfl hl.1 rfl (Nat.le_of_ble_eq_true rfl) dX12_lackOfInside_95 ⟨Nat.zero_le _, Nat.zero_le _⟩ ?_
      have hq95 := tg_rd_lt f n 40
      refine nv_sipush (k := 128) hx hb dX12_lackOfInside_98 (by decide) ?_
      refine nv_icmp_eq (tgt := 122) hx hb dX12_lackOfInside_101 (by decide) (by omega) (by omega) (fun h101 => ?_) (fun h101 => ?_)
      · skip
        exact J122 (by exact kn6_t hq3 h80 (fun q => by omega)) (by exact hq3) (by exact h80) ls (lv_sub hl [0, 1] rfl)
      refine lv_aload_n hx hb dX12_lackOfInside_104 rfl (lv_at hl 1 rfl) ?_
      refine va_get (ci := 9) (C := RX12) (T := TX12) (N := 28) hx hb ht iFX12 hown hK hP km hm0 rfl 4 (by decide) (ht _ kw4_114) (fun _ h9 => h9) hf_in dX12_lackOfInside_105 ?_
      refine nv_bipush (k := 40) hx hb dX12_lackOfInside_108 (by decide) ?_
      refine ro_S S (c_X12_at hR (i := 40) (by omega)) kw5_41 yv_X12_at ⟨Nat.le_of_ble_eq_true rfl, Nat.le_of_ble_eq_true rfl⟩ hK hP rfl hl.1 rfl (Nat.le_of_ble_eq_true rfl) dX12_lackOfInside_110 ⟨Nat.zero_le _, Nat.zero_le _⟩ ?_
      have hq110 := tg_rd_lt f n 40
      refine nv_sipush (k := 129) hx hb dX12_lackOfInside_113 (by decide) ?_
      refine nv_icmp_eq (tgt := 122) hx hb dX12_lackOfInside_116 (by decide) (by omega) (by omega) (fun h116 => ?_) (fun h116 => ?_)
      · skip
        exact J122 (by exact kn6_t hq3 h80 (fun q => by omega)) (by exact hq3) (by exact h80) ls (lv_sub hl [0, 1] rfl)
      refine nv_bipush (k := 11) hx hb dX12_lackOfInside_119 (by decide) ?_
      exact hend ((congrArg nI (by simp only [tg_in]; rw [if_neg (nfalse hfr), if_pos (kn6_f (by first | exact Or.inl ⟨by omega, by omega, by omega⟩ | exact Or.inr (Or.inl (by assumption)) | exact Or.inr (Or.inr ⟨by omega, by omega, by omega⟩)))]))) dX12_lackOfInside_121
    refine lv_iload_n hx hb dX12_lackOfInside_55 rfl (lv_at hl 0 rfl) ?_
    refine nv_bipush (k := 6) hx hb dX12_lackOfInside_56 (by decide) ?_
    refine nv_icmp_eq (tgt := 73) hx hb dX12_lackOfInside_58 (by decide) (by omega) (by omega) (fun h58 => ?_) (fun h58 => ?_)
    · skip
      exact J73 (by omega) ls (lv_sub hl [0, 1] rfl)
    refine lv_iload_n hx hb dX12_lackOfInside_61 rfl (lv_at hl 0 rfl) ?_
    refine nv_bipush (k := 17) hx hb dX12_lackOfInside_62 (by decide) ?_
    refine nv_icmp_eq (tgt := 73) hx hb dX12_lackOfInside_64 (by decide) (by omega) (by omega) (fun h64 => ?_) (fun h64 => ?_)
    · skip
      exact J73 (by omega) ls (lv_sub hl [0, 1] rfl)
    refine lv_iload_n hx hb dX12_lackOfInside_67 rfl (lv_at hl 0 rfl) ?_
    refine nv_bipush (k := 58) hx hb dX12_lackOfInside_68 (by decide) ?_
    refine nv_icmp_ne (tgt := 119) hx hb dX12_lackOfInside_70 (by decide) (by omega) (by omega) (fun h70 => ?_) (fun h70 => ?_)
    · skip
      refine nv_bipush (k := 11) hx hb dX12_lackOfInside_119 (by decide) ?_
      exact hend ((congrArg nI (by simp only [tg_in]; rw [if_neg (nfalse hfr), if_pos (kn6_f (by first | exact Or.inl ⟨by omega, by omega, by omega⟩ | exact Or.inr (Or.inl (by assumption)) | exact Or.inr (Or.inr ⟨by omega, by omega, by omega⟩)))]))) dX12_lackOfInside_121
    exact J73 (by omega) ls (lv_sub hl [0, 1] rfl)
  refine nv_bipush (k := 10) hx hb dX12_lackOfInside_42 (by decide) ?_
  exact hend ((congrArg nI (by simp only [tg_in]; rw [if_pos (show tg_fr6 (tg_rd f n) n = false from decide_eq_false (by omega))]))) dX12_lackOfInside_44
theorem dX12_lackOfOutside_0 : decode cX12_lackOfOutside 0 = .ok (.aload_n 0, 1) := by decide +kernel
theorem dX12_lackOfOutside_1 : decode cX12_lackOfOutside 1 = .ok (.getfield 121, 3) := by decide +kernel
theorem dX12_lackOfOutside_4 : decode cX12_lackOfOutside 4 = .ok (.bipush 20, 2) := by decide +kernel
theorem dX12_lackOfOutside_6 : decode cX12_lackOfOutside 6 = .ok (.if_icmp .lt 31, 3) := by decide +kernel
theorem dX12_lackOfOutside_9 : decode cX12_lackOfOutside 9 = .ok (.aload_n 0, 1) := by decide +kernel
theorem dX12_lackOfOutside_10 : decode cX12_lackOfOutside 10 = .ok (.getfield 16, 3) := by decide +kernel
theorem dX12_lackOfOutside_13 : decode cX12_lackOfOutside 13 = .ok (.iconst 0, 1) := by decide +kernel
theorem dX12_lackOfOutside_14 : decode cX12_lackOfOutside 14 = .ok (.invokestatic 124, 3) := by decide +kernel
theorem dX12_lackOfOutside_17 : decode cX12_lackOfOutside 17 = .ok (.bipush 69, 2) := by decide +kernel
theorem dX12_lackOfOutside_19 : decode cX12_lackOfOutside 19 = .ok (.if_icmp .ne 18, 3) := by decide +kernel
theorem dX12_lackOfOutside_22 : decode cX12_lackOfOutside 22 = .ok (.aload_n 0, 1) := by decide +kernel
theorem dX12_lackOfOutside_23 : decode cX12_lackOfOutside 23 = .ok (.getfield 16, 3) := by decide +kernel
theorem dX12_lackOfOutside_26 : decode cX12_lackOfOutside 26 = .ok (.iconst 2, 1) := by decide +kernel
theorem dX12_lackOfOutside_27 : decode cX12_lackOfOutside 27 = .ok (.invokestatic 128, 3) := by decide +kernel
theorem dX12_lackOfOutside_30 : decode cX12_lackOfOutside 30 = .ok (.aload_n 0, 1) := by decide +kernel
theorem dX12_lackOfOutside_31 : decode cX12_lackOfOutside 31 = .ok (.getfield 121, 3) := by decide +kernel
theorem dX12_lackOfOutside_34 : decode cX12_lackOfOutside 34 = .ok (.if_icmp .eq 6, 3) := by decide +kernel
theorem dX12_lackOfOutside_37 : decode cX12_lackOfOutside 37 = .ok (.bipush 10, 2) := by decide +kernel
theorem dX12_lackOfOutside_39 : decode cX12_lackOfOutside 39 = .ok (.ireturn, 1) := by decide +kernel
theorem dX12_lackOfOutside_40 : decode cX12_lackOfOutside 40 = .ok (.aload_n 0, 1) := by decide +kernel
theorem dX12_lackOfOutside_41 : decode cX12_lackOfOutside 41 = .ok (.getfield 16, 3) := by decide +kernel
theorem dX12_lackOfOutside_44 : decode cX12_lackOfOutside 44 = .ok (.bipush 10, 2) := by decide +kernel
theorem dX12_lackOfOutside_46 : decode cX12_lackOfOutside 46 = .ok (.invokestatic 128, 3) := by decide +kernel
theorem dX12_lackOfOutside_49 : decode cX12_lackOfOutside 49 = .ok (.aload_n 0, 1) := by decide +kernel
theorem dX12_lackOfOutside_50 : decode cX12_lackOfOutside 50 = .ok (.getfield 16, 3) := by decide +kernel
theorem dX12_lackOfOutside_53 : decode cX12_lackOfOutside 53 = .ok (.invokestatic 245, 3) := by decide +kernel
theorem dX12_lackOfOutside_56 : decode cX12_lackOfOutside 56 = .ok (.if_icmp .eq 6, 3) := by decide +kernel
theorem dX12_lackOfOutside_59 : decode cX12_lackOfOutside 59 = .ok (.bipush 12, 2) := by decide +kernel
theorem dX12_lackOfOutside_61 : decode cX12_lackOfOutside 61 = .ok (.ireturn, 1) := by decide +kernel
theorem dX12_lackOfOutside_62 : decode cX12_lackOfOutside 62 = .ok (.aload_n 0, 1) := by decide +kernel
theorem dX12_lackOfOutside_63 : decode cX12_lackOfOutside 63 = .ok (.getfield 16, 3) := by decide +kernel
theorem dX12_lackOfOutside_66 : decode cX12_lackOfOutside 66 = .ok (.bipush 9, 2) := by decide +kernel
theorem dX12_lackOfOutside_68 : decode cX12_lackOfOutside 68 = .ok (.invokestatic 124, 3) := by decide +kernel
theorem dX12_lackOfOutside_71 : decode cX12_lackOfOutside 71 = .ok (.istore_n 1, 1) := by decide +kernel
theorem dX12_lackOfOutside_72 : decode cX12_lackOfOutside 72 = .ok (.aload_n 0, 1) := by decide +kernel
theorem dX12_lackOfOutside_73 : decode cX12_lackOfOutside 73 = .ok (.getfield 16, 3) := by decide +kernel
theorem dX12_lackOfOutside_76 : decode cX12_lackOfOutside 76 = .ok (.bipush 6, 2) := by decide +kernel
theorem dX12_lackOfOutside_78 : decode cX12_lackOfOutside 78 = .ok (.invokestatic 128, 3) := by decide +kernel
theorem dX12_lackOfOutside_81 : decode cX12_lackOfOutside 81 = .ok (.sipush 16383, 3) := by decide +kernel
theorem dX12_lackOfOutside_84 : decode cX12_lackOfOutside 84 = .ok (.iand, 1) := by decide +kernel
theorem dX12_lackOfOutside_85 : decode cX12_lackOfOutside 85 = .ok (.ifCond .ne 30, 3) := by decide +kernel
theorem dX12_lackOfOutside_88 : decode cX12_lackOfOutside 88 = .ok (.iload_n 1, 1) := by decide +kernel
theorem dX12_lackOfOutside_89 : decode cX12_lackOfOutside 89 = .ok (.iconst 1, 1) := by decide +kernel
theorem dX12_lackOfOutside_90 : decode cX12_lackOfOutside 90 = .ok (.if_icmp .eq 15, 3) := by decide +kernel
theorem dX12_lackOfOutside_93 : decode cX12_lackOfOutside 93 = .ok (.iload_n 1, 1) := by decide +kernel
theorem dX12_lackOfOutside_94 : decode cX12_lackOfOutside 94 = .ok (.bipush 6, 2) := by decide +kernel
theorem dX12_lackOfOutside_96 : decode cX12_lackOfOutside 96 = .ok (.if_icmp .eq 9, 3) := by decide +kernel
theorem dX12_lackOfOutside_99 : decode cX12_lackOfOutside 99 = .ok (.iload_n 1, 1) := by decide +kernel
theorem dX12_lackOfOutside_100 : decode cX12_lackOfOutside 100 = .ok (.bipush 17, 2) := by decide +kernel
theorem dX12_lackOfOutside_102 : decode cX12_lackOfOutside 102 = .ok (.if_icmp .ne 13, 3) := by decide +kernel
theorem dX12_lackOfOutside_105 : decode cX12_lackOfOutside 105 = .ok (.aload_n 0, 1) := by decide +kernel
theorem dX12_lackOfOutside_106 : decode cX12_lackOfOutside 106 = .ok (.bipush 20, 2) := by decide +kernel
theorem dX12_lackOfOutside_108 : decode cX12_lackOfOutside 108 = .ok (.iload_n 1, 1) := by decide +kernel
theorem dX12_lackOfOutside_109 : decode cX12_lackOfOutside 109 = .ok (.invokevirtual 186, 3) := by decide +kernel
theorem dX12_lackOfOutside_112 : decode cX12_lackOfOutside 112 = .ok (.ifCond .eq 6, 3) := by decide +kernel
theorem dX12_lackOfOutside_115 : decode cX12_lackOfOutside 115 = .ok (.bipush 11, 2) := by decide +kernel
theorem dX12_lackOfOutside_117 : decode cX12_lackOfOutside 117 = .ok (.ireturn, 1) := by decide +kernel
theorem dX12_lackOfOutside_118 : decode cX12_lackOfOutside 118 = .ok (.aload_n 0, 1) := by decide +kernel
theorem dX12_lackOfOutside_119 : decode cX12_lackOfOutside 119 = .ok (.getfield 16, 3) := by decide +kernel
theorem dX12_lackOfOutside_122 : decode cX12_lackOfOutside 122 = .ok (.bipush 20, 2) := by decide +kernel
theorem dX12_lackOfOutside_124 : decode cX12_lackOfOutside 124 = .ok (.invokestatic 124, 3) := by decide +kernel
theorem dX12_lackOfOutside_127 : decode cX12_lackOfOutside 127 = .ok (.istore_n 2, 1) := by decide +kernel
theorem dX12_lackOfOutside_128 : decode cX12_lackOfOutside 128 = .ok (.iload_n 1, 1) := by decide +kernel
theorem dX12_lackOfOutside_129 : decode cX12_lackOfOutside 129 = .ok (.iconst 1, 1) := by decide +kernel
theorem dX12_lackOfOutside_130 : decode cX12_lackOfOutside 130 = .ok (.if_icmp .ne 20, 3) := by decide +kernel
theorem dX12_lackOfOutside_133 : decode cX12_lackOfOutside 133 = .ok (.iload_n 2, 1) := by decide +kernel
theorem dX12_lackOfOutside_134 : decode cX12_lackOfOutside 134 = .ok (.ifCond .eq 16, 3) := by decide +kernel
theorem dX12_lackOfOutside_137 : decode cX12_lackOfOutside 137 = .ok (.iload_n 2, 1) := by decide +kernel
theorem dX12_lackOfOutside_138 : decode cX12_lackOfOutside 138 = .ok (.bipush 8, 2) := by decide +kernel
theorem dX12_lackOfOutside_140 : decode cX12_lackOfOutside 140 = .ok (.if_icmp .eq 10, 3) := by decide +kernel
theorem dX12_lackOfOutside_143 : decode cX12_lackOfOutside 143 = .ok (.aload_n 0, 1) := by decide +kernel
theorem dX12_lackOfOutside_144 : decode cX12_lackOfOutside 144 = .ok (.invokevirtual 251, 3) := by decide +kernel
theorem dX12_lackOfOutside_147 : decode cX12_lackOfOutside 147 = .ok (.ifCond .eq 17, 3) := by decide +kernel
theorem dX12_lackOfOutside_150 : decode cX12_lackOfOutside 150 = .ok (.aload_n 0, 1) := by decide +kernel
theorem dX12_lackOfOutside_151 : decode cX12_lackOfOutside 151 = .ok (.invokevirtual 251, 3) := by decide +kernel
theorem dX12_lackOfOutside_154 : decode cX12_lackOfOutside 154 = .ok (.ifCond .eq 13, 3) := by decide +kernel
theorem dX12_lackOfOutside_157 : decode cX12_lackOfOutside 157 = .ok (.aload_n 0, 1) := by decide +kernel
theorem dX12_lackOfOutside_158 : decode cX12_lackOfOutside 158 = .ok (.invokevirtual 255, 3) := by decide +kernel
theorem dX12_lackOfOutside_161 : decode cX12_lackOfOutside 161 = .ok (.ifCond .eq 6, 3) := by decide +kernel
theorem dX12_lackOfOutside_164 : decode cX12_lackOfOutside 164 = .ok (.bipush 11, 2) := by decide +kernel
theorem dX12_lackOfOutside_166 : decode cX12_lackOfOutside 166 = .ok (.ireturn, 1) := by decide +kernel
theorem dX12_lackOfOutside_167 : decode cX12_lackOfOutside 167 = .ok (.aload_n 0, 1) := by decide +kernel
theorem dX12_lackOfOutside_168 : decode cX12_lackOfOutside 168 = .ok (.bipush 20, 2) := by decide +kernel
theorem dX12_lackOfOutside_170 : decode cX12_lackOfOutside 170 = .ok (.iload_n 1, 1) := by decide +kernel
theorem dX12_lackOfOutside_171 : decode cX12_lackOfOutside 171 = .ok (.invokevirtual 190, 3) := by decide +kernel
theorem dX12_lackOfOutside_174 : decode cX12_lackOfOutside 174 = .ok (.ifCond .ne 6, 3) := by decide +kernel
theorem dX12_lackOfOutside_177 : decode cX12_lackOfOutside 177 = .ok (.bipush 12, 2) := by decide +kernel
theorem dX12_lackOfOutside_179 : decode cX12_lackOfOutside 179 = .ok (.ireturn, 1) := by decide +kernel
theorem dX12_lackOfOutside_180 : decode cX12_lackOfOutside 180 = .ok (.aload_n 0, 1) := by decide +kernel
theorem dX12_lackOfOutside_181 : decode cX12_lackOfOutside 181 = .ok (.getfield 16, 3) := by decide +kernel
theorem dX12_lackOfOutside_184 : decode cX12_lackOfOutside 184 = .ok (.bipush 8, 2) := by decide +kernel
theorem dX12_lackOfOutside_186 : decode cX12_lackOfOutside 186 = .ok (.invokestatic 124, 3) := by decide +kernel
theorem dX12_lackOfOutside_189 : decode cX12_lackOfOutside 189 = .ok (.iconst 2, 1) := by decide +kernel
theorem dX12_lackOfOutside_190 : decode cX12_lackOfOutside 190 = .ok (.if_icmp .ge 6, 3) := by decide +kernel
theorem dX12_lackOfOutside_193 : decode cX12_lackOfOutside 193 = .ok (.bipush 13, 2) := by decide +kernel
theorem dX12_lackOfOutside_195 : decode cX12_lackOfOutside 195 = .ok (.ireturn, 1) := by decide +kernel
theorem dX12_lackOfOutside_196 : decode cX12_lackOfOutside 196 = .ok (.aload_n 0, 1) := by decide +kernel
theorem dX12_lackOfOutside_197 : decode cX12_lackOfOutside 197 = .ok (.getfield 64, 3) := by decide +kernel
theorem dX12_lackOfOutside_200 : decode cX12_lackOfOutside 200 = .ok (.ifCond .eq 34, 3) := by decide +kernel
theorem dX12_lackOfOutside_203 : decode cX12_lackOfOutside 203 = .ok (.aload_n 0, 1) := by decide +kernel
theorem dX12_lackOfOutside_204 : decode cX12_lackOfOutside 204 = .ok (.aload_n 0, 1) := by decide +kernel
theorem dX12_lackOfOutside_205 : decode cX12_lackOfOutside 205 = .ok (.getfield 16, 3) := by decide +kernel
theorem dX12_lackOfOutside_208 : decode cX12_lackOfOutside 208 = .ok (.bipush 16, 2) := by decide +kernel
theorem dX12_lackOfOutside_210 : decode cX12_lackOfOutside 210 = .ok (.invokestatic 131, 3) := by decide +kernel
theorem dX12_lackOfOutside_213 : decode cX12_lackOfOutside 213 = .ok (.invokevirtual 93, 3) := by decide +kernel
theorem dX12_lackOfOutside_216 : decode cX12_lackOfOutside 216 = .ok (.ifCond .lt 18, 3) := by decide +kernel
theorem dX12_lackOfOutside_219 : decode cX12_lackOfOutside 219 = .ok (.aload_n 0, 1) := by decide +kernel
theorem dX12_lackOfOutside_220 : decode cX12_lackOfOutside 220 = .ok (.getfield 16, 3) := by decide +kernel
theorem dX12_lackOfOutside_223 : decode cX12_lackOfOutside 223 = .ok (.bipush 12, 2) := by decide +kernel
theorem dX12_lackOfOutside_225 : decode cX12_lackOfOutside 225 = .ok (.invokestatic 131, 3) := by decide +kernel
theorem dX12_lackOfOutside_228 : decode cX12_lackOfOutside 228 = .ok (.invokestatic 89, 3) := by decide +kernel
theorem dX12_lackOfOutside_231 : decode cX12_lackOfOutside 231 = .ok (.ifCond .eq 6, 3) := by decide +kernel
theorem dX12_lackOfOutside_234 : decode cX12_lackOfOutside 234 = .ok (.bipush 14, 2) := by decide +kernel
theorem dX12_lackOfOutside_236 : decode cX12_lackOfOutside 236 = .ok (.ireturn, 1) := by decide +kernel
theorem dX12_lackOfOutside_237 : decode cX12_lackOfOutside 237 = .ok (.aload_n 0, 1) := by decide +kernel
theorem dX12_lackOfOutside_238 : decode cX12_lackOfOutside 238 = .ok (.invokevirtual 251, 3) := by decide +kernel
theorem dX12_lackOfOutside_241 : decode cX12_lackOfOutside 241 = .ok (.ifCond .eq 39, 3) := by decide +kernel
theorem dX12_lackOfOutside_244 : decode cX12_lackOfOutside 244 = .ok (.aload_n 0, 1) := by decide +kernel
theorem dX12_lackOfOutside_245 : decode cX12_lackOfOutside 245 = .ok (.aload_n 0, 1) := by decide +kernel
theorem dX12_lackOfOutside_246 : decode cX12_lackOfOutside 246 = .ok (.getfield 16, 3) := by decide +kernel
theorem dX12_lackOfOutside_249 : decode cX12_lackOfOutside 249 = .ok (.bipush 40, 2) := by decide +kernel
theorem dX12_lackOfOutside_251 : decode cX12_lackOfOutside 251 = .ok (.invokestatic 131, 3) := by decide +kernel
theorem dX12_lackOfOutside_254 : decode cX12_lackOfOutside 254 = .ok (.invokevirtual 93, 3) := by decide +kernel
theorem dX12_lackOfOutside_257 : decode cX12_lackOfOutside 257 = .ok (.ifCond .lt 18, 3) := by decide +kernel
theorem dX12_lackOfOutside_260 : decode cX12_lackOfOutside 260 = .ok (.aload_n 0, 1) := by decide +kernel
theorem dX12_lackOfOutside_261 : decode cX12_lackOfOutside 261 = .ok (.getfield 16, 3) := by decide +kernel
theorem dX12_lackOfOutside_264 : decode cX12_lackOfOutside 264 = .ok (.bipush 44, 2) := by decide +kernel
theorem dX12_lackOfOutside_266 : decode cX12_lackOfOutside 266 = .ok (.invokestatic 131, 3) := by decide +kernel
theorem dX12_lackOfOutside_269 : decode cX12_lackOfOutside 269 = .ok (.invokestatic 89, 3) := by decide +kernel
theorem dX12_lackOfOutside_272 : decode cX12_lackOfOutside 272 = .ok (.ifCond .eq 8, 3) := by decide +kernel
theorem dX12_lackOfOutside_275 : decode cX12_lackOfOutside 275 = .ok (.bipush 14, 2) := by decide +kernel
theorem dX12_lackOfOutside_277 : decode cX12_lackOfOutside 277 = .ok (.goto 4, 3) := by decide +kernel
theorem dX12_lackOfOutside_280 : decode cX12_lackOfOutside 280 = .ok (.iconst 0, 1) := by decide +kernel
theorem dX12_lackOfOutside_281 : decode cX12_lackOfOutside 281 = .ok (.ireturn, 1) := by decide +kernel
theorem yv_X12_lackOfOutside : YV RX12 yX12_lackOfOutside cX12_lackOfOutside 3 (some .int) 0 := ⟨kw5_137, kws_41, kw1_10, kw5_138, by decide +kernel⟩
set_option maxHeartbeats 4000000 in
set_option maxRecDepth 100000 in
theorem c_X12_lackOfOutside {l : Launch} {D : va_G} {cy : Nat → ClassId} {ws : va_W} {n : Nat} {f : Nat → UInt8} {km mo : Nat} {fs : List Value} (hm0 : ws[km]? = some (mo, .inr (9, fs))) {ai : Nat}  {bits : Nat} {u : Nat} {pa : Nat} (hf_in : fs[4]? = some (.ref ai)) (hf_size : fs[5]? = some (.int (nI n))) (hf_bits : fs[6]? = some (.int (nI bits))) (hf_pools : fs[9]? = some (.int (nI u))) (hf_pool : fs[10]? = some (.ref pa)) (hR : AR cy ws ai f n) {kq : Nat} {g : Nat → Int32} (hq0 : ws[kq]? = some (pa, .inl (cy 1, 4, .inl g))) (hu : u ≤ 4) (hb0 : bits ≤ 96) : RO l yX12_lackOfOutside cX12_lackOfOutside 3 (some .int) 5 119 [.ref mo] D cy ws (.int (nI (tg_out (tg_rd f n) n bits g u))) := by
  refine ROi (by decide) (lv0 := [(0, .ref mo)]) rfl (Nat.le_of_ble_eq_true rfl) ?_
  intro p e s m args below meth c ls Q S hP hK hend hl
  have hx := S.1
  have hb := S.2.1
  have hown : s.vm.findClass RX12 = some m.cls := S.2.2.2.1
  have ht : ∀ w ∈ lw_g, w.before args s = true := fun w h => S.2.2.2.2 w (List.mem_cons_of_mem _ h)
  obtain ⟨kr, N, hr0, hnN, hN⟩ := id hR
  refine lv_aload_n hx hb dX12_lackOfOutside_0 rfl (lv_at hl 0 rfl) ?_
  refine va_get (ci := 9) (C := RX12) (T := TX12) (N := 28) hx hb ht iFX12 hown hK hP km hm0 rfl 5 (by decide) (ht _ kw4_115) (fun _ h9 => h9) hf_size dX12_lackOfOutside_1 ?_
  refine nv_bipush (k := 20) hx hb dX12_lackOfOutside_4 (by decide) ?_
  refine nv_icmp_lt (tgt := 37) hx hb dX12_lackOfOutside_6 (by decide) (by omega) (by omega) (fun h6 => ?_) (fun h6 => ?_)
  · skip
    refine nv_bipush (k := 10) hx hb dX12_lackOfOutside_37 (by decide) ?_
    exact hend ((congrArg nI (by simp only [tg_out]; rw [if_pos (show tg_fr4 (tg_rd f n) n = false from decide_eq_false (by omega))]))) dX12_lackOfOutside_39
  refine lv_aload_n hx hb dX12_lackOfOutside_9 rfl (lv_at hl 0 rfl) ?_
  refine va_get (ci := 9) (C := RX12) (T := TX12) (N := 28) hx hb ht iFX12 hown hK hP km hm0 rfl 4 (by decide) (ht _ kw4_114) (fun _ h9 => h9) hf_in dX12_lackOfOutside_10 ?_
  refine nv_iconst (k := 0) hx hb dX12_lackOfOutside_13 rfl ?_
  refine ro_S S (c_X12_at hR (i := 0) (by omega)) kw5_41 yv_X12_at ⟨Nat.le_of_ble_eq_true rfl, Nat.le_of_ble_eq_true rfl⟩ hK hP rfl hl.1 rfl (Nat.le_of_ble_eq_true rfl) dX12_lackOfOutside_14 ⟨Nat.zero_le _, Nat.zero_le _⟩ ?_
  have hq14 := tg_rd_lt f n 0
  refine nv_bipush (k := 69) hx hb dX12_lackOfOutside_17 (by decide) ?_
  refine nv_icmp_ne (tgt := 37) hx hb dX12_lackOfOutside_19 (by decide) (by omega) (by omega) (fun h19 => ?_) (fun h19 => ?_)
  · skip
    refine nv_bipush (k := 10) hx hb dX12_lackOfOutside_37 (by decide) ?_
    exact hend ((congrArg nI (by simp only [tg_out]; rw [if_pos (show tg_fr4 (tg_rd f n) n = false from decide_eq_false (by omega))]))) dX12_lackOfOutside_39
  refine lv_aload_n hx hb dX12_lackOfOutside_22 rfl (lv_at hl 0 rfl) ?_
  refine va_get (ci := 9) (C := RX12) (T := TX12) (N := 28) hx hb ht iFX12 hown hK hP km hm0 rfl 4 (by decide) (ht _ kw4_114) (fun _ h9 => h9) hf_in dX12_lackOfOutside_23 ?_
  refine nv_iconst (k := 2) hx hb dX12_lackOfOutside_26 rfl ?_
  refine ro_S S (c_X12_two hR (i := 2) (by omega)) kw5_44 yv_X12_two ⟨Nat.le_of_ble_eq_true rfl, Nat.le_of_ble_eq_true rfl⟩ hK hP rfl hl.1 rfl (Nat.le_of_ble_eq_true rfl) dX12_lackOfOutside_27 ⟨Nat.zero_le _, Nat.zero_le _⟩ ?_
  have hq27 := tg_pr_lt f n 2
  refine lv_aload_n hx hb dX12_lackOfOutside_30 rfl (lv_at hl 0 rfl) ?_
  refine va_get (ci := 9) (C := RX12) (T := TX12) (N := 28) hx hb ht iFX12 hown hK hP km hm0 rfl 5 (by decide) (ht _ kw4_115) (fun _ h9 => h9) hf_size dX12_lackOfOutside_31 ?_
  refine nv_icmp_eq (tgt := 40) hx hb dX12_lackOfOutside_34 (by decide) (by omega) (by omega) (fun h34 => ?_) (fun h34 => ?_)
  · skip
    have hfr : tg_fr4 (tg_rd f n) n = true := decide_eq_true (by omega)
    refine lv_aload_n hx hb dX12_lackOfOutside_40 rfl (lv_at hl 0 rfl) ?_
    refine va_get (ci := 9) (C := RX12) (T := TX12) (N := 28) hx hb ht iFX12 hown hK hP km hm0 rfl 4 (by decide) (ht _ kw4_114) (fun _ h9 => h9) hf_in dX12_lackOfOutside_41 ?_
    refine nv_bipush (k := 10) hx hb dX12_lackOfOutside_44 (by decide) ?_
    refine ro_S S (c_X12_two hR (i := 10) (by omega)) kw5_44 yv_X12_two ⟨Nat.le_of_ble_eq_true rfl, Nat.le_of_ble_eq_true rfl⟩ hK hP rfl hl.1 rfl (Nat.le_of_ble_eq_true rfl) dX12_lackOfOutside_46 ⟨Nat.zero_le _, Nat.zero_le _⟩ ?_
    have hq46 := tg_pr_lt f n 10
    refine lv_aload_n hx hb dX12_lackOfOutside_49 rfl (lv_at hl 0 rfl) ?_
    refine va_get (ci := 9) (C := RX12) (T := TX12) (N := 28) hx hb ht iFX12 hown hK hP km hm0 rfl 4 (by decide) (ht _ kw4_114) (fun _ h9 => h9) hf_in dX12_lackOfOutside_50 ?_
    refine ro_S S (c_X12_headSum hR (by omega)) kw5_127 yv_X12_headSum ⟨Nat.le_of_ble_eq_true rfl, Nat.le_of_ble_eq_true rfl⟩ hK hP rfl hl.1 rfl (Nat.le_of_ble_eq_true rfl) dX12_lackOfOutside_53 ⟨Nat.zero_le _, Nat.zero_le _⟩ ?_
    have hq53 := tg_cl_le (tg_ws (tg_rd f n) 0 10 20)
    refine nv_icmp_eq (tgt := 62) hx hb dX12_lackOfOutside_56 (by decide) (by omega) (by omega) (fun h56 => ?_) (fun h56 => ?_)
    · skip
      have hho : tg_headOk (tg_rd f n) = true := decide_eq_true h56
      refine lv_aload_n hx hb dX12_lackOfOutside_62 rfl (lv_at hl 0 rfl) ?_
      refine va_get (ci := 9) (C := RX12) (T := TX12) (N := 28) hx hb ht iFX12 hown hK hP km hm0 rfl 4 (by decide) (ht _ kw4_114) (fun _ h9 => h9) hf_in dX12_lackOfOutside_63 ?_
      refine nv_bipush (k := 9) hx hb dX12_lackOfOutside_66 (by decide) ?_
      refine ro_S S (c_X12_at hR (i := 9) (by omega)) kw5_41 yv_X12_at ⟨Nat.le_of_ble_eq_true rfl, Nat.le_of_ble_eq_true rfl⟩ hK hP rfl hl.1 rfl (Nat.le_of_ble_eq_true rfl) dX12_lackOfOutside_68 ⟨Nat.zero_le _, Nat.zero_le _⟩ ?_
      have hq68 := tg_rd_lt f n 9
      refine lv_istore_n (lv' := [(1, .int (nI (tg_rd f n 9))), (0, .ref mo)]) hx hb dX12_lackOfOutside_71 rfl hl (by decide) rfl (fun ls hl => ?_)
      have J167 : tg_kn4 (tg_rd f n) n = true → (tg_rd f n 9 = 1 ∨ tg_rd f n 9 = 6 ∨ tg_rd f n 9 = 17) → tg_bad (tg_rd f n) n 20 (tg_rd f n 9) = false → ∀ ls : Array Slot, lv_has ls 3 [(2, .int (nI (tg_rd f n 20))), (1, .int (nI (tg_rd f n 9))), (0, .ref mo)] → W p l e (rmo 5 119) s m args below meth c s.heap [] 0 0 Q (F0 m 167 ls []) := by
        intro hkn hq3 hbd ls hl
        have hsz := bad_sz (by omega) hbd
        refine lv_aload_n hx hb dX12_lackOfOutside_167 rfl (lv_at hl 2 rfl) ?_
        refine nv_bipush (k := 20) hx hb dX12_lackOfOutside_168 (by decide) ?_
        refine lv_iload_n hx hb dX12_lackOfOutside_170 rfl (lv_at hl 1 rfl) ?_
        refine ro_V S (c_X12_isRight hm0 hf_in hf_size hR (hd := 20) (q := tg_rd f n 9) (by omega) (by omega) (by omega)) kw5_51 yv_X12_isRight ⟨Nat.le_of_ble_eq_true rfl, Nat.le_of_ble_eq_true rfl⟩ hK hP (va_recv hK hP (ci := 9) (q0 := km) rfl hm0) rfl hl.1 rfl (Nat.le_of_ble_eq_true rfl) dX12_lackOfOutside_171 ⟨Nat.zero_le _, Nat.zero_le _⟩ ?_
        refine nv_if_neb (tgt := 180) hx hb dX12_lackOfOutside_174 (by decide) (fun h174 => ?_) (fun h174 => ?_)
        · skip
          have hpo : tg_partOk (tg_rd f n) n 20 = true := h174
          refine lv_aload_n hx hb dX12_lackOfOutside_180 rfl (lv_at hl 2 rfl) ?_
          refine va_get (ci := 9) (C := RX12) (T := TX12) (N := 28) hx hb ht iFX12 hown hK hP km hm0 rfl 4 (by decide) (ht _ kw4_114) (fun _ h9 => h9) hf_in dX12_lackOfOutside_181 ?_
          refine nv_bipush (k := 8) hx hb dX12_lackOfOutside_184 (by decide) ?_
          refine ro_S S (c_X12_at hR (i := 8) (by omega)) kw5_41 yv_X12_at ⟨Nat.le_of_ble_eq_true rfl, Nat.le_of_ble_eq_true rfl⟩ hK hP rfl hl.1 rfl (Nat.le_of_ble_eq_true rfl) dX12_lackOfOutside_186 ⟨Nat.zero_le _, Nat.zero_le _⟩ ?_
          have hq186 := tg_rd_lt f n 8
          refine nv_iconst (k := 2) hx hb dX12_lackOfOutside_189 rfl ?_
          refine nv_icmp_ge (tgt := 196) hx hb dX12_lackOfOutside_190 (by decide) (by omega) (by omega) (fun h190 => ?_) (fun h190 => ?_)
          · skip
            refine lv_aload_n hx hb dX12_lackOfOutside_196 rfl (lv_at hl 2 rfl) ?_
            refine va_get (ci := 9) (C := RX12) (T := TX12) (N := 28) hx hb ht iFX12 hown hK hP km hm0 rfl 6 (by decide) (ht _ kw4_116) (fun _ h9 => h9) hf_bits dX12_lackOfOutside_197 ?_
            refine nv_if_eq (tgt := 234) hx hb dX12_lackOfOutside_200 (by decide) (by omega) (fun h200 => ?_) (fun h200 => ?_)
            · skip
              refine nv_bipush (k := 14) hx hb dX12_lackOfOutside_234 (by decide) ?_
              exact hend ((congrArg nI (by simp only [tg_out]; rw [if_neg (nfalse hfr), if_neg (nfalse hho), if_neg (nfalse hkn), if_neg (nfalse hpo), if_neg (by omega), if_neg (show ¬ tg_pl4 (tg_rd f n) bits g u = true by first | (simp [tg_pl4, h200]; done) | (have hz : tg_has g u (tg_qd (tg_rd f n) 16) = false := num_f (by omega) h216; simp [tg_pl4, hz]; done) | (simp [tg_pl4, h231]; done) | (have hz : tg_has g u (tg_qd (tg_rd f n) 40) = false := num_f (by omega) h257; simp [tg_pl4, h241, hz]; done) | (simp [tg_pl4, h241, h272]; done))]))) dX12_lackOfOutside_236
            refine lv_aload_n hx hb dX12_lackOfOutside_203 rfl (lv_at hl 2 rfl) ?_
            refine lv_aload_n hx hb dX12_lackOfOutside_204 rfl (lv_at hl 2 rfl) ?_
            refine va_get (ci := 9) (C := RX12) (T := TX12) (N := 28) hx hb ht iFX12 hown hK hP km hm0 rfl 4 (by decide) (ht _ kw4_114) (fun _ h9 => h9) hf_in dX12_lackOfOutside_205 ?_
            refine nv_bipush (k := 16) hx hb dX12_lackOfOutside_208 (by decide) ?_
            refine ro_S S (c_X12_four hR (i := 16) (by omega)) kw5_72 yv_X12_four ⟨Nat.le_of_ble_eq_true rfl, Nat.le_of_ble_eq_true rfl⟩ hK hP rfl hl.1 rfl (Nat.le_of_ble_eq_true rfl) dX12_lackOfOutside_210 ⟨Nat.zero_le _, Nat.zero_le _⟩ ?_
            have hq210 := tg_qd_lt f n 16
            refine ro_V S (c_X12_poolOf hm0 hf_pools hf_pool hq0 hu (x := tg_qd (tg_rd f n) 16) (by omega)) kw4_209 yv_X12_poolOf ⟨Nat.le_of_ble_eq_true rfl, Nat.le_of_ble_eq_true rfl⟩ hK hP (va_recv hK hP (ci := 9) (q0 := km) rfl hm0) rfl hl.1 rfl (Nat.le_of_ble_eq_true rfl) dX12_lackOfOutside_213 ⟨Nat.zero_le _, Nat.zero_le _⟩ ?_
            refine lv_if_lt (tgt := 234) hx hb dX12_lackOfOutside_216 (by decide) (fun h216 => ?_) (fun h216 => ?_)
            · skip
              refine nv_bipush (k := 14) hx hb dX12_lackOfOutside_234 (by decide) ?_
              exact hend ((congrArg nI (by simp only [tg_out]; rw [if_neg (nfalse hfr), if_neg (nfalse hho), if_neg (nfalse hkn), if_neg (nfalse hpo), if_neg (by omega), if_neg (show ¬ tg_pl4 (tg_rd f n) bits g u = true by first | (simp [tg_pl4, h200]; done) | (have hz : tg_has g u (tg_qd (tg_rd f n) 16) = false := num_f (by omega) h216; simp [tg_pl4, hz]; done) | (simp [tg_pl4, h231]; done) | (have hz : tg_has g u (tg_qd (tg_rd f n) 40) = false := num_f (by omega) h257; simp [tg_pl4, h241, hz]; done) | (simp [tg_pl4, h241, h272]; done))]))) dX12_lackOfOutside_236
            refine lv_aload_n hx hb dX12_lackOfOutside_219 rfl (lv_at hl 2 rfl) ?_
            refine va_get (ci := 9) (C := RX12) (T := TX12) (N := 28) hx hb ht iFX12 hown hK hP km hm0 rfl 4 (by decide) (ht _ kw4_114) (fun _ h9 => h9) hf_in dX12_lackOfOutside_220 ?_
            refine nv_bipush (k := 12) hx hb dX12_lackOfOutside_223 (by decide) ?_
            refine ro_S S (c_X12_four hR (i := 12) (by omega)) kw5_72 yv_X12_four ⟨Nat.le_of_ble_eq_true rfl, Nat.le_of_ble_eq_true rfl⟩ hK hP rfl hl.1 rfl (Nat.le_of_ble_eq_true rfl) dX12_lackOfOutside_225 ⟨Nat.zero_le _, Nat.zero_le _⟩ ?_
            have hq225 := tg_qd_lt f n 12
            refine ro_S S (c_X12_isOdd (x := tg_qd (tg_rd f n) 12) (by omega)) kw4_206 yv_X12_isOdd ⟨Nat.le_of_ble_eq_true rfl, Nat.le_of_ble_eq_true rfl⟩ hK hP rfl hl.1 rfl (Nat.le_of_ble_eq_true rfl) dX12_lackOfOutside_228 ⟨Nat.zero_le _, Nat.zero_le _⟩ ?_
            refine nv_if_eqb (tgt := 237) hx hb dX12_lackOfOutside_231 (by decide) (fun h231 => ?_) (fun h231 => ?_)
            · skip
              refine lv_aload_n hx hb dX12_lackOfOutside_237 rfl (lv_at hl 2 rfl) ?_
              refine ro_V S (c_X12_isError hm0 hf_in hR (by omega)) kw5_139 yv_X12_isError ⟨Nat.le_of_ble_eq_true rfl, Nat.le_of_ble_eq_true rfl⟩ hK hP (va_recv hK hP (ci := 9) (q0 := km) rfl hm0) rfl hl.1 rfl (Nat.le_of_ble_eq_true rfl) dX12_lackOfOutside_238 ⟨Nat.zero_le _, Nat.zero_le _⟩ ?_
              refine nv_if_eqb (tgt := 280) hx hb dX12_lackOfOutside_241 (by decide) (fun h241 => ?_) (fun h241 => ?_)
              · skip
                refine nv_iconst (k := 0) hx hb dX12_lackOfOutside_280 rfl ?_
                exact hend ((congrArg nI (by simp only [tg_out]; rw [if_neg (nfalse hfr), if_neg (nfalse hho), if_neg (nfalse hkn), if_neg (nfalse hpo), if_neg (by omega), if_pos (show tg_pl4 (tg_rd f n) bits g u = true by have hz : tg_has g u (tg_qd (tg_rd f n) 16) = true := num_t (by omega) h216; first | (simp [tg_pl4, h200, hz, h231, h241]; done) | (have hz2 : tg_has g u (tg_qd (tg_rd f n) 40) = true := num_t (by omega) h257; simp [tg_pl4, h200, hz, h231, h241, hz2, h272]; done))]))) dX12_lackOfOutside_281
              have hn56 := kn4_err hkn h241
              refine lv_aload_n hx hb dX12_lackOfOutside_244 rfl (lv_at hl 2 rfl) ?_
              refine lv_aload_n hx hb dX12_lackOfOutside_245 rfl (lv_at hl 2 rfl) ?_
              refine va_get (ci := 9) (C := RX12) (T := TX12) (N := 28) hx hb ht iFX12 hown hK hP km hm0 rfl 4 (by decide) (ht _ kw4_114) (fun _ h9 => h9) hf_in dX12_lackOfOutside_246 ?_
              refine nv_bipush (k := 40) hx hb dX12_lackOfOutside_249 (by decide) ?_
              refine ro_S S (c_X12_four hR (i := 40) (by omega)) kw5_72 yv_X12_four ⟨Nat.le_of_ble_eq_true rfl, Nat.le_of_ble_eq_true rfl⟩ hK hP rfl hl.1 rfl (Nat.le_of_ble_eq_true rfl) dX12_lackOfOutside_251 ⟨Nat.zero_le _, Nat.zero_le _⟩ ?_
              have hq251 := tg_qd_lt f n 40
              refine ro_V S (c_X12_poolOf hm0 hf_pools hf_pool hq0 hu (x := tg_qd (tg_rd f n) 40) (by omega)) kw4_209 yv_X12_poolOf ⟨Nat.le_of_ble_eq_true rfl, Nat.le_of_ble_eq_true rfl⟩ hK hP (va_recv hK hP (ci := 9) (q0 := km) rfl hm0) rfl hl.1 rfl (Nat.le_of_ble_eq_true rfl) dX12_lackOfOutside_254 ⟨Nat.zero_le _, Nat.zero_le _⟩ ?_
              refine lv_if_lt (tgt := 275) hx hb dX12_lackOfOutside_257 (by decide) (fun h257 => ?_) (fun h257 => ?_)
              · skip
                refine nv_bipush (k := 14) hx hb dX12_lackOfOutside_275 (by decide) ?_
                refine lv_goto (tgt := 281) hx hb dX12_lackOfOutside_277 (by decide) ?_
                exact hend ((congrArg nI (by simp only [tg_out]; rw [if_neg (nfalse hfr), if_neg (nfalse hho), if_neg (nfalse hkn), if_neg (nfalse hpo), if_neg (by omega), if_neg (show ¬ tg_pl4 (tg_rd f n) bits g u = true by first | (simp [tg_pl4, h200]; done) | (have hz : tg_has g u (tg_qd (tg_rd f n) 16) = false := num_f (by omega) h216; simp [tg_pl4, hz]; done) | (simp [tg_pl4, h231]; done) | (have hz : tg_has g u (tg_qd (tg_rd f n) 40) = false := num_f (by omega) h257; simp [tg_pl4, h241, hz]; done) | (simp [tg_pl4, h241, h272]; done))]))) dX12_lackOfOutside_281
              refine lv_aload_n hx hb dX12_lackOfOutside_260 rfl (lv_at hl 2 rfl) ?_
              refine va_get (ci := 9) (C := RX12) (T := TX12) (N := 28) hx hb ht iFX12 hown hK hP km hm0 rfl 4 (by decide) (ht _ kw4_114) (fun _ h9 => h9) hf_in dX12_lackOfOutside_261 ?_
              refine nv_bipush (k := 44) hx hb dX12_lackOfOutside_264 (by decide) ?_
              refine ro_S S (c_X12_four hR (i := 44) (by omega)) kw5_72 yv_X12_four ⟨Nat.le_of_ble_eq_true rfl, Nat.le_of_ble_eq_true rfl⟩ hK hP rfl hl.1 rfl (Nat.le_of_ble_eq_true rfl) dX12_lackOfOutside_266 ⟨Nat.zero_le _, Nat.zero_le _⟩ ?_
              have hq266 := tg_qd_lt f n 44
              refine ro_S S (c_X12_isOdd (x := tg_qd (tg_rd f n) 44) (by omega)) kw4_206 yv_X12_isOdd ⟨Nat.le_of_ble_eq_true rfl, Nat.le_of_ble_eq_true rfl⟩ hK hP rfl hl.1 rfl (Nat.le_of_ble_eq_true rfl) dX12_lackOfOutside_269 ⟨Nat.zero_le _, Nat.zero_le _⟩ ?_
              refine nv_if_eqb (tgt := 280) hx hb dX12_lackOfOutside_272 (by decide) (fun h272 => ?_) (fun h272 => ?_)
              · skip
                refine nv_iconst (k := 0) hx hb dX12_lackOfOutside_280 rfl ?_
                exact hend ((congrArg nI (by simp only [tg_out]; rw [if_neg (nfalse hfr), if_neg (nfalse hho), if_neg (nfalse hkn), if_neg (nfalse hpo), if_neg (by omega), if_pos (show tg_pl4 (tg_rd f n) bits g u = true by have hz : tg_has g u (tg_qd (tg_rd f n) 16) = true := num_t (by omega) h216; first | (simp [tg_pl4, h200, hz, h231, h241]; done) | (have hz2 : tg_has g u (tg_qd (tg_rd f n) 40) = true := num_t (by omega) h257; simp [tg_pl4, h200, hz, h231, h241, hz2, h272]; done))]))) dX12_lackOfOutside_281
              refine nv_bipush (k := 14) hx hb dX12_lackOfOutside_275 (by decide) ?_
              refine lv_goto (tgt := 281) hx hb dX12_lackOfOutside_277 (by decide) ?_
              exact hend ((congrArg nI (by simp only [tg_out]; rw [if_neg (nfalse hfr), if_neg (nfalse hho), if_neg (nfalse hkn), if_neg (nfalse hpo), if_neg (by omega), if_neg (show ¬ tg_pl4 (tg_rd f n) bits g u = true by first | (simp [tg_pl4, h200]; done) | (have hz : tg_has g u (tg_qd (tg_rd f n) 16) = false := num_f (by omega) h216; simp [tg_pl4, hz]; done) | (simp [tg_pl4, h231]; done) | (have hz : tg_has g u (tg_qd (tg_rd f n) 40) = false := num_f (by omega) h257; simp [tg_pl4, h241, hz]; done) | (simp [tg_pl4, h241, h272]; done))]))) dX12_lackOfOutside_281
            refine nv_bipush (k := 14) hx hb dX12_lackOfOutside_234 (by decide) ?_
            exact hend ((congrArg nI (by simp only [tg_out]; rw [if_neg (nfalse hfr), if_neg (nfalse hho), if_neg (nfalse hkn), if_neg (nfalse hpo), if_neg (by omega), if_neg (show ¬ tg_pl4 (tg_rd f n) bits g u = true by first | (simp [tg_pl4, h200]; done) | (have hz : tg_has g u (tg_qd (tg_rd f n) 16) = false := num_f (by omega) h216; simp [tg_pl4, hz]; done) | (simp [tg_pl4, h231]; done) | (have hz : tg_has g u (tg_qd (tg_rd f n) 40) = false := num_f (by omega) h257; simp [tg_pl4, h241, hz]; done) | (simp [tg_pl4, h241, h272]; done))]))) dX12_lackOfOutside_236
          refine nv_bipush (k := 13) hx hb dX12_lackOfOutside_193 (by decide) ?_
          exact hend ((congrArg nI (by simp only [tg_out]; rw [if_neg (nfalse hfr), if_neg (nfalse hho), if_neg (nfalse hkn), if_neg (nfalse hpo), if_pos (by omega)]))) dX12_lackOfOutside_195
        refine nv_bipush (k := 12) hx hb dX12_lackOfOutside_177 (by decide) ?_
        exact hend ((congrArg nI (by simp only [tg_out]; rw [if_neg (nfalse hfr), if_neg (nfalse hho), if_neg (nfalse hkn), if_pos (show tg_partOk (tg_rd f n) n 20 = false from h174)]))) dX12_lackOfOutside_179
      have J150 : tg_pr (tg_rd f n) 6 % 2 ^ 14 = 0 → (tg_rd f n 9 = 1 ∨ tg_rd f n 9 = 6 ∨ tg_rd f n 9 = 17) → tg_bad (tg_rd f n) n 20 (tg_rd f n 9) = false → (tg_rd f n 9 = 1 → tg_rd f n 20 = 0 ∨ tg_rd f n 20 = 8 ∨ tg_isErr (tg_rd f n) = true) → ∀ ls : Array Slot, lv_has ls 3 [(2, .int (nI (tg_rd f n 20))), (1, .int (nI (tg_rd f n 9))), (0, .ref mo)] → W p l e (rmo 5 119) s m args below meth c s.heap [] 0 0 Q (F0 m 150 ls []) := by
        intro hfg hq3 hbd he3 ls hl
        have hsz := bad_sz (by omega) hbd
        refine lv_aload_n hx hb dX12_lackOfOutside_150 rfl (lv_at hl 2 rfl) ?_
        refine ro_V S (c_X12_isError hm0 hf_in hR (by omega)) kw5_139 yv_X12_isError ⟨Nat.le_of_ble_eq_true rfl, Nat.le_of_ble_eq_true rfl⟩ hK hP (va_recv hK hP (ci := 9) (q0 := km) rfl hm0) rfl hl.1 rfl (Nat.le_of_ble_eq_true rfl) dX12_lackOfOutside_151 ⟨Nat.zero_le _, Nat.zero_le _⟩ ?_
        refine nv_if_eqb (tgt := 167) hx hb dX12_lackOfOutside_154 (by decide) (fun h154 => ?_) (fun h154 => ?_)
        · skip
          exact J167 (by exact kn4_t hfg hq3 hbd he3 (fun q => by first | assumption | (exfalso; rw [q] at h154; cases h154))) (by exact hq3) (by exact hbd) ls (lv_sub hl [0, 1, 2] rfl)
        refine lv_aload_n hx hb dX12_lackOfOutside_157 rfl (lv_at hl 2 rfl) ?_
        refine ro_V S (c_X12_isBadError hm0 hf_in hf_size hR (by omega)) kw5_143 yv_X12_isBadError ⟨Nat.le_of_ble_eq_true rfl, Nat.le_of_ble_eq_true rfl⟩ hK hP (va_recv hK hP (ci := 9) (q0 := km) rfl hm0) rfl hl.1 rfl (Nat.le_of_ble_eq_true rfl) dX12_lackOfOutside_158 ⟨Nat.zero_le _, Nat.zero_le _⟩ ?_
        refine nv_if_eqb (tgt := 167) hx hb dX12_lackOfOutside_161 (by decide) (fun h161 => ?_) (fun h161 => ?_)
        · skip
          exact J167 (by exact kn4_t hfg hq3 hbd he3 (fun q => by first | assumption | (exfalso; rw [q] at h154; cases h154))) (by exact hq3) (by exact hbd) ls (lv_sub hl [0, 1, 2] rfl)
        refine nv_bipush (k := 11) hx hb dX12_lackOfOutside_164 (by decide) ?_
        exact hend ((congrArg nI (by simp only [tg_out]; rw [if_neg (nfalse hfr), if_neg (nfalse hho), if_pos (kn4_f (by first | exact Or.inr (Or.inr (Or.inr (Or.inl ⟨by omega, by omega, by omega, h147⟩))) | exact Or.inr (Or.inr (Or.inr (Or.inr ⟨h154, h161⟩)))))]))) dX12_lackOfOutside_166
      have J105 : tg_pr (tg_rd f n) 6 % 2 ^ 14 = 0 → (tg_rd f n 9 = 1 ∨ tg_rd f n 9 = 6 ∨ tg_rd f n 9 = 17) → ∀ ls : Array Slot, lv_has ls 3 [(1, .int (nI (tg_rd f n 9))), (0, .ref mo)] → W p l e (rmo 5 119) s m args below meth c s.heap [] 0 0 Q (F0 m 105 ls []) := by
        intro hfg hq3 ls hl
        refine lv_aload_n hx hb dX12_lackOfOutside_105 rfl (lv_at hl 1 rfl) ?_
        refine nv_bipush (k := 20) hx hb dX12_lackOfOutside_106 (by decide) ?_
        refine lv_iload_n hx hb dX12_lackOfOutside_108 rfl (lv_at hl 0 rfl) ?_
        refine ro_V S (c_X12_isBadPart hm0 hf_in hf_size hR (hd := 20) (q := tg_rd f n 9) (by omega) (by omega)) kw5_47 yv_X12_isBadPart ⟨Nat.le_of_ble_eq_true rfl, Nat.le_of_ble_eq_true rfl⟩ hK hP (va_recv hK hP (ci := 9) (q0 := km) rfl hm0) rfl hl.1 rfl (Nat.le_of_ble_eq_true rfl) dX12_lackOfOutside_109 ⟨Nat.zero_le _, Nat.zero_le _⟩ ?_
        refine nv_if_eqb (tgt := 118) hx hb dX12_lackOfOutside_112 (by decide) (fun h112 => ?_) (fun h112 => ?_)
        · skip
          have hsz := bad_sz (by omega) h112
          refine lv_aload_n hx hb dX12_lackOfOutside_118 rfl (lv_at hl 1 rfl) ?_
          refine va_get (ci := 9) (C := RX12) (T := TX12) (N := 28) hx hb ht iFX12 hown hK hP km hm0 rfl 4 (by decide) (ht _ kw4_114) (fun _ h9 => h9) hf_in dX12_lackOfOutside_119 ?_
          refine nv_bipush (k := 20) hx hb dX12_lackOfOutside_122 (by decide) ?_
          refine ro_S S (c_X12_at hR (i := 20) (by omega)) kw5_41 yv_X12_at ⟨Nat.le_of_ble_eq_true rfl, Nat.le_of_ble_eq_true rfl⟩ hK hP rfl hl.1 rfl (Nat.le_of_ble_eq_true rfl) dX12_lackOfOutside_124 ⟨Nat.zero_le _, Nat.zero_le _⟩ ?_
          have hq124 := tg_rd_lt f n 20
          refine lv_istore_n (lv' := [(2, .int (nI (tg_rd f n 20))), (1, .int (nI (tg_rd f n 9))), (0, .ref mo)]) hx hb dX12_lackOfOutside_127 rfl hl (by decide) rfl (fun ls hl => ?_)
          have hbd := h112
          refine lv_iload_n hx hb dX12_lackOfOutside_128 rfl (lv_at hl 1 rfl) ?_
          refine nv_iconst (k := 1) hx hb dX12_lackOfOutside_129 rfl ?_
          refine nv_icmp_ne (tgt := 150) hx hb dX12_lackOfOutside_130 (by decide) (by omega) (by omega) (fun h130 => ?_) (fun h130 => ?_)
          · skip
            exact J150 (by exact hfg) (by exact hq3) (by exact hbd) (by intro q; first | (exact Or.inl (by omega)) | (exact Or.inr (Or.inl (by omega))) | (exact Or.inr (Or.inr (by assumption))) | (exfalso; omega)) ls (lv_sub hl [0, 1, 2] rfl)
          refine lv_iload_n hx hb dX12_lackOfOutside_133 rfl (lv_at hl 0 rfl) ?_
          refine nv_if_eq (tgt := 150) hx hb dX12_lackOfOutside_134 (by decide) (by omega) (fun h134 => ?_) (fun h134 => ?_)
          · skip
            exact J150 (by exact hfg) (by exact hq3) (by exact hbd) (by intro q; first | (exact Or.inl (by omega)) | (exact Or.inr (Or.inl (by omega))) | (exact Or.inr (Or.inr (by assumption))) | (exfalso; omega)) ls (lv_sub hl [0, 1, 2] rfl)
          refine lv_iload_n hx hb dX12_lackOfOutside_137 rfl (lv_at hl 0 rfl) ?_
          refine nv_bipush (k := 8) hx hb dX12_lackOfOutside_138 (by decide) ?_
          refine nv_icmp_eq (tgt := 150) hx hb dX12_lackOfOutside_140 (by decide) (by omega) (by omega) (fun h140 => ?_) (fun h140 => ?_)
          · skip
            exact J150 (by exact hfg) (by exact hq3) (by exact hbd) (by intro q; first | (exact Or.inl (by omega)) | (exact Or.inr (Or.inl (by omega))) | (exact Or.inr (Or.inr (by assumption))) | (exfalso; omega)) ls (lv_sub hl [0, 1, 2] rfl)
          refine lv_aload_n hx hb dX12_lackOfOutside_143 rfl (lv_at hl 2 rfl) ?_
          refine ro_V S (c_X12_isError hm0 hf_in hR (by omega)) kw5_139 yv_X12_isError ⟨Nat.le_of_ble_eq_true rfl, Nat.le_of_ble_eq_true rfl⟩ hK hP (va_recv hK hP (ci := 9) (q0 := km) rfl hm0) rfl hl.1 rfl (Nat.le_of_ble_eq_true rfl) dX12_lackOfOutside_144 ⟨Nat.zero_le _, Nat.zero_le _⟩ ?_
          refine nv_if_eqb (tgt := 164) hx hb dX12_lackOfOutside_147 (by decide) (fun h147 => ?_) (fun h147 => ?_)
          · skip
            refine nv_bipush (k := 11) hx hb dX12_lackOfOutside_164 (by decide) ?_
            exact hend ((congrArg nI (by simp only [tg_out]; rw [if_neg (nfalse hfr), if_neg (nfalse hho), if_pos (kn4_f (by first | exact Or.inr (Or.inr (Or.inr (Or.inl ⟨by omega, by omega, by omega, h147⟩))) | exact Or.inr (Or.inr (Or.inr (Or.inr ⟨h154, h161⟩)))))]))) dX12_lackOfOutside_166
          exact J150 (by exact hfg) (by exact hq3) (by exact hbd) (by intro q; first | (exact Or.inl (by omega)) | (exact Or.inr (Or.inl (by omega))) | (exact Or.inr (Or.inr (by assumption))) | (exfalso; omega)) ls (lv_sub hl [0, 1, 2] rfl)
        refine nv_bipush (k := 11) hx hb dX12_lackOfOutside_115 (by decide) ?_
        exact hend ((congrArg nI (by simp only [tg_out]; rw [if_neg (nfalse hfr), if_neg (nfalse hho), if_pos (kn4_f (by first | exact Or.inl h85 | exact Or.inr (Or.inl ⟨by omega, by omega, by omega⟩) | exact Or.inr (Or.inr (Or.inl h112))))]))) dX12_lackOfOutside_117
      refine lv_aload_n hx hb dX12_lackOfOutside_72 rfl (lv_at hl 1 rfl) ?_
      refine va_get (ci := 9) (C := RX12) (T := TX12) (N := 28) hx hb ht iFX12 hown hK hP km hm0 rfl 4 (by decide) (ht _ kw4_114) (fun _ h9 => h9) hf_in dX12_lackOfOutside_73 ?_
      refine nv_bipush (k := 6) hx hb dX12_lackOfOutside_76 (by decide) ?_
      refine ro_S S (c_X12_two hR (i := 6) (by omega)) kw5_44 yv_X12_two ⟨Nat.le_of_ble_eq_true rfl, Nat.le_of_ble_eq_true rfl⟩ hK hP rfl hl.1 rfl (Nat.le_of_ble_eq_true rfl) dX12_lackOfOutside_78 ⟨Nat.zero_le _, Nat.zero_le _⟩ ?_
      have hq78 := tg_pr_lt f n 6
      refine nv_sipush (k := 16383) hx hb dX12_lackOfOutside_81 (by decide) ?_
      refine nv_iand 14 hx hb (by omega) (by decide) dX12_lackOfOutside_84 ?_
      refine nv_if_ne (tgt := 115) hx hb dX12_lackOfOutside_85 (by decide) (by omega) (fun h85 => ?_) (fun h85 => ?_)
      · skip
        refine nv_bipush (k := 11) hx hb dX12_lackOfOutside_115 (by decide) ?_
        exact hend ((congrArg nI (by simp only [tg_out]; rw [if_neg (nfalse hfr), if_neg (nfalse hho), if_pos (kn4_f (by first | exact Or.inl h85 | exact Or.inr (Or.inl ⟨by omega, by omega, by omega⟩) | exact Or.inr (Or.inr (Or.inl h112))))]))) dX12_lackOfOutside_117
      refine lv_iload_n hx hb dX12_lackOfOutside_88 rfl (lv_at hl 0 rfl) ?_
      refine nv_iconst (k := 1) hx hb dX12_lackOfOutside_89 rfl ?_
      refine nv_icmp_eq (tgt := 105) hx hb dX12_lackOfOutside_90 (by decide) (by omega) (by omega) (fun h90 => ?_) (fun h90 => ?_)
      · skip
        exact J105 (by exact h85) (by omega) ls (lv_sub hl [0, 1] rfl)
      refine lv_iload_n hx hb dX12_lackOfOutside_93 rfl (lv_at hl 0 rfl) ?_
      refine nv_bipush (k := 6) hx hb dX12_lackOfOutside_94 (by decide) ?_
      refine nv_icmp_eq (tgt := 105) hx hb dX12_lackOfOutside_96 (by decide) (by omega) (by omega) (fun h96 => ?_) (fun h96 => ?_)
      · skip
        exact J105 (by exact h85) (by omega) ls (lv_sub hl [0, 1] rfl)
      refine lv_iload_n hx hb dX12_lackOfOutside_99 rfl (lv_at hl 0 rfl) ?_
      refine nv_bipush (k := 17) hx hb dX12_lackOfOutside_100 (by decide) ?_
      refine nv_icmp_ne (tgt := 115) hx hb dX12_lackOfOutside_102 (by decide) (by omega) (by omega) (fun h102 => ?_) (fun h102 => ?_)
      · skip
        refine nv_bipush (k := 11) hx hb dX12_lackOfOutside_115 (by decide) ?_
        exact hend ((congrArg nI (by simp only [tg_out]; rw [if_neg (nfalse hfr), if_neg (nfalse hho), if_pos (kn4_f (by first | exact Or.inl h85 | exact Or.inr (Or.inl ⟨by omega, by omega, by omega⟩) | exact Or.inr (Or.inr (Or.inl h112))))]))) dX12_lackOfOutside_117
      exact J105 (by exact h85) (by omega) ls (lv_sub hl [0, 1] rfl)
    refine nv_bipush (k := 12) hx hb dX12_lackOfOutside_59 (by decide) ?_
    exact hend ((congrArg nI (by simp only [tg_out]; rw [if_neg (nfalse hfr), if_pos (show tg_headOk (tg_rd f n) = false from decide_eq_false h56)]))) dX12_lackOfOutside_61
  refine nv_bipush (k := 10) hx hb dX12_lackOfOutside_37 (by decide) ?_
  exact hend ((congrArg nI (by simp only [tg_out]; rw [if_pos (show tg_fr4 (tg_rd f n) n = false from decide_eq_false (by omega))]))) dX12_lackOfOutside_39
