theorem dX3_putSixHead_0 : decode cX3_putSixHead 0 = .ok (.aload_n 0, 1) := by decide +kernel
theorem dX3_putSixHead_1 : decode cX3_putSixHead 1 = .ok (.iload_n 1, 1) := by decide +kernel
theorem dX3_putSixHead_2 : decode cX3_putSixHead 2 = .ok (.sipush 24576, 3) := by decide +kernel
theorem dX3_putSixHead_5 : decode cX3_putSixHead 5 = .ok (.iload_n 2, 1) := by decide +kernel
theorem dX3_putSixHead_6 : decode cX3_putSixHead 6 = .ok (.iconst 4, 1) := by decide +kernel
theorem dX3_putSixHead_7 : decode cX3_putSixHead 7 = .ok (.ishl, 1) := by decide +kernel
theorem dX3_putSixHead_8 : decode cX3_putSixHead 8 = .ok (.ior, 1) := by decide +kernel
theorem dX3_putSixHead_9 : decode cX3_putSixHead 9 = .ok (.invokevirtual 33, 3) := by decide +kernel
theorem dX3_putSixHead_12 : decode cX3_putSixHead 12 = .ok (.aload_n 0, 1) := by decide +kernel
theorem dX3_putSixHead_13 : decode cX3_putSixHead 13 = .ok (.iload_n 1, 1) := by decide +kernel
theorem dX3_putSixHead_14 : decode cX3_putSixHead 14 = .ok (.iconst 2, 1) := by decide +kernel
theorem dX3_putSixHead_15 : decode cX3_putSixHead 15 = .ok (.iadd, 1) := by decide +kernel
theorem dX3_putSixHead_16 : decode cX3_putSixHead 16 = .ok (.iconst 0, 1) := by decide +kernel
theorem dX3_putSixHead_17 : decode cX3_putSixHead 17 = .ok (.invokevirtual 33, 3) := by decide +kernel
theorem dX3_putSixHead_20 : decode cX3_putSixHead 20 = .ok (.aload_n 0, 1) := by decide +kernel
theorem dX3_putSixHead_21 : decode cX3_putSixHead 21 = .ok (.iload_n 1, 1) := by decide +kernel
theorem dX3_putSixHead_22 : decode cX3_putSixHead 22 = .ok (.iconst 4, 1) := by decide +kernel
theorem dX3_putSixHead_23 : decode cX3_putSixHead 23 = .ok (.iadd, 1) := by decide +kernel
theorem dX3_putSixHead_24 : decode cX3_putSixHead 24 = .ok (.iload_n 3, 1) := by decide +kernel
theorem dX3_putSixHead_25 : decode cX3_putSixHead 25 = .ok (.invokevirtual 33, 3) := by decide +kernel
theorem dX3_putSixHead_28 : decode cX3_putSixHead 28 = .ok (.aload_n 0, 1) := by decide +kernel
theorem dX3_putSixHead_29 : decode cX3_putSixHead 29 = .ok (.iload_n 1, 1) := by decide +kernel
theorem dX3_putSixHead_30 : decode cX3_putSixHead 30 = .ok (.bipush 6, 2) := by decide +kernel
theorem dX3_putSixHead_32 : decode cX3_putSixHead 32 = .ok (.iadd, 1) := by decide +kernel
theorem dX3_putSixHead_33 : decode cX3_putSixHead 33 = .ok (.iload 4, 2) := by decide +kernel
theorem dX3_putSixHead_35 : decode cX3_putSixHead 35 = .ok (.iconst 1, 1) := by decide +kernel
theorem dX3_putSixHead_36 : decode cX3_putSixHead 36 = .ok (.if_icmp .ne 8, 3) := by decide +kernel
theorem dX3_putSixHead_39 : decode cX3_putSixHead 39 = .ok (.bipush 58, 2) := by decide +kernel
theorem dX3_putSixHead_41 : decode cX3_putSixHead 41 = .ok (.goto 5, 3) := by decide +kernel
theorem dX3_putSixHead_44 : decode cX3_putSixHead 44 = .ok (.iload 4, 2) := by decide +kernel
theorem dX3_putSixHead_46 : decode cX3_putSixHead 46 = .ok (.invokevirtual 25, 3) := by decide +kernel
theorem dX3_putSixHead_49 : decode cX3_putSixHead 49 = .ok (.aload_n 0, 1) := by decide +kernel
theorem dX3_putSixHead_50 : decode cX3_putSixHead 50 = .ok (.iload_n 1, 1) := by decide +kernel
theorem dX3_putSixHead_51 : decode cX3_putSixHead 51 = .ok (.bipush 7, 2) := by decide +kernel
theorem dX3_putSixHead_53 : decode cX3_putSixHead 53 = .ok (.iadd, 1) := by decide +kernel
theorem dX3_putSixHead_54 : decode cX3_putSixHead 54 = .ok (.iload 5, 2) := by decide +kernel
theorem dX3_putSixHead_56 : decode cX3_putSixHead 56 = .ok (.invokevirtual 25, 3) := by decide +kernel
theorem dX3_putSixHead_59 : decode cX3_putSixHead 59 = .ok (.return_, 1) := by decide +kernel
theorem yv_X3_putSixHead : YS yX3_putSixHead cX3_putSixHead 6 none 6 := ⟨kw3_204, kw1_22, kw3_205, by decide +kernel⟩
set_option maxHeartbeats 4000000 in
set_option maxRecDepth 100000 in
theorem c_X3_putSixHead {l : Launch} {D : va_G} {cy : Nat → ClassId} {ws : va_W} {kb ka b ar N n : Nat} {f : Nat → UInt8} (hb0 : ws[kb]? = some (b, .inr (2, [.ref ar, .int (nI n)]))) (ha0 : ws[ka]? = some (ar, .inl (cy 0, N, .inl (bt f)))) (hnN : n ≤ N) (hN : N ≤ 1700) {a tr pl q hp : Nat} (ha : a + 8 ≤ n) (htr : tr < 256) (hpl : pl < 2 ^ 32) (hq : q < 256) (hhp : hp < 256) : WR (S := (Nat → UInt8)) l yX3_putSixHead cX3_putSixHead 6 none 2 0 0 48 [.ref b, .int (nI a), .int (nI tr), .int (nI pl), .int (nI q), .int (nI hp)] D cy ws (fun _ => none) (fun g => g = tg_six f a tr pl q hp) (fun g => wB ws kb ka b ar N cy g n) := by
  refine WRv (by decide) (lv0 := [(0, .ref b), (1, .int (nI a)), (2, .int (nI tr)), (3, .int (nI pl)), (4, .int (nI q)), (5, .int (nI hp))]) rfl (Nat.le_of_ble_eq_true rfl) ?_
  intro p e s m args below meth c ls A Q S hnm hP hK hD hS hA hend hl
  have hx := S.1
  have hb := S.2.1
  have hown : s.vm.findClass RX3 = some m.cls := S.2.2.2.1
  have ht : ∀ w ∈ lw_g, w.before args s = true := fun w h => S.2.2.2.2 w (List.mem_cons_of_mem _ h)
  have hne : kb ≠ ka := lst_ne hb0 ha0 (fun z => by cases z)
  have hP : va_P D vwCl (wB ws kb ka b ar N cy f n) s.heap := by rw [wB_self hb0 ha0]; exact hP
  have hD : va_D A (wB ws kb ka b ar N cy f n) := by rw [wB_self hb0 ha0]; exact hD
  refine lv_aload_n hx hb dX3_putSixHead_0 rfl (lv_at hl 0 rfl) ?_
  refine lv_iload_n hx hb dX3_putSixHead_1 rfl (lv_at hl 1 rfl) ?_
  refine nv_sipush (k := 24576) hx hb dX3_putSixHead_2 (by decide) ?_
  refine lv_iload_n hx hb dX3_putSixHead_5 rfl (lv_at hl 2 rfl) ?_
  refine nv_iconst (k := 4) hx hb dX3_putSixHead_6 rfl ?_
  refine nv_ishl hx hb (by omega) dX3_putSixHead_7 ?_
  refine nv_iorc (k := 13) (q := 3) hx hb (by decide) (by omega) dX3_putSixHead_8 ?_
  refine wr_V S (c_X1_putPair (wB_b hne hb0) (wB_a ha0) (by omega) hN (a := a) (x := 24576 + (tr) * 2 ^ 4) (by omega) (by omega)) kw3_126 yv_X1_putPair ⟨Nat.le_of_ble_eq_true rfl, Nat.le_of_ble_eq_true rfl⟩ hK hP hD hS hA (va_recv hK hP (ci := 2) (q0 := kb) rfl (wB_b hne hb0)) rfl hl.1 rfl (Nat.le_of_ble_eq_true rfl) dX3_putSixHead_9 ⟨Nat.zero_le _, Nat.zero_le _⟩ (fun g_1 H locs hg_1 hP hD hS => ?_)
  rw [wB_wB hne] at hP hD
  refine W.eq (g2 := F0 m 12 ls []) rfl ?_
  refine lv_aload_n hx hb dX3_putSixHead_12 rfl (lv_at hl 0 rfl) ?_
  refine lv_iload_n hx hb dX3_putSixHead_13 rfl (lv_at hl 1 rfl) ?_
  refine nv_iconst (k := 2) hx hb dX3_putSixHead_14 rfl ?_
  refine nv_iadd hx hb dX3_putSixHead_15 ?_
  refine nv_iconst (k := 0) hx hb dX3_putSixHead_16 rfl ?_
  refine wr_V S (c_X1_putPair (wB_b hne hb0) (wB_a ha0) (by omega) hN (a := a + 2) (x := 0) (by omega) (by omega)) kw3_126 yv_X1_putPair ⟨Nat.le_of_ble_eq_true rfl, Nat.le_of_ble_eq_true rfl⟩ hK hP hD hS hA (va_recv hK hP (ci := 2) (q0 := kb) rfl (wB_b hne hb0)) rfl hl.1 rfl (Nat.le_of_ble_eq_true rfl) dX3_putSixHead_17 ⟨Nat.zero_le _, Nat.zero_le _⟩ (fun g_2 H locs hg_2 hP hD hS => ?_)
  rw [wB_wB hne] at hP hD
  refine W.eq (g2 := F0 m 20 ls []) rfl ?_
  refine lv_aload_n hx hb dX3_putSixHead_20 rfl (lv_at hl 0 rfl) ?_
  refine lv_iload_n hx hb dX3_putSixHead_21 rfl (lv_at hl 1 rfl) ?_
  refine nv_iconst (k := 4) hx hb dX3_putSixHead_22 rfl ?_
  refine nv_iadd hx hb dX3_putSixHead_23 ?_
  refine lv_iload_n hx hb dX3_putSixHead_24 rfl (lv_at hl 3 rfl) ?_
  refine wr_V S (c_X1_putPair (wB_b hne hb0) (wB_a ha0) (by omega) hN (a := a + 4) (x := pl) (by omega) (by omega)) kw3_126 yv_X1_putPair ⟨Nat.le_of_ble_eq_true rfl, Nat.le_of_ble_eq_true rfl⟩ hK hP hD hS hA (va_recv hK hP (ci := 2) (q0 := kb) rfl (wB_b hne hb0)) rfl hl.1 rfl (Nat.le_of_ble_eq_true rfl) dX3_putSixHead_25 ⟨Nat.zero_le _, Nat.zero_le _⟩ (fun g_3 H locs hg_3 hP hD hS => ?_)
  rw [wB_wB hne] at hP hD
  refine W.eq (g2 := F0 m 28 ls []) rfl ?_
  refine lv_aload_n hx hb dX3_putSixHead_28 rfl (lv_at hl 0 rfl) ?_
  refine lv_iload_n hx hb dX3_putSixHead_29 rfl (lv_at hl 1 rfl) ?_
  refine nv_bipush (k := 6) hx hb dX3_putSixHead_30 (by decide) ?_
  refine nv_iadd hx hb dX3_putSixHead_32 ?_
  refine lv_iload hx hb dX3_putSixHead_33 (lv_at hl 4 rfl) ?_
  refine nv_iconst (k := 1) hx hb dX3_putSixHead_35 rfl ?_
  have J46 : ∀ v46 : Nat, v46 = tg_nx q → ∀ ls : Array Slot, lv_has ls 6 [(0, .ref b), (1, .int (nI a)), (2, .int (nI tr)), (3, .int (nI pl)), (4, .int (nI q)), (5, .int (nI hp))] → W p l e (rmw 2 0 0 48) s m args below meth c H locs 0 0 Q (F0 m 46 ls [.int (nI v46), .int (nI (a + 6)), .ref b]) := by
    intro v46 hv46 ls hl
    have hvb : v46 < 256 := by rw [hv46]; simp only [tg_nx]; split <;> omega
    refine wr_V S (c_X1_put (wB_b hne hb0) (wB_a ha0) (by omega) hN (k := a + 6) (x := nI (v46)) (by omega)) kw3_121 yv_X1_put ⟨Nat.le_of_ble_eq_true rfl, Nat.le_of_ble_eq_true rfl⟩ hK hP hD hS hA (va_recv hK hP (ci := 2) (q0 := kb) rfl (wB_b hne hb0)) rfl hl.1 rfl (Nat.le_of_ble_eq_true rfl) dX3_putSixHead_46 ⟨Nat.zero_le _, Nat.zero_le _⟩ (fun g_4 H locs hg_4 hP hD hS => ?_)
    rw [wB_wB hne] at hP hD
    rw [by8_nI] at hg_4
    refine W.eq (g2 := F0 m 49 ls []) rfl ?_
    refine lv_aload_n hx hb dX3_putSixHead_49 rfl (lv_at hl 0 rfl) ?_
    refine lv_iload_n hx hb dX3_putSixHead_50 rfl (lv_at hl 1 rfl) ?_
    refine nv_bipush (k := 7) hx hb dX3_putSixHead_51 (by decide) ?_
    refine nv_iadd hx hb dX3_putSixHead_53 ?_
    refine lv_iload hx hb dX3_putSixHead_54 (lv_at hl 5 rfl) ?_
    refine wr_V S (c_X1_put (wB_b hne hb0) (wB_a ha0) (by omega) hN (k := a + 7) (x := nI (hp)) (by omega)) kw3_121 yv_X1_put ⟨Nat.le_of_ble_eq_true rfl, Nat.le_of_ble_eq_true rfl⟩ hK hP hD hS hA (va_recv hK hP (ci := 2) (q0 := kb) rfl (wB_b hne hb0)) rfl hl.1 rfl (Nat.le_of_ble_eq_true rfl) dX3_putSixHead_56 ⟨Nat.zero_le _, Nat.zero_le _⟩ (fun g_5 H locs hg_5 hP hD hS => ?_)
    rw [wB_wB hne] at hP hD
    rw [by8_nI] at hg_5
    refine W.eq (g2 := F0 m 59 ls []) rfl ?_
    exact hend _ (by rw [hg_5, hg_4, hg_3, hg_2, hg_1, hv46] <;> rfl) hP hD hS dX3_putSixHead_59
  refine nv_icmp_ne (tgt := 44) hx hb dX3_putSixHead_36 (by decide) (by omega) (by omega) (fun h36 => ?_) (fun h36 => ?_)
  · skip
    refine lv_iload hx hb dX3_putSixHead_44 (lv_at hl 4 rfl) ?_
    exact J46 (q) (by simp only [tg_nx]; split <;> omega) ls (lv_sub hl [0, 1, 2, 3, 4, 5] rfl)
  refine nv_bipush (k := 58) hx hb dX3_putSixHead_39 (by decide) ?_
  refine lv_goto (tgt := 46) hx hb dX3_putSixHead_41 (by decide) ?_
  exact J46 (58) (by simp only [tg_nx]; split <;> omega) ls (lv_sub hl [0, 1, 2, 3, 4, 5] rfl)
theorem dX3_putEmbedded_0 : decode cX3_putEmbedded 0 = .ok (.aload_n 0, 1) := by decide +kernel
theorem dX3_putEmbedded_1 : decode cX3_putEmbedded 1 = .ok (.iload_n 1, 1) := by decide +kernel
theorem dX3_putEmbedded_2 : decode cX3_putEmbedded 2 = .ok (.aload_n 3, 1) := by decide +kernel
theorem dX3_putEmbedded_3 : decode cX3_putEmbedded 3 = .ok (.iload_n 2, 1) := by decide +kernel
theorem dX3_putEmbedded_4 : decode cX3_putEmbedded 4 = .ok (.invokevirtual 103, 3) := by decide +kernel
theorem dX3_putEmbedded_7 : decode cX3_putEmbedded 7 = .ok (.invokevirtual 109, 3) := by decide +kernel
theorem dX3_putEmbedded_10 : decode cX3_putEmbedded 10 = .ok (.aload_n 0, 1) := by decide +kernel
theorem dX3_putEmbedded_11 : decode cX3_putEmbedded 11 = .ok (.iload_n 1, 1) := by decide +kernel
theorem dX3_putEmbedded_12 : decode cX3_putEmbedded 12 = .ok (.bipush 8, 2) := by decide +kernel
theorem dX3_putEmbedded_14 : decode cX3_putEmbedded 14 = .ok (.iadd, 1) := by decide +kernel
theorem dX3_putEmbedded_15 : decode cX3_putEmbedded 15 = .ok (.aload_n 3, 1) := by decide +kernel
theorem dX3_putEmbedded_16 : decode cX3_putEmbedded 16 = .ok (.iload_n 2, 1) := by decide +kernel
theorem dX3_putEmbedded_17 : decode cX3_putEmbedded 17 = .ok (.invokevirtual 113, 3) := by decide +kernel
theorem dX3_putEmbedded_20 : decode cX3_putEmbedded 20 = .ok (.invokevirtual 109, 3) := by decide +kernel
theorem dX3_putEmbedded_23 : decode cX3_putEmbedded 23 = .ok (.return_, 1) := by decide +kernel
theorem yv_X3_putEmbedded : YS yX3_putEmbedded cX3_putEmbedded 4 none 4 := ⟨kw3_208, kw1_22, kw3_209, by decide +kernel⟩
set_option maxHeartbeats 4000000 in
set_option maxRecDepth 100000 in
theorem c_X3_putEmbedded {l : Launch} {D : va_G} {cy : Nat → ClassId} {ws : va_W} {kb ka b ar N n : Nat} {f : Nat → UInt8} (hb0 : ws[kb]? = some (b, .inr (2, [.ref ar, .int (nI n)]))) (ha0 : ws[ka]? = some (ar, .inl (cy 0, N, .inl (bt f)))) (hnN : n ≤ N) (hN : N ≤ 1700) {ks st bits F G : Nat} (hs0 : ws[ks]? = some (st, .inr (6, [.long (lN F), .long (lN G), .int (nI bits), .int (nI (bits - 32))]))) (hsi : SI bits F G) (ds1 : kb ≠ ks) (ds2 : ka ≠ ks) {a x : Nat} (ha : a + 16 ≤ n) (hx0 : x < 2 ^ 32) : WR (S := (Nat → UInt8)) l yX3_putEmbedded cX3_putEmbedded 4 none 2 0 0 49 [.ref b, .int (nI a), .int (nI x), .ref st] D cy ws (fun _ => none) (fun g => g = tg_emb f a x bits F G) (fun g => wB ws kb ka b ar N cy g n) := by
  refine WRv (by decide) (lv0 := [(0, .ref b), (1, .int (nI a)), (2, .int (nI x)), (3, .ref st)]) rfl (Nat.le_of_ble_eq_true rfl) ?_
  intro p e s m args below meth c ls A Q S hnm hP hK hD hS hA hend hl
  have hx := S.1
  have hb := S.2.1
  have hown : s.vm.findClass RX3 = some m.cls := S.2.2.2.1
  have ht : ∀ w ∈ lw_g, w.before args s = true := fun w h => S.2.2.2.2 w (List.mem_cons_of_mem _ h)
  have hne : kb ≠ ka := lst_ne hb0 ha0 (fun z => by cases z)
  have hP : va_P D vwCl (wB ws kb ka b ar N cy f n) s.heap := by rw [wB_self hb0 ha0]; exact hP
  have hD : va_D A (wB ws kb ka b ar N cy f n) := by rw [wB_self hb0 ha0]; exact hD
  refine lv_aload_n hx hb dX3_putEmbedded_0 rfl (lv_at hl 0 rfl) ?_
  refine lv_iload_n hx hb dX3_putEmbedded_1 rfl (lv_at hl 1 rfl) ?_
  refine lv_aload_n hx hb dX3_putEmbedded_2 rfl (lv_at hl 3 rfl) ?_
  refine lv_iload_n hx hb dX3_putEmbedded_3 rfl (lv_at hl 2 rfl) ?_
  refine ro_V S (c_X8_embedHigh (STP_of (wB_o ds1 ds2 hs0) hsi) (x := x) (by omega)) kw3_210 yv_X8_embedHigh ⟨Nat.le_of_ble_eq_true rfl, Nat.le_of_ble_eq_true rfl⟩ hK hP (va_recv hK hP (ci := 6) (q0 := ks) rfl (wB_o ds1 ds2 hs0)) rfl hl.1 rfl (Nat.le_of_ble_eq_true rfl) dX3_putEmbedded_4 ⟨Nat.zero_le _, Nat.zero_le _⟩ ?_
  have hq4 := tg_eh_lt hsi (x := x) (by omega)
  refine wr_V S (c_X1_putEight (wB_b hne hb0) (wB_a ha0) (by omega) hN (a := a) (x := tg_eh bits F (x)) (by omega) (by omega)) kw3_211 yv_X1_putEight ⟨Nat.le_of_ble_eq_true rfl, Nat.le_of_ble_eq_true rfl⟩ hK hP hD hS hA (va_recv hK hP (ci := 2) (q0 := kb) rfl (wB_b hne hb0)) rfl hl.1 rfl (Nat.le_of_ble_eq_true rfl) dX3_putEmbedded_7 ⟨Nat.zero_le _, Nat.zero_le _⟩ (fun g_1 H locs hg_1 hP hD hS => ?_)
  rw [wB_wB hne] at hP hD
  refine W.eq (g2 := F0 m 10 ls []) rfl ?_
  refine lv_aload_n hx hb dX3_putEmbedded_10 rfl (lv_at hl 0 rfl) ?_
  refine lv_iload_n hx hb dX3_putEmbedded_11 rfl (lv_at hl 1 rfl) ?_
  refine nv_bipush (k := 8) hx hb dX3_putEmbedded_12 (by decide) ?_
  refine nv_iadd hx hb dX3_putEmbedded_14 ?_
  refine lv_aload_n hx hb dX3_putEmbedded_15 rfl (lv_at hl 3 rfl) ?_
  refine lv_iload_n hx hb dX3_putEmbedded_16 rfl (lv_at hl 2 rfl) ?_
  refine ro_V S (c_X8_embedLow (STP_of (wB_o ds1 ds2 hs0) hsi) (x := x) (by omega)) kw3_215 yv_X8_embedLow ⟨Nat.le_of_ble_eq_true rfl, Nat.le_of_ble_eq_true rfl⟩ hK hP (va_recv hK hP (ci := 6) (q0 := ks) rfl (wB_o ds1 ds2 hs0)) rfl hl.1 rfl (Nat.le_of_ble_eq_true rfl) dX3_putEmbedded_17 ⟨Nat.zero_le _, Nat.zero_le _⟩ ?_
  have hq17 := tg_el_lt hsi (x := x) (by omega)
  refine wr_V S (c_X1_putEight (wB_b hne hb0) (wB_a ha0) (by omega) hN (a := a + 8) (x := tg_el bits G (x)) (by omega) (by omega)) kw3_211 yv_X1_putEight ⟨Nat.le_of_ble_eq_true rfl, Nat.le_of_ble_eq_true rfl⟩ hK hP hD hS hA (va_recv hK hP (ci := 2) (q0 := kb) rfl (wB_b hne hb0)) rfl hl.1 rfl (Nat.le_of_ble_eq_true rfl) dX3_putEmbedded_20 ⟨Nat.zero_le _, Nat.zero_le _⟩ (fun g_2 H locs hg_2 hP hD hS => ?_)
  rw [wB_wB hne] at hP hD
  refine W.eq (g2 := F0 m 23 ls []) rfl ?_
  exact hend _ (by rw [hg_2, hg_1] <;> rfl) hP hD hS dX3_putEmbedded_23
theorem dX3_putInner_0 : decode cX3_putInner 0 = .ok (.aload_n 0, 1) := by decide +kernel
theorem dX3_putInner_1 : decode cX3_putInner 1 = .ok (.iload_n 1, 1) := by decide +kernel
theorem dX3_putInner_2 : decode cX3_putInner 2 = .ok (.aload_n 2, 1) := by decide +kernel
theorem dX3_putInner_3 : decode cX3_putInner 3 = .ok (.getfield 116, 3) := by decide +kernel
theorem dX3_putInner_6 : decode cX3_putInner 6 = .ok (.invokevirtual 109, 3) := by decide +kernel
theorem dX3_putInner_9 : decode cX3_putInner 9 = .ok (.aload_n 0, 1) := by decide +kernel
theorem dX3_putInner_10 : decode cX3_putInner 10 = .ok (.iload_n 1, 1) := by decide +kernel
theorem dX3_putInner_11 : decode cX3_putInner 11 = .ok (.bipush 8, 2) := by decide +kernel
theorem dX3_putInner_13 : decode cX3_putInner 13 = .ok (.iadd, 1) := by decide +kernel
theorem dX3_putInner_14 : decode cX3_putInner 14 = .ok (.aload_n 2, 1) := by decide +kernel
theorem dX3_putInner_15 : decode cX3_putInner 15 = .ok (.getfield 120, 3) := by decide +kernel
theorem dX3_putInner_18 : decode cX3_putInner 18 = .ok (.invokevirtual 109, 3) := by decide +kernel
theorem dX3_putInner_21 : decode cX3_putInner 21 = .ok (.return_, 1) := by decide +kernel
theorem yv_X3_putInner : YS yX3_putInner cX3_putInner 3 none 3 := ⟨kw3_217, kw1_22, kw3_218, by decide +kernel⟩
set_option maxHeartbeats 4000000 in
set_option maxRecDepth 100000 in
theorem c_X3_putInner {l : Launch} {D : va_G} {cy : Nat → ClassId} {ws : va_W} {kb ka b ar N n : Nat} {f : Nat → UInt8} (hb0 : ws[kb]? = some (b, .inr (2, [.ref ar, .int (nI n)]))) (ha0 : ws[ka]? = some (ar, .inl (cy 0, N, .inl (bt f)))) (hnN : n ≤ N) (hN : N ≤ 1700) {kw ow pt ih il ip pn op : Nat} (hw0 : ws[kw]? = some (ow, .inr (1, [.int (nI pt), .long (lN ih), .long (lN il), .int (nI ip), .int (nI pn), .int (nI op)]))) (hpt : pt = 1 ∨ pt = 6 ∨ pt = 17) (hih : ih < 2 ^ 64) (hil : il < 2 ^ 64) (hip : ip < 65536) (hop : op < 2 ^ 31) (dw1 : kb ≠ kw) (dw2 : ka ≠ kw) {a : Nat} (ha : a + 16 ≤ n) : WR (S := (Nat → UInt8)) l yX3_putInner cX3_putInner 3 none 2 0 0 49 [.ref b, .int (nI a), .ref ow] D cy ws (fun _ => none) (fun g => g = tg_inn f a ih il) (fun g => wB ws kb ka b ar N cy g n) := by
  refine WRv (by decide) (lv0 := [(0, .ref b), (1, .int (nI a)), (2, .ref ow)]) rfl (Nat.le_of_ble_eq_true rfl) ?_
  intro p e s m args below meth c ls A Q S hnm hP hK hD hS hA hend hl
  have hx := S.1
  have hb := S.2.1
  have hown : s.vm.findClass RX3 = some m.cls := S.2.2.2.1
  have ht : ∀ w ∈ lw_g, w.before args s = true := fun w h => S.2.2.2.2 w (List.mem_cons_of_mem _ h)
  have hne : kb ≠ ka := lst_ne hb0 ha0 (fun z => by cases z)
  have hP : va_P D vwCl (wB ws kb ka b ar N cy f n) s.heap := by rw [wB_self hb0 ha0]; exact hP
  have hD : va_D A (wB ws kb ka b ar N cy f n) := by rw [wB_self hb0 ha0]; exact hD
  refine lv_aload_n hx hb dX3_putInner_0 rfl (lv_at hl 0 rfl) ?_
  refine lv_iload_n hx hb dX3_putInner_1 rfl (lv_at hl 1 rfl) ?_
  refine lv_aload_n hx hb dX3_putInner_2 rfl (lv_at hl 2 rfl) ?_
  refine va_get (ci := 1) (C := RX0) (T := TX0) (N := 6) hx hb ht iFX0 hown hK hP kw (wB_o dw1 dw2 hw0) rfl 1 (by decide) (ht _ kw2_238) (fun _ h9 => h9) rfl dX3_putInner_3 ?_
  refine wr_V S (c_X1_putEight (wB_b hne hb0) (wB_a ha0) (by omega) hN (a := a) (x := ih) (by omega) (by omega)) kw3_211 yv_X1_putEight ⟨Nat.le_of_ble_eq_true rfl, Nat.le_of_ble_eq_true rfl⟩ hK hP hD hS hA (va_recv hK hP (ci := 2) (q0 := kb) rfl (wB_b hne hb0)) rfl hl.1 rfl (Nat.le_of_ble_eq_true rfl) dX3_putInner_6 ⟨Nat.zero_le _, Nat.zero_le _⟩ (fun g_1 H locs hg_1 hP hD hS => ?_)
  rw [wB_wB hne] at hP hD
  refine W.eq (g2 := F0 m 9 ls []) rfl ?_
  refine lv_aload_n hx hb dX3_putInner_9 rfl (lv_at hl 0 rfl) ?_
  refine lv_iload_n hx hb dX3_putInner_10 rfl (lv_at hl 1 rfl) ?_
  refine nv_bipush (k := 8) hx hb dX3_putInner_11 (by decide) ?_
  refine nv_iadd hx hb dX3_putInner_13 ?_
  refine lv_aload_n hx hb dX3_putInner_14 rfl (lv_at hl 2 rfl) ?_
  refine va_get (ci := 1) (C := RX0) (T := TX0) (N := 6) hx hb ht iFX0 hown hK hP kw (wB_o dw1 dw2 hw0) rfl 2 (by decide) (ht _ kw3_1) (fun _ h9 => h9) rfl dX3_putInner_15 ?_
  refine wr_V S (c_X1_putEight (wB_b hne hb0) (wB_a ha0) (by omega) hN (a := a + 8) (x := il) (by omega) (by omega)) kw3_211 yv_X1_putEight ⟨Nat.le_of_ble_eq_true rfl, Nat.le_of_ble_eq_true rfl⟩ hK hP hD hS hA (va_recv hK hP (ci := 2) (q0 := kb) rfl (wB_b hne hb0)) rfl hl.1 rfl (Nat.le_of_ble_eq_true rfl) dX3_putInner_18 ⟨Nat.zero_le _, Nat.zero_le _⟩ (fun g_2 H locs hg_2 hP hD hS => ?_)
  rw [wB_wB hne] at hP hD
  refine W.eq (g2 := F0 m 21 ls []) rfl ?_
  exact hend _ (by rw [hg_2, hg_1] <;> rfl) hP hD hS dX3_putInner_21
theorem dX3_unreachableCode_0 : decode cX3_unreachableCode 0 = .ok (.iload_n 0, 1) := by decide +kernel
theorem dX3_unreachableCode_1 : decode cX3_unreachableCode 1 = .ok (.tableswitch 71 3 15 #[67, 71, 71, 71, 71, 71, 69, 69, 71, 71, 69, 71, 69], 67) := by decide +kernel
theorem dX3_unreachableCode_68 : decode cX3_unreachableCode 68 = .ok (.iconst 4, 1) := by decide +kernel
theorem dX3_unreachableCode_69 : decode cX3_unreachableCode 69 = .ok (.ireturn, 1) := by decide +kernel
theorem dX3_unreachableCode_70 : decode cX3_unreachableCode 70 = .ok (.iconst 1, 1) := by decide +kernel
theorem dX3_unreachableCode_71 : decode cX3_unreachableCode 71 = .ok (.ireturn, 1) := by decide +kernel
theorem dX3_unreachableCode_72 : decode cX3_unreachableCode 72 = .ok (.iconst 0, 1) := by decide +kernel
theorem dX3_unreachableCode_73 : decode cX3_unreachableCode 73 = .ok (.ireturn, 1) := by decide +kernel
theorem yv_X3_unreachableCode : YS yX3_unreachableCode cX3_unreachableCode 1 (some .int) 1 := ⟨kw3_224, kw1_22, kw3_225, by decide +kernel⟩
set_option maxHeartbeats 4000000 in
set_option maxRecDepth 100000 in
theorem c_X3_unreachableCode {l : Launch} {D : va_G} {cy : Nat → ClassId} {ws : va_W} {x : Nat} (hx0 : x < 256) : RO l yX3_unreachableCode cX3_unreachableCode 1 (some .int) 0 0 [.int (nI x)] D cy ws (.int (nI (tg_unr x))) := by
  refine ROi (by decide) (lv0 := [(0, .int (nI x))]) rfl (Nat.le_of_ble_eq_true rfl) ?_
  intro p e s m args below meth c ls Q S hP hK hend hl
  have hx := S.1
  have hb := S.2.1
  have hown : s.vm.findClass RX3 = some m.cls := S.2.2.2.1
  have ht : ∀ w ∈ lw_g, w.before args s = true := fun w h => S.2.2.2.2 w (List.mem_cons_of_mem _ h)
  refine lv_iload_n hx hb dX3_unreachableCode_0 rfl (lv_at hl 0 rfl) ?_
  by_cases hs1_0 : x = 3
  · refine lv_tableIn (off := 67) (tgt := 68) hx hb dX3_unreachableCode_1 (by rw [hs1_0]; decide) (by rw [hs1_0]; decide) (by rw [hs1_0]; decide) (by decide) ?_
    refine nv_iconst (k := 4) hx hb dX3_unreachableCode_68 rfl ?_
    exact hend ((congrArg nI (by simp only [tg_unr]; (repeat' split) <;> omega))) dX3_unreachableCode_69
  by_cases hs1_1 : x = 4
  · refine lv_tableIn (off := 71) (tgt := 72) hx hb dX3_unreachableCode_1 (by rw [hs1_1]; decide) (by rw [hs1_1]; decide) (by rw [hs1_1]; decide) (by decide) ?_
    refine nv_iconst (k := 0) hx hb dX3_unreachableCode_72 rfl ?_
    exact hend ((congrArg nI (by simp only [tg_unr]; (repeat' split) <;> omega))) dX3_unreachableCode_73
  by_cases hs1_2 : x = 5
  · refine lv_tableIn (off := 71) (tgt := 72) hx hb dX3_unreachableCode_1 (by rw [hs1_2]; decide) (by rw [hs1_2]; decide) (by rw [hs1_2]; decide) (by decide) ?_
    refine nv_iconst (k := 0) hx hb dX3_unreachableCode_72 rfl ?_
    exact hend ((congrArg nI (by simp only [tg_unr]; (repeat' split) <;> omega))) dX3_unreachableCode_73
  by_cases hs1_3 : x = 6
  · refine lv_tableIn (off := 71) (tgt := 72) hx hb dX3_unreachableCode_1 (by rw [hs1_3]; decide) (by rw [hs1_3]; decide) (by rw [hs1_3]; decide) (by decide) ?_
    refine nv_iconst (k := 0) hx hb dX3_unreachableCode_72 rfl ?_
    exact hend ((congrArg nI (by simp only [tg_unr]; (repeat' split) <;> omega))) dX3_unreachableCode_73
  by_cases hs1_4 : x = 7
  · refine lv_tableIn (off := 71) (tgt := 72) hx hb dX3_unreachableCode_1 (by rw [hs1_4]; decide) (by rw [hs1_4]; decide) (by rw [hs1_4]; decide) (by decide) ?_
    refine nv_iconst (k := 0) hx hb dX3_unreachableCode_72 rfl ?_
    exact hend ((congrArg nI (by simp only [tg_unr]; (repeat' split) <;> omega))) dX3_unreachableCode_73
  by_cases hs1_5 : x = 8
  · refine lv_tableIn (off := 71) (tgt := 72) hx hb dX3_unreachableCode_1 (by rw [hs1_5]; decide) (by rw [hs1_5]; decide) (by rw [hs1_5]; decide) (by decide) ?_
    refine nv_iconst (k := 0) hx hb dX3_unreachableCode_72 rfl ?_
    exact hend ((congrArg nI (by simp only [tg_unr]; (repeat' split) <;> omega))) dX3_unreachableCode_73
  by_cases hs1_6 : x = 9
  · refine lv_tableIn (off := 69) (tgt := 70) hx hb dX3_unreachableCode_1 (by rw [hs1_6]; decide) (by rw [hs1_6]; decide) (by rw [hs1_6]; decide) (by decide) ?_
    refine nv_iconst (k := 1) hx hb dX3_unreachableCode_70 rfl ?_
    exact hend ((congrArg nI (by simp only [tg_unr]; (repeat' split) <;> omega))) dX3_unreachableCode_71
  by_cases hs1_7 : x = 10
  · refine lv_tableIn (off := 69) (tgt := 70) hx hb dX3_unreachableCode_1 (by rw [hs1_7]; decide) (by rw [hs1_7]; decide) (by rw [hs1_7]; decide) (by decide) ?_
    refine nv_iconst (k := 1) hx hb dX3_unreachableCode_70 rfl ?_
    exact hend ((congrArg nI (by simp only [tg_unr]; (repeat' split) <;> omega))) dX3_unreachableCode_71
  by_cases hs1_8 : x = 11
  · refine lv_tableIn (off := 71) (tgt := 72) hx hb dX3_unreachableCode_1 (by rw [hs1_8]; decide) (by rw [hs1_8]; decide) (by rw [hs1_8]; decide) (by decide) ?_
    refine nv_iconst (k := 0) hx hb dX3_unreachableCode_72 rfl ?_
    exact hend ((congrArg nI (by simp only [tg_unr]; (repeat' split) <;> omega))) dX3_unreachableCode_73
  by_cases hs1_9 : x = 12
  · refine lv_tableIn (off := 71) (tgt := 72) hx hb dX3_unreachableCode_1 (by rw [hs1_9]; decide) (by rw [hs1_9]; decide) (by rw [hs1_9]; decide) (by decide) ?_
    refine nv_iconst (k := 0) hx hb dX3_unreachableCode_72 rfl ?_
    exact hend ((congrArg nI (by simp only [tg_unr]; (repeat' split) <;> omega))) dX3_unreachableCode_73
  by_cases hs1_10 : x = 13
  · refine lv_tableIn (off := 69) (tgt := 70) hx hb dX3_unreachableCode_1 (by rw [hs1_10]; decide) (by rw [hs1_10]; decide) (by rw [hs1_10]; decide) (by decide) ?_
    refine nv_iconst (k := 1) hx hb dX3_unreachableCode_70 rfl ?_
    exact hend ((congrArg nI (by simp only [tg_unr]; (repeat' split) <;> omega))) dX3_unreachableCode_71
  by_cases hs1_11 : x = 14
  · refine lv_tableIn (off := 71) (tgt := 72) hx hb dX3_unreachableCode_1 (by rw [hs1_11]; decide) (by rw [hs1_11]; decide) (by rw [hs1_11]; decide) (by decide) ?_
    refine nv_iconst (k := 0) hx hb dX3_unreachableCode_72 rfl ?_
    exact hend ((congrArg nI (by simp only [tg_unr]; (repeat' split) <;> omega))) dX3_unreachableCode_73
  by_cases hs1_12 : x = 15
  · refine lv_tableIn (off := 69) (tgt := 70) hx hb dX3_unreachableCode_1 (by rw [hs1_12]; decide) (by rw [hs1_12]; decide) (by rw [hs1_12]; decide) (by decide) ?_
    refine nv_iconst (k := 1) hx hb dX3_unreachableCode_70 rfl ?_
    exact hend ((congrArg nI (by simp only [tg_unr]; (repeat' split) <;> omega))) dX3_unreachableCode_71
  refine lv_tableOut (tgt := 72) hx hb dX3_unreachableCode_1 (by rw [nI_toInt (by omega)]; omega) (by decide) ?_
  refine nv_iconst (k := 0) hx hb dX3_unreachableCode_72 rfl ?_
  exact hend ((congrArg nI (by simp only [tg_unr]; (repeat' split) <;> omega))) dX3_unreachableCode_73
theorem dX3_putErrorKind_0 : decode cX3_putErrorKind 0 = .ok (.aload_n 0, 1) := by decide +kernel
theorem dX3_putErrorKind_1 : decode cX3_putErrorKind 1 = .ok (.bipush 21, 2) := by decide +kernel
theorem dX3_putErrorKind_3 : decode cX3_putErrorKind 3 = .ok (.invokevirtual 36, 3) := by decide +kernel
theorem dX3_putErrorKind_6 : decode cX3_putErrorKind 6 = .ok (.istore_n 2, 1) := by decide +kernel
theorem dX3_putErrorKind_7 : decode cX3_putErrorKind 7 = .ok (.aload_n 0, 1) := by decide +kernel
theorem dX3_putErrorKind_8 : decode cX3_putErrorKind 8 = .ok (.bipush 20, 2) := by decide +kernel
theorem dX3_putErrorKind_10 : decode cX3_putErrorKind 10 = .ok (.invokevirtual 36, 3) := by decide +kernel
theorem dX3_putErrorKind_13 : decode cX3_putErrorKind 13 = .ok (.bipush 11, 2) := by decide +kernel
theorem dX3_putErrorKind_15 : decode cX3_putErrorKind 15 = .ok (.if_icmp .ne 24, 3) := by decide +kernel
theorem dX3_putErrorKind_18 : decode cX3_putErrorKind 18 = .ok (.aload_n 1, 1) := by decide +kernel
theorem dX3_putErrorKind_19 : decode cX3_putErrorKind 19 = .ok (.bipush 40, 2) := by decide +kernel
theorem dX3_putErrorKind_21 : decode cX3_putErrorKind 21 = .ok (.sipush 768, 3) := by decide +kernel
theorem dX3_putErrorKind_24 : decode cX3_putErrorKind 24 = .ok (.iload_n 2, 1) := by decide +kernel
theorem dX3_putErrorKind_25 : decode cX3_putErrorKind 25 = .ok (.ior, 1) := by decide +kernel
theorem dX3_putErrorKind_26 : decode cX3_putErrorKind 26 = .ok (.invokevirtual 33, 3) := by decide +kernel
theorem dX3_putErrorKind_29 : decode cX3_putErrorKind 29 = .ok (.aload_n 1, 1) := by decide +kernel
theorem dX3_putErrorKind_30 : decode cX3_putErrorKind 30 = .ok (.bipush 44, 2) := by decide +kernel
theorem dX3_putErrorKind_32 : decode cX3_putErrorKind 32 = .ok (.iconst 0, 1) := by decide +kernel
theorem dX3_putErrorKind_33 : decode cX3_putErrorKind 33 = .ok (.invokevirtual 39, 3) := by decide +kernel
theorem dX3_putErrorKind_36 : decode cX3_putErrorKind 36 = .ok (.goto 62, 3) := by decide +kernel
theorem dX3_putErrorKind_39 : decode cX3_putErrorKind 39 = .ok (.iload_n 2, 1) := by decide +kernel
theorem dX3_putErrorKind_40 : decode cX3_putErrorKind 40 = .ok (.iconst 4, 1) := by decide +kernel
theorem dX3_putErrorKind_41 : decode cX3_putErrorKind 41 = .ok (.if_icmp .ne 36, 3) := by decide +kernel
theorem dX3_putErrorKind_44 : decode cX3_putErrorKind 44 = .ok (.aload_n 1, 1) := by decide +kernel
theorem dX3_putErrorKind_45 : decode cX3_putErrorKind 45 = .ok (.bipush 40, 2) := by decide +kernel
theorem dX3_putErrorKind_47 : decode cX3_putErrorKind 47 = .ok (.sipush 512, 3) := by decide +kernel
theorem dX3_putErrorKind_50 : decode cX3_putErrorKind 50 = .ok (.invokevirtual 33, 3) := by decide +kernel
theorem dX3_putErrorKind_53 : decode cX3_putErrorKind 53 = .ok (.aload_n 1, 1) := by decide +kernel
theorem dX3_putErrorKind_54 : decode cX3_putErrorKind 54 = .ok (.bipush 44, 2) := by decide +kernel
theorem dX3_putErrorKind_56 : decode cX3_putErrorKind 56 = .ok (.sipush 1280, 3) := by decide +kernel
theorem dX3_putErrorKind_59 : decode cX3_putErrorKind 59 = .ok (.aload_n 0, 1) := by decide +kernel
theorem dX3_putErrorKind_60 : decode cX3_putErrorKind 60 = .ok (.bipush 26, 2) := by decide +kernel
theorem dX3_putErrorKind_62 : decode cX3_putErrorKind 62 = .ok (.invokevirtual 29, 3) := by decide +kernel
theorem dX3_putErrorKind_65 : decode cX3_putErrorKind 65 = .ok (.bipush 20, 2) := by decide +kernel
theorem dX3_putErrorKind_67 : decode cX3_putErrorKind 67 = .ok (.iadd, 1) := by decide +kernel
theorem dX3_putErrorKind_68 : decode cX3_putErrorKind 68 = .ok (.invokestatic 97, 3) := by decide +kernel
theorem dX3_putErrorKind_71 : decode cX3_putErrorKind 71 = .ok (.invokevirtual 39, 3) := by decide +kernel
theorem dX3_putErrorKind_74 : decode cX3_putErrorKind 74 = .ok (.goto 24, 3) := by decide +kernel
theorem dX3_putErrorKind_77 : decode cX3_putErrorKind 77 = .ok (.aload_n 1, 1) := by decide +kernel
theorem dX3_putErrorKind_78 : decode cX3_putErrorKind 78 = .ok (.bipush 40, 2) := by decide +kernel
theorem dX3_putErrorKind_80 : decode cX3_putErrorKind 80 = .ok (.sipush 256, 3) := by decide +kernel
theorem dX3_putErrorKind_83 : decode cX3_putErrorKind 83 = .ok (.iload_n 2, 1) := by decide +kernel
theorem dX3_putErrorKind_84 : decode cX3_putErrorKind 84 = .ok (.invokestatic 100, 3) := by decide +kernel
theorem dX3_putErrorKind_87 : decode cX3_putErrorKind 87 = .ok (.ior, 1) := by decide +kernel
theorem dX3_putErrorKind_88 : decode cX3_putErrorKind 88 = .ok (.invokevirtual 33, 3) := by decide +kernel
theorem dX3_putErrorKind_91 : decode cX3_putErrorKind 91 = .ok (.aload_n 1, 1) := by decide +kernel
theorem dX3_putErrorKind_92 : decode cX3_putErrorKind 92 = .ok (.bipush 44, 2) := by decide +kernel
theorem dX3_putErrorKind_94 : decode cX3_putErrorKind 94 = .ok (.iconst 0, 1) := by decide +kernel
theorem dX3_putErrorKind_95 : decode cX3_putErrorKind 95 = .ok (.invokevirtual 39, 3) := by decide +kernel
theorem dX3_putErrorKind_98 : decode cX3_putErrorKind 98 = .ok (.return_, 1) := by decide +kernel
theorem yv_X3_putErrorKind : YS yX3_putErrorKind cX3_putErrorKind 3 none 2 := ⟨kw3_220, kw1_22, kw3_221, by decide +kernel⟩
set_option maxHeartbeats 4000000 in
set_option maxRecDepth 100000 in
theorem c_X3_putErrorKind {l : Launch} {D : va_G} {cy : Nat → ClassId} {ws : va_W} {kb ka b ar N n : Nat} {f : Nat → UInt8} (hb0 : ws[kb]? = some (b, .inr (2, [.ref ar, .int (nI n)]))) (ha0 : ws[ka]? = some (ar, .inl (cy 0, N, .inl (bt f)))) (hnN : n ≤ N) (hN : N ≤ 1700) {ki kai bi ai Ni ni : Nat} {fi : Nat → UInt8} (hi0 : ws[ki]? = some (bi, .inr (2, [.ref ai, .int (nI ni)]))) (hi1 : ws[kai]? = some (ai, .inl (cy 0, Ni, .inl (bt fi)))) (hniN : ni ≤ Ni) (hNi : Ni ≤ 1700) (di1 : kb ≠ ki) (di2 : ka ≠ ki) (di3 : kb ≠ kai) (di4 : ka ≠ kai) (hn48 : 48 ≤ n) : WR (S := (Nat → UInt8)) l yX3_putErrorKind cX3_putErrorKind 3 none 2 0 0 48 [.ref bi, .ref b] D cy ws (fun _ => none) (fun g => g = tg_kind (tg_rd fi ni) f) (fun g => wB ws kb ka b ar N cy g n) := by
  refine WRv (by decide) (lv0 := [(0, .ref bi), (1, .ref b)]) rfl (Nat.le_of_ble_eq_true rfl) ?_
  intro p e s m args below meth c ls A Q S hnm hP hK hD hS hA hend hl
  have hx := S.1
  have hb := S.2.1
  have hown : s.vm.findClass RX3 = some m.cls := S.2.2.2.1
  have ht : ∀ w ∈ lw_g, w.before args s = true := fun w h => S.2.2.2.2 w (List.mem_cons_of_mem _ h)
  have hne : kb ≠ ka := lst_ne hb0 ha0 (fun z => by cases z)
  have hP : va_P D vwCl (wB ws kb ka b ar N cy f n) s.heap := by rw [wB_self hb0 ha0]; exact hP
  have hD : va_D A (wB ws kb ka b ar N cy f n) := by rw [wB_self hb0 ha0]; exact hD
  refine lv_aload_n hx hb dX3_putErrorKind_0 rfl (lv_at hl 0 rfl) ?_
  refine nv_bipush (k := 21) hx hb dX3_putErrorKind_1 (by decide) ?_
  refine ro_V S (c_X1_octet (PK_of (wB_o di1 di2 hi0) (wB_o di3 di4 hi1) hniN hNi) (k := 21) (by omega)) kw3_130 yv_X1_octet ⟨Nat.le_of_ble_eq_true rfl, Nat.le_of_ble_eq_true rfl⟩ hK hP (va_recv hK hP (ci := 2) (q0 := ki) rfl (wB_o di1 di2 hi0)) rfl hl.1 rfl (Nat.le_of_ble_eq_true rfl) dX3_putErrorKind_3 ⟨Nat.zero_le _, Nat.zero_le _⟩ ?_
  have hq3 := tg_rd_lt fi ni 21
  refine lv_istore_n (lv' := [(2, .int (nI (tg_rd fi ni 21))), (0, .ref bi), (1, .ref b)]) hx hb dX3_putErrorKind_6 rfl hl (by decide) rfl (fun ls hl => ?_)
  refine lv_aload_n hx hb dX3_putErrorKind_7 rfl (lv_at hl 1 rfl) ?_
  refine nv_bipush (k := 20) hx hb dX3_putErrorKind_8 (by decide) ?_
  refine ro_V S (c_X1_octet (PK_of (wB_o di1 di2 hi0) (wB_o di3 di4 hi1) hniN hNi) (k := 20) (by omega)) kw3_130 yv_X1_octet ⟨Nat.le_of_ble_eq_true rfl, Nat.le_of_ble_eq_true rfl⟩ hK hP (va_recv hK hP (ci := 2) (q0 := ki) rfl (wB_o di1 di2 hi0)) rfl hl.1 rfl (Nat.le_of_ble_eq_true rfl) dX3_putErrorKind_10 ⟨Nat.zero_le _, Nat.zero_le _⟩ ?_
  have hq10 := tg_rd_lt fi ni 20
  refine nv_bipush (k := 11) hx hb dX3_putErrorKind_13 (by decide) ?_
  refine nv_icmp_ne (tgt := 39) hx hb dX3_putErrorKind_15 (by decide) (by omega) (by omega) (fun h15 => ?_) (fun h15 => ?_)
  · skip
    refine lv_iload_n hx hb dX3_putErrorKind_39 rfl (lv_at hl 0 rfl) ?_
    refine nv_iconst (k := 4) hx hb dX3_putErrorKind_40 rfl ?_
    refine nv_icmp_ne (tgt := 77) hx hb dX3_putErrorKind_41 (by decide) (by omega) (by omega) (fun h41 => ?_) (fun h41 => ?_)
    · skip
      refine lv_aload_n hx hb dX3_putErrorKind_77 rfl (lv_at hl 2 rfl) ?_
      refine nv_bipush (k := 40) hx hb dX3_putErrorKind_78 (by decide) ?_
      refine nv_sipush (k := 256) hx hb dX3_putErrorKind_80 (by decide) ?_
      refine lv_iload_n hx hb dX3_putErrorKind_83 rfl (lv_at hl 0 rfl) ?_
      refine ro_S S (c_X3_unreachableCode (x := tg_rd fi ni 21) (by omega)) kw3_223 yv_X3_unreachableCode ⟨Nat.le_of_ble_eq_true rfl, Nat.le_of_ble_eq_true rfl⟩ hK hP rfl hl.1 rfl (Nat.le_of_ble_eq_true rfl) dX3_putErrorKind_84 ⟨Nat.zero_le _, Nat.zero_le _⟩ ?_
      have hq84 := tg_unr_le (tg_rd fi ni 21)
      refine nv_iorc (k := 8) (q := 1) hx hb (by decide) (by omega) dX3_putErrorKind_87 ?_
      refine wr_V S (c_X1_putPair (wB_b hne hb0) (wB_a ha0) (by omega) hN (a := 40) (x := 256 + tg_unr (tg_rd fi ni 21)) (by omega) (by omega)) kw3_126 yv_X1_putPair ⟨Nat.le_of_ble_eq_true rfl, Nat.le_of_ble_eq_true rfl⟩ hK hP hD hS hA (va_recv hK hP (ci := 2) (q0 := kb) rfl (wB_b hne hb0)) rfl hl.1 rfl (Nat.le_of_ble_eq_true rfl) dX3_putErrorKind_88 ⟨Nat.zero_le _, Nat.zero_le _⟩ (fun g_1 H locs hg_1 hP hD hS => ?_)
      rw [wB_wB hne] at hP hD
      refine W.eq (g2 := F0 m 91 ls []) rfl ?_
      refine lv_aload_n hx hb dX3_putErrorKind_91 rfl (lv_at hl 2 rfl) ?_
      refine nv_bipush (k := 44) hx hb dX3_putErrorKind_92 (by decide) ?_
      refine nv_iconst (k := 0) hx hb dX3_putErrorKind_94 rfl ?_
      refine wr_V S (c_X1_putQuad (wB_b hne hb0) (wB_a ha0) (by omega) hN (a := 44) (x := 0) (by omega) (by omega)) kw3_131 yv_X1_putQuad ⟨Nat.le_of_ble_eq_true rfl, Nat.le_of_ble_eq_true rfl⟩ hK hP hD hS hA (va_recv hK hP (ci := 2) (q0 := kb) rfl (wB_b hne hb0)) rfl hl.1 rfl (Nat.le_of_ble_eq_true rfl) dX3_putErrorKind_95 ⟨Nat.zero_le _, Nat.zero_le _⟩ (fun g_2 H locs hg_2 hP hD hS => ?_)
      rw [wB_wB hne] at hP hD
      refine W.eq (g2 := F0 m 98 ls []) rfl ?_
      exact hend _ (by rw [hg_2, hg_1]; simp only [tg_kind]; first | rw [if_pos (by assumption)] | rw [if_neg (by assumption), if_pos (by assumption)] | rw [if_neg (by assumption), if_neg (by assumption)]) hP hD hS dX3_putErrorKind_98
    refine lv_aload_n hx hb dX3_putErrorKind_44 rfl (lv_at hl 2 rfl) ?_
    refine nv_bipush (k := 40) hx hb dX3_putErrorKind_45 (by decide) ?_
    refine nv_sipush (k := 512) hx hb dX3_putErrorKind_47 (by decide) ?_
    refine wr_V S (c_X1_putPair (wB_b hne hb0) (wB_a ha0) (by omega) hN (a := 40) (x := 512) (by omega) (by omega)) kw3_126 yv_X1_putPair ⟨Nat.le_of_ble_eq_true rfl, Nat.le_of_ble_eq_true rfl⟩ hK hP hD hS hA (va_recv hK hP (ci := 2) (q0 := kb) rfl (wB_b hne hb0)) rfl hl.1 rfl (Nat.le_of_ble_eq_true rfl) dX3_putErrorKind_50 ⟨Nat.zero_le _, Nat.zero_le _⟩ (fun g_3 H locs hg_3 hP hD hS => ?_)
    rw [wB_wB hne] at hP hD
    refine W.eq (g2 := F0 m 53 ls []) rfl ?_
    refine lv_aload_n hx hb dX3_putErrorKind_53 rfl (lv_at hl 2 rfl) ?_
    refine nv_bipush (k := 44) hx hb dX3_putErrorKind_54 (by decide) ?_
    refine nv_sipush (k := 1280) hx hb dX3_putErrorKind_56 (by decide) ?_
    refine lv_aload_n hx hb dX3_putErrorKind_59 rfl (lv_at hl 1 rfl) ?_
    refine nv_bipush (k := 26) hx hb dX3_putErrorKind_60 (by decide) ?_
    refine ro_V S (c_X1_pair (PK_of (wB_o di1 di2 hi0) (wB_o di3 di4 hi1) hniN hNi) (a := 26) (by omega)) kw3_125 yv_X1_pair ⟨Nat.le_of_ble_eq_true rfl, Nat.le_of_ble_eq_true rfl⟩ hK hP (va_recv hK hP (ci := 2) (q0 := ki) rfl (wB_o di1 di2 hi0)) rfl hl.1 rfl (Nat.le_of_ble_eq_true rfl) dX3_putErrorKind_62 ⟨Nat.zero_le _, Nat.zero_le _⟩ ?_
    have hq62 := tg_pr_lt fi ni 26
    refine nv_bipush (k := 20) hx hb dX3_putErrorKind_65 (by decide) ?_
    refine nv_iadd hx hb dX3_putErrorKind_67 ?_
    refine nv_max hx hb (S.2.2.1.trans hl.1.symm) hown (ht _ kw3_222) (ht _ kw1_38) (ht _ kw1_3) (ht _ kw1_39) (Nat.le_of_ble_eq_true rfl) (Nat.le_of_ble_eq_true rfl) (Nat.zero_le _) (Nat.zero_le _) (by omega) (by omega) dX3_putErrorKind_68 ?_
    refine wr_V S (c_X1_putQuad (wB_b hne hb0) (wB_a ha0) (by omega) hN (a := 44) (x := max 1280 ((tg_pr (tg_rd fi ni) 26) + 20)) (by omega) (by omega)) kw3_131 yv_X1_putQuad ⟨Nat.le_of_ble_eq_true rfl, Nat.le_of_ble_eq_true rfl⟩ hK hP hD hS hA (va_recv hK hP (ci := 2) (q0 := kb) rfl (wB_b hne hb0)) rfl hl.1 rfl (Nat.le_of_ble_eq_true rfl) dX3_putErrorKind_71 ⟨Nat.zero_le _, Nat.zero_le _⟩ (fun g_4 H locs hg_4 hP hD hS => ?_)
    rw [wB_wB hne] at hP hD
    refine W.eq (g2 := F0 m 74 ls []) rfl ?_
    refine lv_goto (tgt := 98) hx hb dX3_putErrorKind_74 (by decide) ?_
    exact hend _ (by rw [hg_4, hg_3]; simp only [tg_kind]; first | rw [if_pos (by assumption)] | rw [if_neg (by assumption), if_pos (by assumption)] | rw [if_neg (by assumption), if_neg (by assumption)]) hP hD hS dX3_putErrorKind_98
  refine lv_aload_n hx hb dX3_putErrorKind_18 rfl (lv_at hl 2 rfl) ?_
  refine nv_bipush (k := 40) hx hb dX3_putErrorKind_19 (by decide) ?_
  refine nv_sipush (k := 768) hx hb dX3_putErrorKind_21 (by decide) ?_
  refine lv_iload_n hx hb dX3_putErrorKind_24 rfl (lv_at hl 0 rfl) ?_
  refine nv_iorc (k := 8) (q := 3) hx hb (by decide) (by omega) dX3_putErrorKind_25 ?_
  refine wr_V S (c_X1_putPair (wB_b hne hb0) (wB_a ha0) (by omega) hN (a := 40) (x := 768 + tg_rd fi ni 21) (by omega) (by omega)) kw3_126 yv_X1_putPair ⟨Nat.le_of_ble_eq_true rfl, Nat.le_of_ble_eq_true rfl⟩ hK hP hD hS hA (va_recv hK hP (ci := 2) (q0 := kb) rfl (wB_b hne hb0)) rfl hl.1 rfl (Nat.le_of_ble_eq_true rfl) dX3_putErrorKind_26 ⟨Nat.zero_le _, Nat.zero_le _⟩ (fun g_5 H locs hg_5 hP hD hS => ?_)
  rw [wB_wB hne] at hP hD
  refine W.eq (g2 := F0 m 29 ls []) rfl ?_
  refine lv_aload_n hx hb dX3_putErrorKind_29 rfl (lv_at hl 2 rfl) ?_
  refine nv_bipush (k := 44) hx hb dX3_putErrorKind_30 (by decide) ?_
  refine nv_iconst (k := 0) hx hb dX3_putErrorKind_32 rfl ?_
  refine wr_V S (c_X1_putQuad (wB_b hne hb0) (wB_a ha0) (by omega) hN (a := 44) (x := 0) (by omega) (by omega)) kw3_131 yv_X1_putQuad ⟨Nat.le_of_ble_eq_true rfl, Nat.le_of_ble_eq_true rfl⟩ hK hP hD hS hA (va_recv hK hP (ci := 2) (q0 := kb) rfl (wB_b hne hb0)) rfl hl.1 rfl (Nat.le_of_ble_eq_true rfl) dX3_putErrorKind_33 ⟨Nat.zero_le _, Nat.zero_le _⟩ (fun g_6 H locs hg_6 hP hD hS => ?_)
  rw [wB_wB hne] at hP hD
  refine W.eq (g2 := F0 m 36 ls []) rfl ?_
  refine lv_goto (tgt := 98) hx hb dX3_putErrorKind_36 (by decide) ?_
  exact hend _ (by rw [hg_6, hg_5]; simp only [tg_kind]; first | rw [if_pos (by assumption)] | rw [if_neg (by assumption), if_pos (by assumption)] | rw [if_neg (by assumption), if_neg (by assumption)]) hP hD hS dX3_putErrorKind_98
theorem dX9_putPart_0 : decode cX9_putPart 0 = .ok (.iload_n 1, 1) := by decide +kernel
theorem dX9_putPart_1 : decode cX9_putPart 1 = .ok (.aload_n 0, 1) := by decide +kernel
theorem dX9_putPart_2 : decode cX9_putPart 2 = .ok (.iload_n 1, 1) := by decide +kernel
theorem dX9_putPart_3 : decode cX9_putPart 3 = .ok (.invokestatic 19, 3) := by decide +kernel
theorem dX9_putPart_6 : decode cX9_putPart 6 = .ok (.invokestatic 35, 3) := by decide +kernel
theorem dX9_putPart_9 : decode cX9_putPart 9 = .ok (.iadd, 1) := by decide +kernel
theorem dX9_putPart_10 : decode cX9_putPart 10 = .ok (.istore_n 2, 1) := by decide +kernel
theorem dX9_putPart_11 : decode cX9_putPart 11 = .ok (.aload_n 0, 1) := by decide +kernel
theorem dX9_putPart_12 : decode cX9_putPart 12 = .ok (.iload_n 2, 1) := by decide +kernel
theorem dX9_putPart_13 : decode cX9_putPart 13 = .ok (.aload_n 0, 1) := by decide +kernel
theorem dX9_putPart_14 : decode cX9_putPart 14 = .ok (.aload_n 0, 1) := by decide +kernel
theorem dX9_putPart_15 : decode cX9_putPart 15 = .ok (.invokevirtual 38, 3) := by decide +kernel
theorem dX9_putPart_18 : decode cX9_putPart 18 = .ok (.iload_n 1, 1) := by decide +kernel
theorem dX9_putPart_19 : decode cX9_putPart 19 = .ok (.iload_n 2, 1) := by decide +kernel
theorem dX9_putPart_20 : decode cX9_putPart 20 = .ok (.invokestatic 42, 3) := by decide +kernel
theorem dX9_putPart_23 : decode cX9_putPart 23 = .ok (.invokevirtual 45, 3) := by decide +kernel
theorem dX9_putPart_26 : decode cX9_putPart 26 = .ok (.return_, 1) := by decide +kernel
theorem yv_X9_putPart : YS yX9_putPart cX9_putPart 3 none 2 := ⟨kw3_142, kw1_13, kw3_143, by decide +kernel⟩
set_option maxHeartbeats 4000000 in
set_option maxRecDepth 100000 in
theorem c_X9_putPart {l : Launch} {D : va_G} {cy : Nat → ClassId} {ws : va_W} {kb ka b ar N n : Nat} {f : Nat → UInt8} (hb0 : ws[kb]? = some (b, .inr (2, [.ref ar, .int (nI n)]))) (ha0 : ws[ka]? = some (ar, .inl (cy 0, N, .inl (bt f)))) (hnN : n ≤ N) (hN : N ≤ 1700) {hd q : Nat} (hh : hd = 20 ∨ hd = 40) (hq : tg_proto (tg_rd f n) hd = q) (hs : hd + tg_sumAt q + 2 ≤ n) : WR (S := (Nat → UInt8)) l yX9_putPart cX9_putPart 3 none 3 0 0 72 [.ref b, .int (nI hd)] D cy ws (fun _ => none) (fun g => g = tg_fin f n hd q) (fun g => wB ws kb ka b ar N cy g n) := by
  refine WRv (by decide) (lv0 := [(0, .ref b), (1, .int (nI hd))]) rfl (Nat.le_of_ble_eq_true rfl) ?_
  intro p e s m args below meth c ls A Q S hnm hP hK hD hS hA hend hl
  have hx := S.1
  have hb := S.2.1
  have hown : s.vm.findClass RX9 = some m.cls := S.2.2.2.1
  have ht : ∀ w ∈ lw_g, w.before args s = true := fun w h => S.2.2.2.2 w (List.mem_cons_of_mem _ h)
  have hne : kb ≠ ka := lst_ne hb0 ha0 (fun z => by cases z)
  have hP : va_P D vwCl (wB ws kb ka b ar N cy f n) s.heap := by rw [wB_self hb0 ha0]; exact hP
  have hD : va_D A (wB ws kb ka b ar N cy f n) := by rw [wB_self hb0 ha0]; exact hD
  subst hq
  have hsl := tg_sumAt_le (tg_proto (tg_rd f n) hd)
  refine lv_iload_n hx hb dX9_putPart_0 rfl (lv_at hl 1 rfl) ?_
  refine lv_aload_n hx hb dX9_putPart_1 rfl (lv_at hl 0 rfl) ?_
  refine lv_iload_n hx hb dX9_putPart_2 rfl (lv_at hl 1 rfl) ?_
  refine ro_S S (c_X4_protocolOf (PK_of (wB_b hne hb0) (wB_a ha0) (by omega) hN) (hd := hd) (by omega)) kw2_47 yv_X4_protocolOf ⟨Nat.le_of_ble_eq_true rfl, Nat.le_of_ble_eq_true rfl⟩ hK hP rfl hl.1 rfl (Nat.le_of_ble_eq_true rfl) dX9_putPart_3 ⟨Nat.zero_le _, Nat.zero_le _⟩ ?_
  have hq3 := tg_proto_lt f n hd
  refine ro_S S (c_X4_sumAt (q := tg_proto (tg_rd f n) hd) (by omega)) kw2_50 yv_X4_sumAt ⟨Nat.le_of_ble_eq_true rfl, Nat.le_of_ble_eq_true rfl⟩ hK hP rfl hl.1 rfl (Nat.le_of_ble_eq_true rfl) dX9_putPart_6 ⟨Nat.zero_le _, Nat.zero_le _⟩ ?_
  have hq6 := tg_sumAt_le (tg_proto (tg_rd f n) hd)
  refine nv_iadd hx hb dX9_putPart_9 ?_
  refine lv_istore_n (lv' := [(2, .int (nI (hd + (tg_sumAt (tg_proto (tg_rd f n) hd))))), (0, .ref b), (1, .int (nI hd))]) hx hb dX9_putPart_10 rfl hl (by decide) rfl (fun ls hl => ?_)
  refine lv_aload_n hx hb dX9_putPart_11 rfl (lv_at hl 1 rfl) ?_
  refine lv_iload_n hx hb dX9_putPart_12 rfl (lv_at hl 0 rfl) ?_
  refine lv_aload_n hx hb dX9_putPart_13 rfl (lv_at hl 1 rfl) ?_
  refine lv_aload_n hx hb dX9_putPart_14 rfl (lv_at hl 1 rfl) ?_
  refine ro_V S (c_X1_length (PK_of (wB_b hne hb0) (wB_a ha0) (by omega) hN)) kw2_54 yv_X1_length ⟨Nat.le_of_ble_eq_true rfl, Nat.le_of_ble_eq_true rfl⟩ hK hP (va_recv hK hP (ci := 2) (q0 := kb) rfl (wB_b hne hb0)) rfl hl.1 rfl (Nat.le_of_ble_eq_true rfl) dX9_putPart_15 ⟨Nat.zero_le _, Nat.zero_le _⟩ ?_
  refine lv_iload_n hx hb dX9_putPart_18 rfl (lv_at hl 2 rfl) ?_
  refine lv_iload_n hx hb dX9_putPart_19 rfl (lv_at hl 0 rfl) ?_
  refine ro_S S (c_X9_ofPart (PK_of (wB_b hne hb0) (wB_a ha0) (by omega) hN) (z := n) (hd := hd) (w := hd + (tg_sumAt (tg_proto (tg_rd f n) hd))) (by omega) (by omega) (by omega) (by omega)) kw2_55 yv_X9_ofPart ⟨Nat.le_of_ble_eq_true rfl, Nat.le_of_ble_eq_true rfl⟩ hK hP rfl hl.1 rfl (Nat.le_of_ble_eq_true rfl) dX9_putPart_20 ⟨Nat.zero_le _, Nat.zero_le _⟩ ?_
  have hq20 := tg_sum_le (tg_rd f n) hd n (hd + (tg_sumAt (tg_proto (tg_rd f n) hd))) (tg_proto (tg_rd f n) hd)
  refine wr_V S (c_X1_putPair (wB_b hne hb0) (wB_a ha0) (by omega) hN (a := hd + (tg_sumAt (tg_proto (tg_rd f n) hd))) (x := tg_sum (tg_rd f n) hd n (hd + (tg_sumAt (tg_proto (tg_rd f n) hd))) (tg_proto (tg_rd f n) hd)) (by omega) (by omega)) kw3_144 yv_X1_putPair ⟨Nat.le_of_ble_eq_true rfl, Nat.le_of_ble_eq_true rfl⟩ hK hP hD hS hA (va_recv hK hP (ci := 2) (q0 := kb) rfl (wB_b hne hb0)) rfl hl.1 rfl (Nat.le_of_ble_eq_true rfl) dX9_putPart_23 ⟨Nat.zero_le _, Nat.zero_le _⟩ (fun g_1 H locs hg_1 hP hD hS => ?_)
  rw [wB_wB hne] at hP hD
  refine W.eq (g2 := F0 m 26 ls []) rfl ?_
  exact hend _ (by rw [hg_1]; try subst_vars; rfl) hP hD hS dX9_putPart_26
theorem dX3_toFour_0 : decode cX3_toFour 0 = .ok (.aload_n 2, 1) := by decide +kernel
theorem dX3_toFour_1 : decode cX3_toFour 1 = .ok (.getfield 9, 3) := by decide +kernel
theorem dX3_toFour_4 : decode cX3_toFour 4 = .ok (.istore 6, 2) := by decide +kernel
theorem dX3_toFour_6 : decode cX3_toFour 6 = .ok (.aload_n 0, 1) := by decide +kernel
theorem dX3_toFour_7 : decode cX3_toFour 7 = .ok (.invokevirtual 15, 3) := by decide +kernel
theorem dX3_toFour_10 : decode cX3_toFour 10 = .ok (.bipush 40, 2) := by decide +kernel
theorem dX3_toFour_12 : decode cX3_toFour 12 = .ok (.isub, 1) := by decide +kernel
theorem dX3_toFour_13 : decode cX3_toFour 13 = .ok (.istore 7, 2) := by decide +kernel
theorem dX3_toFour_15 : decode cX3_toFour 15 = .ok (.aload_n 1, 1) := by decide +kernel
theorem dX3_toFour_16 : decode cX3_toFour 16 = .ok (.bipush 20, 2) := by decide +kernel
theorem dX3_toFour_18 : decode cX3_toFour 18 = .ok (.iload 7, 2) := by decide +kernel
theorem dX3_toFour_20 : decode cX3_toFour 20 = .ok (.iadd, 1) := by decide +kernel
theorem dX3_toFour_21 : decode cX3_toFour 21 = .ok (.invokevirtual 21, 3) := by decide +kernel
theorem dX3_toFour_24 : decode cX3_toFour 24 = .ok (.aload_n 1, 1) := by decide +kernel
theorem dX3_toFour_25 : decode cX3_toFour 25 = .ok (.iconst 0, 1) := by decide +kernel
theorem dX3_toFour_26 : decode cX3_toFour 26 = .ok (.bipush 69, 2) := by decide +kernel
theorem dX3_toFour_28 : decode cX3_toFour 28 = .ok (.invokevirtual 25, 3) := by decide +kernel
theorem dX3_toFour_31 : decode cX3_toFour 31 = .ok (.aload_n 1, 1) := by decide +kernel
theorem dX3_toFour_32 : decode cX3_toFour 32 = .ok (.iconst 1, 1) := by decide +kernel
theorem dX3_toFour_33 : decode cX3_toFour 33 = .ok (.aload_n 0, 1) := by decide +kernel
theorem dX3_toFour_34 : decode cX3_toFour 34 = .ok (.iconst 0, 1) := by decide +kernel
theorem dX3_toFour_35 : decode cX3_toFour 35 = .ok (.invokevirtual 29, 3) := by decide +kernel
theorem dX3_toFour_38 : decode cX3_toFour 38 = .ok (.iconst 4, 1) := by decide +kernel
theorem dX3_toFour_39 : decode cX3_toFour 39 = .ok (.iushr, 1) := by decide +kernel
theorem dX3_toFour_40 : decode cX3_toFour 40 = .ok (.invokevirtual 25, 3) := by decide +kernel
theorem dX3_toFour_43 : decode cX3_toFour 43 = .ok (.aload_n 1, 1) := by decide +kernel
theorem dX3_toFour_44 : decode cX3_toFour 44 = .ok (.iconst 2, 1) := by decide +kernel
theorem dX3_toFour_45 : decode cX3_toFour 45 = .ok (.bipush 20, 2) := by decide +kernel
theorem dX3_toFour_47 : decode cX3_toFour 47 = .ok (.iload 7, 2) := by decide +kernel
theorem dX3_toFour_49 : decode cX3_toFour 49 = .ok (.iadd, 1) := by decide +kernel
theorem dX3_toFour_50 : decode cX3_toFour 50 = .ok (.invokevirtual 33, 3) := by decide +kernel
theorem dX3_toFour_53 : decode cX3_toFour 53 = .ok (.aload_n 1, 1) := by decide +kernel
theorem dX3_toFour_54 : decode cX3_toFour 54 = .ok (.iconst 4, 1) := by decide +kernel
theorem dX3_toFour_55 : decode cX3_toFour 55 = .ok (.iload 5, 2) := by decide +kernel
theorem dX3_toFour_57 : decode cX3_toFour 57 = .ok (.invokevirtual 33, 3) := by decide +kernel
theorem dX3_toFour_60 : decode cX3_toFour 60 = .ok (.aload_n 1, 1) := by decide +kernel
theorem dX3_toFour_61 : decode cX3_toFour 61 = .ok (.bipush 6, 2) := by decide +kernel
theorem dX3_toFour_63 : decode cX3_toFour 63 = .ok (.iload 5, 2) := by decide +kernel
theorem dX3_toFour_65 : decode cX3_toFour 65 = .ok (.ifCond .ne 9, 3) := by decide +kernel
theorem dX3_toFour_68 : decode cX3_toFour 68 = .ok (.sipush 16384, 3) := by decide +kernel
theorem dX3_toFour_71 : decode cX3_toFour 71 = .ok (.goto 4, 3) := by decide +kernel
theorem dX3_toFour_74 : decode cX3_toFour 74 = .ok (.iconst 0, 1) := by decide +kernel
theorem dX3_toFour_75 : decode cX3_toFour 75 = .ok (.invokevirtual 33, 3) := by decide +kernel
theorem dX3_toFour_78 : decode cX3_toFour 78 = .ok (.aload_n 1, 1) := by decide +kernel
theorem dX3_toFour_79 : decode cX3_toFour 79 = .ok (.bipush 8, 2) := by decide +kernel
theorem dX3_toFour_81 : decode cX3_toFour 81 = .ok (.aload_n 0, 1) := by decide +kernel
theorem dX3_toFour_82 : decode cX3_toFour 82 = .ok (.bipush 7, 2) := by decide +kernel
theorem dX3_toFour_84 : decode cX3_toFour 84 = .ok (.invokevirtual 36, 3) := by decide +kernel
theorem dX3_toFour_87 : decode cX3_toFour 87 = .ok (.iconst 1, 1) := by decide +kernel
theorem dX3_toFour_88 : decode cX3_toFour 88 = .ok (.isub, 1) := by decide +kernel
theorem dX3_toFour_89 : decode cX3_toFour 89 = .ok (.invokevirtual 25, 3) := by decide +kernel
theorem dX3_toFour_92 : decode cX3_toFour 92 = .ok (.aload_n 1, 1) := by decide +kernel
theorem dX3_toFour_93 : decode cX3_toFour 93 = .ok (.bipush 9, 2) := by decide +kernel
theorem dX3_toFour_95 : decode cX3_toFour 95 = .ok (.iload 6, 2) := by decide +kernel
theorem dX3_toFour_97 : decode cX3_toFour 97 = .ok (.invokevirtual 25, 3) := by decide +kernel
theorem dX3_toFour_100 : decode cX3_toFour 100 = .ok (.aload_n 1, 1) := by decide +kernel
theorem dX3_toFour_101 : decode cX3_toFour 101 = .ok (.bipush 12, 2) := by decide +kernel
theorem dX3_toFour_103 : decode cX3_toFour 103 = .ok (.iload_n 3, 1) := by decide +kernel
theorem dX3_toFour_104 : decode cX3_toFour 104 = .ok (.invokevirtual 39, 3) := by decide +kernel
theorem dX3_toFour_107 : decode cX3_toFour 107 = .ok (.aload_n 1, 1) := by decide +kernel
theorem dX3_toFour_108 : decode cX3_toFour 108 = .ok (.bipush 16, 2) := by decide +kernel
theorem dX3_toFour_110 : decode cX3_toFour 110 = .ok (.iload 4, 2) := by decide +kernel
theorem dX3_toFour_112 : decode cX3_toFour 112 = .ok (.invokevirtual 39, 3) := by decide +kernel
theorem dX3_toFour_115 : decode cX3_toFour 115 = .ok (.aload_n 1, 1) := by decide +kernel
theorem dX3_toFour_116 : decode cX3_toFour 116 = .ok (.bipush 10, 2) := by decide +kernel
theorem dX3_toFour_118 : decode cX3_toFour 118 = .ok (.aload_n 1, 1) := by decide +kernel
theorem dX3_toFour_119 : decode cX3_toFour 119 = .ok (.invokestatic 42, 3) := by decide +kernel
theorem dX3_toFour_122 : decode cX3_toFour 122 = .ok (.invokevirtual 33, 3) := by decide +kernel
theorem dX3_toFour_125 : decode cX3_toFour 125 = .ok (.aload_n 1, 1) := by decide +kernel
theorem dX3_toFour_126 : decode cX3_toFour 126 = .ok (.aload_n 0, 1) := by decide +kernel
theorem dX3_toFour_127 : decode cX3_toFour 127 = .ok (.bipush 40, 2) := by decide +kernel
theorem dX3_toFour_129 : decode cX3_toFour 129 = .ok (.bipush 20, 2) := by decide +kernel
theorem dX3_toFour_131 : decode cX3_toFour 131 = .ok (.iload 7, 2) := by decide +kernel
theorem dX3_toFour_133 : decode cX3_toFour 133 = .ok (.invokevirtual 48, 3) := by decide +kernel
theorem dX3_toFour_136 : decode cX3_toFour 136 = .ok (.aload_n 1, 1) := by decide +kernel
theorem dX3_toFour_137 : decode cX3_toFour 137 = .ok (.bipush 20, 2) := by decide +kernel
theorem dX3_toFour_139 : decode cX3_toFour 139 = .ok (.iload 6, 2) := by decide +kernel
theorem dX3_toFour_141 : decode cX3_toFour 141 = .ok (.invokestatic 52, 3) := by decide +kernel
theorem dX3_toFour_144 : decode cX3_toFour 144 = .ok (.iadd, 1) := by decide +kernel
theorem dX3_toFour_145 : decode cX3_toFour 145 = .ok (.aload_n 2, 1) := by decide +kernel
theorem dX3_toFour_146 : decode cX3_toFour 146 = .ok (.getfield 57, 3) := by decide +kernel
theorem dX3_toFour_149 : decode cX3_toFour 149 = .ok (.invokevirtual 33, 3) := by decide +kernel
theorem dX3_toFour_152 : decode cX3_toFour 152 = .ok (.iload 6, 2) := by decide +kernel
theorem dX3_toFour_154 : decode cX3_toFour 154 = .ok (.iconst 1, 1) := by decide +kernel
theorem dX3_toFour_155 : decode cX3_toFour 155 = .ok (.if_icmp .ne 27, 3) := by decide +kernel
theorem dX3_toFour_158 : decode cX3_toFour 158 = .ok (.aload_n 1, 1) := by decide +kernel
theorem dX3_toFour_159 : decode cX3_toFour 159 = .ok (.bipush 20, 2) := by decide +kernel
theorem dX3_toFour_161 : decode cX3_toFour 161 = .ok (.aload_n 0, 1) := by decide +kernel
theorem dX3_toFour_162 : decode cX3_toFour 162 = .ok (.bipush 40, 2) := by decide +kernel
theorem dX3_toFour_164 : decode cX3_toFour 164 = .ok (.invokevirtual 36, 3) := by decide +kernel
theorem dX3_toFour_167 : decode cX3_toFour 167 = .ok (.sipush 128, 3) := by decide +kernel
theorem dX3_toFour_170 : decode cX3_toFour 170 = .ok (.if_icmp .ne 8, 3) := by decide +kernel
theorem dX3_toFour_173 : decode cX3_toFour 173 = .ok (.bipush 8, 2) := by decide +kernel
theorem dX3_toFour_175 : decode cX3_toFour 175 = .ok (.goto 4, 3) := by decide +kernel
theorem dX3_toFour_178 : decode cX3_toFour 178 = .ok (.iconst 0, 1) := by decide +kernel
theorem dX3_toFour_179 : decode cX3_toFour 179 = .ok (.invokevirtual 25, 3) := by decide +kernel
theorem dX3_toFour_182 : decode cX3_toFour 182 = .ok (.aload_n 1, 1) := by decide +kernel
theorem dX3_toFour_183 : decode cX3_toFour 183 = .ok (.bipush 20, 2) := by decide +kernel
theorem dX3_toFour_185 : decode cX3_toFour 185 = .ok (.invokestatic 60, 3) := by decide +kernel
theorem dX3_toFour_188 : decode cX3_toFour 188 = .ok (.return_, 1) := by decide +kernel
theorem yv_X3_toFour : YS yX3_toFour cX3_toFour 8 none 6 := ⟨kw3_117, kw1_22, kw3_118, by decide +kernel⟩
set_option maxHeartbeats 4000000 in
set_option maxRecDepth 100000 in
theorem c_X3_toFour {l : Launch} {D : va_G} {cy : Nat → ClassId} {ws : va_W} {kb ka b ar N n : Nat} {f : Nat → UInt8} (hb0 : ws[kb]? = some (b, .inr (2, [.ref ar, .int (nI n)]))) (ha0 : ws[ka]? = some (ar, .inl (cy 0, N, .inl (bt f)))) (hnN : n ≤ N) (hN : N ≤ 1700) {ki kai bi ai Ni ni : Nat} {fi : Nat → UInt8} (hi0 : ws[ki]? = some (bi, .inr (2, [.ref ai, .int (nI ni)]))) (hi1 : ws[kai]? = some (ai, .inl (cy 0, Ni, .inl (bt fi)))) (hniN : ni ≤ Ni) (hNi : Ni ≤ 1700) (di1 : kb ≠ ki) (di2 : ka ≠ ki) (di3 : kb ≠ kai) (di4 : ka ≠ kai) {kw ow pt ih il ip pn op : Nat} (hw0 : ws[kw]? = some (ow, .inr (1, [.int (nI pt), .long (lN ih), .long (lN il), .int (nI ip), .int (nI pn), .int (nI op)]))) (hpt : pt = 1 ∨ pt = 6 ∨ pt = 17) (hih : ih < 2 ^ 64) (hil : il < 2 ^ 64) (hip : ip < 65536) (hop : op < 2 ^ 31) (dw1 : kb ≠ kw) (dw2 : ka ≠ kw) {fa ta sp : Nat} (hfa : fa < 2 ^ 32) (hta : ta < 2 ^ 32) (hsp : sp < 65536) (hni : 40 ≤ ni) (hNo : ni ≤ N + 20) (hsz : tg_sumAt pt + 2 ≤ ni - 40) (hpz : 6 ≤ ni - 40) (hhop : 2 ≤ tg_rd fi ni 7) : WR (S := (Nat → UInt8)) l yX3_toFour cX3_toFour 8 none 4 0 0 94 [.ref bi, .ref b, .ref ow, .int (nI fa), .int (nI ta), .int (nI sp)] D cy ws (fun _ => none) (fun g => g = tg_four f fi ni pt sp fa ta op) (fun g => wB ws kb ka b ar N cy g (20 + (ni - 40))) := by
  refine WRv (by decide) (lv0 := [(0, .ref bi), (1, .ref b), (2, .ref ow), (3, .int (nI fa)), (4, .int (nI ta)), (5, .int (nI sp))]) rfl (Nat.le_of_ble_eq_true rfl) ?_
  intro p e s m args below meth c ls A Q S hnm hP hK hD hS hA hend hl
  have hx := S.1
  have hb := S.2.1
  have hown : s.vm.findClass RX3 = some m.cls := S.2.2.2.1
  have ht : ∀ w ∈ lw_g, w.before args s = true := fun w h => S.2.2.2.2 w (List.mem_cons_of_mem _ h)
  have hne : kb ≠ ka := lst_ne hb0 ha0 (fun z => by cases z)
  have hP : va_P D vwCl (wB ws kb ka b ar N cy f n) s.heap := by rw [wB_self hb0 ha0]; exact hP
  have hD : va_D A (wB ws kb ka b ar N cy f n) := by rw [wB_self hb0 ha0]; exact hD
  refine lv_aload_n hx hb dX3_toFour_0 rfl (lv_at hl 2 rfl) ?_
  refine va_get (ci := 1) (C := RX0) (T := TX0) (N := 6) hx hb ht iFX0 hown hK hP kw (wB_o dw1 dw2 hw0) rfl 0 (by decide) (ht _ kw2_234) (fun _ h9 => h9) rfl dX3_toFour_1 ?_
  refine lv_istore (lv' := [(6, .int (nI pt)), (0, .ref bi), (1, .ref b), (2, .ref ow), (3, .int (nI fa)), (4, .int (nI ta)), (5, .int (nI sp))]) hx hb dX3_toFour_4 hl (by decide) rfl (fun ls hl => ?_)
  refine lv_aload_n hx hb dX3_toFour_6 rfl (lv_at hl 1 rfl) ?_
  refine ro_V S (c_X1_length (PK_of (wB_o di1 di2 hi0) (wB_o di3 di4 hi1) hniN hNi)) kw3_119 yv_X1_length ⟨Nat.le_of_ble_eq_true rfl, Nat.le_of_ble_eq_true rfl⟩ hK hP (va_recv hK hP (ci := 2) (q0 := ki) rfl (wB_o di1 di2 hi0)) rfl hl.1 rfl (Nat.le_of_ble_eq_true rfl) dX3_toFour_7 ⟨Nat.zero_le _, Nat.zero_le _⟩ ?_
  refine nv_bipush (k := 40) hx hb dX3_toFour_10 (by decide) ?_
  refine nv_isub hx hb (by omega) dX3_toFour_12 ?_
  refine lv_istore (lv' := [(7, .int (nI (ni - 40))), (6, .int (nI pt)), (0, .ref bi), (1, .ref b), (2, .ref ow), (3, .int (nI fa)), (4, .int (nI ta)), (5, .int (nI sp))]) hx hb dX3_toFour_13 hl (by decide) rfl (fun ls hl => ?_)
  refine lv_aload_n hx hb dX3_toFour_15 rfl (lv_at hl 3 rfl) ?_
  refine nv_bipush (k := 20) hx hb dX3_toFour_16 (by decide) ?_
  refine lv_iload hx hb dX3_toFour_18 (lv_at hl 0 rfl) ?_
  refine nv_iadd hx hb dX3_toFour_20 ?_
  refine wr_V S (c_X1_resize (wB_b hne hb0) (wB_a ha0) (by omega) hN (x := 20 + (ni - 40)) (by omega)) kw3_120 yv_X1_resize ⟨Nat.le_of_ble_eq_true rfl, Nat.le_of_ble_eq_true rfl⟩ hK hP hD hS hA (va_recv hK hP (ci := 2) (q0 := kb) rfl (wB_b hne hb0)) rfl hl.1 rfl (Nat.le_of_ble_eq_true rfl) dX3_toFour_21 ⟨Nat.zero_le _, Nat.zero_le _⟩ (fun g_1 H locs hg_1 hP hD hS => ?_)
  rw [wB_wB hne] at hP hD
  refine W.eq (g2 := F0 m 24 ls []) rfl ?_
  refine lv_aload_n hx hb dX3_toFour_24 rfl (lv_at hl 3 rfl) ?_
  refine nv_iconst (k := 0) hx hb dX3_toFour_25 rfl ?_
  refine nv_bipush (k := 69) hx hb dX3_toFour_26 (by decide) ?_
  refine wr_V S (c_X1_put (wB_b hne hb0) (wB_a ha0) (by omega) hN (k := 0) (x := nI (69)) (by omega)) kw3_121 yv_X1_put ⟨Nat.le_of_ble_eq_true rfl, Nat.le_of_ble_eq_true rfl⟩ hK hP hD hS hA (va_recv hK hP (ci := 2) (q0 := kb) rfl (wB_b hne hb0)) rfl hl.1 rfl (Nat.le_of_ble_eq_true rfl) dX3_toFour_28 ⟨Nat.zero_le _, Nat.zero_le _⟩ (fun g_2 H locs hg_2 hP hD hS => ?_)
  rw [wB_wB hne] at hP hD
  rw [by8_nI] at hg_2
  refine W.eq (g2 := F0 m 31 ls []) rfl ?_
  refine lv_aload_n hx hb dX3_toFour_31 rfl (lv_at hl 3 rfl) ?_
  refine nv_iconst (k := 1) hx hb dX3_toFour_32 rfl ?_
  refine lv_aload_n hx hb dX3_toFour_33 rfl (lv_at hl 2 rfl) ?_
  refine nv_iconst (k := 0) hx hb dX3_toFour_34 rfl ?_
  refine ro_V S (c_X1_pair (PK_of (wB_o di1 di2 hi0) (wB_o di3 di4 hi1) hniN hNi) (a := 0) (by omega)) kw3_125 yv_X1_pair ⟨Nat.le_of_ble_eq_true rfl, Nat.le_of_ble_eq_true rfl⟩ hK hP (va_recv hK hP (ci := 2) (q0 := ki) rfl (wB_o di1 di2 hi0)) rfl hl.1 rfl (Nat.le_of_ble_eq_true rfl) dX3_toFour_35 ⟨Nat.zero_le _, Nat.zero_le _⟩ ?_
  have hq35 := tg_pr_lt fi ni 0
  refine nv_iconst (k := 4) hx hb dX3_toFour_38 rfl ?_
  refine nv_iushr hx hb (by omega) (by omega) dX3_toFour_39 ?_
  refine wr_V S (c_X1_put (wB_b hne hb0) (wB_a ha0) (by omega) hN (k := 1) (x := nI ((tg_pr (tg_rd fi ni) 0) / 2 ^ 4)) (by omega)) kw3_121 yv_X1_put ⟨Nat.le_of_ble_eq_true rfl, Nat.le_of_ble_eq_true rfl⟩ hK hP hD hS hA (va_recv hK hP (ci := 2) (q0 := kb) rfl (wB_b hne hb0)) rfl hl.1 rfl (Nat.le_of_ble_eq_true rfl) dX3_toFour_40 ⟨Nat.zero_le _, Nat.zero_le _⟩ (fun g_3 H locs hg_3 hP hD hS => ?_)
  rw [wB_wB hne] at hP hD
  rw [by8_nI] at hg_3
  refine W.eq (g2 := F0 m 43 ls []) rfl ?_
  refine lv_aload_n hx hb dX3_toFour_43 rfl (lv_at hl 3 rfl) ?_
  refine nv_iconst (k := 2) hx hb dX3_toFour_44 rfl ?_
  refine nv_bipush (k := 20) hx hb dX3_toFour_45 (by decide) ?_
  refine lv_iload hx hb dX3_toFour_47 (lv_at hl 0 rfl) ?_
  refine nv_iadd hx hb dX3_toFour_49 ?_
  refine wr_V S (c_X1_putPair (wB_b hne hb0) (wB_a ha0) (by omega) hN (a := 2) (x := 20 + (ni - 40)) (by omega) (by omega)) kw3_126 yv_X1_putPair ⟨Nat.le_of_ble_eq_true rfl, Nat.le_of_ble_eq_true rfl⟩ hK hP hD hS hA (va_recv hK hP (ci := 2) (q0 := kb) rfl (wB_b hne hb0)) rfl hl.1 rfl (Nat.le_of_ble_eq_true rfl) dX3_toFour_50 ⟨Nat.zero_le _, Nat.zero_le _⟩ (fun g_4 H locs hg_4 hP hD hS => ?_)
  rw [wB_wB hne] at hP hD
  refine W.eq (g2 := F0 m 53 ls []) rfl ?_
  refine lv_aload_n hx hb dX3_toFour_53 rfl (lv_at hl 3 rfl) ?_
  refine nv_iconst (k := 4) hx hb dX3_toFour_54 rfl ?_
  refine lv_iload hx hb dX3_toFour_55 (lv_at hl 7 rfl) ?_
  refine wr_V S (c_X1_putPair (wB_b hne hb0) (wB_a ha0) (by omega) hN (a := 4) (x := sp) (by omega) (by omega)) kw3_126 yv_X1_putPair ⟨Nat.le_of_ble_eq_true rfl, Nat.le_of_ble_eq_true rfl⟩ hK hP hD hS hA (va_recv hK hP (ci := 2) (q0 := kb) rfl (wB_b hne hb0)) rfl hl.1 rfl (Nat.le_of_ble_eq_true rfl) dX3_toFour_57 ⟨Nat.zero_le _, Nat.zero_le _⟩ (fun g_5 H locs hg_5 hP hD hS => ?_)
  rw [wB_wB hne] at hP hD
  refine W.eq (g2 := F0 m 60 ls []) rfl ?_
  refine lv_aload_n hx hb dX3_toFour_60 rfl (lv_at hl 3 rfl) ?_
  refine nv_bipush (k := 6) hx hb dX3_toFour_61 (by decide) ?_
  refine lv_iload hx hb dX3_toFour_63 (lv_at hl 7 rfl) ?_
  have J75 : ∀ v75 : Nat, v75 = (if sp = 0 then 16384 else 0) → ∀ ls : Array Slot, lv_has ls 8 [(7, .int (nI (ni - 40))), (6, .int (nI pt)), (0, .ref bi), (1, .ref b), (2, .ref ow), (3, .int (nI fa)), (4, .int (nI ta)), (5, .int (nI sp))] → W p l e (rmw 4 0 0 94) s m args below meth c H locs 0 0 Q (F0 m 75 ls [.int (nI v75), .int (nI 6), .ref b]) := by
    intro v75 hv75 ls hl
    have hvb : v75 < 2 ^ 32 := by rw [hv75]; split <;> omega
    refine wr_V S (c_X1_putPair (wB_b hne hb0) (wB_a ha0) (by omega) hN (a := 6) (x := v75) (by omega) (by omega)) kw3_126 yv_X1_putPair ⟨Nat.le_of_ble_eq_true rfl, Nat.le_of_ble_eq_true rfl⟩ hK hP hD hS hA (va_recv hK hP (ci := 2) (q0 := kb) rfl (wB_b hne hb0)) rfl hl.1 rfl (Nat.le_of_ble_eq_true rfl) dX3_toFour_75 ⟨Nat.zero_le _, Nat.zero_le _⟩ (fun g_6 H locs hg_6 hP hD hS => ?_)
    rw [wB_wB hne] at hP hD
    refine W.eq (g2 := F0 m 78 ls []) rfl ?_
    refine lv_aload_n hx hb dX3_toFour_78 rfl (lv_at hl 3 rfl) ?_
    refine nv_bipush (k := 8) hx hb dX3_toFour_79 (by decide) ?_
    refine lv_aload_n hx hb dX3_toFour_81 rfl (lv_at hl 2 rfl) ?_
    refine nv_bipush (k := 7) hx hb dX3_toFour_82 (by decide) ?_
    refine ro_V S (c_X1_octet (PK_of (wB_o di1 di2 hi0) (wB_o di3 di4 hi1) hniN hNi) (k := 7) (by omega)) kw3_130 yv_X1_octet ⟨Nat.le_of_ble_eq_true rfl, Nat.le_of_ble_eq_true rfl⟩ hK hP (va_recv hK hP (ci := 2) (q0 := ki) rfl (wB_o di1 di2 hi0)) rfl hl.1 rfl (Nat.le_of_ble_eq_true rfl) dX3_toFour_84 ⟨Nat.zero_le _, Nat.zero_le _⟩ ?_
    have hq84 := tg_rd_lt fi ni 7
    refine nv_iconst (k := 1) hx hb dX3_toFour_87 rfl ?_
    refine nv_isub hx hb (by omega) dX3_toFour_88 ?_
    refine wr_V S (c_X1_put (wB_b hne hb0) (wB_a ha0) (by omega) hN (k := 8) (x := nI ((tg_rd fi ni 7) - 1)) (by omega)) kw3_121 yv_X1_put ⟨Nat.le_of_ble_eq_true rfl, Nat.le_of_ble_eq_true rfl⟩ hK hP hD hS hA (va_recv hK hP (ci := 2) (q0 := kb) rfl (wB_b hne hb0)) rfl hl.1 rfl (Nat.le_of_ble_eq_true rfl) dX3_toFour_89 ⟨Nat.zero_le _, Nat.zero_le _⟩ (fun g_7 H locs hg_7 hP hD hS => ?_)
    rw [wB_wB hne] at hP hD
    rw [by8_nI] at hg_7
    refine W.eq (g2 := F0 m 92 ls []) rfl ?_
    refine lv_aload_n hx hb dX3_toFour_92 rfl (lv_at hl 3 rfl) ?_
    refine nv_bipush (k := 9) hx hb dX3_toFour_93 (by decide) ?_
    refine lv_iload hx hb dX3_toFour_95 (lv_at hl 1 rfl) ?_
    refine wr_V S (c_X1_put (wB_b hne hb0) (wB_a ha0) (by omega) hN (k := 9) (x := nI (pt)) (by omega)) kw3_121 yv_X1_put ⟨Nat.le_of_ble_eq_true rfl, Nat.le_of_ble_eq_true rfl⟩ hK hP hD hS hA (va_recv hK hP (ci := 2) (q0 := kb) rfl (wB_b hne hb0)) rfl hl.1 rfl (Nat.le_of_ble_eq_true rfl) dX3_toFour_97 ⟨Nat.zero_le _, Nat.zero_le _⟩ (fun g_8 H locs hg_8 hP hD hS => ?_)
    rw [wB_wB hne] at hP hD
    rw [by8_nI] at hg_8
    refine W.eq (g2 := F0 m 100 ls []) rfl ?_
    refine lv_aload_n hx hb dX3_toFour_100 rfl (lv_at hl 3 rfl) ?_
    refine nv_bipush (k := 12) hx hb dX3_toFour_101 (by decide) ?_
    refine lv_iload_n hx hb dX3_toFour_103 rfl (lv_at hl 5 rfl) ?_
    refine wr_V S (c_X1_putQuad (wB_b hne hb0) (wB_a ha0) (by omega) hN (a := 12) (x := fa) (by omega) (by omega)) kw3_131 yv_X1_putQuad ⟨Nat.le_of_ble_eq_true rfl, Nat.le_of_ble_eq_true rfl⟩ hK hP hD hS hA (va_recv hK hP (ci := 2) (q0 := kb) rfl (wB_b hne hb0)) rfl hl.1 rfl (Nat.le_of_ble_eq_true rfl) dX3_toFour_104 ⟨Nat.zero_le _, Nat.zero_le _⟩ (fun g_9 H locs hg_9 hP hD hS => ?_)
    rw [wB_wB hne] at hP hD
    refine W.eq (g2 := F0 m 107 ls []) rfl ?_
    refine lv_aload_n hx hb dX3_toFour_107 rfl (lv_at hl 3 rfl) ?_
    refine nv_bipush (k := 16) hx hb dX3_toFour_108 (by decide) ?_
    refine lv_iload hx hb dX3_toFour_110 (lv_at hl 6 rfl) ?_
    refine wr_V S (c_X1_putQuad (wB_b hne hb0) (wB_a ha0) (by omega) hN (a := 16) (x := ta) (by omega) (by omega)) kw3_131 yv_X1_putQuad ⟨Nat.le_of_ble_eq_true rfl, Nat.le_of_ble_eq_true rfl⟩ hK hP hD hS hA (va_recv hK hP (ci := 2) (q0 := kb) rfl (wB_b hne hb0)) rfl hl.1 rfl (Nat.le_of_ble_eq_true rfl) dX3_toFour_112 ⟨Nat.zero_le _, Nat.zero_le _⟩ (fun g_10 H locs hg_10 hP hD hS => ?_)
    rw [wB_wB hne] at hP hD
    refine W.eq (g2 := F0 m 115 ls []) rfl ?_
    refine lv_aload_n hx hb dX3_toFour_115 rfl (lv_at hl 3 rfl) ?_
    refine nv_bipush (k := 10) hx hb dX3_toFour_116 (by decide) ?_
    refine lv_aload_n hx hb dX3_toFour_118 rfl (lv_at hl 3 rfl) ?_
    refine ro_S S (c_X9_ofHead (PK_of (wB_b hne hb0) (wB_a ha0) (by omega) hN)) kw3_132 yv_X9_ofHead ⟨Nat.le_of_ble_eq_true rfl, Nat.le_of_ble_eq_true rfl⟩ hK hP rfl hl.1 rfl (Nat.le_of_ble_eq_true rfl) dX3_toFour_119 ⟨Nat.zero_le _, Nat.zero_le _⟩ ?_
    have hq119 := tg_cl_le (tg_ws (tg_rd g_10 (20 + (ni - 40))) 0 10 20)
    refine wr_V S (c_X1_putPair (wB_b hne hb0) (wB_a ha0) (by omega) hN (a := 10) (x := tg_cl (tg_ws (tg_rd g_10 (20 + (ni - 40))) 0 10 20)) (by omega) (by omega)) kw3_126 yv_X1_putPair ⟨Nat.le_of_ble_eq_true rfl, Nat.le_of_ble_eq_true rfl⟩ hK hP hD hS hA (va_recv hK hP (ci := 2) (q0 := kb) rfl (wB_b hne hb0)) rfl hl.1 rfl (Nat.le_of_ble_eq_true rfl) dX3_toFour_122 ⟨Nat.zero_le _, Nat.zero_le _⟩ (fun g_11 H locs hg_11 hP hD hS => ?_)
    rw [wB_wB hne] at hP hD
    refine W.eq (g2 := F0 m 125 ls []) rfl ?_
    refine lv_aload_n hx hb dX3_toFour_125 rfl (lv_at hl 3 rfl) ?_
    refine lv_aload_n hx hb dX3_toFour_126 rfl (lv_at hl 2 rfl) ?_
    refine nv_bipush (k := 40) hx hb dX3_toFour_127 (by decide) ?_
    refine nv_bipush (k := 20) hx hb dX3_toFour_129 (by decide) ?_
    refine lv_iload hx hb dX3_toFour_131 (lv_at hl 0 rfl) ?_
    refine wr_V S (c_X1_copy (wB_b hne hb0) (wB_a ha0) (by omega) hN (wB_o di1 di2 hi0) (wB_o di3 di4 hi1) hniN hNi di1 di2 di3 di4 (a := 40) (z := 20) (k := ni - 40) (by omega) (by omega)) kw3_135 yv_X1_copy ⟨Nat.le_of_ble_eq_true rfl, Nat.le_of_ble_eq_true rfl⟩ hK hP hD hS hA (va_recv hK hP (ci := 2) (q0 := kb) rfl (wB_b hne hb0)) rfl hl.1 rfl (Nat.le_of_ble_eq_true rfl) dX3_toFour_133 ⟨Nat.zero_le _, Nat.zero_le _⟩ (fun g_12 H locs hg_12 hP hD hS => ?_)
    rw [wB_wB hne] at hP hD
    refine W.eq (g2 := F0 m 136 ls []) rfl ?_
    refine lv_aload_n hx hb dX3_toFour_136 rfl (lv_at hl 3 rfl) ?_
    refine nv_bipush (k := 20) hx hb dX3_toFour_137 (by decide) ?_
    refine lv_iload hx hb dX3_toFour_139 (lv_at hl 1 rfl) ?_
    refine ro_S S (c_X4_sourcePortAt (q := pt) (by omega)) kw3_140 yv_X4_sourcePortAt ⟨Nat.le_of_ble_eq_true rfl, Nat.le_of_ble_eq_true rfl⟩ hK hP rfl hl.1 rfl (Nat.le_of_ble_eq_true rfl) dX3_toFour_141 ⟨Nat.zero_le _, Nat.zero_le _⟩ ?_
    have hq141 := tg_spa_le pt
    refine nv_iadd hx hb dX3_toFour_144 ?_
    refine lv_aload_n hx hb dX3_toFour_145 rfl (lv_at hl 4 rfl) ?_
    refine va_get (ci := 1) (C := RX0) (T := TX0) (N := 6) hx hb ht iFX0 hown hK hP kw (wB_o dw1 dw2 hw0) rfl 5 (by decide) (ht _ kw3_11) (fun _ h9 => h9) rfl dX3_toFour_146 ?_
    refine wr_V S (c_X1_putPair (wB_b hne hb0) (wB_a ha0) (by omega) hN (a := 20 + (tg_spa pt)) (x := op) (by omega) (by omega)) kw3_126 yv_X1_putPair ⟨Nat.le_of_ble_eq_true rfl, Nat.le_of_ble_eq_true rfl⟩ hK hP hD hS hA (va_recv hK hP (ci := 2) (q0 := kb) rfl (wB_b hne hb0)) rfl hl.1 rfl (Nat.le_of_ble_eq_true rfl) dX3_toFour_149 ⟨Nat.zero_le _, Nat.zero_le _⟩ (fun g_13 H locs hg_13 hP hD hS => ?_)
    rw [wB_wB hne] at hP hD
    refine W.eq (g2 := F0 m 152 ls []) rfl ?_
    refine lv_iload hx hb dX3_toFour_152 (lv_at hl 1 rfl) ?_
    refine nv_iconst (k := 1) hx hb dX3_toFour_154 rfl ?_
    refine nv_icmp_ne (tgt := 182) hx hb dX3_toFour_155 (by decide) (by omega) (by omega) (fun h155 => ?_) (fun h155 => ?_)
    · skip
      refine lv_aload_n hx hb dX3_toFour_182 rfl (lv_at hl 3 rfl) ?_
      refine nv_bipush (k := 20) hx hb dX3_toFour_183 (by decide) ?_
      refine wr_S S (c_X9_putPart (wB_b hne hb0) (wB_a ha0) (by omega) hN (hd := 20) (q := pt) (by omega) (rd_at (x := pt) (by omega) (by rw [hg_13, put_out (i := 9) (a := 20 + (tg_spa pt)) (k := 2) (by omega), hg_12, cpy_out (i := 9) (by omega), hg_11, put_out (i := 9) (a := 10) (k := 2) (by omega), hg_10, put_out (i := 9) (a := 16) (k := 4) (by omega), hg_9, put_out (i := 9) (a := 12) (k := 4) (by omega), hg_8, up_in]) (by omega)) (by omega)) kw3_141 yv_X9_putPart ⟨Nat.le_of_ble_eq_true rfl, Nat.le_of_ble_eq_true rfl⟩ hK hP hD hS hA rfl hl.1 rfl (Nat.le_of_ble_eq_true rfl) dX3_toFour_185 ⟨Nat.zero_le _, Nat.zero_le _⟩ (fun g_14 H locs hg_14 hP hD hS => ?_)
      rw [wB_wB hne] at hP hD
      refine W.eq (g2 := F0 m 188 ls []) rfl ?_
      exact hend _ (by rw [hg_14, hg_13, hg_12, hg_11, hg_10, hg_9, hg_8, hg_7, hg_6, hg_5, hg_4, hg_3, hg_2, hv75]; unfold tg_four; (first | rw [if_pos h155, if_pos h170] | rw [if_pos h155, if_neg h170] | rw [if_neg h155]) <;> rfl) hP hD hS dX3_toFour_188
    refine lv_aload_n hx hb dX3_toFour_158 rfl (lv_at hl 3 rfl) ?_
    refine nv_bipush (k := 20) hx hb dX3_toFour_159 (by decide) ?_
    refine lv_aload_n hx hb dX3_toFour_161 rfl (lv_at hl 2 rfl) ?_
    refine nv_bipush (k := 40) hx hb dX3_toFour_162 (by decide) ?_
    refine ro_V S (c_X1_octet (PK_of (wB_o di1 di2 hi0) (wB_o di3 di4 hi1) hniN hNi) (k := 40) (by omega)) kw3_130 yv_X1_octet ⟨Nat.le_of_ble_eq_true rfl, Nat.le_of_ble_eq_true rfl⟩ hK hP (va_recv hK hP (ci := 2) (q0 := ki) rfl (wB_o di1 di2 hi0)) rfl hl.1 rfl (Nat.le_of_ble_eq_true rfl) dX3_toFour_164 ⟨Nat.zero_le _, Nat.zero_le _⟩ ?_
    have hq164 := tg_rd_lt fi ni 40
    refine nv_sipush (k := 128) hx hb dX3_toFour_167 (by decide) ?_
    refine nv_icmp_ne (tgt := 178) hx hb dX3_toFour_170 (by decide) (by omega) (by omega) (fun h170 => ?_) (fun h170 => ?_)
    · skip
      refine nv_iconst (k := 0) hx hb dX3_toFour_178 rfl ?_
      refine wr_V S (c_X1_put (wB_b hne hb0) (wB_a ha0) (by omega) hN (k := 20) (x := nI (0)) (by omega)) kw3_121 yv_X1_put ⟨Nat.le_of_ble_eq_true rfl, Nat.le_of_ble_eq_true rfl⟩ hK hP hD hS hA (va_recv hK hP (ci := 2) (q0 := kb) rfl (wB_b hne hb0)) rfl hl.1 rfl (Nat.le_of_ble_eq_true rfl) dX3_toFour_179 ⟨Nat.zero_le _, Nat.zero_le _⟩ (fun g_15 H locs hg_15 hP hD hS => ?_)
      rw [wB_wB hne] at hP hD
      rw [by8_nI] at hg_15
      refine W.eq (g2 := F0 m 182 ls []) rfl ?_
      refine lv_aload_n hx hb dX3_toFour_182 rfl (lv_at hl 3 rfl) ?_
      refine nv_bipush (k := 20) hx hb dX3_toFour_183 (by decide) ?_
      refine wr_S S (c_X9_putPart (wB_b hne hb0) (wB_a ha0) (by omega) hN (hd := 20) (q := pt) (by omega) (rd_at (x := pt) (by omega) (by rw [hg_15, up_out (i := 9) (a := 20) (by omega), hg_13, put_out (i := 9) (a := 20 + (tg_spa pt)) (k := 2) (by omega), hg_12, cpy_out (i := 9) (by omega), hg_11, put_out (i := 9) (a := 10) (k := 2) (by omega), hg_10, put_out (i := 9) (a := 16) (k := 4) (by omega), hg_9, put_out (i := 9) (a := 12) (k := 4) (by omega), hg_8, up_in]) (by omega)) (by omega)) kw3_141 yv_X9_putPart ⟨Nat.le_of_ble_eq_true rfl, Nat.le_of_ble_eq_true rfl⟩ hK hP hD hS hA rfl hl.1 rfl (Nat.le_of_ble_eq_true rfl) dX3_toFour_185 ⟨Nat.zero_le _, Nat.zero_le _⟩ (fun g_16 H locs hg_16 hP hD hS => ?_)
      rw [wB_wB hne] at hP hD
      refine W.eq (g2 := F0 m 188 ls []) rfl ?_
      exact hend _ (by rw [hg_16, hg_15, hg_13, hg_12, hg_11, hg_10, hg_9, hg_8, hg_7, hg_6, hg_5, hg_4, hg_3, hg_2, hv75]; unfold tg_four; (first | rw [if_pos h155, if_pos h170] | rw [if_pos h155, if_neg h170] | rw [if_neg h155]) <;> rfl) hP hD hS dX3_toFour_188
    refine nv_bipush (k := 8) hx hb dX3_toFour_173 (by decide) ?_
    refine lv_goto (tgt := 179) hx hb dX3_toFour_175 (by decide) ?_
    refine wr_V S (c_X1_put (wB_b hne hb0) (wB_a ha0) (by omega) hN (k := 20) (x := nI (8)) (by omega)) kw3_121 yv_X1_put ⟨Nat.le_of_ble_eq_true rfl, Nat.le_of_ble_eq_true rfl⟩ hK hP hD hS hA (va_recv hK hP (ci := 2) (q0 := kb) rfl (wB_b hne hb0)) rfl hl.1 rfl (Nat.le_of_ble_eq_true rfl) dX3_toFour_179 ⟨Nat.zero_le _, Nat.zero_le _⟩ (fun g_17 H locs hg_17 hP hD hS => ?_)
    rw [wB_wB hne] at hP hD
    rw [by8_nI] at hg_17
    refine W.eq (g2 := F0 m 182 ls []) rfl ?_
    refine lv_aload_n hx hb dX3_toFour_182 rfl (lv_at hl 3 rfl) ?_
    refine nv_bipush (k := 20) hx hb dX3_toFour_183 (by decide) ?_
    refine wr_S S (c_X9_putPart (wB_b hne hb0) (wB_a ha0) (by omega) hN (hd := 20) (q := pt) (by omega) (rd_at (x := pt) (by omega) (by rw [hg_17, up_out (i := 9) (a := 20) (by omega), hg_13, put_out (i := 9) (a := 20 + (tg_spa pt)) (k := 2) (by omega), hg_12, cpy_out (i := 9) (by omega), hg_11, put_out (i := 9) (a := 10) (k := 2) (by omega), hg_10, put_out (i := 9) (a := 16) (k := 4) (by omega), hg_9, put_out (i := 9) (a := 12) (k := 4) (by omega), hg_8, up_in]) (by omega)) (by omega)) kw3_141 yv_X9_putPart ⟨Nat.le_of_ble_eq_true rfl, Nat.le_of_ble_eq_true rfl⟩ hK hP hD hS hA rfl hl.1 rfl (Nat.le_of_ble_eq_true rfl) dX3_toFour_185 ⟨Nat.zero_le _, Nat.zero_le _⟩ (fun g_18 H locs hg_18 hP hD hS => ?_)
    rw [wB_wB hne] at hP hD
    refine W.eq (g2 := F0 m 188 ls []) rfl ?_
    exact hend _ (by rw [hg_18, hg_17, hg_13, hg_12, hg_11, hg_10, hg_9, hg_8, hg_7, hg_6, hg_5, hg_4, hg_3, hg_2, hv75]; unfold tg_four; (first | rw [if_pos h155, if_pos h170] | rw [if_pos h155, if_neg h170] | rw [if_neg h155]) <;> rfl) hP hD hS dX3_toFour_188
  refine nv_if_ne (tgt := 74) hx hb dX3_toFour_65 (by decide) (by omega) (fun h65 => ?_) (fun h65 => ?_)
  · skip
    refine nv_iconst (k := 0) hx hb dX3_toFour_74 rfl ?_
    exact J75 (0) (by (repeat' split) <;> omega) ls (lv_sub hl [0, 1, 2, 3, 4, 5, 6, 7] rfl)
  refine nv_sipush (k := 16384) hx hb dX3_toFour_68 (by decide) ?_
  refine lv_goto (tgt := 75) hx hb dX3_toFour_71 (by decide) ?_
  exact J75 (16384) (by (repeat' split) <;> omega) ls (lv_sub hl [0, 1, 2, 3, 4, 5, 6, 7] rfl)
theorem dX3_toSix_0 : decode cX3_toSix 0 = .ok (.aload_n 2, 1) := by decide +kernel
theorem dX3_toSix_1 : decode cX3_toSix 1 = .ok (.getfield 9, 3) := by decide +kernel
theorem dX3_toSix_4 : decode cX3_toSix 4 = .ok (.istore 4, 2) := by decide +kernel
theorem dX3_toSix_6 : decode cX3_toSix 6 = .ok (.aload_n 0, 1) := by decide +kernel
theorem dX3_toSix_7 : decode cX3_toSix 7 = .ok (.invokevirtual 15, 3) := by decide +kernel
theorem dX3_toSix_10 : decode cX3_toSix 10 = .ok (.bipush 20, 2) := by decide +kernel
theorem dX3_toSix_12 : decode cX3_toSix 12 = .ok (.isub, 1) := by decide +kernel
theorem dX3_toSix_13 : decode cX3_toSix 13 = .ok (.istore 5, 2) := by decide +kernel
theorem dX3_toSix_15 : decode cX3_toSix 15 = .ok (.aload_n 1, 1) := by decide +kernel
theorem dX3_toSix_16 : decode cX3_toSix 16 = .ok (.bipush 40, 2) := by decide +kernel
theorem dX3_toSix_18 : decode cX3_toSix 18 = .ok (.iload 5, 2) := by decide +kernel
theorem dX3_toSix_20 : decode cX3_toSix 20 = .ok (.iadd, 1) := by decide +kernel
theorem dX3_toSix_21 : decode cX3_toSix 21 = .ok (.invokevirtual 21, 3) := by decide +kernel
theorem dX3_toSix_24 : decode cX3_toSix 24 = .ok (.aload_n 1, 1) := by decide +kernel
theorem dX3_toSix_25 : decode cX3_toSix 25 = .ok (.iconst 0, 1) := by decide +kernel
theorem dX3_toSix_26 : decode cX3_toSix 26 = .ok (.aload_n 0, 1) := by decide +kernel
theorem dX3_toSix_27 : decode cX3_toSix 27 = .ok (.iconst 1, 1) := by decide +kernel
theorem dX3_toSix_28 : decode cX3_toSix 28 = .ok (.invokevirtual 36, 3) := by decide +kernel
theorem dX3_toSix_31 : decode cX3_toSix 31 = .ok (.iload 5, 2) := by decide +kernel
theorem dX3_toSix_33 : decode cX3_toSix 33 = .ok (.iload 4, 2) := by decide +kernel
theorem dX3_toSix_35 : decode cX3_toSix 35 = .ok (.aload_n 0, 1) := by decide +kernel
theorem dX3_toSix_36 : decode cX3_toSix 36 = .ok (.bipush 8, 2) := by decide +kernel
theorem dX3_toSix_38 : decode cX3_toSix 38 = .ok (.invokevirtual 36, 3) := by decide +kernel
theorem dX3_toSix_41 : decode cX3_toSix 41 = .ok (.iconst 1, 1) := by decide +kernel
theorem dX3_toSix_42 : decode cX3_toSix 42 = .ok (.isub, 1) := by decide +kernel
theorem dX3_toSix_43 : decode cX3_toSix 43 = .ok (.invokestatic 64, 3) := by decide +kernel
theorem dX3_toSix_46 : decode cX3_toSix 46 = .ok (.aload_n 1, 1) := by decide +kernel
theorem dX3_toSix_47 : decode cX3_toSix 47 = .ok (.bipush 8, 2) := by decide +kernel
theorem dX3_toSix_49 : decode cX3_toSix 49 = .ok (.aload_n 0, 1) := by decide +kernel
theorem dX3_toSix_50 : decode cX3_toSix 50 = .ok (.bipush 12, 2) := by decide +kernel
theorem dX3_toSix_52 : decode cX3_toSix 52 = .ok (.invokevirtual 70, 3) := by decide +kernel
theorem dX3_toSix_55 : decode cX3_toSix 55 = .ok (.aload_n 3, 1) := by decide +kernel
theorem dX3_toSix_56 : decode cX3_toSix 56 = .ok (.invokestatic 73, 3) := by decide +kernel
theorem dX3_toSix_59 : decode cX3_toSix 59 = .ok (.aload_n 1, 1) := by decide +kernel
theorem dX3_toSix_60 : decode cX3_toSix 60 = .ok (.bipush 24, 2) := by decide +kernel
theorem dX3_toSix_62 : decode cX3_toSix 62 = .ok (.aload_n 2, 1) := by decide +kernel
theorem dX3_toSix_63 : decode cX3_toSix 63 = .ok (.invokestatic 77, 3) := by decide +kernel
theorem dX3_toSix_66 : decode cX3_toSix 66 = .ok (.aload_n 1, 1) := by decide +kernel
theorem dX3_toSix_67 : decode cX3_toSix 67 = .ok (.aload_n 0, 1) := by decide +kernel
theorem dX3_toSix_68 : decode cX3_toSix 68 = .ok (.bipush 20, 2) := by decide +kernel
theorem dX3_toSix_70 : decode cX3_toSix 70 = .ok (.bipush 40, 2) := by decide +kernel
theorem dX3_toSix_72 : decode cX3_toSix 72 = .ok (.iload 5, 2) := by decide +kernel
theorem dX3_toSix_74 : decode cX3_toSix 74 = .ok (.invokevirtual 48, 3) := by decide +kernel
theorem dX3_toSix_77 : decode cX3_toSix 77 = .ok (.aload_n 1, 1) := by decide +kernel
theorem dX3_toSix_78 : decode cX3_toSix 78 = .ok (.bipush 40, 2) := by decide +kernel
theorem dX3_toSix_80 : decode cX3_toSix 80 = .ok (.iload 4, 2) := by decide +kernel
theorem dX3_toSix_82 : decode cX3_toSix 82 = .ok (.invokestatic 81, 3) := by decide +kernel
theorem dX3_toSix_85 : decode cX3_toSix 85 = .ok (.iadd, 1) := by decide +kernel
theorem dX3_toSix_86 : decode cX3_toSix 86 = .ok (.aload_n 2, 1) := by decide +kernel
theorem dX3_toSix_87 : decode cX3_toSix 87 = .ok (.getfield 84, 3) := by decide +kernel
theorem dX3_toSix_90 : decode cX3_toSix 90 = .ok (.invokevirtual 33, 3) := by decide +kernel
theorem dX3_toSix_93 : decode cX3_toSix 93 = .ok (.iload 4, 2) := by decide +kernel
theorem dX3_toSix_95 : decode cX3_toSix 95 = .ok (.iconst 1, 1) := by decide +kernel
theorem dX3_toSix_96 : decode cX3_toSix 96 = .ok (.if_icmp .ne 29, 3) := by decide +kernel
theorem dX3_toSix_99 : decode cX3_toSix 99 = .ok (.aload_n 1, 1) := by decide +kernel
theorem dX3_toSix_100 : decode cX3_toSix 100 = .ok (.bipush 40, 2) := by decide +kernel
theorem dX3_toSix_102 : decode cX3_toSix 102 = .ok (.aload_n 0, 1) := by decide +kernel
theorem dX3_toSix_103 : decode cX3_toSix 103 = .ok (.bipush 20, 2) := by decide +kernel
theorem dX3_toSix_105 : decode cX3_toSix 105 = .ok (.invokevirtual 36, 3) := by decide +kernel
theorem dX3_toSix_108 : decode cX3_toSix 108 = .ok (.bipush 8, 2) := by decide +kernel
theorem dX3_toSix_110 : decode cX3_toSix 110 = .ok (.if_icmp .ne 9, 3) := by decide +kernel
theorem dX3_toSix_113 : decode cX3_toSix 113 = .ok (.sipush 128, 3) := by decide +kernel
theorem dX3_toSix_116 : decode cX3_toSix 116 = .ok (.goto 6, 3) := by decide +kernel
theorem dX3_toSix_119 : decode cX3_toSix 119 = .ok (.sipush 129, 3) := by decide +kernel
theorem dX3_toSix_122 : decode cX3_toSix 122 = .ok (.invokevirtual 25, 3) := by decide +kernel
theorem dX3_toSix_125 : decode cX3_toSix 125 = .ok (.aload_n 1, 1) := by decide +kernel
theorem dX3_toSix_126 : decode cX3_toSix 126 = .ok (.bipush 40, 2) := by decide +kernel
theorem dX3_toSix_128 : decode cX3_toSix 128 = .ok (.invokestatic 60, 3) := by decide +kernel
theorem dX3_toSix_131 : decode cX3_toSix 131 = .ok (.return_, 1) := by decide +kernel
theorem yv_X3_toSix : YS yX3_toSix cX3_toSix 6 none 4 := ⟨kw3_239, kw1_22, kw4_0, by decide +kernel⟩
set_option maxHeartbeats 4000000 in
set_option maxRecDepth 100000 in
theorem c_X3_toSix {l : Launch} {D : va_G} {cy : Nat → ClassId} {ws : va_W} {kb ka b ar N n : Nat} {f : Nat → UInt8} (hb0 : ws[kb]? = some (b, .inr (2, [.ref ar, .int (nI n)]))) (ha0 : ws[ka]? = some (ar, .inl (cy 0, N, .inl (bt f)))) (hnN : n ≤ N) (hN : N ≤ 1700) {ki kai bi ai Ni ni : Nat} {fi : Nat → UInt8} (hi0 : ws[ki]? = some (bi, .inr (2, [.ref ai, .int (nI ni)]))) (hi1 : ws[kai]? = some (ai, .inl (cy 0, Ni, .inl (bt fi)))) (hniN : ni ≤ Ni) (hNi : Ni ≤ 1700) (di1 : kb ≠ ki) (di2 : ka ≠ ki) (di3 : kb ≠ kai) (di4 : ka ≠ kai) {kw ow pt ih il ip pn op : Nat} (hw0 : ws[kw]? = some (ow, .inr (1, [.int (nI pt), .long (lN ih), .long (lN il), .int (nI ip), .int (nI pn), .int (nI op)]))) (hpt : pt = 1 ∨ pt = 6 ∨ pt = 17) (hih : ih < 2 ^ 64) (hil : il < 2 ^ 64) (hip : ip < 65536) (hop : op < 2 ^ 31) (dw1 : kb ≠ kw) (dw2 : ka ≠ kw) {ks st bits F G : Nat} (hs0 : ws[ks]? = some (st, .inr (6, [.long (lN F), .long (lN G), .int (nI bits), .int (nI (bits - 32))]))) (hsi : SI bits F G) (ds1 : kb ≠ ks) (ds2 : ka ≠ ks) (hni : 20 ≤ ni) (hNo : ni + 20 ≤ N) (hsz : tg_sumAt (tg_nx pt) + 2 ≤ ni - 20) (hpz : 6 ≤ ni - 20) (hhop : 2 ≤ tg_rd fi ni 8) : WR (S := (Nat → UInt8)) l yX3_toSix cX3_toSix 6 none 4 0 0 94 [.ref bi, .ref b, .ref ow, .ref st] D cy ws (fun _ => none) (fun g => g = tg_sx f fi ni pt ip ih il bits F G) (fun g => wB ws kb ka b ar N cy g (40 + (ni - 20))) := by
  refine WRv (by decide) (lv0 := [(0, .ref bi), (1, .ref b), (2, .ref ow), (3, .ref st)]) rfl (Nat.le_of_ble_eq_true rfl) ?_
  intro p e s m args below meth c ls A Q S hnm hP hK hD hS hA hend hl
  have hx := S.1
  have hb := S.2.1
  have hown : s.vm.findClass RX3 = some m.cls := S.2.2.2.1
  have ht : ∀ w ∈ lw_g, w.before args s = true := fun w h => S.2.2.2.2 w (List.mem_cons_of_mem _ h)
  have hne : kb ≠ ka := lst_ne hb0 ha0 (fun z => by cases z)
  have hP : va_P D vwCl (wB ws kb ka b ar N cy f n) s.heap := by rw [wB_self hb0 ha0]; exact hP
  have hD : va_D A (wB ws kb ka b ar N cy f n) := by rw [wB_self hb0 ha0]; exact hD
  refine lv_aload_n hx hb dX3_toSix_0 rfl (lv_at hl 2 rfl) ?_
  refine va_get (ci := 1) (C := RX0) (T := TX0) (N := 6) hx hb ht iFX0 hown hK hP kw (wB_o dw1 dw2 hw0) rfl 0 (by decide) (ht _ kw2_234) (fun _ h9 => h9) rfl dX3_toSix_1 ?_
  refine lv_istore (lv' := [(4, .int (nI pt)), (0, .ref bi), (1, .ref b), (2, .ref ow), (3, .ref st)]) hx hb dX3_toSix_4 hl (by decide) rfl (fun ls hl => ?_)
  refine lv_aload_n hx hb dX3_toSix_6 rfl (lv_at hl 1 rfl) ?_
  refine ro_V S (c_X1_length (PK_of (wB_o di1 di2 hi0) (wB_o di3 di4 hi1) hniN hNi)) kw3_119 yv_X1_length ⟨Nat.le_of_ble_eq_true rfl, Nat.le_of_ble_eq_true rfl⟩ hK hP (va_recv hK hP (ci := 2) (q0 := ki) rfl (wB_o di1 di2 hi0)) rfl hl.1 rfl (Nat.le_of_ble_eq_true rfl) dX3_toSix_7 ⟨Nat.zero_le _, Nat.zero_le _⟩ ?_
  refine nv_bipush (k := 20) hx hb dX3_toSix_10 (by decide) ?_
  refine nv_isub hx hb (by omega) dX3_toSix_12 ?_
  refine lv_istore (lv' := [(5, .int (nI (ni - 20))), (4, .int (nI pt)), (0, .ref bi), (1, .ref b), (2, .ref ow), (3, .ref st)]) hx hb dX3_toSix_13 hl (by decide) rfl (fun ls hl => ?_)
  refine lv_aload_n hx hb dX3_toSix_15 rfl (lv_at hl 3 rfl) ?_
  refine nv_bipush (k := 40) hx hb dX3_toSix_16 (by decide) ?_
  refine lv_iload hx hb dX3_toSix_18 (lv_at hl 0 rfl) ?_
  refine nv_iadd hx hb dX3_toSix_20 ?_
  refine wr_V S (c_X1_resize (wB_b hne hb0) (wB_a ha0) (by omega) hN (x := 40 + (ni - 20)) (by omega)) kw3_120 yv_X1_resize ⟨Nat.le_of_ble_eq_true rfl, Nat.le_of_ble_eq_true rfl⟩ hK hP hD hS hA (va_recv hK hP (ci := 2) (q0 := kb) rfl (wB_b hne hb0)) rfl hl.1 rfl (Nat.le_of_ble_eq_true rfl) dX3_toSix_21 ⟨Nat.zero_le _, Nat.zero_le _⟩ (fun g_1 H locs hg_1 hP hD hS => ?_)
  rw [wB_wB hne] at hP hD
  refine W.eq (g2 := F0 m 24 ls []) rfl ?_
  refine lv_aload_n hx hb dX3_toSix_24 rfl (lv_at hl 3 rfl) ?_
  refine nv_iconst (k := 0) hx hb dX3_toSix_25 rfl ?_
  refine lv_aload_n hx hb dX3_toSix_26 rfl (lv_at hl 2 rfl) ?_
  refine nv_iconst (k := 1) hx hb dX3_toSix_27 rfl ?_
  refine ro_V S (c_X1_octet (PK_of (wB_o di1 di2 hi0) (wB_o di3 di4 hi1) hniN hNi) (k := 1) (by omega)) kw3_130 yv_X1_octet ⟨Nat.le_of_ble_eq_true rfl, Nat.le_of_ble_eq_true rfl⟩ hK hP (va_recv hK hP (ci := 2) (q0 := ki) rfl (wB_o di1 di2 hi0)) rfl hl.1 rfl (Nat.le_of_ble_eq_true rfl) dX3_toSix_28 ⟨Nat.zero_le _, Nat.zero_le _⟩ ?_
  have hq28 := tg_rd_lt fi ni 1
  refine lv_iload hx hb dX3_toSix_31 (lv_at hl 0 rfl) ?_
  refine lv_iload hx hb dX3_toSix_33 (lv_at hl 1 rfl) ?_
  refine lv_aload_n hx hb dX3_toSix_35 rfl (lv_at hl 2 rfl) ?_
  refine nv_bipush (k := 8) hx hb dX3_toSix_36 (by decide) ?_
  refine ro_V S (c_X1_octet (PK_of (wB_o di1 di2 hi0) (wB_o di3 di4 hi1) hniN hNi) (k := 8) (by omega)) kw3_130 yv_X1_octet ⟨Nat.le_of_ble_eq_true rfl, Nat.le_of_ble_eq_true rfl⟩ hK hP (va_recv hK hP (ci := 2) (q0 := ki) rfl (wB_o di1 di2 hi0)) rfl hl.1 rfl (Nat.le_of_ble_eq_true rfl) dX3_toSix_38 ⟨Nat.zero_le _, Nat.zero_le _⟩ ?_
  have hq38 := tg_rd_lt fi ni 8
  refine nv_iconst (k := 1) hx hb dX3_toSix_41 rfl ?_
  refine nv_isub hx hb (by omega) dX3_toSix_42 ?_
  refine wr_S S (c_X3_putSixHead (wB_b hne hb0) (wB_a ha0) (by omega) hN (a := 0) (tr := tg_rd fi ni 1) (pl := ni - 20) (q := pt) (hp := (tg_rd fi ni 8) - 1) (by omega) (by omega) (by omega) (by omega) (by omega)) kw3_203 yv_X3_putSixHead ⟨Nat.le_of_ble_eq_true rfl, Nat.le_of_ble_eq_true rfl⟩ hK hP hD hS hA rfl hl.1 rfl (Nat.le_of_ble_eq_true rfl) dX3_toSix_43 ⟨Nat.zero_le _, Nat.zero_le _⟩ (fun g_2 H locs hg_2 hP hD hS => ?_)
  rw [wB_wB hne] at hP hD
  refine W.eq (g2 := F0 m 46 ls []) rfl ?_
  refine lv_aload_n hx hb dX3_toSix_46 rfl (lv_at hl 3 rfl) ?_
  refine nv_bipush (k := 8) hx hb dX3_toSix_47 (by decide) ?_
  refine lv_aload_n hx hb dX3_toSix_49 rfl (lv_at hl 2 rfl) ?_
  refine nv_bipush (k := 12) hx hb dX3_toSix_50 (by decide) ?_
  refine ro_V S (c_X1_quad (PK_of (wB_o di1 di2 hi0) (wB_o di3 di4 hi1) hniN hNi) (a := 12) (by omega)) kw3_206 yv_X1_quad ⟨Nat.le_of_ble_eq_true rfl, Nat.le_of_ble_eq_true rfl⟩ hK hP (va_recv hK hP (ci := 2) (q0 := ki) rfl (wB_o di1 di2 hi0)) rfl hl.1 rfl (Nat.le_of_ble_eq_true rfl) dX3_toSix_52 ⟨Nat.zero_le _, Nat.zero_le _⟩ ?_
  have hq52 := tg_qd_lt fi ni 12
  refine lv_aload_n hx hb dX3_toSix_55 rfl (lv_at hl 5 rfl) ?_
  refine wr_S S (c_X3_putEmbedded (wB_b hne hb0) (wB_a ha0) (by omega) hN (wB_o ds1 ds2 hs0) hsi ds1 ds2 (a := 8) (x := tg_qd (tg_rd fi ni) 12) (by omega) (by omega)) kw3_207 yv_X3_putEmbedded ⟨Nat.le_of_ble_eq_true rfl, Nat.le_of_ble_eq_true rfl⟩ hK hP hD hS hA rfl hl.1 rfl (Nat.le_of_ble_eq_true rfl) dX3_toSix_56 ⟨Nat.zero_le _, Nat.zero_le _⟩ (fun g_3 H locs hg_3 hP hD hS => ?_)
  rw [wB_wB hne] at hP hD
  refine W.eq (g2 := F0 m 59 ls []) rfl ?_
  refine lv_aload_n hx hb dX3_toSix_59 rfl (lv_at hl 3 rfl) ?_
  refine nv_bipush (k := 24) hx hb dX3_toSix_60 (by decide) ?_
  refine lv_aload_n hx hb dX3_toSix_62 rfl (lv_at hl 4 rfl) ?_
  refine wr_S S (c_X3_putInner (wB_b hne hb0) (wB_a ha0) (by omega) hN (wB_o dw1 dw2 hw0) hpt hih hil hip hop dw1 dw2 (a := 24) (by omega)) kw3_216 yv_X3_putInner ⟨Nat.le_of_ble_eq_true rfl, Nat.le_of_ble_eq_true rfl⟩ hK hP hD hS hA rfl hl.1 rfl (Nat.le_of_ble_eq_true rfl) dX3_toSix_63 ⟨Nat.zero_le _, Nat.zero_le _⟩ (fun g_4 H locs hg_4 hP hD hS => ?_)
  rw [wB_wB hne] at hP hD
  refine W.eq (g2 := F0 m 66 ls []) rfl ?_
  refine lv_aload_n hx hb dX3_toSix_66 rfl (lv_at hl 3 rfl) ?_
  refine lv_aload_n hx hb dX3_toSix_67 rfl (lv_at hl 2 rfl) ?_
  refine nv_bipush (k := 20) hx hb dX3_toSix_68 (by decide) ?_
  refine nv_bipush (k := 40) hx hb dX3_toSix_70 (by decide) ?_
  refine lv_iload hx hb dX3_toSix_72 (lv_at hl 0 rfl) ?_
  refine wr_V S (c_X1_copy (wB_b hne hb0) (wB_a ha0) (by omega) hN (wB_o di1 di2 hi0) (wB_o di3 di4 hi1) hniN hNi di1 di2 di3 di4 (a := 20) (z := 40) (k := ni - 20) (by omega) (by omega)) kw3_135 yv_X1_copy ⟨Nat.le_of_ble_eq_true rfl, Nat.le_of_ble_eq_true rfl⟩ hK hP hD hS hA (va_recv hK hP (ci := 2) (q0 := kb) rfl (wB_b hne hb0)) rfl hl.1 rfl (Nat.le_of_ble_eq_true rfl) dX3_toSix_74 ⟨Nat.zero_le _, Nat.zero_le _⟩ (fun g_5 H locs hg_5 hP hD hS => ?_)
  rw [wB_wB hne] at hP hD
  refine W.eq (g2 := F0 m 77 ls []) rfl ?_
  refine lv_aload_n hx hb dX3_toSix_77 rfl (lv_at hl 3 rfl) ?_
  refine nv_bipush (k := 40) hx hb dX3_toSix_78 (by decide) ?_
  refine lv_iload hx hb dX3_toSix_80 (lv_at hl 1 rfl) ?_
  refine ro_S S (c_X4_destinationPortAt (q := pt) (by omega)) kw4_1 yv_X4_destinationPortAt ⟨Nat.le_of_ble_eq_true rfl, Nat.le_of_ble_eq_true rfl⟩ hK hP rfl hl.1 rfl (Nat.le_of_ble_eq_true rfl) dX3_toSix_82 ⟨Nat.zero_le _, Nat.zero_le _⟩ ?_
  have hq82 := tg_dpa_le pt
  refine nv_iadd hx hb dX3_toSix_85 ?_
  refine lv_aload_n hx hb dX3_toSix_86 rfl (lv_at hl 4 rfl) ?_
  refine va_get (ci := 1) (C := RX0) (T := TX0) (N := 6) hx hb ht iFX0 hown hK hP kw (wB_o dw1 dw2 hw0) rfl 3 (by decide) (ht _ kw3_4) (fun _ h9 => h9) rfl dX3_toSix_87 ?_
  refine wr_V S (c_X1_putPair (wB_b hne hb0) (wB_a ha0) (by omega) hN (a := 40 + (tg_dpa pt)) (x := ip) (by omega) (by omega)) kw3_126 yv_X1_putPair ⟨Nat.le_of_ble_eq_true rfl, Nat.le_of_ble_eq_true rfl⟩ hK hP hD hS hA (va_recv hK hP (ci := 2) (q0 := kb) rfl (wB_b hne hb0)) rfl hl.1 rfl (Nat.le_of_ble_eq_true rfl) dX3_toSix_90 ⟨Nat.zero_le _, Nat.zero_le _⟩ (fun g_6 H locs hg_6 hP hD hS => ?_)
  rw [wB_wB hne] at hP hD
  refine W.eq (g2 := F0 m 93 ls []) rfl ?_
  refine lv_iload hx hb dX3_toSix_93 (lv_at hl 1 rfl) ?_
  refine nv_iconst (k := 1) hx hb dX3_toSix_95 rfl ?_
  refine nv_icmp_ne (tgt := 125) hx hb dX3_toSix_96 (by decide) (by omega) (by omega) (fun h96 => ?_) (fun h96 => ?_)
  · skip
    refine lv_aload_n hx hb dX3_toSix_125 rfl (lv_at hl 3 rfl) ?_
    refine nv_bipush (k := 40) hx hb dX3_toSix_126 (by decide) ?_
    refine wr_S S (c_X9_putPart (wB_b hne hb0) (wB_a ha0) (by omega) hN (hd := 40) (q := tg_nx pt) (by omega) (rd_at (x := tg_nx pt) (by omega) (by rw [hg_6, put_out (i := 6) (a := 40 + (tg_dpa pt)) (k := 2) (by omega), hg_5, cpy_out (i := 6) (by omega), hg_4, inn_out (i := 6) (a := 24) (by omega), hg_3, emb_out (i := 6) (a := 8) (by omega), hg_2]; exact six_6) (tg_nx_lt hpt)) (by omega)) kw3_141 yv_X9_putPart ⟨Nat.le_of_ble_eq_true rfl, Nat.le_of_ble_eq_true rfl⟩ hK hP hD hS hA rfl hl.1 rfl (Nat.le_of_ble_eq_true rfl) dX3_toSix_128 ⟨Nat.zero_le _, Nat.zero_le _⟩ (fun g_7 H locs hg_7 hP hD hS => ?_)
    rw [wB_wB hne] at hP hD
    refine W.eq (g2 := F0 m 131 ls []) rfl ?_
    exact hend _ (by rw [hg_7, hg_6, hg_5, hg_4, hg_3, hg_2]; unfold tg_sx tg_sx1; (first | rw [if_pos h96, if_pos h110] | rw [if_pos h96, if_neg h110] | rw [if_neg h96]) <;> rfl) hP hD hS dX3_toSix_131
  refine lv_aload_n hx hb dX3_toSix_99 rfl (lv_at hl 3 rfl) ?_
  refine nv_bipush (k := 40) hx hb dX3_toSix_100 (by decide) ?_
  refine lv_aload_n hx hb dX3_toSix_102 rfl (lv_at hl 2 rfl) ?_
  refine nv_bipush (k := 20) hx hb dX3_toSix_103 (by decide) ?_
  refine ro_V S (c_X1_octet (PK_of (wB_o di1 di2 hi0) (wB_o di3 di4 hi1) hniN hNi) (k := 20) (by omega)) kw3_130 yv_X1_octet ⟨Nat.le_of_ble_eq_true rfl, Nat.le_of_ble_eq_true rfl⟩ hK hP (va_recv hK hP (ci := 2) (q0 := ki) rfl (wB_o di1 di2 hi0)) rfl hl.1 rfl (Nat.le_of_ble_eq_true rfl) dX3_toSix_105 ⟨Nat.zero_le _, Nat.zero_le _⟩ ?_
  have hq105 := tg_rd_lt fi ni 20
  refine nv_bipush (k := 8) hx hb dX3_toSix_108 (by decide) ?_
  refine nv_icmp_ne (tgt := 119) hx hb dX3_toSix_110 (by decide) (by omega) (by omega) (fun h110 => ?_) (fun h110 => ?_)
  · skip
    refine nv_sipush (k := 129) hx hb dX3_toSix_119 (by decide) ?_
    refine wr_V S (c_X1_put (wB_b hne hb0) (wB_a ha0) (by omega) hN (k := 40) (x := nI (129)) (by omega)) kw3_121 yv_X1_put ⟨Nat.le_of_ble_eq_true rfl, Nat.le_of_ble_eq_true rfl⟩ hK hP hD hS hA (va_recv hK hP (ci := 2) (q0 := kb) rfl (wB_b hne hb0)) rfl hl.1 rfl (Nat.le_of_ble_eq_true rfl) dX3_toSix_122 ⟨Nat.zero_le _, Nat.zero_le _⟩ (fun g_8 H locs hg_8 hP hD hS => ?_)
    rw [wB_wB hne] at hP hD
    rw [by8_nI] at hg_8
    refine W.eq (g2 := F0 m 125 ls []) rfl ?_
    refine lv_aload_n hx hb dX3_toSix_125 rfl (lv_at hl 3 rfl) ?_
    refine nv_bipush (k := 40) hx hb dX3_toSix_126 (by decide) ?_
    refine wr_S S (c_X9_putPart (wB_b hne hb0) (wB_a ha0) (by omega) hN (hd := 40) (q := tg_nx pt) (by omega) (rd_at (x := tg_nx pt) (by omega) (by rw [hg_8, up_out (i := 6) (a := 40) (by omega), hg_6, put_out (i := 6) (a := 40 + (tg_dpa pt)) (k := 2) (by omega), hg_5, cpy_out (i := 6) (by omega), hg_4, inn_out (i := 6) (a := 24) (by omega), hg_3, emb_out (i := 6) (a := 8) (by omega), hg_2]; exact six_6) (tg_nx_lt hpt)) (by omega)) kw3_141 yv_X9_putPart ⟨Nat.le_of_ble_eq_true rfl, Nat.le_of_ble_eq_true rfl⟩ hK hP hD hS hA rfl hl.1 rfl (Nat.le_of_ble_eq_true rfl) dX3_toSix_128 ⟨Nat.zero_le _, Nat.zero_le _⟩ (fun g_9 H locs hg_9 hP hD hS => ?_)
    rw [wB_wB hne] at hP hD
    refine W.eq (g2 := F0 m 131 ls []) rfl ?_
    exact hend _ (by rw [hg_9, hg_8, hg_6, hg_5, hg_4, hg_3, hg_2]; unfold tg_sx tg_sx1; (first | rw [if_pos h96, if_pos h110] | rw [if_pos h96, if_neg h110] | rw [if_neg h96]) <;> rfl) hP hD hS dX3_toSix_131
  refine nv_sipush (k := 128) hx hb dX3_toSix_113 (by decide) ?_
  refine lv_goto (tgt := 122) hx hb dX3_toSix_116 (by decide) ?_
  refine wr_V S (c_X1_put (wB_b hne hb0) (wB_a ha0) (by omega) hN (k := 40) (x := nI (128)) (by omega)) kw3_121 yv_X1_put ⟨Nat.le_of_ble_eq_true rfl, Nat.le_of_ble_eq_true rfl⟩ hK hP hD hS hA (va_recv hK hP (ci := 2) (q0 := kb) rfl (wB_b hne hb0)) rfl hl.1 rfl (Nat.le_of_ble_eq_true rfl) dX3_toSix_122 ⟨Nat.zero_le _, Nat.zero_le _⟩ (fun g_10 H locs hg_10 hP hD hS => ?_)
  rw [wB_wB hne] at hP hD
  rw [by8_nI] at hg_10
  refine W.eq (g2 := F0 m 125 ls []) rfl ?_
  refine lv_aload_n hx hb dX3_toSix_125 rfl (lv_at hl 3 rfl) ?_
  refine nv_bipush (k := 40) hx hb dX3_toSix_126 (by decide) ?_
  refine wr_S S (c_X9_putPart (wB_b hne hb0) (wB_a ha0) (by omega) hN (hd := 40) (q := tg_nx pt) (by omega) (rd_at (x := tg_nx pt) (by omega) (by rw [hg_10, up_out (i := 6) (a := 40) (by omega), hg_6, put_out (i := 6) (a := 40 + (tg_dpa pt)) (k := 2) (by omega), hg_5, cpy_out (i := 6) (by omega), hg_4, inn_out (i := 6) (a := 24) (by omega), hg_3, emb_out (i := 6) (a := 8) (by omega), hg_2]; exact six_6) (tg_nx_lt hpt)) (by omega)) kw3_141 yv_X9_putPart ⟨Nat.le_of_ble_eq_true rfl, Nat.le_of_ble_eq_true rfl⟩ hK hP hD hS hA rfl hl.1 rfl (Nat.le_of_ble_eq_true rfl) dX3_toSix_128 ⟨Nat.zero_le _, Nat.zero_le _⟩ (fun g_11 H locs hg_11 hP hD hS => ?_)
  rw [wB_wB hne] at hP hD
  refine W.eq (g2 := F0 m 131 ls []) rfl ?_
  exact hend _ (by rw [hg_11, hg_10, hg_6, hg_5, hg_4, hg_3, hg_2]; unfold tg_sx tg_sx1; (first | rw [if_pos h96, if_pos h110] | rw [if_pos h96, if_neg h110] | rw [if_neg h96]) <;> rfl) hP hD hS dX3_toSix_131
theorem dX3_errorToSix_0 : decode cX3_errorToSix 0 = .ok (.aload_n 0, 1) := by decide +kernel
theorem dX3_errorToSix_1 : decode cX3_errorToSix 1 = .ok (.invokevirtual 15, 3) := by decide +kernel
theorem dX3_errorToSix_4 : decode cX3_errorToSix 4 = .ok (.bipush 40, 2) := by decide +kernel
theorem dX3_errorToSix_6 : decode cX3_errorToSix 6 = .ok (.iadd, 1) := by decide +kernel
theorem dX3_errorToSix_7 : decode cX3_errorToSix 7 = .ok (.istore 4, 2) := by decide +kernel
theorem dX3_errorToSix_9 : decode cX3_errorToSix 9 = .ok (.aload_n 1, 1) := by decide +kernel
theorem dX3_errorToSix_10 : decode cX3_errorToSix 10 = .ok (.iload 4, 2) := by decide +kernel
theorem dX3_errorToSix_12 : decode cX3_errorToSix 12 = .ok (.sipush 1280, 3) := by decide +kernel
theorem dX3_errorToSix_15 : decode cX3_errorToSix 15 = .ok (.invokestatic 87, 3) := by decide +kernel
theorem dX3_errorToSix_18 : decode cX3_errorToSix 18 = .ok (.invokevirtual 21, 3) := by decide +kernel
theorem dX3_errorToSix_21 : decode cX3_errorToSix 21 = .ok (.aload_n 1, 1) := by decide +kernel
theorem dX3_errorToSix_22 : decode cX3_errorToSix 22 = .ok (.iconst 0, 1) := by decide +kernel
theorem dX3_errorToSix_23 : decode cX3_errorToSix 23 = .ok (.aload_n 0, 1) := by decide +kernel
theorem dX3_errorToSix_24 : decode cX3_errorToSix 24 = .ok (.iconst 1, 1) := by decide +kernel
theorem dX3_errorToSix_25 : decode cX3_errorToSix 25 = .ok (.invokevirtual 36, 3) := by decide +kernel
theorem dX3_errorToSix_28 : decode cX3_errorToSix 28 = .ok (.aload_n 1, 1) := by decide +kernel
theorem dX3_errorToSix_29 : decode cX3_errorToSix 29 = .ok (.invokevirtual 15, 3) := by decide +kernel
theorem dX3_errorToSix_32 : decode cX3_errorToSix 32 = .ok (.bipush 40, 2) := by decide +kernel
theorem dX3_errorToSix_34 : decode cX3_errorToSix 34 = .ok (.isub, 1) := by decide +kernel
theorem dX3_errorToSix_35 : decode cX3_errorToSix 35 = .ok (.iconst 1, 1) := by decide +kernel
theorem dX3_errorToSix_36 : decode cX3_errorToSix 36 = .ok (.aload_n 0, 1) := by decide +kernel
theorem dX3_errorToSix_37 : decode cX3_errorToSix 37 = .ok (.bipush 8, 2) := by decide +kernel
theorem dX3_errorToSix_39 : decode cX3_errorToSix 39 = .ok (.invokevirtual 36, 3) := by decide +kernel
theorem dX3_errorToSix_42 : decode cX3_errorToSix 42 = .ok (.iconst 1, 1) := by decide +kernel
theorem dX3_errorToSix_43 : decode cX3_errorToSix 43 = .ok (.isub, 1) := by decide +kernel
theorem dX3_errorToSix_44 : decode cX3_errorToSix 44 = .ok (.invokestatic 64, 3) := by decide +kernel
theorem dX3_errorToSix_47 : decode cX3_errorToSix 47 = .ok (.aload_n 1, 1) := by decide +kernel
theorem dX3_errorToSix_48 : decode cX3_errorToSix 48 = .ok (.bipush 8, 2) := by decide +kernel
theorem dX3_errorToSix_50 : decode cX3_errorToSix 50 = .ok (.aload_n 0, 1) := by decide +kernel
theorem dX3_errorToSix_51 : decode cX3_errorToSix 51 = .ok (.bipush 12, 2) := by decide +kernel
theorem dX3_errorToSix_53 : decode cX3_errorToSix 53 = .ok (.invokevirtual 70, 3) := by decide +kernel
theorem dX3_errorToSix_56 : decode cX3_errorToSix 56 = .ok (.aload_n 3, 1) := by decide +kernel
theorem dX3_errorToSix_57 : decode cX3_errorToSix 57 = .ok (.invokestatic 73, 3) := by decide +kernel
theorem dX3_errorToSix_60 : decode cX3_errorToSix 60 = .ok (.aload_n 1, 1) := by decide +kernel
theorem dX3_errorToSix_61 : decode cX3_errorToSix 61 = .ok (.bipush 24, 2) := by decide +kernel
theorem dX3_errorToSix_63 : decode cX3_errorToSix 63 = .ok (.aload_n 2, 1) := by decide +kernel
theorem dX3_errorToSix_64 : decode cX3_errorToSix 64 = .ok (.invokestatic 77, 3) := by decide +kernel
theorem dX3_errorToSix_67 : decode cX3_errorToSix 67 = .ok (.aload_n 0, 1) := by decide +kernel
theorem dX3_errorToSix_68 : decode cX3_errorToSix 68 = .ok (.aload_n 1, 1) := by decide +kernel
theorem dX3_errorToSix_69 : decode cX3_errorToSix 69 = .ok (.invokestatic 93, 3) := by decide +kernel
theorem dX3_errorToSix_72 : decode cX3_errorToSix 72 = .ok (.return_, 1) := by decide +kernel
theorem yv_X3_errorToSix : YS yX3_errorToSix cX3_errorToSix 5 none 4 := ⟨kw3_200, kw1_22, kw3_201, by decide +kernel⟩
set_option maxHeartbeats 4000000 in
set_option maxRecDepth 100000 in
theorem c_X3_errorToSix {l : Launch} {D : va_G} {cy : Nat → ClassId} {ws : va_W} {kb ka b ar N n : Nat} {f : Nat → UInt8} (hb0 : ws[kb]? = some (b, .inr (2, [.ref ar, .int (nI n)]))) (ha0 : ws[ka]? = some (ar, .inl (cy 0, N, .inl (bt f)))) (hnN : n ≤ N) (hN : N ≤ 1700) {ki kai bi ai Ni ni : Nat} {fi : Nat → UInt8} (hi0 : ws[ki]? = some (bi, .inr (2, [.ref ai, .int (nI ni)]))) (hi1 : ws[kai]? = some (ai, .inl (cy 0, Ni, .inl (bt fi)))) (hniN : ni ≤ Ni) (hNi : Ni ≤ 1700) (di1 : kb ≠ ki) (di2 : ka ≠ ki) (di3 : kb ≠ kai) (di4 : ka ≠ kai) {kw ow pt ih il ip pn op : Nat} (hw0 : ws[kw]? = some (ow, .inr (1, [.int (nI pt), .long (lN ih), .long (lN il), .int (nI ip), .int (nI pn), .int (nI op)]))) (hpt : pt = 1 ∨ pt = 6 ∨ pt = 17) (hih : ih < 2 ^ 64) (hil : il < 2 ^ 64) (hip : ip < 65536) (hop : op < 2 ^ 31) (dw1 : kb ≠ kw) (dw2 : ka ≠ kw) {ks st bits F G : Nat} (hs0 : ws[ks]? = some (st, .inr (6, [.long (lN F), .long (lN G), .int (nI bits), .int (nI (bits - 32))]))) (hsi : SI bits F G) (ds1 : kb ≠ ks) (ds2 : ka ≠ ks) (hni : 56 ≤ ni) (hNo : 1280 ≤ N) (hhop : 2 ≤ tg_rd fi ni 8) : WR (S := (Nat → UInt8)) l yX3_errorToSix cX3_errorToSix 5 none 3 0 0 73 [.ref bi, .ref b, .ref ow, .ref st] D cy ws (fun _ => none) (fun g => g = tg_er1 f fi ni ih il bits F G) (fun g => wB ws kb ka b ar N cy g (min (ni + 40) 1280)) := by
  refine WRv (by decide) (lv0 := [(0, .ref bi), (1, .ref b), (2, .ref ow), (3, .ref st)]) rfl (Nat.le_of_ble_eq_true rfl) ?_
  intro p e s m args below meth c ls A Q S hnm hP hK hD hS hA hend hl
  have hx := S.1
  have hb := S.2.1
  have hown : s.vm.findClass RX3 = some m.cls := S.2.2.2.1
  have ht : ∀ w ∈ lw_g, w.before args s = true := fun w h => S.2.2.2.2 w (List.mem_cons_of_mem _ h)
  have hne : kb ≠ ka := lst_ne hb0 ha0 (fun z => by cases z)
  have hP : va_P D vwCl (wB ws kb ka b ar N cy f n) s.heap := by rw [wB_self hb0 ha0]; exact hP
  have hD : va_D A (wB ws kb ka b ar N cy f n) := by rw [wB_self hb0 ha0]; exact hD
  refine lv_aload_n hx hb dX3_errorToSix_0 rfl (lv_at hl 0 rfl) ?_
  refine ro_V S (c_X1_length (PK_of (wB_o di1 di2 hi0) (wB_o di3 di4 hi1) hniN hNi)) kw3_119 yv_X1_length ⟨Nat.le_of_ble_eq_true rfl, Nat.le_of_ble_eq_true rfl⟩ hK hP (va_recv hK hP (ci := 2) (q0 := ki) rfl (wB_o di1 di2 hi0)) rfl hl.1 rfl (Nat.le_of_ble_eq_true rfl) dX3_errorToSix_1 ⟨Nat.zero_le _, Nat.zero_le _⟩ ?_
  refine nv_bipush (k := 40) hx hb dX3_errorToSix_4 (by decide) ?_
  refine nv_iadd hx hb dX3_errorToSix_6 ?_
  refine lv_istore (lv' := [(4, .int (nI (ni + 40))), (0, .ref bi), (1, .ref b), (2, .ref ow), (3, .ref st)]) hx hb dX3_errorToSix_7 hl (by decide) rfl (fun ls hl => ?_)
  refine lv_aload_n hx hb dX3_errorToSix_9 rfl (lv_at hl 2 rfl) ?_
  refine lv_iload hx hb dX3_errorToSix_10 (lv_at hl 0 rfl) ?_
  refine nv_sipush (k := 1280) hx hb dX3_errorToSix_12 (by decide) ?_
  refine nv_min hx hb (S.2.2.1.trans hl.1.symm) hown (ht _ kw3_202) (ht _ kw1_229) (ht _ kw1_3) (ht _ kw1_230) (Nat.le_of_ble_eq_true rfl) (Nat.le_of_ble_eq_true rfl) (Nat.zero_le _) (Nat.zero_le _) (by omega) (by omega) dX3_errorToSix_15 ?_
  refine wr_V S (c_X1_resize (wB_b hne hb0) (wB_a ha0) (by omega) hN (x := min (ni + 40) 1280) (by omega)) kw3_120 yv_X1_resize ⟨Nat.le_of_ble_eq_true rfl, Nat.le_of_ble_eq_true rfl⟩ hK hP hD hS hA (va_recv hK hP (ci := 2) (q0 := kb) rfl (wB_b hne hb0)) rfl hl.1 rfl (Nat.le_of_ble_eq_true rfl) dX3_errorToSix_18 ⟨Nat.zero_le _, Nat.zero_le _⟩ (fun g_1 H locs hg_1 hP hD hS => ?_)
  rw [wB_wB hne] at hP hD
  refine W.eq (g2 := F0 m 21 ls []) rfl ?_
  refine lv_aload_n hx hb dX3_errorToSix_21 rfl (lv_at hl 2 rfl) ?_
  refine nv_iconst (k := 0) hx hb dX3_errorToSix_22 rfl ?_
  refine lv_aload_n hx hb dX3_errorToSix_23 rfl (lv_at hl 1 rfl) ?_
  refine nv_iconst (k := 1) hx hb dX3_errorToSix_24 rfl ?_
  refine ro_V S (c_X1_octet (PK_of (wB_o di1 di2 hi0) (wB_o di3 di4 hi1) hniN hNi) (k := 1) (by omega)) kw3_130 yv_X1_octet ⟨Nat.le_of_ble_eq_true rfl, Nat.le_of_ble_eq_true rfl⟩ hK hP (va_recv hK hP (ci := 2) (q0 := ki) rfl (wB_o di1 di2 hi0)) rfl hl.1 rfl (Nat.le_of_ble_eq_true rfl) dX3_errorToSix_25 ⟨Nat.zero_le _, Nat.zero_le _⟩ ?_
  have hq25 := tg_rd_lt fi ni 1
  refine lv_aload_n hx hb dX3_errorToSix_28 rfl (lv_at hl 2 rfl) ?_
  refine ro_V S (c_X1_length (PK_of (wB_b hne hb0) (wB_a ha0) (by omega) hN)) kw3_119 yv_X1_length ⟨Nat.le_of_ble_eq_true rfl, Nat.le_of_ble_eq_true rfl⟩ hK hP (va_recv hK hP (ci := 2) (q0 := kb) rfl (wB_b hne hb0)) rfl hl.1 rfl (Nat.le_of_ble_eq_true rfl) dX3_errorToSix_29 ⟨Nat.zero_le _, Nat.zero_le _⟩ ?_
  refine nv_bipush (k := 40) hx hb dX3_errorToSix_32 (by decide) ?_
  refine nv_isub hx hb (by omega) dX3_errorToSix_34 ?_
  refine nv_iconst (k := 1) hx hb dX3_errorToSix_35 rfl ?_
  refine lv_aload_n hx hb dX3_errorToSix_36 rfl (lv_at hl 1 rfl) ?_
  refine nv_bipush (k := 8) hx hb dX3_errorToSix_37 (by decide) ?_
  refine ro_V S (c_X1_octet (PK_of (wB_o di1 di2 hi0) (wB_o di3 di4 hi1) hniN hNi) (k := 8) (by omega)) kw3_130 yv_X1_octet ⟨Nat.le_of_ble_eq_true rfl, Nat.le_of_ble_eq_true rfl⟩ hK hP (va_recv hK hP (ci := 2) (q0 := ki) rfl (wB_o di1 di2 hi0)) rfl hl.1 rfl (Nat.le_of_ble_eq_true rfl) dX3_errorToSix_39 ⟨Nat.zero_le _, Nat.zero_le _⟩ ?_
  have hq39 := tg_rd_lt fi ni 8
  refine nv_iconst (k := 1) hx hb dX3_errorToSix_42 rfl ?_
  refine nv_isub hx hb (by omega) dX3_errorToSix_43 ?_
  refine wr_S S (c_X3_putSixHead (wB_b hne hb0) (wB_a ha0) (by omega) hN (a := 0) (tr := tg_rd fi ni 1) (pl := ((min (ni + 40) 1280)) - 40) (q := 1) (hp := (tg_rd fi ni 8) - 1) (by omega) (by omega) (by omega) (by omega) (by omega)) kw3_203 yv_X3_putSixHead ⟨Nat.le_of_ble_eq_true rfl, Nat.le_of_ble_eq_true rfl⟩ hK hP hD hS hA rfl hl.1 rfl (Nat.le_of_ble_eq_true rfl) dX3_errorToSix_44 ⟨Nat.zero_le _, Nat.zero_le _⟩ (fun g_2 H locs hg_2 hP hD hS => ?_)
  rw [wB_wB hne] at hP hD
  refine W.eq (g2 := F0 m 47 ls []) rfl ?_
  refine lv_aload_n hx hb dX3_errorToSix_47 rfl (lv_at hl 2 rfl) ?_
  refine nv_bipush (k := 8) hx hb dX3_errorToSix_48 (by decide) ?_
  refine lv_aload_n hx hb dX3_errorToSix_50 rfl (lv_at hl 1 rfl) ?_
  refine nv_bipush (k := 12) hx hb dX3_errorToSix_51 (by decide) ?_
  refine ro_V S (c_X1_quad (PK_of (wB_o di1 di2 hi0) (wB_o di3 di4 hi1) hniN hNi) (a := 12) (by omega)) kw3_206 yv_X1_quad ⟨Nat.le_of_ble_eq_true rfl, Nat.le_of_ble_eq_true rfl⟩ hK hP (va_recv hK hP (ci := 2) (q0 := ki) rfl (wB_o di1 di2 hi0)) rfl hl.1 rfl (Nat.le_of_ble_eq_true rfl) dX3_errorToSix_53 ⟨Nat.zero_le _, Nat.zero_le _⟩ ?_
  have hq53 := tg_qd_lt fi ni 12
  refine lv_aload_n hx hb dX3_errorToSix_56 rfl (lv_at hl 4 rfl) ?_
  refine wr_S S (c_X3_putEmbedded (wB_b hne hb0) (wB_a ha0) (by omega) hN (wB_o ds1 ds2 hs0) hsi ds1 ds2 (a := 8) (x := tg_qd (tg_rd fi ni) 12) (by omega) (by omega)) kw3_207 yv_X3_putEmbedded ⟨Nat.le_of_ble_eq_true rfl, Nat.le_of_ble_eq_true rfl⟩ hK hP hD hS hA rfl hl.1 rfl (Nat.le_of_ble_eq_true rfl) dX3_errorToSix_57 ⟨Nat.zero_le _, Nat.zero_le _⟩ (fun g_3 H locs hg_3 hP hD hS => ?_)
  rw [wB_wB hne] at hP hD
  refine W.eq (g2 := F0 m 60 ls []) rfl ?_
  refine lv_aload_n hx hb dX3_errorToSix_60 rfl (lv_at hl 2 rfl) ?_
  refine nv_bipush (k := 24) hx hb dX3_errorToSix_61 (by decide) ?_
  refine lv_aload_n hx hb dX3_errorToSix_63 rfl (lv_at hl 3 rfl) ?_
  refine wr_S S (c_X3_putInner (wB_b hne hb0) (wB_a ha0) (by omega) hN (wB_o dw1 dw2 hw0) hpt hih hil hip hop dw1 dw2 (a := 24) (by omega)) kw3_216 yv_X3_putInner ⟨Nat.le_of_ble_eq_true rfl, Nat.le_of_ble_eq_true rfl⟩ hK hP hD hS hA rfl hl.1 rfl (Nat.le_of_ble_eq_true rfl) dX3_errorToSix_64 ⟨Nat.zero_le _, Nat.zero_le _⟩ (fun g_4 H locs hg_4 hP hD hS => ?_)
  rw [wB_wB hne] at hP hD
  refine W.eq (g2 := F0 m 67 ls []) rfl ?_
  refine lv_aload_n hx hb dX3_errorToSix_67 rfl (lv_at hl 1 rfl) ?_
  refine lv_aload_n hx hb dX3_errorToSix_68 rfl (lv_at hl 2 rfl) ?_
  refine wr_S S (c_X3_putErrorKind (wB_b hne hb0) (wB_a ha0) (by omega) hN (wB_o di1 di2 hi0) (wB_o di3 di4 hi1) hniN hNi di1 di2 di3 di4 (by omega)) kw3_219 yv_X3_putErrorKind ⟨Nat.le_of_ble_eq_true rfl, Nat.le_of_ble_eq_true rfl⟩ hK hP hD hS hA rfl hl.1 rfl (Nat.le_of_ble_eq_true rfl) dX3_errorToSix_69 ⟨Nat.zero_le _, Nat.zero_le _⟩ (fun g_5 H locs hg_5 hP hD hS => ?_)
  rw [wB_wB hne] at hP hD
  refine W.eq (g2 := F0 m 72 ls []) rfl ?_
  exact hend _ (by rw [hg_5, hg_4, hg_3, hg_2] <;> rfl) hP hD hS dX3_errorToSix_72
theorem dX3_withinToSix_0 : decode cX3_withinToSix 0 = .ok (.aload_n 2, 1) := by decide +kernel
theorem dX3_withinToSix_1 : decode cX3_withinToSix 1 = .ok (.getfield 9, 3) := by decide +kernel
theorem dX3_withinToSix_4 : decode cX3_withinToSix 4 = .ok (.istore 4, 2) := by decide +kernel
theorem dX3_withinToSix_6 : decode cX3_withinToSix 6 = .ok (.aload_n 0, 1) := by decide +kernel
theorem dX3_withinToSix_7 : decode cX3_withinToSix 7 = .ok (.bipush 30, 2) := by decide +kernel
theorem dX3_withinToSix_9 : decode cX3_withinToSix 9 = .ok (.invokevirtual 29, 3) := by decide +kernel
theorem dX3_withinToSix_12 : decode cX3_withinToSix 12 = .ok (.bipush 20, 2) := by decide +kernel
theorem dX3_withinToSix_14 : decode cX3_withinToSix 14 = .ok (.isub, 1) := by decide +kernel
theorem dX3_withinToSix_15 : decode cX3_withinToSix 15 = .ok (.istore 5, 2) := by decide +kernel
theorem dX3_withinToSix_17 : decode cX3_withinToSix 17 = .ok (.bipush 88, 2) := by decide +kernel
theorem dX3_withinToSix_19 : decode cX3_withinToSix 19 = .ok (.istore 6, 2) := by decide +kernel
theorem dX3_withinToSix_21 : decode cX3_withinToSix 21 = .ok (.aload_n 0, 1) := by decide +kernel
theorem dX3_withinToSix_22 : decode cX3_withinToSix 22 = .ok (.bipush 29, 2) := by decide +kernel
theorem dX3_withinToSix_24 : decode cX3_withinToSix 24 = .ok (.invokevirtual 36, 3) := by decide +kernel
theorem dX3_withinToSix_27 : decode cX3_withinToSix 27 = .ok (.istore 7, 2) := by decide +kernel
theorem dX3_withinToSix_29 : decode cX3_withinToSix 29 = .ok (.aload_n 1, 1) := by decide +kernel
theorem dX3_withinToSix_30 : decode cX3_withinToSix 30 = .ok (.bipush 48, 2) := by decide +kernel
theorem dX3_withinToSix_32 : decode cX3_withinToSix 32 = .ok (.iload 7, 2) := by decide +kernel
theorem dX3_withinToSix_34 : decode cX3_withinToSix 34 = .ok (.iload 5, 2) := by decide +kernel
theorem dX3_withinToSix_36 : decode cX3_withinToSix 36 = .ok (.iload 4, 2) := by decide +kernel
theorem dX3_withinToSix_38 : decode cX3_withinToSix 38 = .ok (.aload_n 0, 1) := by decide +kernel
theorem dX3_withinToSix_39 : decode cX3_withinToSix 39 = .ok (.bipush 36, 2) := by decide +kernel
theorem dX3_withinToSix_41 : decode cX3_withinToSix 41 = .ok (.invokevirtual 36, 3) := by decide +kernel
theorem dX3_withinToSix_44 : decode cX3_withinToSix 44 = .ok (.invokestatic 64, 3) := by decide +kernel
theorem dX3_withinToSix_47 : decode cX3_withinToSix 47 = .ok (.aload_n 1, 1) := by decide +kernel
theorem dX3_withinToSix_48 : decode cX3_withinToSix 48 = .ok (.bipush 56, 2) := by decide +kernel
theorem dX3_withinToSix_50 : decode cX3_withinToSix 50 = .ok (.aload_n 2, 1) := by decide +kernel
theorem dX3_withinToSix_51 : decode cX3_withinToSix 51 = .ok (.invokestatic 77, 3) := by decide +kernel
theorem dX3_withinToSix_54 : decode cX3_withinToSix 54 = .ok (.aload_n 1, 1) := by decide +kernel
theorem dX3_withinToSix_55 : decode cX3_withinToSix 55 = .ok (.bipush 72, 2) := by decide +kernel
theorem dX3_withinToSix_57 : decode cX3_withinToSix 57 = .ok (.aload_n 0, 1) := by decide +kernel
theorem dX3_withinToSix_58 : decode cX3_withinToSix 58 = .ok (.bipush 44, 2) := by decide +kernel
theorem dX3_withinToSix_60 : decode cX3_withinToSix 60 = .ok (.invokevirtual 70, 3) := by decide +kernel
theorem dX3_withinToSix_63 : decode cX3_withinToSix 63 = .ok (.aload_n 3, 1) := by decide +kernel
theorem dX3_withinToSix_64 : decode cX3_withinToSix 64 = .ok (.invokestatic 73, 3) := by decide +kernel
theorem dX3_withinToSix_67 : decode cX3_withinToSix 67 = .ok (.aload_n 1, 1) := by decide +kernel
theorem dX3_withinToSix_68 : decode cX3_withinToSix 68 = .ok (.aload_n 0, 1) := by decide +kernel
theorem dX3_withinToSix_69 : decode cX3_withinToSix 69 = .ok (.bipush 48, 2) := by decide +kernel
theorem dX3_withinToSix_71 : decode cX3_withinToSix 71 = .ok (.iload 6, 2) := by decide +kernel
theorem dX3_withinToSix_73 : decode cX3_withinToSix 73 = .ok (.aload_n 1, 1) := by decide +kernel
theorem dX3_withinToSix_74 : decode cX3_withinToSix 74 = .ok (.invokevirtual 15, 3) := by decide +kernel
theorem dX3_withinToSix_77 : decode cX3_withinToSix 77 = .ok (.iload 6, 2) := by decide +kernel
theorem dX3_withinToSix_79 : decode cX3_withinToSix 79 = .ok (.isub, 1) := by decide +kernel
theorem dX3_withinToSix_80 : decode cX3_withinToSix 80 = .ok (.invokevirtual 48, 3) := by decide +kernel
theorem dX3_withinToSix_83 : decode cX3_withinToSix 83 = .ok (.aload_n 1, 1) := by decide +kernel
theorem dX3_withinToSix_84 : decode cX3_withinToSix 84 = .ok (.iload 6, 2) := by decide +kernel
theorem dX3_withinToSix_86 : decode cX3_withinToSix 86 = .ok (.iload 4, 2) := by decide +kernel
theorem dX3_withinToSix_88 : decode cX3_withinToSix 88 = .ok (.invokestatic 52, 3) := by decide +kernel
theorem dX3_withinToSix_91 : decode cX3_withinToSix 91 = .ok (.iadd, 1) := by decide +kernel
theorem dX3_withinToSix_92 : decode cX3_withinToSix 92 = .ok (.aload_n 2, 1) := by decide +kernel
theorem dX3_withinToSix_93 : decode cX3_withinToSix 93 = .ok (.getfield 84, 3) := by decide +kernel
theorem dX3_withinToSix_96 : decode cX3_withinToSix 96 = .ok (.invokevirtual 33, 3) := by decide +kernel
theorem dX3_withinToSix_99 : decode cX3_withinToSix 99 = .ok (.iload 4, 2) := by decide +kernel
theorem dX3_withinToSix_101 : decode cX3_withinToSix 101 = .ok (.iconst 1, 1) := by decide +kernel
theorem dX3_withinToSix_102 : decode cX3_withinToSix 102 = .ok (.if_icmp .ne 12, 3) := by decide +kernel
theorem dX3_withinToSix_105 : decode cX3_withinToSix 105 = .ok (.aload_n 1, 1) := by decide +kernel
theorem dX3_withinToSix_106 : decode cX3_withinToSix 106 = .ok (.iload 6, 2) := by decide +kernel
theorem dX3_withinToSix_108 : decode cX3_withinToSix 108 = .ok (.sipush 128, 3) := by decide +kernel
theorem dX3_withinToSix_111 : decode cX3_withinToSix 111 = .ok (.invokevirtual 25, 3) := by decide +kernel
theorem dX3_withinToSix_114 : decode cX3_withinToSix 114 = .ok (.return_, 1) := by decide +kernel
theorem yv_X3_withinToSix : YS yX3_withinToSix cX3_withinToSix 8 none 4 := ⟨kw3_227, kw1_22, kw3_228, by decide +kernel⟩
set_option maxHeartbeats 4000000 in
set_option maxRecDepth 100000 in
theorem c_X3_withinToSix {l : Launch} {D : va_G} {cy : Nat → ClassId} {ws : va_W} {kb ka b ar N n : Nat} {f : Nat → UInt8} (hb0 : ws[kb]? = some (b, .inr (2, [.ref ar, .int (nI n)]))) (ha0 : ws[ka]? = some (ar, .inl (cy 0, N, .inl (bt f)))) (hnN : n ≤ N) (hN : N ≤ 1700) {ki kai bi ai Ni ni : Nat} {fi : Nat → UInt8} (hi0 : ws[ki]? = some (bi, .inr (2, [.ref ai, .int (nI ni)]))) (hi1 : ws[kai]? = some (ai, .inl (cy 0, Ni, .inl (bt fi)))) (hniN : ni ≤ Ni) (hNi : Ni ≤ 1700) (di1 : kb ≠ ki) (di2 : ka ≠ ki) (di3 : kb ≠ kai) (di4 : ka ≠ kai) {kw ow pt ih il ip pn op : Nat} (hw0 : ws[kw]? = some (ow, .inr (1, [.int (nI pt), .long (lN ih), .long (lN il), .int (nI ip), .int (nI pn), .int (nI op)]))) (hpt : pt = 1 ∨ pt = 6 ∨ pt = 17) (hih : ih < 2 ^ 64) (hil : il < 2 ^ 64) (hip : ip < 65536) (hop : op < 2 ^ 31) (dw1 : kb ≠ kw) (dw2 : ka ≠ kw) {ks st bits F G : Nat} (hs0 : ws[ks]? = some (st, .inr (6, [.long (lN F), .long (lN G), .int (nI bits), .int (nI (bits - 32))]))) (hsi : SI bits F G) (ds1 : kb ≠ ks) (ds2 : ka ≠ ks) (hni : 56 ≤ ni) (hn96 : 96 ≤ n) (hnn : n ≤ ni + 40) : WR (S := (Nat → UInt8)) l yX3_withinToSix cX3_withinToSix 8 none 3 0 0 73 [.ref bi, .ref b, .ref ow, .ref st] D cy ws (fun _ => none) (fun g => g = tg_wi f fi ni n pt ip ih il bits F G) (fun g => wB ws kb ka b ar N cy g n) := by
  refine WRv (by decide) (lv0 := [(0, .ref bi), (1, .ref b), (2, .ref ow), (3, .ref st)]) rfl (Nat.le_of_ble_eq_true rfl) ?_
  intro p e s m args below meth c ls A Q S hnm hP hK hD hS hA hend hl
  have hx := S.1
  have hb := S.2.1
  have hown : s.vm.findClass RX3 = some m.cls := S.2.2.2.1
  have ht : ∀ w ∈ lw_g, w.before args s = true := fun w h => S.2.2.2.2 w (List.mem_cons_of_mem _ h)
  have hne : kb ≠ ka := lst_ne hb0 ha0 (fun z => by cases z)
  have hP : va_P D vwCl (wB ws kb ka b ar N cy f n) s.heap := by rw [wB_self hb0 ha0]; exact hP
  have hD : va_D A (wB ws kb ka b ar N cy f n) := by rw [wB_self hb0 ha0]; exact hD
  refine lv_aload_n hx hb dX3_withinToSix_0 rfl (lv_at hl 2 rfl) ?_
  refine va_get (ci := 1) (C := RX0) (T := TX0) (N := 6) hx hb ht iFX0 hown hK hP kw (wB_o dw1 dw2 hw0) rfl 0 (by decide) (ht _ kw2_234) (fun _ h9 => h9) rfl dX3_withinToSix_1 ?_
  refine lv_istore (lv' := [(4, .int (nI pt)), (0, .ref bi), (1, .ref b), (2, .ref ow), (3, .ref st)]) hx hb dX3_withinToSix_4 hl (by decide) rfl (fun ls hl => ?_)
  refine lv_aload_n hx hb dX3_withinToSix_6 rfl (lv_at hl 1 rfl) ?_
  refine nv_bipush (k := 30) hx hb dX3_withinToSix_7 (by decide) ?_
  refine ro_V S (c_X1_pair (PK_of (wB_o di1 di2 hi0) (wB_o di3 di4 hi1) hniN hNi) (a := 30) (by omega)) kw3_125 yv_X1_pair ⟨Nat.le_of_ble_eq_true rfl, Nat.le_of_ble_eq_true rfl⟩ hK hP (va_recv hK hP (ci := 2) (q0 := ki) rfl (wB_o di1 di2 hi0)) rfl hl.1 rfl (Nat.le_of_ble_eq_true rfl) dX3_withinToSix_9 ⟨Nat.zero_le _, Nat.zero_le _⟩ ?_
  have hq9 := tg_pr_lt fi ni 30
  refine nv_bipush (k := 20) hx hb dX3_withinToSix_12 (by decide) ?_
  refine nv_isubw hx hb (by omega) dX3_withinToSix_14 ?_
  refine lv_istore (lv' := [(5, .int (nI ((tg_pr (tg_rd fi ni) 30 + 4294967296 - 20) % 4294967296))), (4, .int (nI pt)), (0, .ref bi), (1, .ref b), (2, .ref ow), (3, .ref st)]) hx hb dX3_withinToSix_15 hl (by decide) rfl (fun ls hl => ?_)
  refine nv_bipush (k := 88) hx hb dX3_withinToSix_17 (by decide) ?_
  refine lv_istore (lv' := [(6, .int (nI 88)), (5, .int (nI ((tg_pr (tg_rd fi ni) 30 + 4294967296 - 20) % 4294967296))), (4, .int (nI pt)), (0, .ref bi), (1, .ref b), (2, .ref ow), (3, .ref st)]) hx hb dX3_withinToSix_19 hl (by decide) rfl (fun ls hl => ?_)
  refine lv_aload_n hx hb dX3_withinToSix_21 rfl (lv_at hl 3 rfl) ?_
  refine nv_bipush (k := 29) hx hb dX3_withinToSix_22 (by decide) ?_
  refine ro_V S (c_X1_octet (PK_of (wB_o di1 di2 hi0) (wB_o di3 di4 hi1) hniN hNi) (k := 29) (by omega)) kw3_130 yv_X1_octet ⟨Nat.le_of_ble_eq_true rfl, Nat.le_of_ble_eq_true rfl⟩ hK hP (va_recv hK hP (ci := 2) (q0 := ki) rfl (wB_o di1 di2 hi0)) rfl hl.1 rfl (Nat.le_of_ble_eq_true rfl) dX3_withinToSix_24 ⟨Nat.zero_le _, Nat.zero_le _⟩ ?_
  have hq24 := tg_rd_lt fi ni 29
  refine lv_istore (lv' := [(7, .int (nI (tg_rd fi ni 29))), (6, .int (nI 88)), (5, .int (nI ((tg_pr (tg_rd fi ni) 30 + 4294967296 - 20) % 4294967296))), (4, .int (nI pt)), (0, .ref bi), (1, .ref b), (2, .ref ow), (3, .ref st)]) hx hb dX3_withinToSix_27 hl (by decide) rfl (fun ls hl => ?_)
  refine lv_aload_n hx hb dX3_withinToSix_29 rfl (lv_at hl 5 rfl) ?_
  refine nv_bipush (k := 48) hx hb dX3_withinToSix_30 (by decide) ?_
  refine lv_iload hx hb dX3_withinToSix_32 (lv_at hl 0 rfl) ?_
  refine lv_iload hx hb dX3_withinToSix_34 (lv_at hl 2 rfl) ?_
  refine lv_iload hx hb dX3_withinToSix_36 (lv_at hl 3 rfl) ?_
  refine lv_aload_n hx hb dX3_withinToSix_38 rfl (lv_at hl 4 rfl) ?_
  refine nv_bipush (k := 36) hx hb dX3_withinToSix_39 (by decide) ?_
  refine ro_V S (c_X1_octet (PK_of (wB_o di1 di2 hi0) (wB_o di3 di4 hi1) hniN hNi) (k := 36) (by omega)) kw3_130 yv_X1_octet ⟨Nat.le_of_ble_eq_true rfl, Nat.le_of_ble_eq_true rfl⟩ hK hP (va_recv hK hP (ci := 2) (q0 := ki) rfl (wB_o di1 di2 hi0)) rfl hl.1 rfl (Nat.le_of_ble_eq_true rfl) dX3_withinToSix_41 ⟨Nat.zero_le _, Nat.zero_le _⟩ ?_
  have hq41 := tg_rd_lt fi ni 36
  refine wr_S S (c_X3_putSixHead (wB_b hne hb0) (wB_a ha0) (by omega) hN (a := 48) (tr := tg_rd fi ni 29) (pl := (tg_pr (tg_rd fi ni) 30 + 4294967296 - 20) % 4294967296) (q := pt) (hp := tg_rd fi ni 36) (by omega) (by omega) (by omega) (by omega) (by omega)) kw3_203 yv_X3_putSixHead ⟨Nat.le_of_ble_eq_true rfl, Nat.le_of_ble_eq_true rfl⟩ hK hP hD hS hA rfl hl.1 rfl (Nat.le_of_ble_eq_true rfl) dX3_withinToSix_44 ⟨Nat.zero_le _, Nat.zero_le _⟩ (fun g_1 H locs hg_1 hP hD hS => ?_)
  rw [wB_wB hne] at hP hD
  refine W.eq (g2 := F0 m 47 ls []) rfl ?_
  refine lv_aload_n hx hb dX3_withinToSix_47 rfl (lv_at hl 5 rfl) ?_
  refine nv_bipush (k := 56) hx hb dX3_withinToSix_48 (by decide) ?_
  refine lv_aload_n hx hb dX3_withinToSix_50 rfl (lv_at hl 6 rfl) ?_
  refine wr_S S (c_X3_putInner (wB_b hne hb0) (wB_a ha0) (by omega) hN (wB_o dw1 dw2 hw0) hpt hih hil hip hop dw1 dw2 (a := 56) (by omega)) kw3_216 yv_X3_putInner ⟨Nat.le_of_ble_eq_true rfl, Nat.le_of_ble_eq_true rfl⟩ hK hP hD hS hA rfl hl.1 rfl (Nat.le_of_ble_eq_true rfl) dX3_withinToSix_51 ⟨Nat.zero_le _, Nat.zero_le _⟩ (fun g_2 H locs hg_2 hP hD hS => ?_)
  rw [wB_wB hne] at hP hD
  refine W.eq (g2 := F0 m 54 ls []) rfl ?_
  refine lv_aload_n hx hb dX3_withinToSix_54 rfl (lv_at hl 5 rfl) ?_
  refine nv_bipush (k := 72) hx hb dX3_withinToSix_55 (by decide) ?_
  refine lv_aload_n hx hb dX3_withinToSix_57 rfl (lv_at hl 4 rfl) ?_
  refine nv_bipush (k := 44) hx hb dX3_withinToSix_58 (by decide) ?_
  refine ro_V S (c_X1_quad (PK_of (wB_o di1 di2 hi0) (wB_o di3 di4 hi1) hniN hNi) (a := 44) (by omega)) kw3_206 yv_X1_quad ⟨Nat.le_of_ble_eq_true rfl, Nat.le_of_ble_eq_true rfl⟩ hK hP (va_recv hK hP (ci := 2) (q0 := ki) rfl (wB_o di1 di2 hi0)) rfl hl.1 rfl (Nat.le_of_ble_eq_true rfl) dX3_withinToSix_60 ⟨Nat.zero_le _, Nat.zero_le _⟩ ?_
  have hq60 := tg_qd_lt fi ni 44
  refine lv_aload_n hx hb dX3_withinToSix_63 rfl (lv_at hl 7 rfl) ?_
  refine wr_S S (c_X3_putEmbedded (wB_b hne hb0) (wB_a ha0) (by omega) hN (wB_o ds1 ds2 hs0) hsi ds1 ds2 (a := 72) (x := tg_qd (tg_rd fi ni) 44) (by omega) (by omega)) kw3_207 yv_X3_putEmbedded ⟨Nat.le_of_ble_eq_true rfl, Nat.le_of_ble_eq_true rfl⟩ hK hP hD hS hA rfl hl.1 rfl (Nat.le_of_ble_eq_true rfl) dX3_withinToSix_64 ⟨Nat.zero_le _, Nat.zero_le _⟩ (fun g_3 H locs hg_3 hP hD hS => ?_)
  rw [wB_wB hne] at hP hD
  refine W.eq (g2 := F0 m 67 ls []) rfl ?_
  refine lv_aload_n hx hb dX3_withinToSix_67 rfl (lv_at hl 5 rfl) ?_
  refine lv_aload_n hx hb dX3_withinToSix_68 rfl (lv_at hl 4 rfl) ?_
  refine nv_bipush (k := 48) hx hb dX3_withinToSix_69 (by decide) ?_
  refine lv_iload hx hb dX3_withinToSix_71 (lv_at hl 1 rfl) ?_
  refine lv_aload_n hx hb dX3_withinToSix_73 rfl (lv_at hl 5 rfl) ?_
  refine ro_V S (c_X1_length (PK_of (wB_b hne hb0) (wB_a ha0) (by omega) hN)) kw3_119 yv_X1_length ⟨Nat.le_of_ble_eq_true rfl, Nat.le_of_ble_eq_true rfl⟩ hK hP (va_recv hK hP (ci := 2) (q0 := kb) rfl (wB_b hne hb0)) rfl hl.1 rfl (Nat.le_of_ble_eq_true rfl) dX3_withinToSix_74 ⟨Nat.zero_le _, Nat.zero_le _⟩ ?_
  refine lv_iload hx hb dX3_withinToSix_77 (lv_at hl 1 rfl) ?_
  refine nv_isub hx hb (by omega) dX3_withinToSix_79 ?_
  refine wr_V S (c_X1_copy (wB_b hne hb0) (wB_a ha0) (by omega) hN (wB_o di1 di2 hi0) (wB_o di3 di4 hi1) hniN hNi di1 di2 di3 di4 (a := 48) (z := 88) (k := n - 88) (by omega) (by omega)) kw3_135 yv_X1_copy ⟨Nat.le_of_ble_eq_true rfl, Nat.le_of_ble_eq_true rfl⟩ hK hP hD hS hA (va_recv hK hP (ci := 2) (q0 := kb) rfl (wB_b hne hb0)) rfl hl.1 rfl (Nat.le_of_ble_eq_true rfl) dX3_withinToSix_80 ⟨Nat.zero_le _, Nat.zero_le _⟩ (fun g_4 H locs hg_4 hP hD hS => ?_)
  rw [wB_wB hne] at hP hD
  refine W.eq (g2 := F0 m 83 ls []) rfl ?_
  refine lv_aload_n hx hb dX3_withinToSix_83 rfl (lv_at hl 5 rfl) ?_
  refine lv_iload hx hb dX3_withinToSix_84 (lv_at hl 1 rfl) ?_
  refine lv_iload hx hb dX3_withinToSix_86 (lv_at hl 3 rfl) ?_
  refine ro_S S (c_X4_sourcePortAt (q := pt) (by omega)) kw3_140 yv_X4_sourcePortAt ⟨Nat.le_of_ble_eq_true rfl, Nat.le_of_ble_eq_true rfl⟩ hK hP rfl hl.1 rfl (Nat.le_of_ble_eq_true rfl) dX3_withinToSix_88 ⟨Nat.zero_le _, Nat.zero_le _⟩ ?_
  have hq88 := tg_spa_le pt
  refine nv_iadd hx hb dX3_withinToSix_91 ?_
  refine lv_aload_n hx hb dX3_withinToSix_92 rfl (lv_at hl 6 rfl) ?_
  refine va_get (ci := 1) (C := RX0) (T := TX0) (N := 6) hx hb ht iFX0 hown hK hP kw (wB_o dw1 dw2 hw0) rfl 3 (by decide) (ht _ kw3_4) (fun _ h9 => h9) rfl dX3_withinToSix_93 ?_
  refine wr_V S (c_X1_putPair (wB_b hne hb0) (wB_a ha0) (by omega) hN (a := 88 + (tg_spa pt)) (x := ip) (by omega) (by omega)) kw3_126 yv_X1_putPair ⟨Nat.le_of_ble_eq_true rfl, Nat.le_of_ble_eq_true rfl⟩ hK hP hD hS hA (va_recv hK hP (ci := 2) (q0 := kb) rfl (wB_b hne hb0)) rfl hl.1 rfl (Nat.le_of_ble_eq_true rfl) dX3_withinToSix_96 ⟨Nat.zero_le _, Nat.zero_le _⟩ (fun g_5 H locs hg_5 hP hD hS => ?_)
  rw [wB_wB hne] at hP hD
  refine W.eq (g2 := F0 m 99 ls []) rfl ?_
  refine lv_iload hx hb dX3_withinToSix_99 (lv_at hl 3 rfl) ?_
  refine nv_iconst (k := 1) hx hb dX3_withinToSix_101 rfl ?_
  refine nv_icmp_ne (tgt := 114) hx hb dX3_withinToSix_102 (by decide) (by omega) (by omega) (fun h102 => ?_) (fun h102 => ?_)
  · skip
    exact hend _ (by rw [hg_5, hg_4, hg_3, hg_2, hg_1]; unfold tg_wi tg_wi1; (first | rw [if_pos h102] | rw [if_neg h102]) <;> rfl) hP hD hS dX3_withinToSix_114
  refine lv_aload_n hx hb dX3_withinToSix_105 rfl (lv_at hl 5 rfl) ?_
  refine lv_iload hx hb dX3_withinToSix_106 (lv_at hl 1 rfl) ?_
  refine nv_sipush (k := 128) hx hb dX3_withinToSix_108 (by decide) ?_
  refine wr_V S (c_X1_put (wB_b hne hb0) (wB_a ha0) (by omega) hN (k := 88) (x := nI (128)) (by omega)) kw3_121 yv_X1_put ⟨Nat.le_of_ble_eq_true rfl, Nat.le_of_ble_eq_true rfl⟩ hK hP hD hS hA (va_recv hK hP (ci := 2) (q0 := kb) rfl (wB_b hne hb0)) rfl hl.1 rfl (Nat.le_of_ble_eq_true rfl) dX3_withinToSix_111 ⟨Nat.zero_le _, Nat.zero_le _⟩ (fun g_6 H locs hg_6 hP hD hS => ?_)
  rw [wB_wB hne] at hP hD
  rw [by8_nI] at hg_6
  refine W.eq (g2 := F0 m 114 ls []) rfl ?_
  exact hend _ (by rw [hg_6, hg_5, hg_4, hg_3, hg_2, hg_1]; unfold tg_wi tg_wi1; (first | rw [if_pos h102] | rw [if_neg h102]) <;> rfl) hP hD hS dX3_withinToSix_114
