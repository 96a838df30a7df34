theorem dX12_makeBinding_0 : decode cX12_makeBinding 0 = .ok (.aload_n 0, 1) := by decide +kernel
theorem dX12_makeBinding_1 : decode cX12_makeBinding 1 = .ok (.lload_n 2, 1) := by decide +kernel
theorem dX12_makeBinding_2 : decode cX12_makeBinding 2 = .ok (.lload 4, 2) := by decide +kernel
theorem dX12_makeBinding_4 : decode cX12_makeBinding 4 = .ok (.invokevirtual 152, 3) := by decide +kernel
theorem dX12_makeBinding_7 : decode cX12_makeBinding 7 = .ok (.istore 7, 2) := by decide +kernel
theorem dX12_makeBinding_9 : decode cX12_makeBinding 9 = .ok (.iload_n 1, 1) := by decide +kernel
theorem dX12_makeBinding_10 : decode cX12_makeBinding 10 = .ok (.iconst 1, 1) := by decide +kernel
theorem dX12_makeBinding_11 : decode cX12_makeBinding 11 = .ok (.if_icmp .ne 7, 3) := by decide +kernel
theorem dX12_makeBinding_14 : decode cX12_makeBinding 14 = .ok (.iconst 1, 1) := by decide +kernel
theorem dX12_makeBinding_15 : decode cX12_makeBinding 15 = .ok (.goto 4, 3) := by decide +kernel
theorem dX12_makeBinding_18 : decode cX12_makeBinding 18 = .ok (.iconst 2, 1) := by decide +kernel
theorem dX12_makeBinding_19 : decode cX12_makeBinding 19 = .ok (.istore 8, 2) := by decide +kernel
theorem dX12_makeBinding_21 : decode cX12_makeBinding 21 = .ok (.iload_n 1, 1) := by decide +kernel
theorem dX12_makeBinding_22 : decode cX12_makeBinding 22 = .ok (.iconst 1, 1) := by decide +kernel
theorem dX12_makeBinding_23 : decode cX12_makeBinding 23 = .ok (.if_icmp .ne 7, 3) := by decide +kernel
theorem dX12_makeBinding_26 : decode cX12_makeBinding 26 = .ok (.iconst 0, 1) := by decide +kernel
theorem dX12_makeBinding_27 : decode cX12_makeBinding 27 = .ok (.goto 18, 3) := by decide +kernel
theorem dX12_makeBinding_30 : decode cX12_makeBinding 30 = .ok (.iload 6, 2) := by decide +kernel
theorem dX12_makeBinding_32 : decode cX12_makeBinding 32 = .ok (.sipush 1024, 3) := by decide +kernel
theorem dX12_makeBinding_35 : decode cX12_makeBinding 35 = .ok (.if_icmp .ge 7, 3) := by decide +kernel
theorem dX12_makeBinding_38 : decode cX12_makeBinding 38 = .ok (.iconst 1, 1) := by decide +kernel
theorem dX12_makeBinding_39 : decode cX12_makeBinding 39 = .ok (.goto 6, 3) := by decide +kernel
theorem dX12_makeBinding_42 : decode cX12_makeBinding 42 = .ok (.sipush 1024, 3) := by decide +kernel
theorem dX12_makeBinding_45 : decode cX12_makeBinding 45 = .ok (.istore 9, 2) := by decide +kernel
theorem dX12_makeBinding_47 : decode cX12_makeBinding 47 = .ok (.iload_n 1, 1) := by decide +kernel
theorem dX12_makeBinding_48 : decode cX12_makeBinding 48 = .ok (.iconst 1, 1) := by decide +kernel
theorem dX12_makeBinding_49 : decode cX12_makeBinding 49 = .ok (.if_icmp .eq 20, 3) := by decide +kernel
theorem dX12_makeBinding_52 : decode cX12_makeBinding 52 = .ok (.iload 9, 2) := by decide +kernel
theorem dX12_makeBinding_54 : decode cX12_makeBinding 54 = .ok (.iconst 1, 1) := by decide +kernel
theorem dX12_makeBinding_55 : decode cX12_makeBinding 55 = .ok (.iand, 1) := by decide +kernel
theorem dX12_makeBinding_56 : decode cX12_makeBinding 56 = .ok (.iload 6, 2) := by decide +kernel
theorem dX12_makeBinding_58 : decode cX12_makeBinding 58 = .ok (.iconst 1, 1) := by decide +kernel
theorem dX12_makeBinding_59 : decode cX12_makeBinding 59 = .ok (.iand, 1) := by decide +kernel
theorem dX12_makeBinding_60 : decode cX12_makeBinding 60 = .ok (.if_icmp .eq 9, 3) := by decide +kernel
theorem dX12_makeBinding_63 : decode cX12_makeBinding 63 = .ok (.iinc 9 1, 3) := by decide +kernel
theorem dX12_makeBinding_66 : decode cX12_makeBinding 66 = .ok (.goto (-19), 3) := by decide +kernel
theorem dX12_makeBinding_69 : decode cX12_makeBinding 69 = .ok (.aload_n 0, 1) := by decide +kernel
theorem dX12_makeBinding_70 : decode cX12_makeBinding 70 = .ok (.iload_n 1, 1) := by decide +kernel
theorem dX12_makeBinding_71 : decode cX12_makeBinding 71 = .ok (.iload 7, 2) := by decide +kernel
theorem dX12_makeBinding_73 : decode cX12_makeBinding 73 = .ok (.iload 9, 2) := by decide +kernel
theorem dX12_makeBinding_75 : decode cX12_makeBinding 75 = .ok (.invokevirtual 155, 3) := by decide +kernel
theorem dX12_makeBinding_78 : decode cX12_makeBinding 78 = .ok (.ifCond .lt 13, 3) := by decide +kernel
theorem dX12_makeBinding_81 : decode cX12_makeBinding 81 = .ok (.iload 9, 2) := by decide +kernel
theorem dX12_makeBinding_83 : decode cX12_makeBinding 83 = .ok (.iload 8, 2) := by decide +kernel
theorem dX12_makeBinding_85 : decode cX12_makeBinding 85 = .ok (.iadd, 1) := by decide +kernel
theorem dX12_makeBinding_86 : decode cX12_makeBinding 86 = .ok (.istore 9, 2) := by decide +kernel
theorem dX12_makeBinding_88 : decode cX12_makeBinding 88 = .ok (.goto (-19), 3) := by decide +kernel
theorem dX12_makeBinding_91 : decode cX12_makeBinding 91 = .ok (.aload_n 0, 1) := by decide +kernel
theorem dX12_makeBinding_92 : decode cX12_makeBinding 92 = .ok (.getfield 80, 3) := by decide +kernel
theorem dX12_makeBinding_95 : decode cX12_makeBinding 95 = .ok (.istore 10, 2) := by decide +kernel
theorem dX12_makeBinding_97 : decode cX12_makeBinding 97 = .ok (.aload_n 0, 1) := by decide +kernel
theorem dX12_makeBinding_98 : decode cX12_makeBinding 98 = .ok (.dup, 1) := by decide +kernel
theorem dX12_makeBinding_99 : decode cX12_makeBinding 99 = .ok (.getfield 80, 3) := by decide +kernel
theorem dX12_makeBinding_102 : decode cX12_makeBinding 102 = .ok (.iconst 1, 1) := by decide +kernel
theorem dX12_makeBinding_103 : decode cX12_makeBinding 103 = .ok (.iadd, 1) := by decide +kernel
theorem dX12_makeBinding_104 : decode cX12_makeBinding 104 = .ok (.putfield 80, 3) := by decide +kernel
theorem dX12_makeBinding_107 : decode cX12_makeBinding 107 = .ok (.aload_n 0, 1) := by decide +kernel
theorem dX12_makeBinding_108 : decode cX12_makeBinding 108 = .ok (.getfield 23, 3) := by decide +kernel
theorem dX12_makeBinding_111 : decode cX12_makeBinding 111 = .ok (.iload 10, 2) := by decide +kernel
theorem dX12_makeBinding_113 : decode cX12_makeBinding 113 = .ok (.iload_n 1, 1) := by decide +kernel
theorem dX12_makeBinding_114 : decode cX12_makeBinding 114 = .ok (.iastore, 1) := by decide +kernel
theorem dX12_makeBinding_115 : decode cX12_makeBinding 115 = .ok (.aload_n 0, 1) := by decide +kernel
theorem dX12_makeBinding_116 : decode cX12_makeBinding 116 = .ok (.getfield 26, 3) := by decide +kernel
theorem dX12_makeBinding_119 : decode cX12_makeBinding 119 = .ok (.iload 10, 2) := by decide +kernel
theorem dX12_makeBinding_121 : decode cX12_makeBinding 121 = .ok (.lload_n 2, 1) := by decide +kernel
theorem dX12_makeBinding_122 : decode cX12_makeBinding 122 = .ok (.lastore, 1) := by decide +kernel
theorem dX12_makeBinding_123 : decode cX12_makeBinding 123 = .ok (.aload_n 0, 1) := by decide +kernel
theorem dX12_makeBinding_124 : decode cX12_makeBinding 124 = .ok (.getfield 30, 3) := by decide +kernel
theorem dX12_makeBinding_127 : decode cX12_makeBinding 127 = .ok (.iload 10, 2) := by decide +kernel
theorem dX12_makeBinding_129 : decode cX12_makeBinding 129 = .ok (.lload 4, 2) := by decide +kernel
theorem dX12_makeBinding_131 : decode cX12_makeBinding 131 = .ok (.lastore, 1) := by decide +kernel
theorem dX12_makeBinding_132 : decode cX12_makeBinding 132 = .ok (.aload_n 0, 1) := by decide +kernel
theorem dX12_makeBinding_133 : decode cX12_makeBinding 133 = .ok (.getfield 33, 3) := by decide +kernel
theorem dX12_makeBinding_136 : decode cX12_makeBinding 136 = .ok (.iload 10, 2) := by decide +kernel
theorem dX12_makeBinding_138 : decode cX12_makeBinding 138 = .ok (.iload 6, 2) := by decide +kernel
theorem dX12_makeBinding_140 : decode cX12_makeBinding 140 = .ok (.iastore, 1) := by decide +kernel
theorem dX12_makeBinding_141 : decode cX12_makeBinding 141 = .ok (.aload_n 0, 1) := by decide +kernel
theorem dX12_makeBinding_142 : decode cX12_makeBinding 142 = .ok (.getfield 36, 3) := by decide +kernel
theorem dX12_makeBinding_145 : decode cX12_makeBinding 145 = .ok (.iload 10, 2) := by decide +kernel
theorem dX12_makeBinding_147 : decode cX12_makeBinding 147 = .ok (.iload 7, 2) := by decide +kernel
theorem dX12_makeBinding_149 : decode cX12_makeBinding 149 = .ok (.iastore, 1) := by decide +kernel
theorem dX12_makeBinding_150 : decode cX12_makeBinding 150 = .ok (.aload_n 0, 1) := by decide +kernel
theorem dX12_makeBinding_151 : decode cX12_makeBinding 151 = .ok (.getfield 39, 3) := by decide +kernel
theorem dX12_makeBinding_154 : decode cX12_makeBinding 154 = .ok (.iload 10, 2) := by decide +kernel
theorem dX12_makeBinding_156 : decode cX12_makeBinding 156 = .ok (.iload 9, 2) := by decide +kernel
theorem dX12_makeBinding_158 : decode cX12_makeBinding 158 = .ok (.iastore, 1) := by decide +kernel
theorem dX12_makeBinding_159 : decode cX12_makeBinding 159 = .ok (.iload 10, 2) := by decide +kernel
theorem dX12_makeBinding_161 : decode cX12_makeBinding 161 = .ok (.ireturn, 1) := by decide +kernel
theorem yv_X12_makeBinding : YV RX12 yX12_makeBinding cX12_makeBinding 11 (some .int) 4 := ⟨kw5_92, kws_33, kw1_10, kw5_93, by decide +kernel⟩
set_option maxHeartbeats 4000000 in
set_option maxRecDepth 100000 in
theorem c_X12_makeBinding {l : Launch} {D : va_G} {cy : Nat → ClassId} {o : Nat} {ad : Nat → Nat} {tl : va_W} {tp os sz bits F G u nb ns T M id : Nat} {ft fo fi : Nat → UInt8} {g : Nat → Int32} {pt ih il ip pn op so fa fp st en dr : Nat → Nat} (hb_pt : ∀ i, pt i < 2 ^ 31) (hb_ih : ∀ i, ih i < 2 ^ 64) (hb_il : ∀ i, il i < 2 ^ 64) (hb_ip : ∀ i, ip i < 2 ^ 31) (hb_pn4 : ∀ i, pn i < 4) (hb_op : ∀ i, op i < 2 ^ 31) (hb_pn : ∀ i, pn i < 2 ^ 31) {q hi lo port : Nat} (hq : q = 1 ∨ q = 6 ∨ q = 17) (hhi : hi < 2 ^ 64) (hlo : lo < 2 ^ 64) (hpo : port < 65536) (hnb0 : nb < 64) (hu : u ≤ 4) (hu0 : 1 ≤ u) : WR (S := Unit) l yX12_makeBinding cX12_makeBinding 11 (some .int) 1 0 0 29 [.ref o, .int (nI q), .long (lN (hi)), .long (lN (lo)), .int (nI port)] D cy (mW cy o ad tp os sz bits F G u nb ns T M id ft fo fi g pt ih il ip pn op so fa fp st en dr ++ tl) (fun u => some (.int (nI nb))) (fun _ => True) (fun _ => mW cy o ad tp os sz bits F G u (nb + 1) ns T M id ft fo fi g (va_up pt nb q) (va_up ih nb hi) (va_up il nb lo) (va_up ip nb port) (va_up pn nb (tg_best ih il pn nb u hi lo)) (va_up op nb (tg_port pt pn op nb q (tg_best ih il pn nb u hi lo) port)) so fa fp st en dr ++ tl) := by
  refine WRi (by decide) (lv0 := [(0, .ref o), (1, .int (nI q)), (2, .long (lN (hi))), (4, .long (lN (lo))), (6, .int (nI port))]) rfl (Nat.le_of_ble_eq_true rfl) ?_
  intro p e s m args below meth c ls A Q S hnm hP hK hD hS hA hend hl
  have hx := S.1
  have hb := S.2.1
  have hown : s.vm.findClass RX12 = some m.cls := S.2.2.2.1
  have ht : ∀ w ∈ lw_g, w.before args s = true := fun w h => S.2.2.2.2 w (List.mem_cons_of_mem _ h)
  have hP : va_P D vwCl (mW cy o ad tp os sz bits F G u nb ns T M id ft fo fi g pt ih il ip pn op so fa fp st en dr ++ tl) s.heap := hP
  have hnb : nb ≤ 64 := by omega
  refine lv_aload_n hx hb dX12_makeBinding_0 rfl (lv_at hl 0 rfl) ?_
  refine lv_lload_n hx hb dX12_makeBinding_1 rfl (lv_at hl 2 rfl) ?_
  refine lv_lload hx hb dX12_makeBinding_2 (lv_at hl 3 rfl) ?_
  refine ro_V S (c_X12_bestPool (ws := mW cy o ad tp os sz bits F G u nb ns T M id ft fo fi g pt ih il ip pn op so fa fp st en dr ++ tl) (km := 0) rfl rfl rfl rfl rfl rfl (k_ih := 6) rfl hb_ih (k_il := 7) rfl hb_il (k_pn := 9) rfl hb_pn hnb hu hu0 (hi := hi) (lo := lo) (by omega) (by omega)) kw5_94 yv_X12_bestPool ⟨Nat.le_of_ble_eq_true rfl, Nat.le_of_ble_eq_true rfl⟩ hK hP (va_recv hK hP (ci := 9) (q0 := 0) rfl rfl) rfl hl.1 rfl (Nat.le_of_ble_eq_true rfl) dX12_makeBinding_4 ⟨Nat.zero_le _, Nat.zero_le _⟩ ?_
  have hnum := tg_best_lt (ih := ih) (il := il) (nb := nb) (hi := hi) (lo := lo) hb_pn4 hu0 hu
  refine nv_top (fun num enum => ?_)
  rw [← enum] at hnum
  refine lv_istore (lv' := [(7, .int (nI num)), (0, .ref o), (1, .int (nI q)), (2, .long (lN (hi))), (4, .long (lN (lo))), (6, .int (nI port))]) hx hb dX12_makeBinding_7 hl (by decide) rfl (fun ls hl => ?_)
  refine lv_iload_n hx hb dX12_makeBinding_9 rfl (lv_at hl 2 rfl) ?_
  refine nv_iconst (k := 1) hx hb dX12_makeBinding_10 rfl ?_
  have J19 : ∀ v19 : Nat, v19 = tg_sp q → ∀ ls : Array Slot, lv_has ls 11 [(7, .int (nI num)), (0, .ref o), (1, .int (nI q)), (2, .long (lN (hi))), (4, .long (lN (lo))), (6, .int (nI port))] → W p l e (rmw 1 0 0 29) s m args below meth c s.heap [] 0 0 Q (F0 m 19 ls [.int (nI v19)]) := by
    intro v19 hv19 ls hl
    have hs9 := tg_sp_le q
    refine lv_istore (lv' := [(8, .int (nI v19)), (7, .int (nI num)), (0, .ref o), (1, .int (nI q)), (2, .long (lN (hi))), (4, .long (lN (lo))), (6, .int (nI port))]) hx hb dX12_makeBinding_19 hl (by decide) rfl (fun ls hl => ?_)
    refine lv_iload_n hx hb dX12_makeBinding_21 rfl (lv_at hl 3 rfl) ?_
    refine nv_iconst (k := 1) hx hb dX12_makeBinding_22 rfl ?_
    have J45 : ∀ v45 : Nat, v45 = (if q = 1 then 0 else if port < 1024 then 1 else 1024) → ∀ ls : Array Slot, lv_has ls 11 [(8, .int (nI v19)), (7, .int (nI num)), (0, .ref o), (1, .int (nI q)), (2, .long (lN (hi))), (4, .long (lN (lo))), (6, .int (nI port))] → W p l e (rmw 1 0 0 29) s m args below meth c s.heap [] 0 0 Q (F0 m 45 ls [.int (nI v45)]) := by
      intro v45 hv45 ls hl
      have hv4 : v45 ≤ 1024 := by rw [hv45]; (repeat' split) <;> omega
      have L69 : ∀ (fu : Nat) (j : Nat) (w : Nat), nb - j < fu → w = tg_v0 q port + tg_sp q * j → (∀ i, i < j → tg_used pt pn op nb q num (tg_v0 q port + tg_sp q * i) = true) → ∀ ls : Array Slot, lv_has ls 11 [(0, .ref o), (1, .int (nI q)), (2, .long (lN (hi))), (4, .long (lN (lo))), (6, .int (nI port)), (7, .int (nI num)), (8, .int (nI v19)), (9, .int (nI w))] → W p l e (rmw 1 0 0 29) s m args below meth c s.heap [] 0 0 Q (F0 m 69 ls []) := by
        intro fu
        induction fu with
        | zero => intro j w h9; omega
        | succ fu ih69 =>
          intro j w hfu hw hus ls hl
          have hjn := tg_pig (by have := tg_sp_le q; omega) hus
          have hvl := tg_v0_le q port
          have hsl := tg_sp_le q
          have hwb : w ≤ 1025 + 2 * 64 := by rw [hw]; have : tg_sp q * j ≤ 2 * 64 := Nat.mul_le_mul (by omega) (by omega); omega
          refine lv_aload_n hx hb dX12_makeBinding_69 rfl (lv_at hl 0 rfl) ?_
          refine lv_iload_n hx hb dX12_makeBinding_70 rfl (lv_at hl 1 rfl) ?_
          refine lv_iload hx hb dX12_makeBinding_71 (lv_at hl 5 rfl) ?_
          refine lv_iload hx hb dX12_makeBinding_73 (lv_at hl 7 rfl) ?_
          refine ro_V S (c_X12_findOuter (ws := mW cy o ad tp os sz bits F G u nb ns T M id ft fo fi g pt ih il ip pn op so fa fp st en dr ++ tl) (km := 0) rfl rfl rfl rfl rfl (k_pt := 5) rfl hb_pt (k_pn := 9) rfl hb_pn (k_op := 10) rfl hb_op hnb (q := q) (num := num) (port := w) (by omega) (by omega) (by omega)) kw5_98 yv_X12_findOuter ⟨Nat.le_of_ble_eq_true rfl, Nat.le_of_ble_eq_true rfl⟩ hK hP (va_recv hK hP (ci := 9) (q0 := 0) rfl rfl) rfl hl.1 rfl (Nat.le_of_ble_eq_true rfl) dX12_makeBinding_75 ⟨Nat.zero_le _, Nat.zero_le _⟩ ?_
          refine lv_if_lt (tgt := 91) hx hb dX12_makeBinding_78 (by decide) (fun h78 => ?_) (fun h78 => ?_)
          · skip
            have ew : w = tg_port pt pn op nb q num port := by rw [tg_port_at (by omega) hus (by rw [← hw]; exact used_f (by omega) h78)]; exact hw
            skip
            refine lv_aload_n hx hb dX12_makeBinding_91 rfl (lv_at hl 0 rfl) ?_
            refine va_get (ci := 9) (C := RX12) (T := TX12) (N := 28) hx hb ht iFX12 hown hK hP 0 rfl rfl 11 (by decide) (ht _ kw4_121) (fun _ h9 => h9) rfl dX12_makeBinding_92 ?_
            refine lv_istore (lv' := [(10, .int (nI nb)), (0, .ref o), (1, .int (nI q)), (2, .long (lN (hi))), (4, .long (lN (lo))), (6, .int (nI port)), (7, .int (nI num)), (8, .int (nI v19)), (9, .int (nI w))]) hx hb dX12_makeBinding_95 hl (by decide) rfl (fun ls hl => ?_)
            refine lv_aload_n hx hb dX12_makeBinding_97 rfl (lv_at hl 1 rfl) ?_
            refine lv_dup hx hb dX12_makeBinding_98 rfl ?_
            refine va_get (ci := 9) (C := RX12) (T := TX12) (N := 28) hx hb ht iFX12 hown hK hP 0 rfl rfl 11 (by decide) (ht _ kw4_121) (fun _ h9 => h9) rfl dX12_makeBinding_99 ?_
            refine nv_iconst (k := 1) hx hb dX12_makeBinding_102 rfl ?_
            refine nv_iadd hx hb dX12_makeBinding_103 ?_
            refine va_put (ci := 9) (C := RX12) (T := TX12) (N := 28) (ty := tyX12 11) hx hb ht iFX12 tyX12 tyX12_ok nmX12 hown hK hP hD hS 0 rfl rfl 11 (by decide) (ht _ kw4_121) (fun _ h9 => h9) rfl (by decide +kernel) (by first | rfl | decide) (by first | rfl | decide) (Nat.le_of_ble_eq_true rfl) dX12_makeBinding_104 (fun H locs hP hD hS => ?_)
            have hP : va_P D vwCl (mW cy o ad tp os sz bits F G u (nb + 1) ns T M id ft fo fi g pt ih il ip pn op so fa fp st en dr ++ tl) H := hP
            have hD : va_D A (mW cy o ad tp os sz bits F G u (nb + 1) ns T M id ft fo fi g pt ih il ip pn op so fa fp st en dr ++ tl) := hD
            refine lv_aload_n hx hb dX12_makeBinding_107 rfl (lv_at hl 1 rfl) ?_
            refine va_get (ci := 9) (C := RX12) (T := TX12) (N := 28) hx hb ht iFX12 hown hK hP 0 rfl rfl 12 (by decide) (ht _ kw4_122) (fun _ h9 => h9) rfl dX12_makeBinding_108 ?_
            refine lv_iload hx hb dX12_makeBinding_111 (lv_at hl 0 rfl) ?_
            refine lv_iload_n hx hb dX12_makeBinding_113 rfl (lv_at hl 2 rfl) ?_
            refine nv_iast hx hb hK hP hD hS 5 rfl (by omega) (by omega) dX12_makeBinding_114 (fun H locs hP hD hS => ?_)
            rw [ni_upd] at hP hD
            have hP : va_P D vwCl (mW cy o ad tp os sz bits F G u (nb + 1) ns T M id ft fo fi g (va_up pt nb q) ih il ip pn op so fa fp st en dr ++ tl) H := hP
            have hD : va_D A (mW cy o ad tp os sz bits F G u (nb + 1) ns T M id ft fo fi g (va_up pt nb q) ih il ip pn op so fa fp st en dr ++ tl) := hD
            refine lv_aload_n hx hb dX12_makeBinding_115 rfl (lv_at hl 1 rfl) ?_
            refine va_get (ci := 9) (C := RX12) (T := TX12) (N := 28) hx hb ht iFX12 hown hK hP 0 rfl rfl 13 (by decide) (ht _ kw4_123) (fun _ h9 => h9) rfl dX12_makeBinding_116 ?_
            refine lv_iload hx hb dX12_makeBinding_119 (lv_at hl 0 rfl) ?_
            refine lv_lload_n hx hb dX12_makeBinding_121 rfl (lv_at hl 3 rfl) ?_
            refine nv_last hx hb hK hP hD hS 6 rfl (by omega) (by omega) dX12_makeBinding_122 (fun H locs hP hD hS => ?_)
            rw [ln_upd] at hP hD
            have hP : va_P D vwCl (mW cy o ad tp os sz bits F G u (nb + 1) ns T M id ft fo fi g (va_up pt nb q) (va_up ih nb hi) il ip pn op so fa fp st en dr ++ tl) H := hP
            have hD : va_D A (mW cy o ad tp os sz bits F G u (nb + 1) ns T M id ft fo fi g (va_up pt nb q) (va_up ih nb hi) il ip pn op so fa fp st en dr ++ tl) := hD
            refine lv_aload_n hx hb dX12_makeBinding_123 rfl (lv_at hl 1 rfl) ?_
            refine va_get (ci := 9) (C := RX12) (T := TX12) (N := 28) hx hb ht iFX12 hown hK hP 0 rfl rfl 14 (by decide) (ht _ kw4_124) (fun _ h9 => h9) rfl dX12_makeBinding_124 ?_
            refine lv_iload hx hb dX12_makeBinding_127 (lv_at hl 0 rfl) ?_
            refine lv_lload hx hb dX12_makeBinding_129 (lv_at hl 4 rfl) ?_
            refine nv_last hx hb hK hP hD hS 7 rfl (by omega) (by omega) dX12_makeBinding_131 (fun H locs hP hD hS => ?_)
            rw [ln_upd] at hP hD
            have hP : va_P D vwCl (mW cy o ad tp os sz bits F G u (nb + 1) ns T M id ft fo fi g (va_up pt nb q) (va_up ih nb hi) (va_up il nb lo) ip pn op so fa fp st en dr ++ tl) H := hP
            have hD : va_D A (mW cy o ad tp os sz bits F G u (nb + 1) ns T M id ft fo fi g (va_up pt nb q) (va_up ih nb hi) (va_up il nb lo) ip pn op so fa fp st en dr ++ tl) := hD
            refine lv_aload_n hx hb dX12_makeBinding_132 rfl (lv_at hl 1 rfl) ?_
            refine va_get (ci := 9) (C := RX12) (T := TX12) (N := 28) hx hb ht iFX12 hown hK hP 0 rfl rfl 15 (by decide) (ht _ kw4_125) (fun _ h9 => h9) rfl dX12_makeBinding_133 ?_
            refine lv_iload hx hb dX12_makeBinding_136 (lv_at hl 0 rfl) ?_
            refine lv_iload hx hb dX12_makeBinding_138 (lv_at hl 5 rfl) ?_
            refine nv_iast hx hb hK hP hD hS 8 rfl (by omega) (by omega) dX12_makeBinding_140 (fun H locs hP hD hS => ?_)
            rw [ni_upd] at hP hD
            have hP : va_P D vwCl (mW cy o ad tp os sz bits F G u (nb + 1) ns T M id ft fo fi g (va_up pt nb q) (va_up ih nb hi) (va_up il nb lo) (va_up ip nb port) pn op so fa fp st en dr ++ tl) H := hP
            have hD : va_D A (mW cy o ad tp os sz bits F G u (nb + 1) ns T M id ft fo fi g (va_up pt nb q) (va_up ih nb hi) (va_up il nb lo) (va_up ip nb port) pn op so fa fp st en dr ++ tl) := hD
            refine lv_aload_n hx hb dX12_makeBinding_141 rfl (lv_at hl 1 rfl) ?_
            refine va_get (ci := 9) (C := RX12) (T := TX12) (N := 28) hx hb ht iFX12 hown hK hP 0 rfl rfl 16 (by decide) (ht _ kw4_126) (fun _ h9 => h9) rfl dX12_makeBinding_142 ?_
            refine lv_iload hx hb dX12_makeBinding_145 (lv_at hl 0 rfl) ?_
            refine lv_iload hx hb dX12_makeBinding_147 (lv_at hl 6 rfl) ?_
            refine nv_iast hx hb hK hP hD hS 9 rfl (by omega) (by omega) dX12_makeBinding_149 (fun H locs hP hD hS => ?_)
            rw [ni_upd] at hP hD
            have hP : va_P D vwCl (mW cy o ad tp os sz bits F G u (nb + 1) ns T M id ft fo fi g (va_up pt nb q) (va_up ih nb hi) (va_up il nb lo) (va_up ip nb port) (va_up pn nb num) op so fa fp st en dr ++ tl) H := hP
            have hD : va_D A (mW cy o ad tp os sz bits F G u (nb + 1) ns T M id ft fo fi g (va_up pt nb q) (va_up ih nb hi) (va_up il nb lo) (va_up ip nb port) (va_up pn nb num) op so fa fp st en dr ++ tl) := hD
            refine lv_aload_n hx hb dX12_makeBinding_150 rfl (lv_at hl 1 rfl) ?_
            refine va_get (ci := 9) (C := RX12) (T := TX12) (N := 28) hx hb ht iFX12 hown hK hP 0 rfl rfl 17 (by decide) (ht _ kw4_127) (fun _ h9 => h9) rfl dX12_makeBinding_151 ?_
            refine lv_iload hx hb dX12_makeBinding_154 (lv_at hl 0 rfl) ?_
            refine lv_iload hx hb dX12_makeBinding_156 (lv_at hl 8 rfl) ?_
            refine nv_iast hx hb hK hP hD hS 10 rfl (by omega) (by omega) dX12_makeBinding_158 (fun H locs hP hD hS => ?_)
            rw [ni_upd] at hP hD
            have hP : va_P D vwCl (mW cy o ad tp os sz bits F G u (nb + 1) ns T M id ft fo fi g (va_up pt nb q) (va_up ih nb hi) (va_up il nb lo) (va_up ip nb port) (va_up pn nb num) (va_up op nb w) so fa fp st en dr ++ tl) H := hP
            have hD : va_D A (mW cy o ad tp os sz bits F G u (nb + 1) ns T M id ft fo fi g (va_up pt nb q) (va_up ih nb hi) (va_up il nb lo) (va_up ip nb port) (va_up pn nb num) (va_up op nb w) so fa fp st en dr ++ tl) := hD
            rw [ew, enum] at hP hD
            refine lv_iload hx hb dX12_makeBinding_159 (lv_at hl 0 rfl) ?_
            exact hend () rfl trivial hP hD hS dX12_makeBinding_161
          have hus2 : ∀ i, i < j + 1 → tg_used pt pn op nb q num (tg_v0 q port + tg_sp q * i) = true := fun i hi => by
            rcases Nat.lt_or_ge i j with z | z
            · exact hus i z
            · rw [show i = j by omega, ← hw]; exact used_t (by omega) h78
          have hj2 := tg_pig (by have := tg_sp_le q; omega) hus2
          refine lv_iload hx hb dX12_makeBinding_81 (lv_at hl 7 rfl) ?_
          refine lv_iload hx hb dX12_makeBinding_83 (lv_at hl 6 rfl) ?_
          refine nv_iadd hx hb dX12_makeBinding_85 ?_
          refine lv_istore (lv' := [(9, .int (nI (w + v19))), (0, .ref o), (1, .int (nI q)), (2, .long (lN (hi))), (4, .long (lN (lo))), (6, .int (nI port)), (7, .int (nI num)), (8, .int (nI v19))]) hx hb dX12_makeBinding_86 hl (by decide) rfl (fun ls hl => ?_)
          refine lv_goto (tgt := 69) hx hb dX12_makeBinding_88 (by decide) ?_
          exact ih69 (j + 1) (w + v19) (by omega) (by rw [hv19, hw, Nat.mul_add, Nat.mul_one]; omega) hus2 ls (lv_sub hl [1, 2, 3, 4, 5, 6, 7, 0] rfl)
      refine lv_istore (lv' := [(9, .int (nI v45)), (8, .int (nI v19)), (7, .int (nI num)), (0, .ref o), (1, .int (nI q)), (2, .long (lN (hi))), (4, .long (lN (lo))), (6, .int (nI port))]) hx hb dX12_makeBinding_45 hl (by decide) rfl (fun ls hl => ?_)
      have L47 : ∀ (fu : Nat) (v : Nat), v45 + 1 - v < fu → (v = v45 ∨ (v = v45 + 1 ∧ (v45 + port) % 2 = 1)) ∧ (q = 1 → v = 0) → ∀ ls : Array Slot, lv_has ls 11 [(0, .ref o), (1, .int (nI q)), (2, .long (lN (hi))), (4, .long (lN (lo))), (6, .int (nI port)), (7, .int (nI num)), (8, .int (nI v19)), (9, .int (nI v))] → W p l e (rmw 1 0 0 29) s m args below meth c s.heap [] 0 0 Q (F0 m 47 ls []) := by
        intro fu
        induction fu with
        | zero => intro v h9; omega
        | succ fu ih47 =>
          intro v hfu hv ls hl
          refine lv_iload_n hx hb dX12_makeBinding_47 rfl (lv_at hl 1 rfl) ?_
          refine nv_iconst (k := 1) hx hb dX12_makeBinding_48 rfl ?_
          refine nv_icmp_eq (tgt := 69) hx hb dX12_makeBinding_49 (by decide) (by omega) (by omega) (fun h49 => ?_) (fun h49 => ?_)
          · skip
            exact L69 (nb + 1) 0 v (by have := tg_pig (pt := pt) (pn := pn) (op := op) (nb := nb) (q := q) (num := num) (v0 := 0) (sp := 1) (j := 0) (by decide) (fun i hi => absurd hi (by omega)); omega) (by rw [Nat.mul_zero, Nat.add_zero]; unfold tg_v0; rw [hv45] at hv; (repeat' split) <;> (repeat' split at hv) <;> omega) (fun i hi => absurd hi (by omega)) ls (lv_sub hl [0, 1, 2, 3, 4, 5, 6, 7] rfl)
          refine lv_iload hx hb dX12_makeBinding_52 (lv_at hl 7 rfl) ?_
          refine nv_iconst (k := 1) hx hb dX12_makeBinding_54 rfl ?_
          refine nv_iand 1 hx hb (by omega) (by decide) dX12_makeBinding_55 ?_
          refine lv_iload hx hb dX12_makeBinding_56 (lv_at hl 4 rfl) ?_
          refine nv_iconst (k := 1) hx hb dX12_makeBinding_58 rfl ?_
          refine nv_iand 1 hx hb (by omega) (by decide) dX12_makeBinding_59 ?_
          refine nv_icmp_eq (tgt := 69) hx hb dX12_makeBinding_60 (by decide) (by omega) (by omega) (fun h60 => ?_) (fun h60 => ?_)
          · skip
            exact L69 (nb + 1) 0 v (by have := tg_pig (pt := pt) (pn := pn) (op := op) (nb := nb) (q := q) (num := num) (v0 := 0) (sp := 1) (j := 0) (by decide) (fun i hi => absurd hi (by omega)); omega) (by rw [Nat.mul_zero, Nat.add_zero]; unfold tg_v0; rw [hv45] at hv; (repeat' split) <;> (repeat' split at hv) <;> omega) (fun i hi => absurd hi (by omega)) ls (lv_sub hl [0, 1, 2, 3, 4, 5, 6, 7] rfl)
          refine lv_iinc (v := (nI (v + 1))) (lv' := [(9, .int (nI (v + 1))), (0, .ref o), (1, .int (nI q)), (2, .long (lN (hi))), (4, .long (lN (lo))), (6, .int (nI port)), (7, .int (nI num)), (8, .int (nI v19))]) hx hb dX12_makeBinding_63 hl (k := 7) rfl (nI_inc _ _) (by decide) rfl (fun ls hl => ?_)
          refine lv_goto (tgt := 47) hx hb dX12_makeBinding_66 (by decide) ?_
          exact ih47 (v + 1) (by omega) ⟨by omega, fun z => by omega⟩ ls (lv_sub hl [1, 2, 3, 4, 5, 6, 7, 0] rfl)
      exact L47 (2) v45 (by omega) ⟨Or.inl rfl, fun z => by rw [hv45, if_pos z]⟩ ls (lv_sub hl [3, 4, 5, 6, 7, 2, 1, 0] rfl)
    refine nv_icmp_ne (tgt := 30) hx hb dX12_makeBinding_23 (by decide) (by omega) (by omega) (fun h23 => ?_) (fun h23 => ?_)
    · skip
      refine lv_iload hx hb dX12_makeBinding_30 (lv_at hl 6 rfl) ?_
      refine nv_sipush (k := 1024) hx hb dX12_makeBinding_32 (by decide) ?_
      refine nv_icmp_ge (tgt := 42) hx hb dX12_makeBinding_35 (by decide) (by omega) (by omega) (fun h35 => ?_) (fun h35 => ?_)
      · skip
        refine nv_sipush (k := 1024) hx hb dX12_makeBinding_42 (by decide) ?_
        exact J45 (1024) (by (repeat' split) <;> omega) ls (lv_sub hl [0, 1, 2, 3, 4, 5, 6] rfl)
      refine nv_iconst (k := 1) hx hb dX12_makeBinding_38 rfl ?_
      refine lv_goto (tgt := 45) hx hb dX12_makeBinding_39 (by decide) ?_
      exact J45 (1) (by (repeat' split) <;> omega) ls (lv_sub hl [0, 1, 2, 3, 4, 5, 6] rfl)
    refine nv_iconst (k := 0) hx hb dX12_makeBinding_26 rfl ?_
    refine lv_goto (tgt := 45) hx hb dX12_makeBinding_27 (by decide) ?_
    exact J45 (0) (by (repeat' split) <;> omega) ls (lv_sub hl [0, 1, 2, 3, 4, 5, 6] rfl)
  refine nv_icmp_ne (tgt := 18) hx hb dX12_makeBinding_11 (by decide) (by omega) (by omega) (fun h11 => ?_) (fun h11 => ?_)
  · skip
    refine nv_iconst (k := 2) hx hb dX12_makeBinding_18 rfl ?_
    exact J19 (2) (by unfold tg_sp; (repeat' split) <;> omega) ls (lv_sub hl [0, 1, 2, 3, 4, 5] rfl)
  refine nv_iconst (k := 1) hx hb dX12_makeBinding_14 rfl ?_
  refine lv_goto (tgt := 19) hx hb dX12_makeBinding_15 (by decide) ?_
  exact J19 (1) (by unfold tg_sp; (repeat' split) <;> omega) ls (lv_sub hl [0, 1, 2, 3, 4, 5] rfl)
