set_option maxHeartbeats 4000000 in
set_option maxRecDepth 100000 in
theorem c_X10_status (l : Launch) (G : hG) (Y : hW) (o : Nat) (hW : h_On Y o (wldE tF o)) : hMi l yX10_status cX10_status 1 (some .int) 0 0 G Y [.ref (o)] (fun H => h_gi G H 10 o 8 = 0) (fun H r H1 => r = 0) := by
  refine h_ofi (by decide +kernel) (Nat.le_of_ble_eq_true rfl) ?_
  intro p e s m args below meth c H0 ls Q hx hb hts hown hml hK hT0 hpr hS0 hl hret
  have hl : lv_has ls 1 [(0, .ref (o))] := hl
  refine lv_aload_n hx hb dX10_status_0 rfl (lv_at hl 0 rfl) ?_
  refine h_geti (C := RX10) (T := TX10) (N := 9) hx hb hts inX10 hown hK hT0 (on_w0 hW) rfl 8 rfl wF_X10_56 rfl dX10_status_1 (fun p1 => ?_)
  refine h_top (v := 0) hpr ?_
  exact hret _ _ _ _ _ hT0 hS0 rfl dX10_status_4
set_option maxHeartbeats 4000000 in
set_option maxRecDepth 100000 in
theorem c_X10_back (l : Launch) (G : hG) (Y : hW) (o : Nat) (hW : h_On Y o (wldE tF o)) : hMi l yX10_back cX10_back 1 (some .int) 1 21 G Y [.ref (o)] (fun H => h_gi G H 10 o 7 = 0) (fun H r H1 => r = -1) := by
  refine h_ofi (by decide +kernel) (Nat.le_of_ble_eq_true rfl) ?_
  intro p e s m args below meth c H0 ls Q hx hb hts hown hml hK hT0 hpr hS0 hl hret
  have hl : lv_has ls 1 [(0, .ref (o))] := hl
  refine lv_aload_n hx hb dX10_back_0 rfl (lv_at hl 0 rfl) ?_
  refine h_geti (C := RX10) (T := TX10) (N := 9) hx hb hts inX10 hown hK hT0 (on_w0 hW) rfl 7 rfl wF_X10_52 rfl dX10_back_1 (fun p1 => ?_)
  refine h_top (v := 0) hpr ?_
  refine lv_iconst (v := 1) hx hb dX10_back_4 (by decide) ?_
  refine lv_icmp_lt (tgt := 16) hx hb dX10_back_5 (by decide) (fun _ => ?_) (fun h => absurd (by decide) h)
  refine lv_aload_n hx hb dX10_back_16 rfl (lv_at hl 0 rfl) ?_
  refine lv_iconst (v := 5) hx hb dX10_back_17 (by decide) ?_
  refine h_callVi (T := TX10) (rest := []) (As := [.int 5]) hx hb hml hown hts hK hT0 (fun _ h => h) hS0 (c_X10_fail l G Y (o) hW 5) trivial wd_X10_fail wV_X10_fail wL_X10_66 (on_w0 hW) rfl rfl hl.1 rfl (Nat.le_of_ble_eq_true rfl) dX10_back_18 ⟨Nat.le_of_ble_eq_true rfl, Nat.le_of_ble_eq_true rfl⟩ ⟨Nat.zero_le _, Nat.zero_le _⟩ (fun r3 H1 locs hp1 hT1 hS1 hk1 => ?_)
  have hp1 : r3 = (-1) := hp1
  subst hp1
  exact hret _ _ _ _ _ hT1 hS1 rfl dX10_back_21
set_option maxHeartbeats 4000000 in
set_option maxRecDepth 100000 in
theorem c_X10_fault (l : Launch) (G : hG) (Y : hW) (o : Nat) (hW : h_On Y o (wldE tF o)) (u1 : Int32) : hMi l yX10_fault cX10_fault 2 (some .int) 0 0 G Y [.ref (o), .int u1] (fun H => h_gi G H 8 (o + 1) 2 = -1 ∧ h_gi G H 8 (o + 1) 3 = -1) (fun H r H1 => r = -1) := by
  refine h_ofi (by decide +kernel) (Nat.le_of_ble_eq_true rfl) ?_
  intro p e s m args below meth c H0 ls Q hx hb hts hown hml hK hT0 hpr hS0 hl hret
  have hl : lv_has ls 2 [(0, .ref (o)), (1, .int u1)] := hl
  refine lv_iload_n hx hb dX10_fault_0 rfl (lv_at hl 1 rfl) ?_
  refine lv_if_ne (tgt := 12) hx hb dX10_fault_1 (by decide) (fun c1 => ?_) (fun c1 => ?_)
  · skip
    refine lv_iload_n hx hb dX10_fault_12 rfl (lv_at hl 1 rfl) ?_
    refine lv_iconst (v := 1) hx hb dX10_fault_13 (by decide) ?_
    refine lv_icmp_ne (tgt := 27) hx hb dX10_fault_14 (by decide) (fun c2 => ?_) (fun c2 => ?_)
    · skip
      refine lv_iconst (v := (-1)) hx hb dX10_fault_27 (by decide) ?_
      exact hret _ _ _ _ _ hT0 hS0 rfl dX10_fault_28
    · skip
      refine lv_aload_n hx hb dX10_fault_17 rfl (lv_at hl 0 rfl) ?_
      refine h_getr (C := RX10) (T := TX10) (N := 9) hx hb hts inX10 hown hK hT0 (on_w0 hW) rfl 0 rfl wF_X10_10 rfl dX10_fault_18 ?_
      refine h_geti (C := RX8) (T := TX8) (N := 4) hx hb hts inX8 hown hK hT0 ((on_wt hW).o rfl) rfl 3 rfl wF_X10_81 rfl dX10_fault_21 (fun p3 => ?_)
      refine h_top (v := (-1)) hpr.2 ?_
      refine lv_goto (tgt := 28) hx hb dX10_fault_24 (by decide) ?_
      exact hret _ _ _ _ _ hT0 hS0 rfl dX10_fault_28
  · skip
    refine lv_aload_n hx hb dX10_fault_4 rfl (lv_at hl 0 rfl) ?_
    refine h_getr (C := RX10) (T := TX10) (N := 9) hx hb hts inX10 hown hK hT0 (on_w0 hW) rfl 0 rfl wF_X10_10 rfl dX10_fault_5 ?_
    refine h_geti (C := RX8) (T := TX8) (N := 4) hx hb hts inX8 hown hK hT0 ((on_wt hW).o rfl) rfl 2 rfl wF_X10_77 rfl dX10_fault_8 (fun p4 => ?_)
    refine h_top (v := (-1)) hpr.1 ?_
    exact hret _ _ _ _ _ hT0 hS0 rfl dX10_fault_11
set_option maxHeartbeats 4000000 in
set_option maxRecDepth 100000 in
theorem c_X10_many (l : Launch) (G : hG) (Y : hW) (o : Nat) (hW : h_On Y o (wldE tF o)) (u1 : Int32) : hMi l yX10_many cX10_many 3 (some .int) 3 63 G Y [.ref (o), .int u1] (fun H => h_gi G H 10 o 7 = 0 ∧ h_gi G H 5 (o + 3) 6 = 0 ∧ h_gi G H 6 (o + 3 + 18) 0 = 0) (fun H r H1 => (((0 ≤ u1.toInt ∧ u1.toInt ≤ 8) ∧ u1.toInt ≠ 2) → r = 0) ∧ (¬ ((0 ≤ u1.toInt ∧ u1.toInt ≤ 8) ∧ u1.toInt ≠ 2) → r = -1)) := by
  refine h_ofi (by decide +kernel) (Nat.le_of_ble_eq_true rfl) ?_
  intro p e s m args below meth c H0 ls Q hx hb hts hown hml hK hT0 hpr hS0 hl hret
  have hl : lv_has ls 3 [(0, .ref (o)), (1, .int u1)] := hl
  refine lv_aload_n hx hb dX10_many_0 rfl (lv_at hl 0 rfl) ?_
  refine h_getr (C := RX10) (T := TX10) (N := 9) hx hb hts inX10 hown hK hT0 (on_w0 hW) rfl 1 rfl wF_X10_19 rfl dX10_many_1 ?_
  refine h_getr (C := RX5) (T := TX5) (N := 11) hx hb hts inX5 hown hK hT0 (on_rg (on_wr hW)) rfl 0 rfl wF_X10_86 rfl dX10_many_4 ?_
  refine lv_astore_n (lv' := [(2, .ref (o + 3 + 1)), (0, .ref (o)), (1, .int u1)]) hx hb dX10_many_7 rfl hl (by decide) rfl (fun ls hl => ?_)
  refine lv_iload_n hx hb dX10_many_8 rfl (lv_at hl 2 rfl) ?_
  rcases h_sw11 u1 with c1 | c1 | c1 | c1 | c1 | c1 | c1 | c1 | c1 | c1 | c1 | c1
  · skip
    refine lv_tableOut (tgt := 210) hx hb dX10_many_9 c1 (by decide) ?_
    refine lv_aload_n hx hb dX10_many_210 rfl (lv_at hl 1 rfl) ?_
    refine lv_iconst (v := 1) hx hb dX10_many_211 (by decide) ?_
    refine h_callVi (T := TX10) (rest := []) (As := [.int 1]) hx hb hml hown hts hK hT0 (fun _ h => h) hS0 (c_X10_fail l G Y (o) hW 1) trivial wd_X10_fail wV_X10_fail wL_X10_66 (on_w0 hW) rfl rfl hl.1 rfl (Nat.le_of_ble_eq_true rfl) dX10_many_212 ⟨Nat.le_of_ble_eq_true rfl, Nat.le_of_ble_eq_true rfl⟩ ⟨Nat.zero_le _, Nat.zero_le _⟩ (fun r2 H1 locs hp1 hT1 hS1 hk1 => ?_)
    have hp1 : r2 = (-1) := hp1
    subst hp1
    exact hret _ _ _ _ _ hT1 hS1 (by refine ⟨fun h => ?_, fun h => ?_⟩ <;> first | rfl | exact absurd h (by decide) | (exfalso; omega)) dX10_many_215
  · subst c1
    refine lv_tableIn (tgt := 68) hx hb dX10_many_9 (by decide) (by decide) rfl (by decide) ?_
    refine lv_aload_n hx hb dX10_many_68 rfl (lv_at hl 1 rfl) ?_
    refine lv_aload_n hx hb dX10_many_69 rfl (lv_at hl 0 rfl) ?_
    refine h_getc (v := 0) (C := RX7) (T := TX7) (N := 9) hx hb hts inX7 hown hK hT0 ((on_st (on_wr hW)).o rfl) rfl 5 rfl wF_X10_90 rfl (fun _ h => h) dX10_many_70 ?_
    refine h_callVi (T := TX10) (rest := []) (As := [.int 0]) hx hb hml hown hts hK hT0 (fun _ h => h) hS0 (c_X10_give l G Y (o) hW 0) trivial wd_X10_give wV_X10_give wL_X10_95 (on_w0 hW) rfl rfl hl.1 rfl (Nat.le_of_ble_eq_true rfl) dX10_many_73 ⟨Nat.le_of_ble_eq_true rfl, Nat.le_of_ble_eq_true rfl⟩ ⟨Nat.zero_le _, Nat.zero_le _⟩ (fun r3 H2 locs hp2 hT2 hS2 hk2 => ?_)
    have hp2 : r3 = 0 := hp2
    subst hp2
    exact hret _ _ _ _ _ hT2 hS2 (by refine ⟨fun h => ?_, fun h => ?_⟩ <;> first | rfl | exact absurd h (by decide) | (exfalso; omega)) dX10_many_76
  · subst c1
    refine lv_tableIn (tgt := 77) hx hb dX10_many_9 (by decide) (by decide) rfl (by decide) ?_
    refine lv_aload_n hx hb dX10_many_77 rfl (lv_at hl 1 rfl) ?_
    refine lv_aload_n hx hb dX10_many_78 rfl (lv_at hl 0 rfl) ?_
    refine h_callVi (T := TX7) (rest := [.ref (o)]) (As := []) hx hb hml hown hts hK hT0 (fun _ h => h) hS0 (c_X7_onBits l G Y (o + 3 + 1) (on_st (on_wr hW))) trivial wd_X7_onBits wV_X7_onBits wL_X10_98 ((on_st (on_wr hW)).o rfl) rfl rfl hl.1 rfl (Nat.le_of_ble_eq_true rfl) dX10_many_79 ⟨Nat.le_of_ble_eq_true rfl, Nat.le_of_ble_eq_true rfl⟩ ⟨Nat.zero_le _, Nat.zero_le _⟩ (fun r4 H3 locs hp3 hT3 hS3 hk3 => ?_)
    obtain ⟨hp3, he⟩ := hp3
    have he := he.symm
    subst he
    have hp3 : r4 = 0 := hp3
    subst hp3
    refine h_callVi (T := TX10) (rest := []) (As := [.int 0]) hx hb hml hown hts hK hT0 (fun _ h => h) hS3 (c_X10_give l G Y (o) hW 0) trivial wd_X10_give wV_X10_give wL_X10_95 (on_w0 hW) rfl rfl hl.1 rfl (Nat.le_of_ble_eq_true rfl) dX10_many_82 ⟨Nat.le_of_ble_eq_true rfl, Nat.le_of_ble_eq_true rfl⟩ ⟨Nat.zero_le _, Nat.zero_le _⟩ (fun r5 H4 locs hp4 hT4 hS4 hk4 => ?_)
    have hp4 : r5 = 0 := hp4
    subst hp4
    exact hret _ _ _ _ _ hT4 hS4 (by refine ⟨fun h => ?_, fun h => ?_⟩ <;> first | rfl | exact absurd h (by decide) | (exfalso; omega)) dX10_many_85
  · subst c1
    refine lv_tableIn (tgt := 86) hx hb dX10_many_9 (by decide) (by decide) rfl (by decide) ?_
    refine lv_aload_n hx hb dX10_many_86 rfl (lv_at hl 1 rfl) ?_
    refine lv_aload_n hx hb dX10_many_87 rfl (lv_at hl 0 rfl) ?_
    refine h_getc (v := (-1)) (C := RX7) (T := TX7) (N := 9) hx hb hts inX7 hown hK hT0 ((on_st (on_wr hW)).o rfl) rfl 6 rfl wF_X10_102 rfl (fun _ h => h) dX10_many_88 ?_
    refine h_callVi (T := TX10) (rest := []) (As := [.int (-1)]) hx hb hml hown hts hK hT0 (fun _ h => h) hS0 (c_X10_give l G Y (o) hW (-1)) trivial wd_X10_give wV_X10_give wL_X10_95 (on_w0 hW) rfl rfl hl.1 rfl (Nat.le_of_ble_eq_true rfl) dX10_many_91 ⟨Nat.le_of_ble_eq_true rfl, Nat.le_of_ble_eq_true rfl⟩ ⟨Nat.zero_le _, Nat.zero_le _⟩ (fun r6 H5 locs hp5 hT5 hS5 hk5 => ?_)
    have hp5 : r6 = (-1) := hp5
    subst hp5
    exact hret _ _ _ _ _ hT5 hS5 (by refine ⟨fun h => ?_, fun h => ?_⟩ <;> first | rfl | exact absurd h (by decide) | (exfalso; omega)) dX10_many_94
  · subst c1
    refine lv_tableIn (tgt := 95) hx hb dX10_many_9 (by decide) (by decide) rfl (by decide) ?_
    refine lv_aload_n hx hb dX10_many_95 rfl (lv_at hl 1 rfl) ?_
    refine lv_aload_n hx hb dX10_many_96 rfl (lv_at hl 1 rfl) ?_
    refine h_getr (C := RX10) (T := TX10) (N := 9) hx hb hts inX10 hown hK hT0 (on_w0 hW) rfl 1 rfl wF_X10_19 rfl dX10_many_97 ?_
    refine h_getr (C := RX5) (T := TX5) (N := 11) hx hb hts inX5 hown hK hT0 (on_rg (on_wr hW)) rfl 1 rfl wF_X10_105 rfl dX10_many_100 ?_
    refine h_callVi (T := TX2) (rest := [.ref (o)]) (As := []) hx hb hml hown hts hK hT0 (fun _ h => h) hS0 (c_X2_total l G Y (o + 3 + 7) (on_qu (on_wr hW))) trivial wd_X2_total wV_X2_total wL_X10_109 ((on_qu (on_wr hW)).o rfl) rfl rfl hl.1 rfl (Nat.le_of_ble_eq_true rfl) dX10_many_103 ⟨Nat.le_of_ble_eq_true rfl, Nat.le_of_ble_eq_true rfl⟩ ⟨Nat.zero_le _, Nat.zero_le _⟩ (fun r7 H6 locs hp6 hT6 hS6 hk6 => ?_)
    obtain ⟨hp6, he⟩ := hp6
    have he := he.symm
    subst he
    have hp6 : r7 = 0 := hp6
    subst hp6
    refine h_callVi (T := TX10) (rest := []) (As := [.int 0]) hx hb hml hown hts hK hT0 (fun _ h => h) hS6 (c_X10_give l G Y (o) hW 0) trivial wd_X10_give wV_X10_give wL_X10_95 (on_w0 hW) rfl rfl hl.1 rfl (Nat.le_of_ble_eq_true rfl) dX10_many_106 ⟨Nat.le_of_ble_eq_true rfl, Nat.le_of_ble_eq_true rfl⟩ ⟨Nat.zero_le _, Nat.zero_le _⟩ (fun r8 H7 locs hp7 hT7 hS7 hk7 => ?_)
    have hp7 : r8 = 0 := hp7
    subst hp7
    exact hret _ _ _ _ _ hT7 hS7 (by refine ⟨fun h => ?_, fun h => ?_⟩ <;> first | rfl | exact absurd h (by decide) | (exfalso; omega)) dX10_many_109
  · subst c1
    refine lv_tableIn (tgt := 110) hx hb dX10_many_9 (by decide) (by decide) rfl (by decide) ?_
    refine lv_aload_n hx hb dX10_many_110 rfl (lv_at hl 1 rfl) ?_
    refine lv_aload_n hx hb dX10_many_111 rfl (lv_at hl 1 rfl) ?_
    refine h_getr (C := RX10) (T := TX10) (N := 9) hx hb hts inX10 hown hK hT0 (on_w0 hW) rfl 1 rfl wF_X10_19 rfl dX10_many_112 ?_
    refine h_getc (v := 0) (C := RX5) (T := TX5) (N := 11) hx hb hts inX5 hown hK hT0 (on_rg (on_wr hW)) rfl 7 rfl wF_X10_114 rfl (fun _ h => h) dX10_many_115 ?_
    refine h_callVi (T := TX10) (rest := []) (As := [.int 0]) hx hb hml hown hts hK hT0 (fun _ h => h) hS0 (c_X10_give l G Y (o) hW 0) trivial wd_X10_give wV_X10_give wL_X10_95 (on_w0 hW) rfl rfl hl.1 rfl (Nat.le_of_ble_eq_true rfl) dX10_many_118 ⟨Nat.le_of_ble_eq_true rfl, Nat.le_of_ble_eq_true rfl⟩ ⟨Nat.zero_le _, Nat.zero_le _⟩ (fun r9 H8 locs hp8 hT8 hS8 hk8 => ?_)
    have hp8 : r9 = 0 := hp8
    subst hp8
    exact hret _ _ _ _ _ hT8 hS8 (by refine ⟨fun h => ?_, fun h => ?_⟩ <;> first | rfl | exact absurd h (by decide) | (exfalso; omega)) dX10_many_121
  · subst c1
    refine lv_tableIn (tgt := 122) hx hb dX10_many_9 (by decide) (by decide) rfl (by decide) ?_
    refine lv_aload_n hx hb dX10_many_122 rfl (lv_at hl 1 rfl) ?_
    refine lv_aload_n hx hb dX10_many_123 rfl (lv_at hl 1 rfl) ?_
    refine h_getr (C := RX10) (T := TX10) (N := 9) hx hb hts inX10 hown hK hT0 (on_w0 hW) rfl 1 rfl wF_X10_19 rfl dX10_many_124 ?_
    refine h_geti (C := RX5) (T := TX5) (N := 11) hx hb hts inX5 hown hK hT0 (on_rg (on_wr hW)) rfl 6 rfl wF_X10_117 rfl dX10_many_127 (fun p10 => ?_)
    refine h_top (v := 0) hpr.2.1 ?_
    refine h_callVi (T := TX10) (rest := []) (As := [.int 0]) hx hb hml hown hts hK hT0 (fun _ h => h) hS0 (c_X10_give l G Y (o) hW 0) trivial wd_X10_give wV_X10_give wL_X10_95 (on_w0 hW) rfl rfl hl.1 rfl (Nat.le_of_ble_eq_true rfl) dX10_many_130 ⟨Nat.le_of_ble_eq_true rfl, Nat.le_of_ble_eq_true rfl⟩ ⟨Nat.zero_le _, Nat.zero_le _⟩ (fun r11 H9 locs hp9 hT9 hS9 hk9 => ?_)
    have hp9 : r11 = 0 := hp9
    subst hp9
    exact hret _ _ _ _ _ hT9 hS9 (by refine ⟨fun h => ?_, fun h => ?_⟩ <;> first | rfl | exact absurd h (by decide) | (exfalso; omega)) dX10_many_133
  · subst c1
    refine lv_tableIn (tgt := 134) hx hb dX10_many_9 (by decide) (by decide) rfl (by decide) ?_
    refine lv_aload_n hx hb dX10_many_134 rfl (lv_at hl 1 rfl) ?_
    refine lv_aload_n hx hb dX10_many_135 rfl (lv_at hl 1 rfl) ?_
    refine h_getr (C := RX10) (T := TX10) (N := 9) hx hb hts inX10 hown hK hT0 (on_w0 hW) rfl 1 rfl wF_X10_19 rfl dX10_many_136 ?_
    refine h_getr (C := RX5) (T := TX5) (N := 11) hx hb hts inX5 hown hK hT0 (on_rg (on_wr hW)) rfl 3 rfl wF_X10_120 rfl dX10_many_139 ?_
    refine h_getc (v := 0) (C := RX9) (T := TX9) (N := 11) hx hb hts inX9 hown hK hT0 ((on_wa (on_wr hW)).o rfl) rfl 0 rfl wF_X10_124 rfl (fun _ h => h) dX10_many_142 ?_
    refine lv_if_ne (tgt := 161) hx hb dX10_many_145 (by decide) (fun h => absurd (by decide) h) (fun _ => ?_)
    refine lv_aload_n hx hb dX10_many_148 rfl (lv_at hl 1 rfl) ?_
    refine h_getr (C := RX10) (T := TX10) (N := 9) hx hb hts inX10 hown hK hT0 (on_w0 hW) rfl 1 rfl wF_X10_19 rfl dX10_many_149 ?_
    refine h_getr (C := RX5) (T := TX5) (N := 11) hx hb hts inX5 hown hK hT0 (on_rg (on_wr hW)) rfl 4 rfl wF_X10_129 rfl dX10_many_152 ?_
    refine h_geti (C := RX6) (T := TX6) (N := 4) hx hb hts inX6 hown hK hT0 ((on_si (on_wr hW)).o rfl) rfl 0 rfl wF_X10_133 rfl dX10_many_155 (fun p13 => ?_)
    refine h_top (v := 0) hpr.2.2 ?_
    refine lv_goto (tgt := 162) hx hb dX10_many_158 (by decide) ?_
    refine h_callVi (T := TX10) (rest := []) (As := [.int 0]) hx hb hml hown hts hK hT0 (fun _ h => h) hS0 (c_X10_give l G Y (o) hW 0) trivial wd_X10_give wV_X10_give wL_X10_95 (on_w0 hW) rfl rfl hl.1 rfl (Nat.le_of_ble_eq_true rfl) dX10_many_162 ⟨Nat.le_of_ble_eq_true rfl, Nat.le_of_ble_eq_true rfl⟩ ⟨Nat.zero_le _, Nat.zero_le _⟩ (fun r14 H10 locs hp10 hT10 hS10 hk10 => ?_)
    have hp10 : r14 = 0 := hp10
    subst hp10
    exact hret _ _ _ _ _ hT10 hS10 (by refine ⟨fun h => ?_, fun h => ?_⟩ <;> first | rfl | exact absurd h (by decide) | (exfalso; omega)) dX10_many_165
  · subst c1
    refine lv_tableIn (tgt := 166) hx hb dX10_many_9 (by decide) (by decide) rfl (by decide) ?_
    refine lv_aload_n hx hb dX10_many_166 rfl (lv_at hl 1 rfl) ?_
    refine lv_aload_n hx hb dX10_many_167 rfl (lv_at hl 1 rfl) ?_
    refine h_geti (C := RX10) (T := TX10) (N := 9) hx hb hts inX10 hown hK hT0 (on_w0 hW) rfl 7 rfl wF_X10_52 rfl dX10_many_168 (fun p15 => ?_)
    refine h_top (v := 0) hpr.1 ?_
    refine h_callVi (T := TX10) (rest := []) (As := [.int 0]) hx hb hml hown hts hK hT0 (fun _ h => h) hS0 (c_X10_give l G Y (o) hW 0) trivial wd_X10_give wV_X10_give wL_X10_95 (on_w0 hW) rfl rfl hl.1 rfl (Nat.le_of_ble_eq_true rfl) dX10_many_171 ⟨Nat.le_of_ble_eq_true rfl, Nat.le_of_ble_eq_true rfl⟩ ⟨Nat.zero_le _, Nat.zero_le _⟩ (fun r16 H11 locs hp11 hT11 hS11 hk11 => ?_)
    have hp11 : r16 = 0 := hp11
    subst hp11
    exact hret _ _ _ _ _ hT11 hS11 (by refine ⟨fun h => ?_, fun h => ?_⟩ <;> first | rfl | exact absurd h (by decide) | (exfalso; omega)) dX10_many_174
  · subst c1
    refine lv_tableIn (tgt := 175) hx hb dX10_many_9 (by decide) (by decide) rfl (by decide) ?_
    refine lv_aload_n hx hb dX10_many_175 rfl (lv_at hl 1 rfl) ?_
    refine lv_aload_n hx hb dX10_many_176 rfl (lv_at hl 0 rfl) ?_
    refine h_callVi (T := TX7) (rest := [.ref (o)]) (As := []) hx hb hml hown hts hK hT0 (fun _ h => h) hS0 (c_X7_breakCounts l G Y (o + 3 + 1) (on_st (on_wr hW))) trivial wd_X7_breakCounts wV_X7_breakCounts wL_X10_136 ((on_st (on_wr hW)).o rfl) rfl rfl hl.1 rfl (Nat.le_of_ble_eq_true rfl) dX10_many_177 ⟨Nat.le_of_ble_eq_true rfl, Nat.le_of_ble_eq_true rfl⟩ ⟨Nat.zero_le _, Nat.zero_le _⟩ (fun r17 H12 locs hp12 hT12 hS12 hk12 => ?_)
    obtain ⟨hp12, he⟩ := hp12
    have he := he.symm
    subst he
    have hp12 : r17 = 0 := hp12
    subst hp12
    refine lv_if_eq (tgt := 187) hx hb dX10_many_180 (by decide) (fun _ => ?_) (fun h => absurd (by decide) h)
    refine lv_iconst (v := 0) hx hb dX10_many_187 (by decide) ?_
    refine h_callVi (T := TX10) (rest := []) (As := [.int 0]) hx hb hml hown hts hK hT0 (fun _ h => h) hS12 (c_X10_give l G Y (o) hW 0) trivial wd_X10_give wV_X10_give wL_X10_95 (on_w0 hW) rfl rfl hl.1 rfl (Nat.le_of_ble_eq_true rfl) dX10_many_188 ⟨Nat.le_of_ble_eq_true rfl, Nat.le_of_ble_eq_true rfl⟩ ⟨Nat.zero_le _, Nat.zero_le _⟩ (fun r19 H13 locs hp13 hT13 hS13 hk13 => ?_)
    have hp13 : r19 = 0 := hp13
    subst hp13
    exact hret _ _ _ _ _ hT13 hS13 (by refine ⟨fun h => ?_, fun h => ?_⟩ <;> first | rfl | exact absurd h (by decide) | (exfalso; omega)) dX10_many_191
  · subst c1
    refine lv_tableIn (tgt := 192) hx hb dX10_many_9 (by decide) (by decide) rfl (by decide) ?_
    refine lv_aload_n hx hb dX10_many_192 rfl (lv_at hl 1 rfl) ?_
    refine lv_aload_n hx hb dX10_many_193 rfl (lv_at hl 0 rfl) ?_
    refine h_getc (v := (-1)) (C := RX7) (T := TX7) (N := 9) hx hb hts inX7 hown hK hT0 ((on_st (on_wr hW)).o rfl) rfl 7 rfl wF_X10_140 rfl (fun _ h => h) dX10_many_194 ?_
    refine h_callVi (T := TX10) (rest := []) (As := [.int (-1)]) hx hb hml hown hts hK hT0 (fun _ h => h) hS0 (c_X10_give l G Y (o) hW (-1)) trivial wd_X10_give wV_X10_give wL_X10_95 (on_w0 hW) rfl rfl hl.1 rfl (Nat.le_of_ble_eq_true rfl) dX10_many_197 ⟨Nat.le_of_ble_eq_true rfl, Nat.le_of_ble_eq_true rfl⟩ ⟨Nat.zero_le _, Nat.zero_le _⟩ (fun r20 H14 locs hp14 hT14 hS14 hk14 => ?_)
    have hp14 : r20 = (-1) := hp14
    subst hp14
    exact hret _ _ _ _ _ hT14 hS14 (by refine ⟨fun h => ?_, fun h => ?_⟩ <;> first | rfl | exact absurd h (by decide) | (exfalso; omega)) dX10_many_200
  · subst c1
    refine lv_tableIn (tgt := 201) hx hb dX10_many_9 (by decide) (by decide) rfl (by decide) ?_
    refine lv_aload_n hx hb dX10_many_201 rfl (lv_at hl 1 rfl) ?_
    refine lv_aload_n hx hb dX10_many_202 rfl (lv_at hl 0 rfl) ?_
    refine h_getc (v := (-1)) (C := RX7) (T := TX7) (N := 9) hx hb hts inX7 hown hK hT0 ((on_st (on_wr hW)).o rfl) rfl 8 rfl wF_X10_143 rfl (fun _ h => h) dX10_many_203 ?_
    refine h_callVi (T := TX10) (rest := []) (As := [.int (-1)]) hx hb hml hown hts hK hT0 (fun _ h => h) hS0 (c_X10_give l G Y (o) hW (-1)) trivial wd_X10_give wV_X10_give wL_X10_95 (on_w0 hW) rfl rfl hl.1 rfl (Nat.le_of_ble_eq_true rfl) dX10_many_206 ⟨Nat.le_of_ble_eq_true rfl, Nat.le_of_ble_eq_true rfl⟩ ⟨Nat.zero_le _, Nat.zero_le _⟩ (fun r21 H15 locs hp15 hT15 hS15 hk15 => ?_)
    have hp15 : r21 = (-1) := hp15
    subst hp15
    exact hret _ _ _ _ _ hT15 hS15 (by refine ⟨fun h => ?_, fun h => ?_⟩ <;> first | rfl | exact absurd h (by decide) | (exfalso; omega)) dX10_many_209
set_option maxHeartbeats 4000000 in
set_option maxRecDepth 100000 in
theorem c_X10_feed (l : Launch) (G : hG) (Y : hW) (o : Nat) (hW : h_On Y o (wldE tF o)) (u1 u2 u3 u4 u5 : Int32) : hMi l yX10_feed cX10_feed 6 (some .int) 1 22 G Y [.ref (o), .int u1, .int u2, .int u3, .int u4, .int u5] (fun H => h_gi G H 8 (o + 1) 1 = 0) (fun H r H1 => r = 20) := by
  refine h_ofi (by decide +kernel) (Nat.le_of_ble_eq_true rfl) ?_
  intro p e s m args below meth c H0 ls Q hx hb hts hown hml hK hT0 hpr hS0 hl hret
  have hl : lv_has ls 6 [(0, .ref (o)), (1, .int u1), (2, .int u2), (3, .int u3), (4, .int u4), (5, .int u5)] := hl
  refine lv_aload_n hx hb dX10_feed_0 rfl (lv_at hl 0 rfl) ?_
  refine h_getr (C := RX10) (T := TX10) (N := 9) hx hb hts inX10 hown hK hT0 (on_w0 hW) rfl 0 rfl wF_X10_10 rfl dX10_feed_1 ?_
  refine h_geti (C := RX8) (T := TX8) (N := 4) hx hb hts inX8 hown hK hT0 ((on_wt hW).o rfl) rfl 1 rfl wF_X10_59 rfl dX10_feed_4 (fun p1 => ?_)
  refine h_top (v := 0) hpr ?_
  refine lv_bipush (v := 20) hx hb dX10_feed_7 (by decide) ?_
  refine lv_iadd hx hb dX10_feed_9 ?_
  refine h_top (v := 20) (by decide) ?_
  refine lv_sipush (v := 500) hx hb dX10_feed_10 (by decide) ?_
  refine lv_icmp_le (tgt := 18) hx hb dX10_feed_13 (by decide) (fun _ => ?_) (fun h => absurd (by decide) h)
  refine lv_aload_n hx hb dX10_feed_18 rfl (lv_at hl 0 rfl) ?_
  refine h_getr (C := RX10) (T := TX10) (N := 9) hx hb hts inX10 hown hK hT0 (on_w0 hW) rfl 0 rfl wF_X10_10 rfl dX10_feed_19 ?_
  refine lv_iload_n hx hb dX10_feed_22 rfl (lv_at hl 1 rfl) ?_
  refine h_callVv (T := TX8) (rest := []) (As := [.int u1]) hx hb hml hown hts hK hT0 (fun _ h => h) hS0 (c_append_0 l G Y (o + 1) (on_wt hW) u1) hpr wd_X8_append wV_X8_append wL_X10_62 ((on_wt hW).o rfl) rfl rfl hl.1 rfl (Nat.le_of_ble_eq_true rfl) dX10_feed_23 ⟨Nat.le_of_ble_eq_true rfl, Nat.le_of_ble_eq_true rfl⟩ ⟨Nat.zero_le _, Nat.zero_le _⟩ (fun H1 locs hp1 hT1 hS1 hk1 => ?_)
  refine lv_aload_n hx hb dX10_feed_26 rfl (lv_at hl 0 rfl) ?_
  refine h_getr (C := RX10) (T := TX10) (N := 9) hx hb hts inX10 hown hK hT1 (on_w0 hW) rfl 0 rfl wF_X10_10 rfl dX10_feed_27 ?_
  refine lv_iload_n hx hb dX10_feed_30 rfl (lv_at hl 2 rfl) ?_
  refine h_callVv (T := TX8) (rest := []) (As := [.int u2]) hx hb hml hown hts hK hT1 (fun _ h => h) hS1 (c_append_4 l G Y (o + 1) (on_wt hW) u2) hp1 wd_X8_append wV_X8_append wL_X10_62 ((on_wt hW).o rfl) rfl rfl hl.1 rfl (Nat.le_of_ble_eq_true rfl) dX10_feed_31 ⟨Nat.le_of_ble_eq_true rfl, Nat.le_of_ble_eq_true rfl⟩ ⟨Nat.zero_le _, Nat.zero_le _⟩ (fun H2 locs hp2 hT2 hS2 hk2 => ?_)
  refine lv_aload_n hx hb dX10_feed_34 rfl (lv_at hl 0 rfl) ?_
  refine h_getr (C := RX10) (T := TX10) (N := 9) hx hb hts inX10 hown hK hT2 (on_w0 hW) rfl 0 rfl wF_X10_10 rfl dX10_feed_35 ?_
  refine lv_iload_n hx hb dX10_feed_38 rfl (lv_at hl 3 rfl) ?_
  refine h_callVv (T := TX8) (rest := []) (As := [.int u3]) hx hb hml hown hts hK hT2 (fun _ h => h) hS2 (c_append_8 l G Y (o + 1) (on_wt hW) u3) hp2 wd_X8_append wV_X8_append wL_X10_62 ((on_wt hW).o rfl) rfl rfl hl.1 rfl (Nat.le_of_ble_eq_true rfl) dX10_feed_39 ⟨Nat.le_of_ble_eq_true rfl, Nat.le_of_ble_eq_true rfl⟩ ⟨Nat.zero_le _, Nat.zero_le _⟩ (fun H3 locs hp3 hT3 hS3 hk3 => ?_)
  refine lv_aload_n hx hb dX10_feed_42 rfl (lv_at hl 0 rfl) ?_
  refine h_getr (C := RX10) (T := TX10) (N := 9) hx hb hts inX10 hown hK hT3 (on_w0 hW) rfl 0 rfl wF_X10_10 rfl dX10_feed_43 ?_
  refine lv_iload hx hb dX10_feed_46 (lv_at hl 4 rfl) ?_
  refine h_callVv (T := TX8) (rest := []) (As := [.int u4]) hx hb hml hown hts hK hT3 (fun _ h => h) hS3 (c_append_12 l G Y (o + 1) (on_wt hW) u4) hp3 wd_X8_append wV_X8_append wL_X10_62 ((on_wt hW).o rfl) rfl rfl hl.1 rfl (Nat.le_of_ble_eq_true rfl) dX10_feed_48 ⟨Nat.le_of_ble_eq_true rfl, Nat.le_of_ble_eq_true rfl⟩ ⟨Nat.zero_le _, Nat.zero_le _⟩ (fun H4 locs hp4 hT4 hS4 hk4 => ?_)
  refine lv_aload_n hx hb dX10_feed_51 rfl (lv_at hl 0 rfl) ?_
  refine h_getr (C := RX10) (T := TX10) (N := 9) hx hb hts inX10 hown hK hT4 (on_w0 hW) rfl 0 rfl wF_X10_10 rfl dX10_feed_52 ?_
  refine lv_iload hx hb dX10_feed_55 (lv_at hl 5 rfl) ?_
  refine h_callVv (T := TX8) (rest := []) (As := [.int u5]) hx hb hml hown hts hK hT4 (fun _ h => h) hS4 (c_append_16 l G Y (o + 1) (on_wt hW) u5) hp4 wd_X8_append wV_X8_append wL_X10_62 ((on_wt hW).o rfl) rfl rfl hl.1 rfl (Nat.le_of_ble_eq_true rfl) dX10_feed_57 ⟨Nat.le_of_ble_eq_true rfl, Nat.le_of_ble_eq_true rfl⟩ ⟨Nat.zero_le _, Nat.zero_le _⟩ (fun H5 locs hp5 hT5 hS5 hk5 => ?_)
  refine lv_aload_n hx hb dX10_feed_60 rfl (lv_at hl 0 rfl) ?_
  refine h_getr (C := RX10) (T := TX10) (N := 9) hx hb hts inX10 hown hK hT5 (on_w0 hW) rfl 0 rfl wF_X10_10 rfl dX10_feed_61 ?_
  refine h_geti (C := RX8) (T := TX8) (N := 4) hx hb hts inX8 hown hK hT5 ((on_wt hW).o rfl) rfl 1 rfl wF_X10_59 rfl dX10_feed_64 (fun p3 => ?_)
  refine h_top (v := 20) hp5 ?_
  exact hret _ _ _ _ _ hT5 hS5 rfl dX10_feed_67
set_option maxHeartbeats 4000000 in
set_option maxRecDepth 100000 in
theorem c_X10_load (l : Launch) (G : hG) (Y : hW) (o : Nat) (hW : h_On Y o (wldE tF o)) (u1 : Int32) : hMi l yX10_load cX10_load 3 (some .int) 4 102 G Y [.ref (o), .int u1] (fun H => h_gi G H 8 (o + 1) 1 = 0) (fun H r H1 => ((u1.toInt = 0) → r = 0) ∧ (¬ (u1.toInt = 0) → r = -1)) := by
  refine h_ofi (by decide +kernel) (Nat.le_of_ble_eq_true rfl) ?_
  intro p e s m args below meth c H0 ls Q hx hb hts hown hml hK hT0 hpr hS0 hl hret
  have hl : lv_has ls 3 [(0, .ref (o)), (1, .int u1)] := hl
  refine lv_iload_n hx hb dX10_load_0 rfl (lv_at hl 1 rfl) ?_
  refine lv_if_lt (tgt := 15) hx hb dX10_load_1 (by decide) (fun c1 => ?_) (fun c1 => ?_)
  · skip
    refine lv_aload_n hx hb dX10_load_15 rfl (lv_at hl 0 rfl) ?_
    refine lv_iconst (v := 1) hx hb dX10_load_16 (by decide) ?_
    refine h_callVi (T := TX10) (rest := []) (As := [.int 1]) hx hb hml hown hts hK hT0 (fun _ h => h) hS0 (c_X10_fail l G Y (o) hW 1) trivial wd_X10_fail wV_X10_fail wL_X10_66 (on_w0 hW) rfl rfl hl.1 rfl (Nat.le_of_ble_eq_true rfl) dX10_load_17 ⟨Nat.le_of_ble_eq_true rfl, Nat.le_of_ble_eq_true rfl⟩ ⟨Nat.zero_le _, Nat.zero_le _⟩ (fun r2 H1 locs hp1 hT1 hS1 hk1 => ?_)
    have hp1 : r2 = (-1) := hp1
    subst hp1
    exact hret _ _ _ _ _ hT1 hS1 (by refine ⟨fun h => ?_, fun h => ?_⟩ <;> first | rfl | exact absurd h (by decide) | (exfalso; simp only [Int32.lt_iff_toInt_lt, Int32.le_iff_toInt_le, ← Int32.toInt_inj, Int32.reduceToInt, (show (-1 : Int32).toInt = -1 from rfl)] at c1 <;> omega)) dX10_load_20
  · skip
    refine lv_iload_n hx hb dX10_load_4 rfl (lv_at hl 1 rfl) ?_
    refine lv_aload_n hx hb dX10_load_5 rfl (lv_at hl 0 rfl) ?_
    refine h_getr (C := RX10) (T := TX10) (N := 9) hx hb hts inX10 hown hK hT0 (on_w0 hW) rfl 0 rfl wF_X10_10 rfl dX10_load_6 ?_
    refine h_geti (C := RX8) (T := TX8) (N := 4) hx hb hts inX8 hown hK hT0 ((on_wt hW).o rfl) rfl 1 rfl wF_X10_59 rfl dX10_load_9 (fun p3 => ?_)
    refine h_top (v := 0) hpr ?_
    refine lv_icmp_le (tgt := 21) hx hb dX10_load_12 (by decide) (fun c4 => ?_) (fun c4 => ?_)
    · skip
      obtain rfl : u1 = 0 := (by simp only [Int32.lt_iff_toInt_lt, Int32.le_iff_toInt_le, ← Int32.toInt_inj, Int32.reduceToInt, (show (-1 : Int32).toInt = -1 from rfl)] at c1 c4 ⊢; omega)
      refine lv_aload_n hx hb dX10_load_21 rfl (lv_at hl 0 rfl) ?_
      refine h_getr (C := RX10) (T := TX10) (N := 9) hx hb hts inX10 hown hK hT0 (on_w0 hW) rfl 4 rfl wF_X10_40 rfl dX10_load_22 ?_
      refine lv_iload_n hx hb dX10_load_25 rfl (lv_at hl 1 rfl) ?_
      refine h_callVi (T := TX4) (rest := []) (As := [.int 0]) hx hb hml hown hts hK hT0 (fun _ h => h) hS0 (c_X4_readText l G Y (o + 56) (o + 1) (o + 28) (on_we hW) (on_wt hW) (on_ws hW)) trivial wd_X4_readText wV_X4_readText wL_X10_70 ((on_we hW).o rfl) rfl rfl hl.1 rfl (Nat.le_of_ble_eq_true rfl) dX10_load_26 ⟨Nat.le_of_ble_eq_true rfl, Nat.le_of_ble_eq_true rfl⟩ ⟨Nat.zero_le _, Nat.zero_le _⟩ (fun r5 H2 locs hp2 hT2 hS2 hk2 => ?_)
      have hp2 : r5 = 1 := hp2
      subst hp2
      refine lv_istore_n (lv' := [(2, .int 1), (0, .ref (o)), (1, .int 0)]) hx hb dX10_load_29 rfl hl (by decide) rfl (fun ls hl => ?_)
      refine lv_aload_n hx hb dX10_load_30 rfl (lv_at hl 1 rfl) ?_
      refine h_getr (C := RX10) (T := TX10) (N := 9) hx hb hts inX10 hown hK hT2 (on_w0 hW) rfl 0 rfl wF_X10_10 rfl dX10_load_31 ?_
      refine lv_iconst (v := 0) hx hb dX10_load_34 (by decide) ?_
      refine h_puti (C := RX8) (T := TX8) (N := 4) hx hb hts inX8 tyX8 tyX8_ok nmX8 hown hK hT2 (fun _ h => h) hS2 ((on_wt hW).o rfl) rfl 1 rfl wF_X10_59 rfl rfl trivial rfl rfl dX10_load_35 (fun H3 locs hT3 hS3 hu3 => ?_)
      refine lv_aload_n hx hb dX10_load_38 rfl (lv_at hl 1 rfl) ?_
      refine h_getr (C := RX10) (T := TX10) (N := 9) hx hb hts inX10 hown hK hT3 (on_w0 hW) rfl 0 rfl wF_X10_10 rfl dX10_load_39 ?_
      refine lv_aload_n hx hb dX10_load_42 rfl (lv_at hl 1 rfl) ?_
      refine h_getr (C := RX10) (T := TX10) (N := 9) hx hb hts inX10 hown hK hT3 (on_w0 hW) rfl 4 rfl wF_X10_40 rfl dX10_load_43 ?_
      refine h_geti (C := RX4) (T := TX4) (N := 13) hx hb hts inX4 hown hK hT3 ((on_we hW).o rfl) rfl 11 rfl wF_X10_74 rfl dX10_load_46 (fun p6 => ?_)
      refine lv_topi (fun x7 ex7 => ?_)
      refine h_puti (C := RX8) (T := TX8) (N := 4) hx hb hts inX8 tyX8 tyX8_ok nmX8 hown hK hT3 (fun _ h => h) hS3 ((on_wt hW).o rfl) rfl 2 rfl wF_X10_77 rfl rfl trivial rfl rfl dX10_load_49 (fun H4 locs hT4 hS4 hu4 => ?_)
      refine lv_aload_n hx hb dX10_load_52 rfl (lv_at hl 1 rfl) ?_
      refine h_getr (C := RX10) (T := TX10) (N := 9) hx hb hts inX10 hown hK hT4 (on_w0 hW) rfl 0 rfl wF_X10_10 rfl dX10_load_53 ?_
      refine lv_aload_n hx hb dX10_load_56 rfl (lv_at hl 1 rfl) ?_
      refine h_getr (C := RX10) (T := TX10) (N := 9) hx hb hts inX10 hown hK hT4 (on_w0 hW) rfl 4 rfl wF_X10_40 rfl dX10_load_57 ?_
      refine h_geti (C := RX4) (T := TX4) (N := 13) hx hb hts inX4 hown hK hT4 ((on_we hW).o rfl) rfl 12 rfl wF_X10_78 rfl dX10_load_60 (fun p8 => ?_)
      refine lv_topi (fun x9 ex9 => ?_)
      refine h_puti (C := RX8) (T := TX8) (N := 4) hx hb hts inX8 tyX8 tyX8_ok nmX8 hown hK hT4 (fun _ h => h) hS4 ((on_wt hW).o rfl) rfl 3 rfl wF_X10_81 rfl rfl trivial rfl rfl dX10_load_63 (fun H5 locs hT5 hS5 hu5 => ?_)
      refine lv_iload_n hx hb dX10_load_66 rfl (lv_at hl 0 rfl) ?_
      refine lv_if_ne (tgt := 77) hx hb dX10_load_67 (by decide) (fun _ => ?_) (fun h => absurd h (by decide))
      refine lv_aload_n hx hb dX10_load_77 rfl (lv_at hl 1 rfl) ?_
      refine h_getr (C := RX10) (T := TX10) (N := 9) hx hb hts inX10 hown hK hT5 (on_w0 hW) rfl 1 rfl wF_X10_19 rfl dX10_load_78 ?_
      refine lv_aload_n hx hb dX10_load_81 rfl (lv_at hl 1 rfl) ?_
      refine h_getr (C := RX10) (T := TX10) (N := 9) hx hb hts inX10 hown hK hT5 (on_w0 hW) rfl 2 rfl wF_X10_23 rfl dX10_load_82 ?_
      refine h_callVv (T := TX5) (rest := []) (As := [.ref (o + 28)]) hx hb hml hown hts hK hT5 (fun _ h => h) hS5 (c_X5_copyFrom l G Y (o + 3) (o + 28) (on_wr hW) (on_ws hW)) trivial wd_X5_copyFrom wV_X5_copyFrom wL_X10_82 (on_rg (on_wr hW)) rfl rfl hl.1 rfl (Nat.le_of_ble_eq_true rfl) dX10_load_85 ⟨Nat.le_of_ble_eq_true rfl, Nat.le_of_ble_eq_true rfl⟩ ⟨Nat.zero_le _, Nat.zero_le _⟩ (fun H6 locs hp6 hT6 hS6 hk6 => ?_)
      refine lv_aload_n hx hb dX10_load_88 rfl (lv_at hl 1 rfl) ?_
      refine lv_aload_n hx hb dX10_load_89 rfl (lv_at hl 1 rfl) ?_
      refine h_getr (C := RX10) (T := TX10) (N := 9) hx hb hts inX10 hown hK hT6 (on_w0 hW) rfl 1 rfl wF_X10_19 rfl dX10_load_90 ?_
      refine h_getr (C := RX5) (T := TX5) (N := 11) hx hb hts inX5 hown hK hT6 (on_rg (on_wr hW)) rfl 0 rfl wF_X10_86 rfl dX10_load_93 ?_
      refine h_getc (v := 0) (C := RX7) (T := TX7) (N := 9) hx hb hts inX7 hown hK hT6 ((on_st (on_wr hW)).o rfl) rfl 5 rfl wF_X10_90 rfl (fun _ h => h) dX10_load_96 ?_
      refine h_callVi (T := TX10) (rest := []) (As := [.int 0]) hx hb hml hown hts hK hT6 (fun _ h => h) hS6 (c_X10_give l G Y (o) hW 0) trivial wd_X10_give wV_X10_give wL_X10_95 (on_w0 hW) rfl rfl hl.1 rfl (Nat.le_of_ble_eq_true rfl) dX10_load_99 ⟨Nat.le_of_ble_eq_true rfl, Nat.le_of_ble_eq_true rfl⟩ ⟨Nat.zero_le _, Nat.zero_le _⟩ (fun r11 H7 locs hp7 hT7 hS7 hk7 => ?_)
      have hp7 : r11 = 0 := hp7
      subst hp7
      exact hret _ _ _ _ _ hT7 hS7 (by refine ⟨fun h => ?_, fun h => ?_⟩ <;> first | rfl | exact absurd h (by decide) | (exfalso; simp only [Int32.lt_iff_toInt_lt, Int32.le_iff_toInt_le, ← Int32.toInt_inj, Int32.reduceToInt, (show (-1 : Int32).toInt = -1 from rfl)] at c1 c4 <;> omega)) dX10_load_102
    · skip
      refine lv_aload_n hx hb dX10_load_15 rfl (lv_at hl 0 rfl) ?_
      refine lv_iconst (v := 1) hx hb dX10_load_16 (by decide) ?_
      refine h_callVi (T := TX10) (rest := []) (As := [.int 1]) hx hb hml hown hts hK hT0 (fun _ h => h) hS0 (c_X10_fail l G Y (o) hW 1) trivial wd_X10_fail wV_X10_fail wL_X10_66 (on_w0 hW) rfl rfl hl.1 rfl (Nat.le_of_ble_eq_true rfl) dX10_load_17 ⟨Nat.le_of_ble_eq_true rfl, Nat.le_of_ble_eq_true rfl⟩ ⟨Nat.zero_le _, Nat.zero_le _⟩ (fun r12 H8 locs hp8 hT8 hS8 hk8 => ?_)
      have hp8 : r12 = (-1) := hp8
      subst hp8
      exact hret _ _ _ _ _ hT8 hS8 (by refine ⟨fun h => ?_, fun h => ?_⟩ <;> first | rfl | exact absurd h (by decide) | (exfalso; simp only [Int32.lt_iff_toInt_lt, Int32.le_iff_toInt_le, ← Int32.toInt_inj, Int32.reduceToInt, (show (-1 : Int32).toInt = -1 from rfl)] at c1 c4 <;> omega)) dX10_load_20
set_option maxHeartbeats 4000000 in
set_option maxRecDepth 100000 in
theorem c_X10_tick (l : Launch) (G : hG) (Y : hW) (o : Nat) (hW : h_On Y o (wldE tF o)) (u1 : Int32) : hMi l yX10_tick cX10_tick 3 (some .int) 4 84 G Y [.ref (o), .int u1] (fun H => h_gi G H 5 (o + 3) 6 = 0) (fun H r H1 => ((1 ≤ u1.toInt ∧ u1.toInt ≤ 500) → r = u1) ∧ (¬ (1 ≤ u1.toInt ∧ u1.toInt ≤ 500) → r = -1)) := by
  refine h_ofi (by decide +kernel) (Nat.le_of_ble_eq_true rfl) ?_
  intro p e s m args below meth c H0 ls Q hx hb hts hown hml hK hT0 hpr hS0 hl hret
  have hl : lv_has ls 3 [(0, .ref (o)), (1, .int u1)] := hl
  refine lv_iload_n hx hb dX10_tick_0 rfl (lv_at hl 1 rfl) ?_
  refine lv_iconst (v := 1) hx hb dX10_tick_1 (by decide) ?_
  refine lv_icmp_lt (tgt := 12) hx hb dX10_tick_2 (by decide) (fun c1 => ?_) (fun c1 => ?_)
  · skip
    refine lv_aload_n hx hb dX10_tick_12 rfl (lv_at hl 0 rfl) ?_
    refine lv_iconst (v := 1) hx hb dX10_tick_13 (by decide) ?_
    refine h_callVi (T := TX10) (rest := []) (As := [.int 1]) hx hb hml hown hts hK hT0 (fun _ h => h) hS0 (c_X10_fail l G Y (o) hW 1) trivial wd_X10_fail wV_X10_fail wL_X10_66 (on_w0 hW) rfl rfl hl.1 rfl (Nat.le_of_ble_eq_true rfl) dX10_tick_14 ⟨Nat.le_of_ble_eq_true rfl, Nat.le_of_ble_eq_true rfl⟩ ⟨Nat.zero_le _, Nat.zero_le _⟩ (fun r2 H1 locs hp1 hT1 hS1 hk1 => ?_)
    have hp1 : r2 = (-1) := hp1
    subst hp1
    exact hret _ _ _ _ _ hT1 hS1 (by refine ⟨fun h => ?_, fun h => ?_⟩ <;> first | rfl | exact absurd h (by decide) | (exfalso; simp only [Int32.lt_iff_toInt_lt, Int32.le_iff_toInt_le, ← Int32.toInt_inj, Int32.reduceToInt, (show (-1 : Int32).toInt = -1 from rfl)] at c1 <;> omega)) dX10_tick_17
  · skip
    refine lv_iload_n hx hb dX10_tick_5 rfl (lv_at hl 1 rfl) ?_
    refine lv_sipush (v := 500) hx hb dX10_tick_6 (by decide) ?_
    refine lv_icmp_le (tgt := 18) hx hb dX10_tick_9 (by decide) (fun c3 => ?_) (fun c3 => ?_)
    · skip
      refine lv_iconst (v := 0) hx hb dX10_tick_18 (by decide) ?_
      refine lv_istore_n (lv' := [(2, .int 0), (0, .ref (o)), (1, .int u1)]) hx hb dX10_tick_19 rfl hl (by decide) rfl (fun ls hl => ?_)
      have hcond : 1 ≤ u1.toInt ∧ u1.toInt ≤ 500 := (by simp only [Int32.lt_iff_toInt_lt, Int32.le_iff_toInt_le, ← Int32.toInt_inj, Int32.reduceToInt, (show (-1 : Int32).toInt = -1 from rfl)] at c1 c3 ⊢; omega)
      obtain ⟨M, hM, hu⟩ : ∃ M : Nat, M ≤ 500 ∧ u1 = nI M := nI_of2 (M := 500) rfl (by simp only [Int32.lt_iff_toInt_lt, Int32.le_iff_toInt_le, ← Int32.toInt_inj, Int32.reduceToInt, (show (-1 : Int32).toInt = -1 from rfl)] at c1 c3 ⊢; omega) (by simp only [Int32.lt_iff_toInt_lt, Int32.le_iff_toInt_le, ← Int32.toInt_inj, Int32.reduceToInt, (show (-1 : Int32).toInt = -1 from rfl)] at c1 c3 ⊢; omega)
      subst hu
      have LP : ∀ (q k : Nat), q + k = M → ∀ (H0 : Heap) (locs : List Loc) (ls : Array Slot), hT G Y H0 → va_S (h_A Y) s.heap H0 locs → h_gi G H0 5 (o + 3) 6 = nI k → lv_has ls 3 [(2, .int (nI k)), (0, .ref (o)), (1, .int (nI M))] → W p l e (h_rm 4 84) s m args below meth c H0 locs 0 0 Q (F0 m 20 ls []) := by
        intro q
        induction q with
        | zero =>
          intro k hk H0 locs ls  hT0 hS0 hf0 hl
          have hkM : k = M := by omega
          subst hkM
          refine lv_iload_n hx hb dX10_tick_20 rfl (lv_at hl 0 rfl) ?_
          refine lv_iload_n hx hb dX10_tick_21 rfl (lv_at hl 2 rfl) ?_
          refine lv_icmp_ge (tgt := 39) hx hb dX10_tick_22 (by decide) (fun _ => ?_) (fun h => absurd (Int32.le_refl _) h)
          refine lv_aload_n hx hb dX10_tick_39 rfl (lv_at hl 1 rfl) ?_
          refine lv_aload_n hx hb dX10_tick_40 rfl (lv_at hl 1 rfl) ?_
          refine h_getr (C := RX10) (T := TX10) (N := 9) hx hb hts inX10 hown hK hT0 (on_w0 hW) rfl 1 rfl wF_X10_19 rfl dX10_tick_41 ?_
          refine h_geti (C := RX5) (T := TX5) (N := 11) hx hb hts inX5 hown hK hT0 (on_rg (on_wr hW)) rfl 6 rfl wF_X10_117 rfl dX10_tick_44 (fun p4 => ?_)
          refine h_top (v := (nI k)) hf0 ?_
          refine h_callVi (T := TX10) (rest := []) (As := [.int (nI k)]) hx hb hml hown hts hK hT0 (fun _ h => h) hS0 (c_X10_give l G Y (o) hW (nI k)) trivial wd_X10_give wV_X10_give wL_X10_95 (on_w0 hW) rfl rfl hl.1 rfl (Nat.le_of_ble_eq_true rfl) dX10_tick_47 ⟨Nat.le_of_ble_eq_true rfl, Nat.le_of_ble_eq_true rfl⟩ ⟨Nat.zero_le _, Nat.zero_le _⟩ (fun r5 H1 locs hp1 hT1 hS1 hk1 => ?_)
          have hp1 : r5 = (nI k) := hp1
          subst hp1
          exact hret _ _ _ _ _ hT1 hS1 ⟨fun _ => rfl, fun h => absurd hcond h⟩ dX10_tick_50
        | succ q ih =>
          intro k hk H0 locs ls  hT0 hS0 hf0 hl
          refine lv_iload_n hx hb dX10_tick_20 rfl (lv_at hl 0 rfl) ?_
          refine lv_iload_n hx hb dX10_tick_21 rfl (lv_at hl 2 rfl) ?_
          refine lv_icmp_ge (tgt := 39) hx hb dX10_tick_22 (by decide) (fun h => absurd h (nI_ge (by omega) (by omega))) (fun _ => ?_)
          refine lv_aload_n hx hb dX10_tick_25 rfl (lv_at hl 1 rfl) ?_
          refine h_getr (C := RX10) (T := TX10) (N := 9) hx hb hts inX10 hown hK hT0 (on_w0 hW) rfl 1 rfl wF_X10_19 rfl dX10_tick_26 ?_
          refine lv_iconst (v := 0) hx hb dX10_tick_29 (by decide) ?_
          refine h_callVv (T := TX5) (rest := []) (As := [.int 0]) hx hb hml hown hts hK hT0 (fun _ h => h) hS0 (c_X5_passTick l G Y (o + 3) (on_wr hW) 0 (nI k)) hf0 wd_X5_passTick wV_X5_passTick wL_X10_277 (on_rg (on_wr hW)) rfl rfl hl.1 rfl (Nat.le_of_ble_eq_true rfl) dX10_tick_30 ⟨Nat.le_of_ble_eq_true rfl, Nat.le_of_ble_eq_true rfl⟩ ⟨Nat.zero_le _, Nat.zero_le _⟩ (fun H1 locs hp1 hT1 hS1 hk1 => ?_)
          refine lv_iinc (v := (nI (k + 1))) (lv' := [(2, .int (nI (k + 1))), (0, .ref (o)), (1, .int (nI M))]) hx hb dX10_tick_33 hl (k := 0) rfl (nI_1 k) (by decide) rfl (fun ls hl => ?_)
          refine lv_goto (tgt := 20) hx hb dX10_tick_36 (by decide) ?_
          exact ih (k + 1) (by omega) _ _ _  hT1 hS1 (hp1.trans (nI_1 _)) (lv_sub hl [0, 1, 2] rfl)
      exact LP M 0 (by omega) _ _ _  hT0 hS0 hpr (lv_sub hl [0, 1, 2] rfl)
    · skip
      refine lv_aload_n hx hb dX10_tick_12 rfl (lv_at hl 0 rfl) ?_
      refine lv_iconst (v := 1) hx hb dX10_tick_13 (by decide) ?_
      refine h_callVi (T := TX10) (rest := []) (As := [.int 1]) hx hb hml hown hts hK hT0 (fun _ h => h) hS0 (c_X10_fail l G Y (o) hW 1) trivial wd_X10_fail wV_X10_fail wL_X10_66 (on_w0 hW) rfl rfl hl.1 rfl (Nat.le_of_ble_eq_true rfl) dX10_tick_14 ⟨Nat.le_of_ble_eq_true rfl, Nat.le_of_ble_eq_true rfl⟩ ⟨Nat.zero_le _, Nat.zero_le _⟩ (fun r6 H2 locs hp2 hT2 hS2 hk2 => ?_)
      have hp2 : r6 = (-1) := hp2
      subst hp2
      exact hret _ _ _ _ _ hT2 hS2 (by refine ⟨fun h => ?_, fun h => ?_⟩ <;> first | rfl | exact absurd h (by decide) | (exfalso; simp only [Int32.lt_iff_toInt_lt, Int32.le_iff_toInt_le, ← Int32.toInt_inj, Int32.reduceToInt, (show (-1 : Int32).toInt = -1 from rfl)] at c1 c3 <;> omega)) dX10_tick_17
set_option maxHeartbeats 4000000 in
set_option maxRecDepth 100000 in
theorem c_X10_run (l : Launch) (G : hG) (Y : hW) (o : Nat) (hW : h_On Y o (wldE tF o)) (u1 u2 u3 : Int32) : hMi l yX10_run cX10_run 7 (some .int) 4 84 G Y [.ref (o), .int u1, .int u2, .int u3] (fun H => True) (fun H r H1 => (((1 ≤ u1.toInt ∧ u1.toInt ≤ 500) ∧ (0 ≤ u2.toInt ∧ u2.toInt ≤ 9999) ∧ (0 ≤ u3.toInt ∧ u3.toInt ≤ 16)) → r = 0) ∧ (¬ ((1 ≤ u1.toInt ∧ u1.toInt ≤ 500) ∧ (0 ≤ u2.toInt ∧ u2.toInt ≤ 9999) ∧ (0 ≤ u3.toInt ∧ u3.toInt ≤ 16)) → r = -1)) := by
  refine h_ofi (by decide +kernel) (Nat.le_of_ble_eq_true rfl) ?_
  intro p e s m args below meth c H0 ls Q hx hb hts hown hml hK hT0 hpr hS0 hl hret
  have hl : lv_has ls 7 [(0, .ref (o)), (1, .int u1), (2, .int u2), (3, .int u3)] := hl
  refine lv_iload_n hx hb dX10_run_0 rfl (lv_at hl 1 rfl) ?_
  refine lv_iconst (v := 1) hx hb dX10_run_1 (by decide) ?_
  refine lv_icmp_lt (tgt := 33) hx hb dX10_run_2 (by decide) (fun c1 => ?_) (fun c1 => ?_)
  · skip
    refine lv_aload_n hx hb dX10_run_33 rfl (lv_at hl 0 rfl) ?_
    refine lv_iconst (v := 1) hx hb dX10_run_34 (by decide) ?_
    refine h_callVi (T := TX10) (rest := []) (As := [.int 1]) hx hb hml hown hts hK hT0 (fun _ h => h) hS0 (c_X10_fail l G Y (o) hW 1) trivial wd_X10_fail wV_X10_fail wL_X10_66 (on_w0 hW) rfl rfl hl.1 rfl (Nat.le_of_ble_eq_true rfl) dX10_run_35 ⟨Nat.le_of_ble_eq_true rfl, Nat.le_of_ble_eq_true rfl⟩ ⟨Nat.zero_le _, Nat.zero_le _⟩ (fun r2 H1 locs hp1 hT1 hS1 hk1 => ?_)
    have hp1 : r2 = (-1) := hp1
    subst hp1
    exact hret _ _ _ _ _ hT1 hS1 (by refine ⟨fun h => ?_, fun h => ?_⟩ <;> first | rfl | exact absurd h (by decide) | (exfalso; simp only [Int32.lt_iff_toInt_lt, Int32.le_iff_toInt_le, ← Int32.toInt_inj, Int32.reduceToInt, (show (-1 : Int32).toInt = -1 from rfl)] at c1 <;> omega)) dX10_run_38
  · skip
    refine lv_iload_n hx hb dX10_run_5 rfl (lv_at hl 1 rfl) ?_
    refine lv_sipush (v := 500) hx hb dX10_run_6 (by decide) ?_
    refine lv_icmp_gt (tgt := 33) hx hb dX10_run_9 (by decide) (fun c3 => ?_) (fun c3 => ?_)
    · skip
      refine lv_aload_n hx hb dX10_run_33 rfl (lv_at hl 0 rfl) ?_
      refine lv_iconst (v := 1) hx hb dX10_run_34 (by decide) ?_
      refine h_callVi (T := TX10) (rest := []) (As := [.int 1]) hx hb hml hown hts hK hT0 (fun _ h => h) hS0 (c_X10_fail l G Y (o) hW 1) trivial wd_X10_fail wV_X10_fail wL_X10_66 (on_w0 hW) rfl rfl hl.1 rfl (Nat.le_of_ble_eq_true rfl) dX10_run_35 ⟨Nat.le_of_ble_eq_true rfl, Nat.le_of_ble_eq_true rfl⟩ ⟨Nat.zero_le _, Nat.zero_le _⟩ (fun r4 H2 locs hp2 hT2 hS2 hk2 => ?_)
      have hp2 : r4 = (-1) := hp2
      subst hp2
      exact hret _ _ _ _ _ hT2 hS2 (by refine ⟨fun h => ?_, fun h => ?_⟩ <;> first | rfl | exact absurd h (by decide) | (exfalso; simp only [Int32.lt_iff_toInt_lt, Int32.le_iff_toInt_le, ← Int32.toInt_inj, Int32.reduceToInt, (show (-1 : Int32).toInt = -1 from rfl)] at c1 c3 <;> omega)) dX10_run_38
    · skip
      refine lv_iload_n hx hb dX10_run_12 rfl (lv_at hl 2 rfl) ?_
      refine lv_if_lt (tgt := 33) hx hb dX10_run_13 (by decide) (fun c5 => ?_) (fun c5 => ?_)
      · skip
        refine lv_aload_n hx hb dX10_run_33 rfl (lv_at hl 0 rfl) ?_
        refine lv_iconst (v := 1) hx hb dX10_run_34 (by decide) ?_
        refine h_callVi (T := TX10) (rest := []) (As := [.int 1]) hx hb hml hown hts hK hT0 (fun _ h => h) hS0 (c_X10_fail l G Y (o) hW 1) trivial wd_X10_fail wV_X10_fail wL_X10_66 (on_w0 hW) rfl rfl hl.1 rfl (Nat.le_of_ble_eq_true rfl) dX10_run_35 ⟨Nat.le_of_ble_eq_true rfl, Nat.le_of_ble_eq_true rfl⟩ ⟨Nat.zero_le _, Nat.zero_le _⟩ (fun r6 H3 locs hp3 hT3 hS3 hk3 => ?_)
        have hp3 : r6 = (-1) := hp3
        subst hp3
        exact hret _ _ _ _ _ hT3 hS3 (by refine ⟨fun h => ?_, fun h => ?_⟩ <;> first | rfl | exact absurd h (by decide) | (exfalso; simp only [Int32.lt_iff_toInt_lt, Int32.le_iff_toInt_le, ← Int32.toInt_inj, Int32.reduceToInt, (show (-1 : Int32).toInt = -1 from rfl)] at c1 c3 c5 <;> omega)) dX10_run_38
      · skip
        refine lv_iload_n hx hb dX10_run_16 rfl (lv_at hl 2 rfl) ?_
        refine lv_sipush (v := 9999) hx hb dX10_run_17 (by decide) ?_
        refine lv_icmp_gt (tgt := 33) hx hb dX10_run_20 (by decide) (fun c7 => ?_) (fun c7 => ?_)
        · skip
          refine lv_aload_n hx hb dX10_run_33 rfl (lv_at hl 0 rfl) ?_
          refine lv_iconst (v := 1) hx hb dX10_run_34 (by decide) ?_
          refine h_callVi (T := TX10) (rest := []) (As := [.int 1]) hx hb hml hown hts hK hT0 (fun _ h => h) hS0 (c_X10_fail l G Y (o) hW 1) trivial wd_X10_fail wV_X10_fail wL_X10_66 (on_w0 hW) rfl rfl hl.1 rfl (Nat.le_of_ble_eq_true rfl) dX10_run_35 ⟨Nat.le_of_ble_eq_true rfl, Nat.le_of_ble_eq_true rfl⟩ ⟨Nat.zero_le _, Nat.zero_le _⟩ (fun r8 H4 locs hp4 hT4 hS4 hk4 => ?_)
          have hp4 : r8 = (-1) := hp4
          subst hp4
          exact hret _ _ _ _ _ hT4 hS4 (by refine ⟨fun h => ?_, fun h => ?_⟩ <;> first | rfl | exact absurd h (by decide) | (exfalso; simp only [Int32.lt_iff_toInt_lt, Int32.le_iff_toInt_le, ← Int32.toInt_inj, Int32.reduceToInt, (show (-1 : Int32).toInt = -1 from rfl)] at c1 c3 c5 c7 <;> omega)) dX10_run_38
        · skip
          refine lv_iload_n hx hb dX10_run_23 rfl (lv_at hl 3 rfl) ?_
          refine lv_if_lt (tgt := 33) hx hb dX10_run_24 (by decide) (fun c9 => ?_) (fun c9 => ?_)
          · skip
            refine lv_aload_n hx hb dX10_run_33 rfl (lv_at hl 0 rfl) ?_
            refine lv_iconst (v := 1) hx hb dX10_run_34 (by decide) ?_
            refine h_callVi (T := TX10) (rest := []) (As := [.int 1]) hx hb hml hown hts hK hT0 (fun _ h => h) hS0 (c_X10_fail l G Y (o) hW 1) trivial wd_X10_fail wV_X10_fail wL_X10_66 (on_w0 hW) rfl rfl hl.1 rfl (Nat.le_of_ble_eq_true rfl) dX10_run_35 ⟨Nat.le_of_ble_eq_true rfl, Nat.le_of_ble_eq_true rfl⟩ ⟨Nat.zero_le _, Nat.zero_le _⟩ (fun r10 H5 locs hp5 hT5 hS5 hk5 => ?_)
            have hp5 : r10 = (-1) := hp5
            subst hp5
            exact hret _ _ _ _ _ hT5 hS5 (by refine ⟨fun h => ?_, fun h => ?_⟩ <;> first | rfl | exact absurd h (by decide) | (exfalso; simp only [Int32.lt_iff_toInt_lt, Int32.le_iff_toInt_le, ← Int32.toInt_inj, Int32.reduceToInt, (show (-1 : Int32).toInt = -1 from rfl)] at c1 c3 c5 c7 c9 <;> omega)) dX10_run_38
          · skip
            refine lv_iload_n hx hb dX10_run_27 rfl (lv_at hl 3 rfl) ?_
            refine lv_bipush (v := 16) hx hb dX10_run_28 (by decide) ?_
            refine lv_icmp_le (tgt := 39) hx hb dX10_run_30 (by decide) (fun c11 => ?_) (fun c11 => ?_)
            · skip
              refine lv_aload_n hx hb dX10_run_39 rfl (lv_at hl 0 rfl) ?_
              refine h_getr (C := RX10) (T := TX10) (N := 9) hx hb hts inX10 hown hK hT0 (on_w0 hW) rfl 1 rfl wF_X10_19 rfl dX10_run_40 ?_
              refine h_getr (C := RX5) (T := TX5) (N := 11) hx hb hts inX5 hown hK hT0 (on_rg (on_wr hW)) rfl 5 rfl wF_X10_180 rfl dX10_run_43 ?_
              refine lv_iconst (v := 0) hx hb dX10_run_46 (by decide) ?_
              refine h_callVi (T := TX0) (rest := []) (As := [.int 0]) hx hb hml hown hts hK hT0 (fun _ h => h) hS0 (c_X0_counted l G Y (o + 3 + 19) (on_bo (on_wr hW)) 0) trivial wd_X0_counted wV_X0_counted wL_X10_184 ((on_bo (on_wr hW)).o rfl) rfl rfl hl.1 rfl (Nat.le_of_ble_eq_true rfl) dX10_run_47 ⟨Nat.le_of_ble_eq_true rfl, Nat.le_of_ble_eq_true rfl⟩ ⟨Nat.zero_le _, Nat.zero_le _⟩ (fun r12 H6 locs hp6 hT6 hS6 hk6 => ?_)
              obtain ⟨hp6, he⟩ := hp6
              have he := he.symm
              subst he
              have hp6 : r12 = 0 := hp6
              subst hp6
              refine lv_istore (lv' := [(4, .int 0), (0, .ref (o)), (1, .int u1), (2, .int u2), (3, .int u3)]) hx hb dX10_run_50 hl (by decide) rfl (fun ls hl => ?_)
              refine lv_iload_n hx hb dX10_run_52 rfl (lv_at hl 3 rfl) ?_
              refine lv_istore (lv' := [(5, .int u2), (4, .int 0), (0, .ref (o)), (1, .int u1), (2, .int u2), (3, .int u3)]) hx hb dX10_run_53 hl (by decide) rfl (fun ls hl => ?_)
              refine lv_iconst (v := 0) hx hb dX10_run_55 (by decide) ?_
              refine lv_istore (lv' := [(6, .int 0), (5, .int u2), (4, .int 0), (0, .ref (o)), (1, .int u1), (2, .int u2), (3, .int u3)]) hx hb dX10_run_56 hl (by decide) rfl (fun ls hl => ?_)
              have hcond : (1 ≤ u1.toInt ∧ u1.toInt ≤ 500) ∧ (0 ≤ u2.toInt ∧ u2.toInt ≤ 9999) ∧ (0 ≤ u3.toInt ∧ u3.toInt ≤ 16) := (by simp only [Int32.lt_iff_toInt_lt, Int32.le_iff_toInt_le, ← Int32.toInt_inj, Int32.reduceToInt, (show (-1 : Int32).toInt = -1 from rfl)] at c1 c11 c3 c5 c7 c9 ⊢; omega)
              obtain ⟨M, hM, hu⟩ : ∃ M : Nat, M ≤ 500 ∧ u1 = nI M := nI_of2 (M := 500) rfl (by simp only [Int32.lt_iff_toInt_lt, Int32.le_iff_toInt_le, ← Int32.toInt_inj, Int32.reduceToInt, (show (-1 : Int32).toInt = -1 from rfl)] at c1 c3 ⊢; omega) (by simp only [Int32.lt_iff_toInt_lt, Int32.le_iff_toInt_le, ← Int32.toInt_inj, Int32.reduceToInt, (show (-1 : Int32).toInt = -1 from rfl)] at c1 c3 ⊢; omega)
              subst hu
              have LP : ∀ (q k : Nat), q + k = M → ∀ (H0 : Heap) (locs : List Loc) (ls : Array Slot), ∀ (w5 : Int32), hT G Y H0 → va_S (h_A Y) s.heap H0 locs → lv_has ls 7 [(6, .int (nI k)), (0, .ref (o)), (1, .int (nI M)), (3, .int u3), (4, .int 0), (5, .int w5)] → W p l e (h_rm 4 84) s m args below meth c H0 locs 0 0 Q (F0 m 58 ls []) := by
                intro q
                induction q with
                | zero =>
                  intro k hk H0 locs ls w5 hT0 hS0  hl
                  have hkM : k = M := by omega
                  subst hkM
                  refine lv_iload hx hb dX10_run_58 (lv_at hl 0 rfl) ?_
                  refine lv_iload_n hx hb dX10_run_60 rfl (lv_at hl 2 rfl) ?_
                  refine lv_icmp_ge (tgt := 90) hx hb dX10_run_61 (by decide) (fun _ => ?_) (fun h => absurd (Int32.le_refl _) h)
                  refine lv_aload_n hx hb dX10_run_90 rfl (lv_at hl 1 rfl) ?_
                  refine lv_aload_n hx hb dX10_run_91 rfl (lv_at hl 1 rfl) ?_
                  refine h_getr (C := RX10) (T := TX10) (N := 9) hx hb hts inX10 hown hK hT0 (on_w0 hW) rfl 1 rfl wF_X10_19 rfl dX10_run_92 ?_
                  refine h_getr (C := RX5) (T := TX5) (N := 11) hx hb hts inX5 hown hK hT0 (on_rg (on_wr hW)) rfl 5 rfl wF_X10_180 rfl dX10_run_95 ?_
                  refine lv_iconst (v := 0) hx hb dX10_run_98 (by decide) ?_
                  refine h_callVi (T := TX0) (rest := [.ref (o)]) (As := [.int 0]) hx hb hml hown hts hK hT0 (fun _ h => h) hS0 (c_X0_counted l G Y (o + 3 + 19) (on_bo (on_wr hW)) 0) trivial wd_X0_counted wV_X0_counted wL_X10_184 ((on_bo (on_wr hW)).o rfl) rfl rfl hl.1 rfl (Nat.le_of_ble_eq_true rfl) dX10_run_99 ⟨Nat.le_of_ble_eq_true rfl, Nat.le_of_ble_eq_true rfl⟩ ⟨Nat.zero_le _, Nat.zero_le _⟩ (fun r13 H1 locs hp1 hT1 hS1 hk1 => ?_)
                  obtain ⟨hp1, he⟩ := hp1
                  have he := he.symm
                  subst he
                  have hp1 : r13 = 0 := hp1
                  subst hp1
                  refine lv_iload hx hb dX10_run_102 (lv_at hl 4 rfl) ?_
                  refine lv_isub hx hb dX10_run_104 ?_
                  refine h_top (v := 0) (by decide) ?_
                  refine h_callVi (T := TX10) (rest := []) (As := [.int 0]) hx hb hml hown hts hK hT0 (fun _ h => h) hS1 (c_X10_give l G Y (o) hW 0) trivial wd_X10_give wV_X10_give wL_X10_95 (on_w0 hW) rfl rfl hl.1 rfl (Nat.le_of_ble_eq_true rfl) dX10_run_105 ⟨Nat.le_of_ble_eq_true rfl, Nat.le_of_ble_eq_true rfl⟩ ⟨Nat.zero_le _, Nat.zero_le _⟩ (fun r14 H2 locs hp2 hT2 hS2 hk2 => ?_)
                  have hp2 : r14 = 0 := hp2
                  subst hp2
                  exact hret _ _ _ _ _ hT2 hS2 ⟨fun _ => rfl, fun h => absurd hcond h⟩ dX10_run_108
                | succ q ih =>
                  intro k hk H0 locs ls w5 hT0 hS0  hl
                  refine lv_iload hx hb dX10_run_58 (lv_at hl 0 rfl) ?_
                  refine lv_iload_n hx hb dX10_run_60 rfl (lv_at hl 2 rfl) ?_
                  refine lv_icmp_ge (tgt := 90) hx hb dX10_run_61 (by decide) (fun h => absurd h (nI_ge (by omega) (by omega))) (fun _ => ?_)
                  refine lv_aload_n hx hb dX10_run_64 rfl (lv_at hl 1 rfl) ?_
                  refine h_getr (C := RX10) (T := TX10) (N := 9) hx hb hts inX10 hown hK hT0 (on_w0 hW) rfl 1 rfl wF_X10_19 rfl dX10_run_65 ?_
                  refine lv_iload hx hb dX10_run_68 (lv_at hl 5 rfl) ?_
                  refine lv_iload_n hx hb dX10_run_70 rfl (lv_at hl 3 rfl) ?_
                  refine h_callVi (T := TX5) (rest := []) (As := [.int w5, .int u3]) hx hb hml hown hts hK hT0 (fun _ h => h) hS0 (c_X5_drawFrame l G Y (o + 3) (on_wr hW) w5 u3) trivial wd_X5_drawFrame wV_X5_drawFrame wL_X10_281 (on_rg (on_wr hW)) rfl rfl hl.1 rfl (Nat.le_of_ble_eq_true rfl) dX10_run_71 ⟨Nat.le_of_ble_eq_true rfl, Nat.le_of_ble_eq_true rfl⟩ ⟨Nat.zero_le _, Nat.zero_le _⟩ (fun r15 H1 locs hp1 hT1 hS1 hk1 => ?_)
                  refine lv_istore (lv' := [(5, .int r15), (6, .int (nI k)), (0, .ref (o)), (1, .int (nI M)), (3, .int u3), (4, .int 0)]) hx hb dX10_run_74 hl (by decide) rfl (fun ls hl => ?_)
                  refine lv_aload_n hx hb dX10_run_76 rfl (lv_at hl 2 rfl) ?_
                  refine h_getr (C := RX10) (T := TX10) (N := 9) hx hb hts inX10 hown hK hT1 (on_w0 hW) rfl 1 rfl wF_X10_19 rfl dX10_run_77 ?_
                  refine lv_iconst (v := 0) hx hb dX10_run_80 (by decide) ?_
                  refine h_callVv (T := TX5) (rest := []) (As := [.int 0]) hx hb hml hown hts hK hT1 (fun _ h => h) hS1 (c_X5_passTick l G Y (o + 3) (on_wr hW) 0 _) rfl wd_X5_passTick wV_X5_passTick wL_X10_277 (on_rg (on_wr hW)) rfl rfl hl.1 rfl (Nat.le_of_ble_eq_true rfl) dX10_run_81 ⟨Nat.le_of_ble_eq_true rfl, Nat.le_of_ble_eq_true rfl⟩ ⟨Nat.zero_le _, Nat.zero_le _⟩ (fun H2 locs hp2 hT2 hS2 hk2 => ?_)
                  refine lv_iinc (v := (nI (k + 1))) (lv' := [(6, .int (nI (k + 1))), (5, .int r15), (0, .ref (o)), (1, .int (nI M)), (3, .int u3), (4, .int 0)]) hx hb dX10_run_84 hl (k := 1) rfl (nI_1 k) (by decide) rfl (fun ls hl => ?_)
                  refine lv_goto (tgt := 58) hx hb dX10_run_87 (by decide) ?_
                  exact ih (k + 1) (by omega) _ _ _ _ hT2 hS2 (lv_sub hl [0, 2, 3, 4, 5, 1] rfl)
              exact LP M 0 (by omega) _ _ _ _ hT0 hS6 (lv_sub hl [0, 3, 4, 6, 2, 1] rfl)
            · skip
              refine lv_aload_n hx hb dX10_run_33 rfl (lv_at hl 0 rfl) ?_
              refine lv_iconst (v := 1) hx hb dX10_run_34 (by decide) ?_
              refine h_callVi (T := TX10) (rest := []) (As := [.int 1]) hx hb hml hown hts hK hT0 (fun _ h => h) hS0 (c_X10_fail l G Y (o) hW 1) trivial wd_X10_fail wV_X10_fail wL_X10_66 (on_w0 hW) rfl rfl hl.1 rfl (Nat.le_of_ble_eq_true rfl) dX10_run_35 ⟨Nat.le_of_ble_eq_true rfl, Nat.le_of_ble_eq_true rfl⟩ ⟨Nat.zero_le _, Nat.zero_le _⟩ (fun r16 H7 locs hp7 hT7 hS7 hk7 => ?_)
              have hp7 : r16 = (-1) := hp7
              subst hp7
              exact hret _ _ _ _ _ hT7 hS7 (by refine ⟨fun h => ?_, fun h => ?_⟩ <;> first | rfl | exact absurd h (by decide) | (exfalso; simp only [Int32.lt_iff_toInt_lt, Int32.le_iff_toInt_le, ← Int32.toInt_inj, Int32.reduceToInt, (show (-1 : Int32).toInt = -1 from rfl)] at c1 c11 c3 c5 c7 c9 <;> omega)) dX10_run_38
set_option maxHeartbeats 4000000 in
set_option maxRecDepth 100000 in
theorem c_X10_mark (l : Launch) (G : hG) (Y : hW) (o : Nat) (hW : h_On Y o (wldE tF o)) : hMi l yX10_mark cX10_mark 1 (some .int) 3 102 G Y [.ref (o)] (fun H => h_gi G H 10 o 7 = 0) (fun H r H1 => r = 1) := by
  refine h_ofi (by decide +kernel) (Nat.le_of_ble_eq_true rfl) ?_
  intro p e s m args below meth c H0 ls Q hx hb hts hown hml hK hT0 hpr hS0 hl hret
  have hl : lv_has ls 1 [(0, .ref (o))] := hl
  refine lv_aload_n hx hb dX10_mark_0 rfl (lv_at hl 0 rfl) ?_
  refine h_geti (C := RX10) (T := TX10) (N := 9) hx hb hts inX10 hown hK hT0 (on_w0 hW) rfl 7 rfl wF_X10_52 rfl dX10_mark_1 (fun p1 => ?_)
  refine h_top (v := 0) hpr ?_
  refine lv_if_lt (tgt := 15) hx hb dX10_mark_4 (by decide) (fun h => absurd h (by decide)) (fun _ => ?_)
  refine lv_aload_n hx hb dX10_mark_7 rfl (lv_at hl 0 rfl) ?_
  refine h_geti (C := RX10) (T := TX10) (N := 9) hx hb hts inX10 hown hK hT0 (on_w0 hW) rfl 7 rfl wF_X10_52 rfl dX10_mark_8 (fun p3 => ?_)
  refine h_top (v := 0) hpr ?_
  refine lv_iconst (v := 4) hx hb dX10_mark_11 (by decide) ?_
  refine lv_icmp_lt (tgt := 21) hx hb dX10_mark_12 (by decide) (fun _ => ?_) (fun h => absurd (by decide) h)
  refine lv_aload_n hx hb dX10_mark_21 rfl (lv_at hl 0 rfl) ?_
  refine h_getr (C := RX10) (T := TX10) (N := 9) hx hb hts inX10 hown hK hT0 (on_w0 hW) rfl 5 rfl wF_X10_44 rfl dX10_mark_22 ?_
  refine lv_aload_n hx hb dX10_mark_25 rfl (lv_at hl 0 rfl) ?_
  refine h_geti (C := RX10) (T := TX10) (N := 9) hx hb hts inX10 hown hK hT0 (on_w0 hW) rfl 7 rfl wF_X10_52 rfl dX10_mark_26 (fun p5 => ?_)
  refine h_top (v := 0) hpr ?_
  refine h_aal hx hb hK hT0 (by decide) ((on_wm hW).o rfl) (h_inc (by decide)) 0 (by decide) dX10_mark_29 ?_
  refine lv_aload_n hx hb dX10_mark_30 rfl (lv_at hl 0 rfl) ?_
  refine h_getr (C := RX10) (T := TX10) (N := 9) hx hb hts inX10 hown hK hT0 (on_w0 hW) rfl 1 rfl wF_X10_19 rfl dX10_mark_31 ?_
  refine h_callVv (T := TX5) (rest := []) (As := [.ref (o + 3)]) hx hb hml hown hts hK hT0 (fun _ h => h) hS0 (c_X5_copyFrom l G Y (o + 61 + 27 * 0) (o + 3) (on_kr hW (j := 0) (by decide)) (on_wr hW)) trivial wd_X5_copyFrom wV_X5_copyFrom wL_X10_82 (on_rg (on_kr hW (j := 0) (by decide))) rfl rfl hl.1 rfl (Nat.le_of_ble_eq_true rfl) dX10_mark_34 ⟨Nat.le_of_ble_eq_true rfl, Nat.le_of_ble_eq_true rfl⟩ ⟨Nat.zero_le _, Nat.zero_le _⟩ (fun H1 locs hp1 hT1 hS1 hk1 => ?_)
  refine lv_aload_n hx hb dX10_mark_37 rfl (lv_at hl 0 rfl) ?_
  refine h_getr (C := RX10) (T := TX10) (N := 9) hx hb hts inX10 hown hK hT1 (on_w0 hW) rfl 6 rfl wF_X10_48 rfl dX10_mark_38 ?_
  refine lv_aload_n hx hb dX10_mark_41 rfl (lv_at hl 0 rfl) ?_
  refine h_geti (C := RX10) (T := TX10) (N := 9) hx hb hts inX10 hown hK hT1 (on_w0 hW) rfl 7 rfl wF_X10_52 rfl dX10_mark_42 (fun p6 => ?_)
  refine h_top (v := 0) ((h_gi_same (hp1 (o) (by omega))).trans hpr) ?_
  refine h_aal hx hb hK hT1 (by decide) ((on_wm hW).at 1 rfl) (h_inc (by decide)) 0 (by decide) dX10_mark_45 ?_
  refine lv_aload_n hx hb dX10_mark_46 rfl (lv_at hl 0 rfl) ?_
  refine h_getr (C := RX10) (T := TX10) (N := 9) hx hb hts inX10 hown hK hT1 (on_w0 hW) rfl 0 rfl wF_X10_10 rfl dX10_mark_47 ?_
  refine h_callVv (T := TX8) (rest := []) (As := [.ref (o + 1)]) hx hb hml hown hts hK hT1 (fun _ h => h) hS1 (c_X8_copyFrom l G Y (o + 61 + 27 * 0 + 25) (o + 1) (on_kt hW (j := 0) (by decide)) (on_wt hW)) trivial wd_X8_copyFrom wV_X8_copyFrom wL_X10_293 ((on_kt hW (j := 0) (by decide)).o rfl) rfl rfl hl.1 rfl (Nat.le_of_ble_eq_true rfl) dX10_mark_50 ⟨Nat.le_of_ble_eq_true rfl, Nat.le_of_ble_eq_true rfl⟩ ⟨Nat.zero_le _, Nat.zero_le _⟩ (fun H2 locs hp2 hT2 hS2 hk2 => ?_)
  refine lv_aload_n hx hb dX10_mark_53 rfl (lv_at hl 0 rfl) ?_
  refine lv_dup hx hb dX10_mark_54 rfl ?_
  refine h_geti (C := RX10) (T := TX10) (N := 9) hx hb hts inX10 hown hK hT2 (on_w0 hW) rfl 7 rfl wF_X10_52 rfl dX10_mark_55 (fun p7 => ?_)
  refine h_top (v := 0) ((h_gi_same (hp2 (o) (by omega))).trans ((h_gi_same (hp1 (o) (by omega))).trans hpr)) ?_
  refine lv_iconst (v := 1) hx hb dX10_mark_58 (by decide) ?_
  refine lv_iadd hx hb dX10_mark_59 ?_
  refine h_top (v := 1) (by decide) ?_
  refine h_puti (C := RX10) (T := TX10) (N := 9) hx hb hts inX10 tyX10 tyX10_ok nmX10 hown hK hT2 (fun _ h => h) hS2 (on_w0 hW) rfl 7 rfl wF_X10_52 rfl rfl trivial rfl rfl dX10_mark_60 (fun H3 locs hT3 hS3 hu3 => ?_)
  refine lv_aload_n hx hb dX10_mark_63 rfl (lv_at hl 0 rfl) ?_
  refine lv_aload_n hx hb dX10_mark_64 rfl (lv_at hl 0 rfl) ?_
  refine h_geti (C := RX10) (T := TX10) (N := 9) hx hb hts inX10 hown hK hT3 (on_w0 hW) rfl 7 rfl wF_X10_52 rfl dX10_mark_65 (fun p8 => ?_)
  refine h_top (v := 1) (h_pu hu3) ?_
  refine h_callVi (T := TX10) (rest := []) (As := [.int 1]) hx hb hml hown hts hK hT3 (fun _ h => h) hS3 (c_X10_give l G Y (o) hW 1) trivial wd_X10_give wV_X10_give wL_X10_95 (on_w0 hW) rfl rfl hl.1 rfl (Nat.le_of_ble_eq_true rfl) dX10_mark_68 ⟨Nat.le_of_ble_eq_true rfl, Nat.le_of_ble_eq_true rfl⟩ ⟨Nat.zero_le _, Nat.zero_le _⟩ (fun r9 H4 locs hp4 hT4 hS4 hk4 => ?_)
  have hp4 : r9 = 1 := hp4
  subst hp4
  exact hret _ _ _ _ _ hT4 hS4 rfl dX10_mark_71
