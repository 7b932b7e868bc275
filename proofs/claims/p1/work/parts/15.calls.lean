set_option maxHeartbeats 4000000 in
set_option maxRecDepth 100000 in
theorem c_X10_give (l : Launch) (G : hG) (Y : hW) (o : Nat) (hW : h_On Y o (wldE tF o)) (u1 : Int32) : hMi l yX10_give cX10_give 2 (some .int) 0 0 G Y [.ref (o), .int u1] (fun H => True) (fun H r H1 => r = u1) := by
  refine h_ofi (by decide +kernel) (Nat.le_of_ble_eq_true rfl) ?_
  intro p e s m args below meth c H0 ls Q hx hb hts hown hml hK hT0 hpr hS0 hl hret
  have hl : lv_has ls 2 [(0, .ref (o)), (1, .int u1)] := hl
  refine lv_aload_n hx hb dX10_give_0 rfl (lv_at hl 0 rfl) ?_
  refine lv_iconst (v := 0) hx hb dX10_give_1 (by decide) ?_
  refine h_puti (C := RX10) (T := TX10) (N := 9) hx hb hts inX10 tyX10 tyX10_ok nmX10 hown hK hT0 (fun _ h => h) hS0 (on_w0 hW) rfl 8 rfl wF_X10_56 rfl rfl trivial rfl rfl dX10_give_2 (fun H1 locs hT1 hS1 hu1 => ?_)
  refine lv_iload_n hx hb dX10_give_5 rfl (lv_at hl 1 rfl) ?_
  exact hret _ _ _ _ _ hT1 hS1 rfl dX10_give_6
set_option maxHeartbeats 4000000 in
set_option maxRecDepth 100000 in
theorem c_X10_giveReached (l : Launch) (G : hG) (Y : hW) (o : Nat) (hW : h_On Y o (wldE tF o)) (u1 : Int32) : hMi l yX10_giveReached cX10_giveReached 2 (some .int) 0 0 G Y [.ref (o), .int u1] (fun H => True) (fun H r H1 => r = u1) := by
  refine h_ofi (by decide +kernel) (Nat.le_of_ble_eq_true rfl) ?_
  intro p e s m args below meth c H0 ls Q hx hb hts hown hml hK hT0 hpr hS0 hl hret
  have hl : lv_has ls 2 [(0, .ref (o)), (1, .int u1)] := hl
  refine lv_aload_n hx hb dX10_giveReached_0 rfl (lv_at hl 0 rfl) ?_
  refine lv_iload_n hx hb dX10_giveReached_1 rfl (lv_at hl 1 rfl) ?_
  refine lv_iconst (v := (-1)) hx hb dX10_giveReached_2 (by decide) ?_
  refine lv_icmp_ne (tgt := 11) hx hb dX10_giveReached_3 (by decide) (fun c1 => ?_) (fun c1 => ?_)
  · skip
    refine lv_iconst (v := 0) hx hb dX10_giveReached_11 (by decide) ?_
    refine h_puti (C := RX10) (T := TX10) (N := 9) hx hb hts inX10 tyX10 tyX10_ok nmX10 hown hK hT0 (fun _ h => h) hS0 (on_w0 hW) rfl 8 rfl wF_X10_56 rfl rfl trivial rfl rfl dX10_giveReached_12 (fun H1 locs hT1 hS1 hu1 => ?_)
    refine lv_iload_n hx hb dX10_giveReached_15 rfl (lv_at hl 1 rfl) ?_
    exact hret _ _ _ _ _ hT1 hS1 rfl dX10_giveReached_16
  · skip
    refine lv_bipush (v := 7) hx hb dX10_giveReached_6 (by decide) ?_
    refine lv_goto (tgt := 12) hx hb dX10_giveReached_8 (by decide) ?_
    refine h_puti (C := RX10) (T := TX10) (N := 9) hx hb hts inX10 tyX10 tyX10_ok nmX10 hown hK hT0 (fun _ h => h) hS0 (on_w0 hW) rfl 8 rfl wF_X10_56 rfl rfl trivial rfl rfl dX10_giveReached_12 (fun H2 locs hT2 hS2 hu2 => ?_)
    refine lv_iload_n hx hb dX10_giveReached_15 rfl (lv_at hl 1 rfl) ?_
    exact hret _ _ _ _ _ hT2 hS2 rfl dX10_giveReached_16
set_option maxHeartbeats 4000000 in
set_option maxRecDepth 100000 in
theorem c_X10_fail (l : Launch) (G : hG) (Y : hW) (o : Nat) (hW : h_On Y o (wldE tF o)) (u1 : Int32) : hMi l yX10_fail cX10_fail 2 (some .int) 0 0 G Y [.ref (o), .int u1] (fun H => True) (fun H r H1 => r = -1) := by
  refine h_ofi (by decide +kernel) (Nat.le_of_ble_eq_true rfl) ?_
  intro p e s m args below meth c H0 ls Q hx hb hts hown hml hK hT0 hpr hS0 hl hret
  have hl : lv_has ls 2 [(0, .ref (o)), (1, .int u1)] := hl
  refine lv_aload_n hx hb dX10_fail_0 rfl (lv_at hl 0 rfl) ?_
  refine lv_iload_n hx hb dX10_fail_1 rfl (lv_at hl 1 rfl) ?_
  refine h_puti (C := RX10) (T := TX10) (N := 9) hx hb hts inX10 tyX10 tyX10_ok nmX10 hown hK hT0 (fun _ h => h) hS0 (on_w0 hW) rfl 8 rfl wF_X10_56 rfl rfl trivial rfl rfl dX10_fail_2 (fun H1 locs hT1 hS1 hu1 => ?_)
  refine lv_iconst (v := (-1)) hx hb dX10_fail_5 (by decide) ?_
  exact hret _ _ _ _ _ hT1 hS1 rfl dX10_fail_6
set_option maxHeartbeats 4000000 in
set_option maxRecDepth 100000 in
theorem c_X10_refuse (l : Launch) (G : hG) (Y : hW) (o : Nat) (hW : h_On Y o (wldE tF o)) (u1 : Int32) : hMi l yX10_refuse cX10_refuse 2 (some .boolean) 0 0 G Y [.ref (o), .int u1] (fun H => True) (fun H r H1 => r = 0) := by
  refine h_ofz (by decide +kernel) (Nat.le_of_ble_eq_true rfl) ?_
  intro p e s m args below meth c H0 ls Q hx hb hts hown hml hK hT0 hpr hS0 hl hret
  have hl : lv_has ls 2 [(0, .ref (o)), (1, .int u1)] := hl
  refine lv_aload_n hx hb dX10_refuse_0 rfl (lv_at hl 0 rfl) ?_
  refine lv_iload_n hx hb dX10_refuse_1 rfl (lv_at hl 1 rfl) ?_
  refine h_puti (C := RX10) (T := TX10) (N := 9) hx hb hts inX10 tyX10 tyX10_ok nmX10 hown hK hT0 (fun _ h => h) hS0 (on_w0 hW) rfl 8 rfl wF_X10_56 rfl rfl trivial rfl rfl dX10_refuse_2 (fun H1 locs hT1 hS1 hu1 => ?_)
  refine lv_iconst (v := 0) hx hb dX10_refuse_5 (by decide) ?_
  exact hret _ _ _ _ _ hT1 hS1 ⟨by decide, rfl⟩ dX10_refuse_6
set_option maxHeartbeats 4000000 in
set_option maxRecDepth 100000 in
theorem c_X10_succeed (l : Launch) (G : hG) (Y : hW) (o : Nat) (hW : h_On Y o (wldE tF o)) : hMi l yX10_succeed cX10_succeed 1 (some .boolean) 0 0 G Y [.ref (o)] (fun H => True) (fun H r H1 => r = 1) := by
  refine h_ofz (by decide +kernel) (Nat.le_of_ble_eq_true rfl) ?_
  intro p e s m args below meth c H0 ls Q hx hb hts hown hml hK hT0 hpr hS0 hl hret
  have hl : lv_has ls 1 [(0, .ref (o))] := hl
  refine lv_aload_n hx hb dX10_succeed_0 rfl (lv_at hl 0 rfl) ?_
  refine lv_iconst (v := 0) hx hb dX10_succeed_1 (by decide) ?_
  refine h_puti (C := RX10) (T := TX10) (N := 9) hx hb hts inX10 tyX10 tyX10_ok nmX10 hown hK hT0 (fun _ h => h) hS0 (on_w0 hW) rfl 8 rfl wF_X10_56 rfl rfl trivial rfl rfl dX10_succeed_2 (fun H1 locs hT1 hS1 hu1 => ?_)
  refine lv_iconst (v := 1) hx hb dX10_succeed_5 (by decide) ?_
  exact hret _ _ _ _ _ hT1 hS1 ⟨by decide, rfl⟩ dX10_succeed_6
set_option maxHeartbeats 4000000 in
set_option maxRecDepth 100000 in
theorem c_X10_station (l : Launch) (G : hG) (Y : hW) (o : Nat) (hW : h_On Y o (wldE tF o)) (u1 u2 : Int32) : hMi l yX10_station cX10_station 3 (some .int) 1 21 G Y [.ref (o), .int u1, .int u2] (fun H => True) (fun H r H1 => r = (-1)) := by
  refine h_ofi (by decide +kernel) (Nat.le_of_ble_eq_true rfl) ?_
  intro p e s m args below meth c H0 ls Q hx hb hts hown hml hK hT0 hpr hS0 hl hret
  have hl : lv_has ls 3 [(0, .ref (o)), (1, .int u1), (2, .int u2)] := hl
  refine lv_iload_n hx hb dX10_station_0 rfl (lv_at hl 2 rfl) ?_
  refine lv_if_lt (tgt := 10) hx hb dX10_station_1 (by decide) (fun c1 => ?_) (fun c1 => ?_)
  · skip
    refine lv_aload_n hx hb dX10_station_10 rfl (lv_at hl 0 rfl) ?_
    refine lv_iconst (v := 1) hx hb dX10_station_11 (by decide) ?_
    refine h_callVi (T := TX10) (rest := []) (As := [.int 1]) hx hb hml hown hts hK hT0 (fun _ h => h) hS0 (c_X10_fail l G Y (o) hW 1) trivial wd_X10_fail wV_X10_fail wL_X10_66 (on_w0 hW) rfl rfl hl.1 rfl (Nat.le_of_ble_eq_true rfl) dX10_station_12 ⟨Nat.le_of_ble_eq_true rfl, Nat.le_of_ble_eq_true rfl⟩ ⟨Nat.zero_le _, Nat.zero_le _⟩ (fun r2 H1 locs hp1 hT1 hS1 hk1 => ?_)
    have hp1 : r2 = (-1) := hp1
    subst hp1
    exact hret _ _ _ _ _ hT1 hS1 rfl dX10_station_15
  · skip
    refine lv_iload_n hx hb dX10_station_4 rfl (lv_at hl 2 rfl) ?_
    refine lv_bipush (v := 9) hx hb dX10_station_5 (by decide) ?_
    refine lv_icmp_le (tgt := 16) hx hb dX10_station_7 (by decide) (fun c3 => ?_) (fun c3 => ?_)
    · skip
      refine lv_aload_n hx hb dX10_station_16 rfl (lv_at hl 0 rfl) ?_
      refine h_getr (C := RX10) (T := TX10) (N := 9) hx hb hts inX10 hown hK hT0 (on_w0 hW) rfl 1 rfl wF_X10_19 rfl dX10_station_17 ?_
      refine h_getr (C := RX5) (T := TX5) (N := 11) hx hb hts inX5 hown hK hT0 (on_rg (on_wr hW)) rfl 0 rfl wF_X10_86 rfl dX10_station_20 ?_
      refine lv_iload_n hx hb dX10_station_23 rfl (lv_at hl 1 rfl) ?_
      refine h_callVi (T := TX7) (rest := []) (As := [.int u1]) hx hb hml hown hts hK hT0 (fun _ h => h) hS0 (c_X7_exists l G Y (o + 3 + 1) (on_st (on_wr hW)) u1) trivial wd_X7_exists wV_X7_exists wL_X10_146 ((on_st (on_wr hW)).o rfl) rfl rfl hl.1 rfl (Nat.le_of_ble_eq_true rfl) dX10_station_24 ⟨Nat.le_of_ble_eq_true rfl, Nat.le_of_ble_eq_true rfl⟩ ⟨Nat.zero_le _, Nat.zero_le _⟩ (fun r4 H2 locs hp2 hT2 hS2 hk2 => ?_)
      obtain ⟨hp2, he⟩ := hp2
      have he := he.symm
      subst he
      have hp2 : r4 = 0 := hp2
      subst hp2
      refine lv_if_ne (tgt := 36) hx hb dX10_station_27 (by decide) (fun h => absurd (by decide) h) (fun _ => ?_)
      refine lv_aload_n hx hb dX10_station_30 rfl (lv_at hl 0 rfl) ?_
      refine lv_iconst (v := 2) hx hb dX10_station_31 (by decide) ?_
      refine h_callVi (T := TX10) (rest := []) (As := [.int 2]) hx hb hml hown hts hK hT0 (fun _ h => h) hS2 (c_X10_fail l G Y (o) hW 2) trivial wd_X10_fail wV_X10_fail wL_X10_66 (on_w0 hW) rfl rfl hl.1 rfl (Nat.le_of_ble_eq_true rfl) dX10_station_32 ⟨Nat.le_of_ble_eq_true rfl, Nat.le_of_ble_eq_true rfl⟩ ⟨Nat.zero_le _, Nat.zero_le _⟩ (fun r6 H3 locs hp3 hT3 hS3 hk3 => ?_)
      have hp3 : r6 = (-1) := hp3
      subst hp3
      exact hret _ _ _ _ _ hT3 hS3 rfl dX10_station_35
    · skip
      refine lv_aload_n hx hb dX10_station_10 rfl (lv_at hl 0 rfl) ?_
      refine lv_iconst (v := 1) hx hb dX10_station_11 (by decide) ?_
      refine h_callVi (T := TX10) (rest := []) (As := [.int 1]) hx hb hml hown hts hK hT0 (fun _ h => h) hS0 (c_X10_fail l G Y (o) hW 1) trivial wd_X10_fail wV_X10_fail wL_X10_66 (on_w0 hW) rfl rfl hl.1 rfl (Nat.le_of_ble_eq_true rfl) dX10_station_12 ⟨Nat.le_of_ble_eq_true rfl, Nat.le_of_ble_eq_true rfl⟩ ⟨Nat.zero_le _, Nat.zero_le _⟩ (fun r7 H4 locs hp4 hT4 hS4 hk4 => ?_)
      have hp4 : r7 = (-1) := hp4
      subst hp4
      exact hret _ _ _ _ _ hT4 hS4 rfl dX10_station_15
set_option maxHeartbeats 4000000 in
set_option maxRecDepth 100000 in
theorem c_X10_waits (l : Launch) (G : hG) (Y : hW) (o : Nat) (hW : h_On Y o (wldE tF o)) (u1 u2 u3 : Int32) : hMi l yX10_waits cX10_waits 5 (some .int) 1 21 G Y [.ref (o), .int u1, .int u2, .int u3] (fun H => True) (fun H r H1 => r = (-1)) := by
  refine h_ofi (by decide +kernel) (Nat.le_of_ble_eq_true rfl) ?_
  intro p e s m args below meth c H0 ls Q hx hb hts hown hml hK hT0 hpr hS0 hl hret
  have hl : lv_has ls 5 [(0, .ref (o)), (1, .int u1), (2, .int u2), (3, .int u3)] := hl
  refine lv_iload_n hx hb dX10_waits_0 rfl (lv_at hl 2 rfl) ?_
  refine lv_if_lt (tgt := 13) hx hb dX10_waits_1 (by decide) (fun c1 => ?_) (fun c1 => ?_)
  · skip
    refine lv_aload_n hx hb dX10_waits_13 rfl (lv_at hl 0 rfl) ?_
    refine lv_iconst (v := 1) hx hb dX10_waits_14 (by decide) ?_
    refine h_callVi (T := TX10) (rest := []) (As := [.int 1]) hx hb hml hown hts hK hT0 (fun _ h => h) hS0 (c_X10_fail l G Y (o) hW 1) trivial wd_X10_fail wV_X10_fail wL_X10_66 (on_w0 hW) rfl rfl hl.1 rfl (Nat.le_of_ble_eq_true rfl) dX10_waits_15 ⟨Nat.le_of_ble_eq_true rfl, Nat.le_of_ble_eq_true rfl⟩ ⟨Nat.zero_le _, Nat.zero_le _⟩ (fun r2 H1 locs hp1 hT1 hS1 hk1 => ?_)
    have hp1 : r2 = (-1) := hp1
    subst hp1
    exact hret _ _ _ _ _ hT1 hS1 rfl dX10_waits_18
  · skip
    refine lv_iload_n hx hb dX10_waits_4 rfl (lv_at hl 3 rfl) ?_
    refine lv_if_lt (tgt := 13) hx hb dX10_waits_5 (by decide) (fun c3 => ?_) (fun c3 => ?_)
    · skip
      refine lv_aload_n hx hb dX10_waits_13 rfl (lv_at hl 0 rfl) ?_
      refine lv_iconst (v := 1) hx hb dX10_waits_14 (by decide) ?_
      refine h_callVi (T := TX10) (rest := []) (As := [.int 1]) hx hb hml hown hts hK hT0 (fun _ h => h) hS0 (c_X10_fail l G Y (o) hW 1) trivial wd_X10_fail wV_X10_fail wL_X10_66 (on_w0 hW) rfl rfl hl.1 rfl (Nat.le_of_ble_eq_true rfl) dX10_waits_15 ⟨Nat.le_of_ble_eq_true rfl, Nat.le_of_ble_eq_true rfl⟩ ⟨Nat.zero_le _, Nat.zero_le _⟩ (fun r4 H2 locs hp2 hT2 hS2 hk2 => ?_)
      have hp2 : r4 = (-1) := hp2
      subst hp2
      exact hret _ _ _ _ _ hT2 hS2 rfl dX10_waits_18
    · skip
      refine lv_iload_n hx hb dX10_waits_8 rfl (lv_at hl 3 rfl) ?_
      refine lv_iconst (v := 2) hx hb dX10_waits_9 (by decide) ?_
      refine lv_icmp_le (tgt := 19) hx hb dX10_waits_10 (by decide) (fun c5 => ?_) (fun c5 => ?_)
      · skip
        refine lv_aload_n hx hb dX10_waits_19 rfl (lv_at hl 0 rfl) ?_
        refine h_getr (C := RX10) (T := TX10) (N := 9) hx hb hts inX10 hown hK hT0 (on_w0 hW) rfl 1 rfl wF_X10_19 rfl dX10_waits_20 ?_
        refine h_getr (C := RX5) (T := TX5) (N := 11) hx hb hts inX5 hown hK hT0 (on_rg (on_wr hW)) rfl 0 rfl wF_X10_86 rfl dX10_waits_23 ?_
        refine lv_iload_n hx hb dX10_waits_26 rfl (lv_at hl 1 rfl) ?_
        refine h_callVi (T := TX7) (rest := []) (As := [.int u1]) hx hb hml hown hts hK hT0 (fun _ h => h) hS0 (c_X7_exists l G Y (o + 3 + 1) (on_st (on_wr hW)) u1) trivial wd_X7_exists wV_X7_exists wL_X10_146 ((on_st (on_wr hW)).o rfl) rfl rfl hl.1 rfl (Nat.le_of_ble_eq_true rfl) dX10_waits_27 ⟨Nat.le_of_ble_eq_true rfl, Nat.le_of_ble_eq_true rfl⟩ ⟨Nat.zero_le _, Nat.zero_le _⟩ (fun r6 H3 locs hp3 hT3 hS3 hk3 => ?_)
        obtain ⟨hp3, he⟩ := hp3
        have he := he.symm
        subst he
        have hp3 : r6 = 0 := hp3
        subst hp3
        refine lv_if_ne (tgt := 39) hx hb dX10_waits_30 (by decide) (fun h => absurd (by decide) h) (fun _ => ?_)
        refine lv_aload_n hx hb dX10_waits_33 rfl (lv_at hl 0 rfl) ?_
        refine lv_iconst (v := 2) hx hb dX10_waits_34 (by decide) ?_
        refine h_callVi (T := TX10) (rest := []) (As := [.int 2]) hx hb hml hown hts hK hT0 (fun _ h => h) hS3 (c_X10_fail l G Y (o) hW 2) trivial wd_X10_fail wV_X10_fail wL_X10_66 (on_w0 hW) rfl rfl hl.1 rfl (Nat.le_of_ble_eq_true rfl) dX10_waits_35 ⟨Nat.le_of_ble_eq_true rfl, Nat.le_of_ble_eq_true rfl⟩ ⟨Nat.zero_le _, Nat.zero_le _⟩ (fun r8 H4 locs hp4 hT4 hS4 hk4 => ?_)
        have hp4 : r8 = (-1) := hp4
        subst hp4
        exact hret _ _ _ _ _ hT4 hS4 rfl dX10_waits_38
      · skip
        refine lv_aload_n hx hb dX10_waits_13 rfl (lv_at hl 0 rfl) ?_
        refine lv_iconst (v := 1) hx hb dX10_waits_14 (by decide) ?_
        refine h_callVi (T := TX10) (rest := []) (As := [.int 1]) hx hb hml hown hts hK hT0 (fun _ h => h) hS0 (c_X10_fail l G Y (o) hW 1) trivial wd_X10_fail wV_X10_fail wL_X10_66 (on_w0 hW) rfl rfl hl.1 rfl (Nat.le_of_ble_eq_true rfl) dX10_waits_15 ⟨Nat.le_of_ble_eq_true rfl, Nat.le_of_ble_eq_true rfl⟩ ⟨Nat.zero_le _, Nat.zero_le _⟩ (fun r9 H5 locs hp5 hT5 hS5 hk5 => ?_)
        have hp5 : r9 = (-1) := hp5
        subst hp5
        exact hret _ _ _ _ _ hT5 hS5 rfl dX10_waits_18
set_option maxHeartbeats 4000000 in
set_option maxRecDepth 100000 in
theorem c_X10_way (l : Launch) (G : hG) (Y : hW) (o : Nat) (hW : h_On Y o (wldE tF o)) (u1 : Int32) : hMi l yX10_way cX10_way 3 (some .int) 1 21 G Y [.ref (o), .int u1] (fun H => True) (fun H r H1 => ((u1.toInt = 0) → r = 0) ∧ (¬ (u1.toInt = 0) → r = -1)) := by
  refine h_ofi (by decide +kernel) (Nat.le_of_ble_eq_true rfl) ?_
  intro p e s m args below meth c H0 ls Q hx hb hts hown hml hK hT0 hpr hS0 hl hret
  have hl : lv_has ls 3 [(0, .ref (o)), (1, .int u1)] := hl
  refine lv_iload_n hx hb dX10_way_0 rfl (lv_at hl 1 rfl) ?_
  refine lv_if_lt (tgt := 10) hx hb dX10_way_1 (by decide) (fun c1 => ?_) (fun c1 => ?_)
  · skip
    refine lv_aload_n hx hb dX10_way_10 rfl (lv_at hl 0 rfl) ?_
    refine lv_iconst (v := 1) hx hb dX10_way_11 (by decide) ?_
    refine h_callVi (T := TX10) (rest := []) (As := [.int 1]) hx hb hml hown hts hK hT0 (fun _ h => h) hS0 (c_X10_fail l G Y (o) hW 1) trivial wd_X10_fail wV_X10_fail wL_X10_66 (on_w0 hW) rfl rfl hl.1 rfl (Nat.le_of_ble_eq_true rfl) dX10_way_12 ⟨Nat.le_of_ble_eq_true rfl, Nat.le_of_ble_eq_true rfl⟩ ⟨Nat.zero_le _, Nat.zero_le _⟩ (fun r2 H1 locs hp1 hT1 hS1 hk1 => ?_)
    have hp1 : r2 = (-1) := hp1
    subst hp1
    exact hret _ _ _ _ _ hT1 hS1 (by refine ⟨fun h => ?_, fun h => ?_⟩ <;> first | rfl | exact absurd h (by decide) | (exfalso; simp only [Int32.lt_iff_toInt_lt, Int32.le_iff_toInt_le, ← Int32.toInt_inj, Int32.reduceToInt, (show (-1 : Int32).toInt = -1 from rfl)] at c1 <;> omega)) dX10_way_15
  · skip
    refine lv_iload_n hx hb dX10_way_4 rfl (lv_at hl 1 rfl) ?_
    refine lv_bipush (v := 9) hx hb dX10_way_5 (by decide) ?_
    refine lv_icmp_le (tgt := 16) hx hb dX10_way_7 (by decide) (fun c3 => ?_) (fun c3 => ?_)
    · skip
      refine lv_aload_n hx hb dX10_way_16 rfl (lv_at hl 0 rfl) ?_
      refine h_getr (C := RX10) (T := TX10) (N := 9) hx hb hts inX10 hown hK hT0 (on_w0 hW) rfl 1 rfl wF_X10_19 rfl dX10_way_17 ?_
      refine h_getr (C := RX5) (T := TX5) (N := 11) hx hb hts inX5 hown hK hT0 (on_rg (on_wr hW)) rfl 3 rfl wF_X10_120 rfl dX10_way_20 ?_
      refine h_getc (v := 0) (C := RX9) (T := TX9) (N := 11) hx hb hts inX9 hown hK hT0 ((on_wa (on_wr hW)).o rfl) rfl 0 rfl wF_X10_124 rfl (fun _ h => h) dX10_way_23 ?_
      refine lv_istore_n (lv' := [(2, .int 0), (0, .ref (o)), (1, .int u1)]) hx hb dX10_way_26 rfl hl (by decide) rfl (fun ls hl => ?_)
      refine lv_iload_n hx hb dX10_way_27 rfl (lv_at hl 2 rfl) ?_
      refine lv_iconst (v := 1) hx hb dX10_way_28 (by decide) ?_
      refine lv_icmp_lt (tgt := 36) hx hb dX10_way_29 (by decide) (fun c4 => ?_) (fun c4 => ?_)
      · skip
        refine lv_iload_n hx hb dX10_way_36 rfl (lv_at hl 2 rfl) ?_
        refine lv_iconst (v := 5) hx hb dX10_way_37 (by decide) ?_
        refine lv_icmp_lt (tgt := 53) hx hb dX10_way_38 (by decide) (fun _ => ?_) (fun h => absurd (by simp only [Int32.lt_iff_toInt_lt, Int32.le_iff_toInt_le, ← Int32.toInt_inj, Int32.reduceToInt, (show (-1 : Int32).toInt = -1 from rfl)] at c1 c3 c4 ⊢; omega) h)
        refine lv_aload_n hx hb dX10_way_53 rfl (lv_at hl 1 rfl) ?_
        refine lv_aload_n hx hb dX10_way_54 rfl (lv_at hl 1 rfl) ?_
        refine h_getr (C := RX10) (T := TX10) (N := 9) hx hb hts inX10 hown hK hT0 (on_w0 hW) rfl 1 rfl wF_X10_19 rfl dX10_way_55 ?_
        refine h_getr (C := RX5) (T := TX5) (N := 11) hx hb hts inX5 hown hK hT0 (on_rg (on_wr hW)) rfl 3 rfl wF_X10_120 rfl dX10_way_58 ?_
        refine lv_iload_n hx hb dX10_way_61 rfl (lv_at hl 2 rfl) ?_
        refine h_callVi (T := TX9) (rest := [.ref (o)]) (As := [.int u1]) hx hb hml hown hts hK hT0 (fun _ h => h) hS0 (c_X9_tell l G Y (o + 3 + 17) (on_wa (on_wr hW)) u1) trivial wd_X9_tell wV_X9_tell wL_X10_168 ((on_wa (on_wr hW)).o rfl) rfl rfl hl.1 rfl (Nat.le_of_ble_eq_true rfl) dX10_way_62 ⟨Nat.le_of_ble_eq_true rfl, Nat.le_of_ble_eq_true rfl⟩ ⟨Nat.zero_le _, Nat.zero_le _⟩ (fun r5 H2 locs hp2 hT2 hS2 hk2 => ?_)
        obtain ⟨hp2, he⟩ := hp2
        have he := he.symm
        subst he
        obtain rfl : r5 = 0 := hp2 (by simp only [Int32.lt_iff_toInt_lt, Int32.le_iff_toInt_le, ← Int32.toInt_inj, Int32.reduceToInt, (show (-1 : Int32).toInt = -1 from rfl)] at c1 c3 c4 ⊢; omega)
        refine h_callVi (T := TX10) (rest := []) (As := [.int 0]) hx hb hml hown hts hK hT0 (fun _ h => h) hS2 (c_X10_give l G Y (o) hW 0) trivial wd_X10_give wV_X10_give wL_X10_95 (on_w0 hW) rfl rfl hl.1 rfl (Nat.le_of_ble_eq_true rfl) dX10_way_65 ⟨Nat.le_of_ble_eq_true rfl, Nat.le_of_ble_eq_true rfl⟩ ⟨Nat.zero_le _, Nat.zero_le _⟩ (fun r6 H3 locs hp3 hT3 hS3 hk3 => ?_)
        have hp3 : r6 = 0 := hp3
        subst hp3
        exact hret _ _ _ _ _ hT3 hS3 (by refine ⟨fun h => ?_, fun h => ?_⟩ <;> first | rfl | exact absurd h (by decide) | (exfalso; simp only [Int32.lt_iff_toInt_lt, Int32.le_iff_toInt_le, ← Int32.toInt_inj, Int32.reduceToInt, (show (-1 : Int32).toInt = -1 from rfl)] at c1 c3 c4 <;> omega)) dX10_way_68
      · skip
        refine lv_iload_n hx hb dX10_way_32 rfl (lv_at hl 0 rfl) ?_
        refine lv_if_eq (tgt := 46) hx hb dX10_way_33 (by decide) (fun _ => ?_) (fun h => absurd (by decide) h)
        refine lv_aload_n hx hb dX10_way_46 rfl (lv_at hl 1 rfl) ?_
        refine lv_bipush (v := 6) hx hb dX10_way_47 (by decide) ?_
        refine h_callVi (T := TX10) (rest := []) (As := [.int 6]) hx hb hml hown hts hK hT0 (fun _ h => h) hS0 (c_X10_fail l G Y (o) hW 6) trivial wd_X10_fail wV_X10_fail wL_X10_66 (on_w0 hW) rfl rfl hl.1 rfl (Nat.le_of_ble_eq_true rfl) dX10_way_49 ⟨Nat.le_of_ble_eq_true rfl, Nat.le_of_ble_eq_true rfl⟩ ⟨Nat.zero_le _, Nat.zero_le _⟩ (fun r8 H4 locs hp4 hT4 hS4 hk4 => ?_)
        have hp4 : r8 = (-1) := hp4
        subst hp4
        exact hret _ _ _ _ _ hT4 hS4 (by refine ⟨fun h => ?_, fun h => ?_⟩ <;> first | rfl | exact absurd h (by decide) | (exfalso; simp only [Int32.lt_iff_toInt_lt, Int32.le_iff_toInt_le, ← Int32.toInt_inj, Int32.reduceToInt, (show (-1 : Int32).toInt = -1 from rfl)] at c1 c3 c4 <;> omega)) dX10_way_52
    · skip
      refine lv_aload_n hx hb dX10_way_10 rfl (lv_at hl 0 rfl) ?_
      refine lv_iconst (v := 1) hx hb dX10_way_11 (by decide) ?_
      refine h_callVi (T := TX10) (rest := []) (As := [.int 1]) hx hb hml hown hts hK hT0 (fun _ h => h) hS0 (c_X10_fail l G Y (o) hW 1) trivial wd_X10_fail wV_X10_fail wL_X10_66 (on_w0 hW) rfl rfl hl.1 rfl (Nat.le_of_ble_eq_true rfl) dX10_way_12 ⟨Nat.le_of_ble_eq_true rfl, Nat.le_of_ble_eq_true rfl⟩ ⟨Nat.zero_le _, Nat.zero_le _⟩ (fun r9 H5 locs hp5 hT5 hS5 hk5 => ?_)
      have hp5 : r9 = (-1) := hp5
      subst hp5
      exact hret _ _ _ _ _ hT5 hS5 (by refine ⟨fun h => ?_, fun h => ?_⟩ <;> first | rfl | exact absurd h (by decide) | (exfalso; simp only [Int32.lt_iff_toInt_lt, Int32.le_iff_toInt_le, ← Int32.toInt_inj, Int32.reduceToInt, (show (-1 : Int32).toInt = -1 from rfl)] at c1 c3 <;> omega)) dX10_way_15
set_option maxHeartbeats 4000000 in
set_option maxRecDepth 100000 in
theorem c_X10_beacon (l : Launch) (G : hG) (Y : hW) (o : Nat) (hW : h_On Y o (wldE tF o)) (u1 : Int32) : hMi l yX10_beacon cX10_beacon 3 (some .int) 1 21 G Y [.ref (o), .int u1] (fun H => True) (fun H r H1 => ((u1.toInt = 0) → r = 0) ∧ (¬ (u1.toInt = 0) → r = -1)) := by
  refine h_ofi (by decide +kernel) (Nat.le_of_ble_eq_true rfl) ?_
  intro p e s m args below meth c H0 ls Q hx hb hts hown hml hK hT0 hpr hS0 hl hret
  have hl : lv_has ls 3 [(0, .ref (o)), (1, .int u1)] := hl
  refine lv_iload_n hx hb dX10_beacon_0 rfl (lv_at hl 1 rfl) ?_
  refine lv_if_lt (tgt := 9) hx hb dX10_beacon_1 (by decide) (fun c1 => ?_) (fun c1 => ?_)
  · skip
    refine lv_aload_n hx hb dX10_beacon_9 rfl (lv_at hl 0 rfl) ?_
    refine lv_iconst (v := 1) hx hb dX10_beacon_10 (by decide) ?_
    refine h_callVi (T := TX10) (rest := []) (As := [.int 1]) hx hb hml hown hts hK hT0 (fun _ h => h) hS0 (c_X10_fail l G Y (o) hW 1) trivial wd_X10_fail wV_X10_fail wL_X10_66 (on_w0 hW) rfl rfl hl.1 rfl (Nat.le_of_ble_eq_true rfl) dX10_beacon_11 ⟨Nat.le_of_ble_eq_true rfl, Nat.le_of_ble_eq_true rfl⟩ ⟨Nat.zero_le _, Nat.zero_le _⟩ (fun r2 H1 locs hp1 hT1 hS1 hk1 => ?_)
    have hp1 : r2 = (-1) := hp1
    subst hp1
    exact hret _ _ _ _ _ hT1 hS1 (by refine ⟨fun h => ?_, fun h => ?_⟩ <;> first | rfl | exact absurd h (by decide) | (exfalso; simp only [Int32.lt_iff_toInt_lt, Int32.le_iff_toInt_le, ← Int32.toInt_inj, Int32.reduceToInt, (show (-1 : Int32).toInt = -1 from rfl)] at c1 <;> omega)) dX10_beacon_14
  · skip
    refine lv_iload_n hx hb dX10_beacon_4 rfl (lv_at hl 1 rfl) ?_
    refine lv_iconst (v := 2) hx hb dX10_beacon_5 (by decide) ?_
    refine lv_icmp_le (tgt := 15) hx hb dX10_beacon_6 (by decide) (fun c3 => ?_) (fun c3 => ?_)
    · skip
      refine lv_aload_n hx hb dX10_beacon_15 rfl (lv_at hl 0 rfl) ?_
      refine h_getr (C := RX10) (T := TX10) (N := 9) hx hb hts inX10 hown hK hT0 (on_w0 hW) rfl 1 rfl wF_X10_19 rfl dX10_beacon_16 ?_
      refine h_getr (C := RX5) (T := TX5) (N := 11) hx hb hts inX5 hown hK hT0 (on_rg (on_wr hW)) rfl 4 rfl wF_X10_129 rfl dX10_beacon_19 ?_
      refine lv_astore_n (lv' := [(2, .ref (o + 3 + 18)), (0, .ref (o)), (1, .int u1)]) hx hb dX10_beacon_22 rfl hl (by decide) rfl (fun ls hl => ?_)
      refine lv_iload_n hx hb dX10_beacon_23 rfl (lv_at hl 2 rfl) ?_
      refine lv_if_ne (tgt := 36) hx hb dX10_beacon_24 (by decide) (fun c4 => ?_) (fun c4 => ?_)
      · skip
        refine lv_aload_n hx hb dX10_beacon_36 rfl (lv_at hl 0 rfl) ?_
        refine h_getc (v := 0) (C := RX6) (T := TX6) (N := 4) hx hb hts inX6 hown hK hT0 ((on_si (on_wr hW)).o rfl) rfl 1 rfl wF_X10_171 rfl (fun _ h => h) dX10_beacon_37 ?_
        refine lv_iconst (v := 2) hx hb dX10_beacon_40 (by decide) ?_
        refine lv_icmp_eq (tgt := 50) hx hb dX10_beacon_41 (by decide) (fun h => absurd h (by decide)) (fun _ => ?_)
        refine lv_aload_n hx hb dX10_beacon_44 rfl (lv_at hl 1 rfl) ?_
        refine lv_iconst (v := 5) hx hb dX10_beacon_45 (by decide) ?_
        refine h_callVi (T := TX10) (rest := []) (As := [.int 5]) hx hb hml hown hts hK hT0 (fun _ h => h) hS0 (c_X10_fail l G Y (o) hW 5) trivial wd_X10_fail wV_X10_fail wL_X10_66 (on_w0 hW) rfl rfl hl.1 rfl (Nat.le_of_ble_eq_true rfl) dX10_beacon_46 ⟨Nat.le_of_ble_eq_true rfl, Nat.le_of_ble_eq_true rfl⟩ ⟨Nat.zero_le _, Nat.zero_le _⟩ (fun r6 H2 locs hp2 hT2 hS2 hk2 => ?_)
        have hp2 : r6 = (-1) := hp2
        subst hp2
        exact hret _ _ _ _ _ hT2 hS2 (by refine ⟨fun h => ?_, fun h => ?_⟩ <;> first | rfl | exact absurd h (by decide) | (exfalso; simp only [Int32.lt_iff_toInt_lt, Int32.le_iff_toInt_le, ← Int32.toInt_inj, Int32.reduceToInt, (show (-1 : Int32).toInt = -1 from rfl)] at c1 c3 c4 <;> omega)) dX10_beacon_49
      · skip
        refine lv_aload_n hx hb dX10_beacon_27 rfl (lv_at hl 1 rfl) ?_
        refine lv_aload_n hx hb dX10_beacon_28 rfl (lv_at hl 0 rfl) ?_
        refine h_getc (v := 0) (C := RX6) (T := TX6) (N := 4) hx hb hts inX6 hown hK hT0 ((on_si (on_wr hW)).o rfl) rfl 1 rfl wF_X10_171 rfl (fun _ h => h) dX10_beacon_29 ?_
        refine h_callVi (T := TX10) (rest := []) (As := [.int 0]) hx hb hml hown hts hK hT0 (fun _ h => h) hS0 (c_X10_give l G Y (o) hW 0) trivial wd_X10_give wV_X10_give wL_X10_95 (on_w0 hW) rfl rfl hl.1 rfl (Nat.le_of_ble_eq_true rfl) dX10_beacon_32 ⟨Nat.le_of_ble_eq_true rfl, Nat.le_of_ble_eq_true rfl⟩ ⟨Nat.zero_le _, Nat.zero_le _⟩ (fun r7 H3 locs hp3 hT3 hS3 hk3 => ?_)
        have hp3 : r7 = 0 := hp3
        subst hp3
        exact hret _ _ _ _ _ hT3 hS3 (by refine ⟨fun h => ?_, fun h => ?_⟩ <;> first | rfl | exact absurd h (by decide) | (exfalso; simp only [Int32.lt_iff_toInt_lt, Int32.le_iff_toInt_le, ← Int32.toInt_inj, Int32.reduceToInt, (show (-1 : Int32).toInt = -1 from rfl)] at c1 c3 c4 <;> omega)) dX10_beacon_35
    · skip
      refine lv_aload_n hx hb dX10_beacon_9 rfl (lv_at hl 0 rfl) ?_
      refine lv_iconst (v := 1) hx hb dX10_beacon_10 (by decide) ?_
      refine h_callVi (T := TX10) (rest := []) (As := [.int 1]) hx hb hml hown hts hK hT0 (fun _ h => h) hS0 (c_X10_fail l G Y (o) hW 1) trivial wd_X10_fail wV_X10_fail wL_X10_66 (on_w0 hW) rfl rfl hl.1 rfl (Nat.le_of_ble_eq_true rfl) dX10_beacon_11 ⟨Nat.le_of_ble_eq_true rfl, Nat.le_of_ble_eq_true rfl⟩ ⟨Nat.zero_le _, Nat.zero_le _⟩ (fun r8 H4 locs hp4 hT4 hS4 hk4 => ?_)
      have hp4 : r8 = (-1) := hp4
      subst hp4
      exact hret _ _ _ _ _ hT4 hS4 (by refine ⟨fun h => ?_, fun h => ?_⟩ <;> first | rfl | exact absurd h (by decide) | (exfalso; simp only [Int32.lt_iff_toInt_lt, Int32.le_iff_toInt_le, ← Int32.toInt_inj, Int32.reduceToInt, (show (-1 : Int32).toInt = -1 from rfl)] at c1 c3 <;> omega)) dX10_beacon_14
set_option maxHeartbeats 4000000 in
set_option maxRecDepth 100000 in
theorem c_X10_been (l : Launch) (G : hG) (Y : hW) (o : Nat) (hW : h_On Y o (wldE tF o)) (u1 : Int32) : hMi l yX10_been cX10_been 2 (some .int) 1 21 G Y [.ref (o), .int u1] (fun H => True) (fun H r H1 => ((0 ≤ u1.toInt ∧ u1.toInt ≤ 9) → r = 0) ∧ (¬ (0 ≤ u1.toInt ∧ u1.toInt ≤ 9) → r = -1)) := by
  refine h_ofi (by decide +kernel) (Nat.le_of_ble_eq_true rfl) ?_
  intro p e s m args below meth c H0 ls Q hx hb hts hown hml hK hT0 hpr hS0 hl hret
  have hl : lv_has ls 2 [(0, .ref (o)), (1, .int u1)] := hl
  refine lv_iload_n hx hb dX10_been_0 rfl (lv_at hl 1 rfl) ?_
  refine lv_if_lt (tgt := 10) hx hb dX10_been_1 (by decide) (fun c1 => ?_) (fun c1 => ?_)
  · skip
    refine lv_aload_n hx hb dX10_been_10 rfl (lv_at hl 0 rfl) ?_
    refine lv_iconst (v := 1) hx hb dX10_been_11 (by decide) ?_
    refine h_callVi (T := TX10) (rest := []) (As := [.int 1]) hx hb hml hown hts hK hT0 (fun _ h => h) hS0 (c_X10_fail l G Y (o) hW 1) trivial wd_X10_fail wV_X10_fail wL_X10_66 (on_w0 hW) rfl rfl hl.1 rfl (Nat.le_of_ble_eq_true rfl) dX10_been_12 ⟨Nat.le_of_ble_eq_true rfl, Nat.le_of_ble_eq_true rfl⟩ ⟨Nat.zero_le _, Nat.zero_le _⟩ (fun r2 H1 locs hp1 hT1 hS1 hk1 => ?_)
    have hp1 : r2 = (-1) := hp1
    subst hp1
    exact hret _ _ _ _ _ hT1 hS1 (by refine ⟨fun h => ?_, fun h => ?_⟩ <;> first | rfl | exact absurd h (by decide) | (exfalso; simp only [Int32.lt_iff_toInt_lt, Int32.le_iff_toInt_le, ← Int32.toInt_inj, Int32.reduceToInt, (show (-1 : Int32).toInt = -1 from rfl)] at c1 <;> omega)) dX10_been_15
  · skip
    refine lv_iload_n hx hb dX10_been_4 rfl (lv_at hl 1 rfl) ?_
    refine lv_bipush (v := 10) hx hb dX10_been_5 (by decide) ?_
    refine lv_icmp_lt (tgt := 16) hx hb dX10_been_7 (by decide) (fun c3 => ?_) (fun c3 => ?_)
    · skip
      refine lv_aload_n hx hb dX10_been_16 rfl (lv_at hl 0 rfl) ?_
      refine lv_aload_n hx hb dX10_been_17 rfl (lv_at hl 0 rfl) ?_
      refine h_getr (C := RX10) (T := TX10) (N := 9) hx hb hts inX10 hown hK hT0 (on_w0 hW) rfl 1 rfl wF_X10_19 rfl dX10_been_18 ?_
      refine h_getr (C := RX5) (T := TX5) (N := 11) hx hb hts inX5 hown hK hT0 (on_rg (on_wr hW)) rfl 5 rfl wF_X10_180 rfl dX10_been_21 ?_
      refine lv_iload_n hx hb dX10_been_24 rfl (lv_at hl 1 rfl) ?_
      refine h_callVi (T := TX0) (rest := [.ref (o)]) (As := [.int u1]) hx hb hml hown hts hK hT0 (fun _ h => h) hS0 (c_X0_counted l G Y (o + 3 + 19) (on_bo (on_wr hW)) u1) trivial wd_X0_counted wV_X0_counted wL_X10_184 ((on_bo (on_wr hW)).o rfl) rfl rfl hl.1 rfl (Nat.le_of_ble_eq_true rfl) dX10_been_25 ⟨Nat.le_of_ble_eq_true rfl, Nat.le_of_ble_eq_true rfl⟩ ⟨Nat.zero_le _, Nat.zero_le _⟩ (fun r4 H2 locs hp2 hT2 hS2 hk2 => ?_)
      obtain ⟨hp2, he⟩ := hp2
      have he := he.symm
      subst he
      have hp2 : r4 = 0 := hp2
      subst hp2
      refine h_callVi (T := TX10) (rest := []) (As := [.int 0]) hx hb hml hown hts hK hT0 (fun _ h => h) hS2 (c_X10_give l G Y (o) hW 0) trivial wd_X10_give wV_X10_give wL_X10_95 (on_w0 hW) rfl rfl hl.1 rfl (Nat.le_of_ble_eq_true rfl) dX10_been_28 ⟨Nat.le_of_ble_eq_true rfl, Nat.le_of_ble_eq_true rfl⟩ ⟨Nat.zero_le _, Nat.zero_le _⟩ (fun r5 H3 locs hp3 hT3 hS3 hk3 => ?_)
      have hp3 : r5 = 0 := hp3
      subst hp3
      exact hret _ _ _ _ _ hT3 hS3 (by refine ⟨fun h => ?_, fun h => ?_⟩ <;> first | rfl | exact absurd h (by decide) | (exfalso; simp only [Int32.lt_iff_toInt_lt, Int32.le_iff_toInt_le, ← Int32.toInt_inj, Int32.reduceToInt, (show (-1 : Int32).toInt = -1 from rfl)] at c1 c3 <;> omega)) dX10_been_31
    · skip
      refine lv_aload_n hx hb dX10_been_10 rfl (lv_at hl 0 rfl) ?_
      refine lv_iconst (v := 1) hx hb dX10_been_11 (by decide) ?_
      refine h_callVi (T := TX10) (rest := []) (As := [.int 1]) hx hb hml hown hts hK hT0 (fun _ h => h) hS0 (c_X10_fail l G Y (o) hW 1) trivial wd_X10_fail wV_X10_fail wL_X10_66 (on_w0 hW) rfl rfl hl.1 rfl (Nat.le_of_ble_eq_true rfl) dX10_been_12 ⟨Nat.le_of_ble_eq_true rfl, Nat.le_of_ble_eq_true rfl⟩ ⟨Nat.zero_le _, Nat.zero_le _⟩ (fun r6 H4 locs hp4 hT4 hS4 hk4 => ?_)
      have hp4 : r6 = (-1) := hp4
      subst hp4
      exact hret _ _ _ _ _ hT4 hS4 (by refine ⟨fun h => ?_, fun h => ?_⟩ <;> first | rfl | exact absurd h (by decide) | (exfalso; simp only [Int32.lt_iff_toInt_lt, Int32.le_iff_toInt_le, ← Int32.toInt_inj, Int32.reduceToInt, (show (-1 : Int32).toInt = -1 from rfl)] at c1 c3 <;> omega)) dX10_been_15
set_option maxHeartbeats 4000000 in
set_option maxRecDepth 100000 in
theorem c_X10_got (l : Launch) (G : hG) (Y : hW) (o : Nat) (hW : h_On Y o (wldE tF o)) (u1 u2 : Int32) : hMi l yX10_got cX10_got 3 (some .int) 1 21 G Y [.ref (o), .int u1, .int u2] (fun H => True) (fun H r H1 => r = (-1)) := by
  refine h_ofi (by decide +kernel) (Nat.le_of_ble_eq_true rfl) ?_
  intro p e s m args below meth c H0 ls Q hx hb hts hown hml hK hT0 hpr hS0 hl hret
  have hl : lv_has ls 3 [(0, .ref (o)), (1, .int u1), (2, .int u2)] := hl
  refine lv_iload_n hx hb dX10_got_0 rfl (lv_at hl 1 rfl) ?_
  refine lv_if_lt (tgt := 20) hx hb dX10_got_1 (by decide) (fun c1 => ?_) (fun c1 => ?_)
  · skip
    refine lv_aload_n hx hb dX10_got_20 rfl (lv_at hl 0 rfl) ?_
    refine lv_iconst (v := 1) hx hb dX10_got_21 (by decide) ?_
    refine h_callVi (T := TX10) (rest := []) (As := [.int 1]) hx hb hml hown hts hK hT0 (fun _ h => h) hS0 (c_X10_fail l G Y (o) hW 1) trivial wd_X10_fail wV_X10_fail wL_X10_66 (on_w0 hW) rfl rfl hl.1 rfl (Nat.le_of_ble_eq_true rfl) dX10_got_22 ⟨Nat.le_of_ble_eq_true rfl, Nat.le_of_ble_eq_true rfl⟩ ⟨Nat.zero_le _, Nat.zero_le _⟩ (fun r2 H1 locs hp1 hT1 hS1 hk1 => ?_)
    have hp1 : r2 = (-1) := hp1
    subst hp1
    exact hret _ _ _ _ _ hT1 hS1 rfl dX10_got_25
  · skip
    refine lv_iload_n hx hb dX10_got_4 rfl (lv_at hl 1 rfl) ?_
    refine lv_bipush (v := 16) hx hb dX10_got_5 (by decide) ?_
    refine lv_icmp_ge (tgt := 20) hx hb dX10_got_7 (by decide) (fun c3 => ?_) (fun c3 => ?_)
    · skip
      refine lv_aload_n hx hb dX10_got_20 rfl (lv_at hl 0 rfl) ?_
      refine lv_iconst (v := 1) hx hb dX10_got_21 (by decide) ?_
      refine h_callVi (T := TX10) (rest := []) (As := [.int 1]) hx hb hml hown hts hK hT0 (fun _ h => h) hS0 (c_X10_fail l G Y (o) hW 1) trivial wd_X10_fail wV_X10_fail wL_X10_66 (on_w0 hW) rfl rfl hl.1 rfl (Nat.le_of_ble_eq_true rfl) dX10_got_22 ⟨Nat.le_of_ble_eq_true rfl, Nat.le_of_ble_eq_true rfl⟩ ⟨Nat.zero_le _, Nat.zero_le _⟩ (fun r4 H2 locs hp2 hT2 hS2 hk2 => ?_)
      have hp2 : r4 = (-1) := hp2
      subst hp2
      exact hret _ _ _ _ _ hT2 hS2 rfl dX10_got_25
    · skip
      refine lv_iload_n hx hb dX10_got_10 rfl (lv_at hl 2 rfl) ?_
      refine lv_if_lt (tgt := 20) hx hb dX10_got_11 (by decide) (fun c5 => ?_) (fun c5 => ?_)
      · skip
        refine lv_aload_n hx hb dX10_got_20 rfl (lv_at hl 0 rfl) ?_
        refine lv_iconst (v := 1) hx hb dX10_got_21 (by decide) ?_
        refine h_callVi (T := TX10) (rest := []) (As := [.int 1]) hx hb hml hown hts hK hT0 (fun _ h => h) hS0 (c_X10_fail l G Y (o) hW 1) trivial wd_X10_fail wV_X10_fail wL_X10_66 (on_w0 hW) rfl rfl hl.1 rfl (Nat.le_of_ble_eq_true rfl) dX10_got_22 ⟨Nat.le_of_ble_eq_true rfl, Nat.le_of_ble_eq_true rfl⟩ ⟨Nat.zero_le _, Nat.zero_le _⟩ (fun r6 H3 locs hp3 hT3 hS3 hk3 => ?_)
        have hp3 : r6 = (-1) := hp3
        subst hp3
        exact hret _ _ _ _ _ hT3 hS3 rfl dX10_got_25
      · skip
        refine lv_iload_n hx hb dX10_got_14 rfl (lv_at hl 2 rfl) ?_
        refine lv_bipush (v := 6) hx hb dX10_got_15 (by decide) ?_
        refine lv_icmp_lt (tgt := 26) hx hb dX10_got_17 (by decide) (fun c7 => ?_) (fun c7 => ?_)
        · skip
          refine lv_iload_n hx hb dX10_got_26 rfl (lv_at hl 1 rfl) ?_
          refine lv_aload_n hx hb dX10_got_27 rfl (lv_at hl 0 rfl) ?_
          refine h_getr (C := RX10) (T := TX10) (N := 9) hx hb hts inX10 hown hK hT0 (on_w0 hW) rfl 1 rfl wF_X10_19 rfl dX10_got_28 ?_
          refine h_getr (C := RX5) (T := TX5) (N := 11) hx hb hts inX5 hown hK hT0 (on_rg (on_wr hW)) rfl 5 rfl wF_X10_180 rfl dX10_got_31 ?_
          refine lv_iconst (v := 0) hx hb dX10_got_34 (by decide) ?_
          refine h_callVi (T := TX0) (rest := [.int u1]) (As := [.int 0]) hx hb hml hown hts hK hT0 (fun _ h => h) hS0 (c_X0_counted l G Y (o + 3 + 19) (on_bo (on_wr hW)) 0) trivial wd_X0_counted wV_X0_counted wL_X10_184 ((on_bo (on_wr hW)).o rfl) rfl rfl hl.1 rfl (Nat.le_of_ble_eq_true rfl) dX10_got_35 ⟨Nat.le_of_ble_eq_true rfl, Nat.le_of_ble_eq_true rfl⟩ ⟨Nat.zero_le _, Nat.zero_le _⟩ (fun r8 H4 locs hp4 hT4 hS4 hk4 => ?_)
          obtain ⟨hp4, he⟩ := hp4
          have he := he.symm
          subst he
          have hp4 : r8 = 0 := hp4
          subst hp4
          refine lv_icmp_lt (tgt := 47) hx hb dX10_got_38 (by decide) (fun h => absurd h (by simp only [Int32.lt_iff_toInt_lt, Int32.le_iff_toInt_le, ← Int32.toInt_inj, Int32.reduceToInt, (show (-1 : Int32).toInt = -1 from rfl)] at c1 c3 ⊢; omega)) (fun _ => ?_)
          refine lv_aload_n hx hb dX10_got_41 rfl (lv_at hl 0 rfl) ?_
          refine lv_iconst (v := 5) hx hb dX10_got_42 (by decide) ?_
          refine h_callVi (T := TX10) (rest := []) (As := [.int 5]) hx hb hml hown hts hK hT0 (fun _ h => h) hS4 (c_X10_fail l G Y (o) hW 5) trivial wd_X10_fail wV_X10_fail wL_X10_66 (on_w0 hW) rfl rfl hl.1 rfl (Nat.le_of_ble_eq_true rfl) dX10_got_43 ⟨Nat.le_of_ble_eq_true rfl, Nat.le_of_ble_eq_true rfl⟩ ⟨Nat.zero_le _, Nat.zero_le _⟩ (fun r9 H5 locs hp5 hT5 hS5 hk5 => ?_)
          have hp5 : r9 = (-1) := hp5
          subst hp5
          exact hret _ _ _ _ _ hT5 hS5 rfl dX10_got_46
        · skip
          refine lv_aload_n hx hb dX10_got_20 rfl (lv_at hl 0 rfl) ?_
          refine lv_iconst (v := 1) hx hb dX10_got_21 (by decide) ?_
          refine h_callVi (T := TX10) (rest := []) (As := [.int 1]) hx hb hml hown hts hK hT0 (fun _ h => h) hS0 (c_X10_fail l G Y (o) hW 1) trivial wd_X10_fail wV_X10_fail wL_X10_66 (on_w0 hW) rfl rfl hl.1 rfl (Nat.le_of_ble_eq_true rfl) dX10_got_22 ⟨Nat.le_of_ble_eq_true rfl, Nat.le_of_ble_eq_true rfl⟩ ⟨Nat.zero_le _, Nat.zero_le _⟩ (fun r10 H6 locs hp6 hT6 hS6 hk6 => ?_)
          have hp6 : r10 = (-1) := hp6
          subst hp6
          exact hret _ _ _ _ _ hT6 hS6 rfl dX10_got_25
set_option maxHeartbeats 4000000 in
set_option maxRecDepth 100000 in
theorem c_X10_raise (l : Launch) (G : hG) (Y : hW) (o : Nat) (hW : h_On Y o (wldE tF o)) (u1 u2 u3 : Int32) : hMi l yX10_raise cX10_raise 4 (some .int) 1 21 G Y [.ref (o), .int u1, .int u2, .int u3] (fun H => True) (fun H r H1 => r = (-1)) := by
  refine h_ofi (by decide +kernel) (Nat.le_of_ble_eq_true rfl) ?_
  intro p e s m args below meth c H0 ls Q hx hb hts hown hml hK hT0 hpr hS0 hl hret
  have hl : lv_has ls 4 [(0, .ref (o)), (1, .int u1), (2, .int u2), (3, .int u3)] := hl
  refine lv_iload_n hx hb dX10_raise_0 rfl (lv_at hl 2 rfl) ?_
  refine lv_if_lt (tgt := 13) hx hb dX10_raise_1 (by decide) (fun c1 => ?_) (fun c1 => ?_)
  · skip
    refine lv_aload_n hx hb dX10_raise_13 rfl (lv_at hl 0 rfl) ?_
    refine lv_iconst (v := 1) hx hb dX10_raise_14 (by decide) ?_
    refine h_callVi (T := TX10) (rest := []) (As := [.int 1]) hx hb hml hown hts hK hT0 (fun _ h => h) hS0 (c_X10_fail l G Y (o) hW 1) trivial wd_X10_fail wV_X10_fail wL_X10_66 (on_w0 hW) rfl rfl hl.1 rfl (Nat.le_of_ble_eq_true rfl) dX10_raise_15 ⟨Nat.le_of_ble_eq_true rfl, Nat.le_of_ble_eq_true rfl⟩ ⟨Nat.zero_le _, Nat.zero_le _⟩ (fun r2 H1 locs hp1 hT1 hS1 hk1 => ?_)
    have hp1 : r2 = (-1) := hp1
    subst hp1
    exact hret _ _ _ _ _ hT1 hS1 rfl dX10_raise_18
  · skip
    refine lv_iload_n hx hb dX10_raise_4 rfl (lv_at hl 3 rfl) ?_
    refine lv_if_lt (tgt := 13) hx hb dX10_raise_5 (by decide) (fun c3 => ?_) (fun c3 => ?_)
    · skip
      refine lv_aload_n hx hb dX10_raise_13 rfl (lv_at hl 0 rfl) ?_
      refine lv_iconst (v := 1) hx hb dX10_raise_14 (by decide) ?_
      refine h_callVi (T := TX10) (rest := []) (As := [.int 1]) hx hb hml hown hts hK hT0 (fun _ h => h) hS0 (c_X10_fail l G Y (o) hW 1) trivial wd_X10_fail wV_X10_fail wL_X10_66 (on_w0 hW) rfl rfl hl.1 rfl (Nat.le_of_ble_eq_true rfl) dX10_raise_15 ⟨Nat.le_of_ble_eq_true rfl, Nat.le_of_ble_eq_true rfl⟩ ⟨Nat.zero_le _, Nat.zero_le _⟩ (fun r4 H2 locs hp2 hT2 hS2 hk2 => ?_)
      have hp2 : r4 = (-1) := hp2
      subst hp2
      exact hret _ _ _ _ _ hT2 hS2 rfl dX10_raise_18
    · skip
      refine lv_iload_n hx hb dX10_raise_8 rfl (lv_at hl 3 rfl) ?_
      refine lv_iconst (v := 1) hx hb dX10_raise_9 (by decide) ?_
      refine lv_icmp_le (tgt := 19) hx hb dX10_raise_10 (by decide) (fun c5 => ?_) (fun c5 => ?_)
      · skip
        refine lv_aload_n hx hb dX10_raise_19 rfl (lv_at hl 0 rfl) ?_
        refine h_getr (C := RX10) (T := TX10) (N := 9) hx hb hts inX10 hown hK hT0 (on_w0 hW) rfl 1 rfl wF_X10_19 rfl dX10_raise_20 ?_
        refine h_getr (C := RX5) (T := TX5) (N := 11) hx hb hts inX5 hown hK hT0 (on_rg (on_wr hW)) rfl 0 rfl wF_X10_86 rfl dX10_raise_23 ?_
        refine lv_iload_n hx hb dX10_raise_26 rfl (lv_at hl 1 rfl) ?_
        refine h_callVi (T := TX7) (rest := []) (As := [.int u1]) hx hb hml hown hts hK hT0 (fun _ h => h) hS0 (c_X7_exists l G Y (o + 3 + 1) (on_st (on_wr hW)) u1) trivial wd_X7_exists wV_X7_exists wL_X10_146 ((on_st (on_wr hW)).o rfl) rfl rfl hl.1 rfl (Nat.le_of_ble_eq_true rfl) dX10_raise_27 ⟨Nat.le_of_ble_eq_true rfl, Nat.le_of_ble_eq_true rfl⟩ ⟨Nat.zero_le _, Nat.zero_le _⟩ (fun r6 H3 locs hp3 hT3 hS3 hk3 => ?_)
        obtain ⟨hp3, he⟩ := hp3
        have he := he.symm
        subst he
        have hp3 : r6 = 0 := hp3
        subst hp3
        refine lv_if_ne (tgt := 39) hx hb dX10_raise_30 (by decide) (fun h => absurd (by decide) h) (fun _ => ?_)
        refine lv_aload_n hx hb dX10_raise_33 rfl (lv_at hl 0 rfl) ?_
        refine lv_iconst (v := 2) hx hb dX10_raise_34 (by decide) ?_
        refine h_callVi (T := TX10) (rest := []) (As := [.int 2]) hx hb hml hown hts hK hT0 (fun _ h => h) hS3 (c_X10_fail l G Y (o) hW 2) trivial wd_X10_fail wV_X10_fail wL_X10_66 (on_w0 hW) rfl rfl hl.1 rfl (Nat.le_of_ble_eq_true rfl) dX10_raise_35 ⟨Nat.le_of_ble_eq_true rfl, Nat.le_of_ble_eq_true rfl⟩ ⟨Nat.zero_le _, Nat.zero_le _⟩ (fun r8 H4 locs hp4 hT4 hS4 hk4 => ?_)
        have hp4 : r8 = (-1) := hp4
        subst hp4
        exact hret _ _ _ _ _ hT4 hS4 rfl dX10_raise_38
      · skip
        refine lv_aload_n hx hb dX10_raise_13 rfl (lv_at hl 0 rfl) ?_
        refine lv_iconst (v := 1) hx hb dX10_raise_14 (by decide) ?_
        refine h_callVi (T := TX10) (rest := []) (As := [.int 1]) hx hb hml hown hts hK hT0 (fun _ h => h) hS0 (c_X10_fail l G Y (o) hW 1) trivial wd_X10_fail wV_X10_fail wL_X10_66 (on_w0 hW) rfl rfl hl.1 rfl (Nat.le_of_ble_eq_true rfl) dX10_raise_15 ⟨Nat.le_of_ble_eq_true rfl, Nat.le_of_ble_eq_true rfl⟩ ⟨Nat.zero_le _, Nat.zero_le _⟩ (fun r9 H5 locs hp5 hT5 hS5 hk5 => ?_)
        have hp5 : r9 = (-1) := hp5
        subst hp5
        exact hret _ _ _ _ _ hT5 hS5 rfl dX10_raise_18
set_option maxHeartbeats 4000000 in
set_option maxRecDepth 100000 in
theorem c_X10_event (l : Launch) (G : hG) (Y : hW) (o : Nat) (hW : h_On Y o (wldE tF o)) (u1 u2 : Int32) : hMi l yX10_event cX10_event 3 (some .int) 1 21 G Y [.ref (o), .int u1, .int u2] (fun H => True) (fun H r H1 => r = (-1)) := by
  refine h_ofi (by decide +kernel) (Nat.le_of_ble_eq_true rfl) ?_
  intro p e s m args below meth c H0 ls Q hx hb hts hown hml hK hT0 hpr hS0 hl hret
  have hl : lv_has ls 3 [(0, .ref (o)), (1, .int u1), (2, .int u2)] := hl
  refine lv_iload_n hx hb dX10_event_0 rfl (lv_at hl 1 rfl) ?_
  refine lv_if_lt (tgt := 19) hx hb dX10_event_1 (by decide) (fun c1 => ?_) (fun c1 => ?_)
  · skip
    refine lv_aload_n hx hb dX10_event_19 rfl (lv_at hl 0 rfl) ?_
    refine lv_iconst (v := 1) hx hb dX10_event_20 (by decide) ?_
    refine h_callVi (T := TX10) (rest := []) (As := [.int 1]) hx hb hml hown hts hK hT0 (fun _ h => h) hS0 (c_X10_fail l G Y (o) hW 1) trivial wd_X10_fail wV_X10_fail wL_X10_66 (on_w0 hW) rfl rfl hl.1 rfl (Nat.le_of_ble_eq_true rfl) dX10_event_21 ⟨Nat.le_of_ble_eq_true rfl, Nat.le_of_ble_eq_true rfl⟩ ⟨Nat.zero_le _, Nat.zero_le _⟩ (fun r2 H1 locs hp1 hT1 hS1 hk1 => ?_)
    have hp1 : r2 = (-1) := hp1
    subst hp1
    exact hret _ _ _ _ _ hT1 hS1 rfl dX10_event_24
  · skip
    refine lv_iload_n hx hb dX10_event_4 rfl (lv_at hl 1 rfl) ?_
    refine lv_bipush (v := 24) hx hb dX10_event_5 (by decide) ?_
    refine lv_icmp_ge (tgt := 19) hx hb dX10_event_7 (by decide) (fun c3 => ?_) (fun c3 => ?_)
    · skip
      refine lv_aload_n hx hb dX10_event_19 rfl (lv_at hl 0 rfl) ?_
      refine lv_iconst (v := 1) hx hb dX10_event_20 (by decide) ?_
      refine h_callVi (T := TX10) (rest := []) (As := [.int 1]) hx hb hml hown hts hK hT0 (fun _ h => h) hS0 (c_X10_fail l G Y (o) hW 1) trivial wd_X10_fail wV_X10_fail wL_X10_66 (on_w0 hW) rfl rfl hl.1 rfl (Nat.le_of_ble_eq_true rfl) dX10_event_21 ⟨Nat.le_of_ble_eq_true rfl, Nat.le_of_ble_eq_true rfl⟩ ⟨Nat.zero_le _, Nat.zero_le _⟩ (fun r4 H2 locs hp2 hT2 hS2 hk2 => ?_)
      have hp2 : r4 = (-1) := hp2
      subst hp2
      exact hret _ _ _ _ _ hT2 hS2 rfl dX10_event_24
    · skip
      refine lv_iload_n hx hb dX10_event_10 rfl (lv_at hl 2 rfl) ?_
      refine lv_if_lt (tgt := 19) hx hb dX10_event_11 (by decide) (fun c5 => ?_) (fun c5 => ?_)
      · skip
        refine lv_aload_n hx hb dX10_event_19 rfl (lv_at hl 0 rfl) ?_
        refine lv_iconst (v := 1) hx hb dX10_event_20 (by decide) ?_
        refine h_callVi (T := TX10) (rest := []) (As := [.int 1]) hx hb hml hown hts hK hT0 (fun _ h => h) hS0 (c_X10_fail l G Y (o) hW 1) trivial wd_X10_fail wV_X10_fail wL_X10_66 (on_w0 hW) rfl rfl hl.1 rfl (Nat.le_of_ble_eq_true rfl) dX10_event_21 ⟨Nat.le_of_ble_eq_true rfl, Nat.le_of_ble_eq_true rfl⟩ ⟨Nat.zero_le _, Nat.zero_le _⟩ (fun r6 H3 locs hp3 hT3 hS3 hk3 => ?_)
        have hp3 : r6 = (-1) := hp3
        subst hp3
        exact hret _ _ _ _ _ hT3 hS3 rfl dX10_event_24
      · skip
        refine lv_iload_n hx hb dX10_event_14 rfl (lv_at hl 2 rfl) ?_
        refine lv_iconst (v := 3) hx hb dX10_event_15 (by decide) ?_
        refine lv_icmp_lt (tgt := 25) hx hb dX10_event_16 (by decide) (fun c7 => ?_) (fun c7 => ?_)
        · skip
          refine lv_iload_n hx hb dX10_event_25 rfl (lv_at hl 1 rfl) ?_
          refine lv_aload_n hx hb dX10_event_26 rfl (lv_at hl 0 rfl) ?_
          refine h_getr (C := RX10) (T := TX10) (N := 9) hx hb hts inX10 hown hK hT0 (on_w0 hW) rfl 1 rfl wF_X10_19 rfl dX10_event_27 ?_
          refine h_getr (C := RX5) (T := TX5) (N := 11) hx hb hts inX5 hown hK hT0 (on_rg (on_wr hW)) rfl 5 rfl wF_X10_180 rfl dX10_event_30 ?_
          refine h_getc (v := 0) (C := RX0) (T := TX0) (N := 6) hx hb hts inX0 hown hK hT0 ((on_bo (on_wr hW)).o rfl) rfl 5 rfl wF_X10_207 rfl (fun _ h => h) dX10_event_33 ?_
          refine lv_icmp_lt (tgt := 45) hx hb dX10_event_36 (by decide) (fun h => absurd h (by simp only [Int32.lt_iff_toInt_lt, Int32.le_iff_toInt_le, ← Int32.toInt_inj, Int32.reduceToInt, (show (-1 : Int32).toInt = -1 from rfl)] at c1 c3 ⊢; omega)) (fun _ => ?_)
          refine lv_aload_n hx hb dX10_event_39 rfl (lv_at hl 0 rfl) ?_
          refine lv_iconst (v := 5) hx hb dX10_event_40 (by decide) ?_
          refine h_callVi (T := TX10) (rest := []) (As := [.int 5]) hx hb hml hown hts hK hT0 (fun _ h => h) hS0 (c_X10_fail l G Y (o) hW 5) trivial wd_X10_fail wV_X10_fail wL_X10_66 (on_w0 hW) rfl rfl hl.1 rfl (Nat.le_of_ble_eq_true rfl) dX10_event_41 ⟨Nat.le_of_ble_eq_true rfl, Nat.le_of_ble_eq_true rfl⟩ ⟨Nat.zero_le _, Nat.zero_le _⟩ (fun r8 H4 locs hp4 hT4 hS4 hk4 => ?_)
          have hp4 : r8 = (-1) := hp4
          subst hp4
          exact hret _ _ _ _ _ hT4 hS4 rfl dX10_event_44
        · skip
          refine lv_aload_n hx hb dX10_event_19 rfl (lv_at hl 0 rfl) ?_
          refine lv_iconst (v := 1) hx hb dX10_event_20 (by decide) ?_
          refine h_callVi (T := TX10) (rest := []) (As := [.int 1]) hx hb hml hown hts hK hT0 (fun _ h => h) hS0 (c_X10_fail l G Y (o) hW 1) trivial wd_X10_fail wV_X10_fail wL_X10_66 (on_w0 hW) rfl rfl hl.1 rfl (Nat.le_of_ble_eq_true rfl) dX10_event_21 ⟨Nat.le_of_ble_eq_true rfl, Nat.le_of_ble_eq_true rfl⟩ ⟨Nat.zero_le _, Nat.zero_le _⟩ (fun r9 H5 locs hp5 hT5 hS5 hk5 => ?_)
          have hp5 : r9 = (-1) := hp5
          subst hp5
          exact hret _ _ _ _ _ hT5 hS5 rfl dX10_event_24
set_option maxHeartbeats 4000000 in
set_option maxRecDepth 100000 in
theorem c_X10_ranks (l : Launch) (G : hG) (Y : hW) (o : Nat) (hW : h_On Y o (wldE tF o)) (u1 u2 : Int32) : hMi l yX10_ranks cX10_ranks 3 (some .int) 1 24 G Y [.ref (o), .int u1, .int u2] (fun H => True) (fun H r H1 => (((0 ≤ u1.toInt ∧ u1.toInt ≤ 7) ∧ (0 ≤ u2.toInt ∧ u2.toInt ≤ 2)) → r = 0) ∧ (¬ ((0 ≤ u1.toInt ∧ u1.toInt ≤ 7) ∧ (0 ≤ u2.toInt ∧ u2.toInt ≤ 2)) → r = -1)) := by
  refine h_ofi (by decide +kernel) (Nat.le_of_ble_eq_true rfl) ?_
  intro p e s m args below meth c H0 ls Q hx hb hts hown hml hK hT0 hpr hS0 hl hret
  have hl : lv_has ls 3 [(0, .ref (o)), (1, .int u1), (2, .int u2)] := hl
  refine lv_iload_n hx hb dX10_ranks_0 rfl (lv_at hl 1 rfl) ?_
  refine lv_if_lt (tgt := 19) hx hb dX10_ranks_1 (by decide) (fun c1 => ?_) (fun c1 => ?_)
  · skip
    refine lv_aload_n hx hb dX10_ranks_19 rfl (lv_at hl 0 rfl) ?_
    refine lv_iconst (v := 1) hx hb dX10_ranks_20 (by decide) ?_
    refine h_callVi (T := TX10) (rest := []) (As := [.int 1]) hx hb hml hown hts hK hT0 (fun _ h => h) hS0 (c_X10_fail l G Y (o) hW 1) trivial wd_X10_fail wV_X10_fail wL_X10_66 (on_w0 hW) rfl rfl hl.1 rfl (Nat.le_of_ble_eq_true rfl) dX10_ranks_21 ⟨Nat.le_of_ble_eq_true rfl, Nat.le_of_ble_eq_true rfl⟩ ⟨Nat.zero_le _, Nat.zero_le _⟩ (fun r2 H1 locs hp1 hT1 hS1 hk1 => ?_)
    have hp1 : r2 = (-1) := hp1
    subst hp1
    exact hret _ _ _ _ _ hT1 hS1 (by refine ⟨fun h => ?_, fun h => ?_⟩ <;> first | rfl | exact absurd h (by decide) | (exfalso; simp only [Int32.lt_iff_toInt_lt, Int32.le_iff_toInt_le, ← Int32.toInt_inj, Int32.reduceToInt, (show (-1 : Int32).toInt = -1 from rfl)] at c1 <;> omega)) dX10_ranks_24
  · skip
    refine lv_iload_n hx hb dX10_ranks_4 rfl (lv_at hl 1 rfl) ?_
    refine lv_bipush (v := 8) hx hb dX10_ranks_5 (by decide) ?_
    refine lv_icmp_ge (tgt := 19) hx hb dX10_ranks_7 (by decide) (fun c3 => ?_) (fun c3 => ?_)
    · skip
      refine lv_aload_n hx hb dX10_ranks_19 rfl (lv_at hl 0 rfl) ?_
      refine lv_iconst (v := 1) hx hb dX10_ranks_20 (by decide) ?_
      refine h_callVi (T := TX10) (rest := []) (As := [.int 1]) hx hb hml hown hts hK hT0 (fun _ h => h) hS0 (c_X10_fail l G Y (o) hW 1) trivial wd_X10_fail wV_X10_fail wL_X10_66 (on_w0 hW) rfl rfl hl.1 rfl (Nat.le_of_ble_eq_true rfl) dX10_ranks_21 ⟨Nat.le_of_ble_eq_true rfl, Nat.le_of_ble_eq_true rfl⟩ ⟨Nat.zero_le _, Nat.zero_le _⟩ (fun r4 H2 locs hp2 hT2 hS2 hk2 => ?_)
      have hp2 : r4 = (-1) := hp2
      subst hp2
      exact hret _ _ _ _ _ hT2 hS2 (by refine ⟨fun h => ?_, fun h => ?_⟩ <;> first | rfl | exact absurd h (by decide) | (exfalso; simp only [Int32.lt_iff_toInt_lt, Int32.le_iff_toInt_le, ← Int32.toInt_inj, Int32.reduceToInt, (show (-1 : Int32).toInt = -1 from rfl)] at c1 c3 <;> omega)) dX10_ranks_24
    · skip
      refine lv_iload_n hx hb dX10_ranks_10 rfl (lv_at hl 2 rfl) ?_
      refine lv_if_lt (tgt := 19) hx hb dX10_ranks_11 (by decide) (fun c5 => ?_) (fun c5 => ?_)
      · skip
        refine lv_aload_n hx hb dX10_ranks_19 rfl (lv_at hl 0 rfl) ?_
        refine lv_iconst (v := 1) hx hb dX10_ranks_20 (by decide) ?_
        refine h_callVi (T := TX10) (rest := []) (As := [.int 1]) hx hb hml hown hts hK hT0 (fun _ h => h) hS0 (c_X10_fail l G Y (o) hW 1) trivial wd_X10_fail wV_X10_fail wL_X10_66 (on_w0 hW) rfl rfl hl.1 rfl (Nat.le_of_ble_eq_true rfl) dX10_ranks_21 ⟨Nat.le_of_ble_eq_true rfl, Nat.le_of_ble_eq_true rfl⟩ ⟨Nat.zero_le _, Nat.zero_le _⟩ (fun r6 H3 locs hp3 hT3 hS3 hk3 => ?_)
        have hp3 : r6 = (-1) := hp3
        subst hp3
        exact hret _ _ _ _ _ hT3 hS3 (by refine ⟨fun h => ?_, fun h => ?_⟩ <;> first | rfl | exact absurd h (by decide) | (exfalso; simp only [Int32.lt_iff_toInt_lt, Int32.le_iff_toInt_le, ← Int32.toInt_inj, Int32.reduceToInt, (show (-1 : Int32).toInt = -1 from rfl)] at c1 c3 c5 <;> omega)) dX10_ranks_24
      · skip
        refine lv_iload_n hx hb dX10_ranks_14 rfl (lv_at hl 2 rfl) ?_
        refine lv_iconst (v := 2) hx hb dX10_ranks_15 (by decide) ?_
        refine lv_icmp_le (tgt := 25) hx hb dX10_ranks_16 (by decide) (fun c7 => ?_) (fun c7 => ?_)
        · skip
          refine lv_iload_n hx hb dX10_ranks_25 rfl (lv_at hl 2 rfl) ?_
          refine lv_if_ne (tgt := 45) hx hb dX10_ranks_26 (by decide) (fun c8 => ?_) (fun c8 => ?_)
          · skip
            refine lv_aload_n hx hb dX10_ranks_45 rfl (lv_at hl 0 rfl) ?_
            refine lv_iload_n hx hb dX10_ranks_46 rfl (lv_at hl 2 rfl) ?_
            refine lv_iconst (v := 1) hx hb dX10_ranks_47 (by decide) ?_
            refine lv_icmp_ne (tgt := 65) hx hb dX10_ranks_48 (by decide) (fun c9 => ?_) (fun c9 => ?_)
            · skip
              refine lv_aload_n hx hb dX10_ranks_65 rfl (lv_at hl 0 rfl) ?_
              refine h_getr (C := RX10) (T := TX10) (N := 9) hx hb hts inX10 hown hK hT0 (on_w0 hW) rfl 1 rfl wF_X10_19 rfl dX10_ranks_66 ?_
              refine h_getr (C := RX5) (T := TX5) (N := 11) hx hb hts inX5 hown hK hT0 (on_rg (on_wr hW)) rfl 5 rfl wF_X10_180 rfl dX10_ranks_69 ?_
              refine lv_iload_n hx hb dX10_ranks_72 rfl (lv_at hl 1 rfl) ?_
              refine h_callVi (T := TX0) (rest := [.ref (o)]) (As := [.int u1]) hx hb hml hown hts hK hT0 (fun _ h => h) hS0 (c_X0_agesOf l G Y (o + 3 + 19) (on_bo (on_wr hW)) u1) trivial wd_X0_agesOf wV_X0_agesOf wL_X10_219 ((on_bo (on_wr hW)).o rfl) rfl rfl hl.1 rfl (Nat.le_of_ble_eq_true rfl) dX10_ranks_73 ⟨Nat.le_of_ble_eq_true rfl, Nat.le_of_ble_eq_true rfl⟩ ⟨Nat.zero_le _, Nat.zero_le _⟩ (fun r10 H4 locs hp4 hT4 hS4 hk4 => ?_)
              obtain ⟨hp4, he⟩ := hp4
              have he := he.symm
              subst he
              have hp4 : r10 = 0 := hp4
              subst hp4
              refine h_callVi (T := TX10) (rest := []) (As := [.int 0]) hx hb hml hown hts hK hT0 (fun _ h => h) hS4 (c_X10_give l G Y (o) hW 0) trivial wd_X10_give wV_X10_give wL_X10_95 (on_w0 hW) rfl rfl hl.1 rfl (Nat.le_of_ble_eq_true rfl) dX10_ranks_76 ⟨Nat.le_of_ble_eq_true rfl, Nat.le_of_ble_eq_true rfl⟩ ⟨Nat.zero_le _, Nat.zero_le _⟩ (fun r11 H5 locs hp5 hT5 hS5 hk5 => ?_)
              have hp5 : r11 = 0 := hp5
              subst hp5
              exact hret _ _ _ _ _ hT5 hS5 (by refine ⟨fun h => ?_, fun h => ?_⟩ <;> first | rfl | exact absurd h (by decide) | (exfalso; simp only [Int32.lt_iff_toInt_lt, Int32.le_iff_toInt_le, ← Int32.toInt_inj, Int32.reduceToInt, (show (-1 : Int32).toInt = -1 from rfl)] at c1 c3 c5 c7 c8 c9 <;> omega)) dX10_ranks_79
            · skip
              refine lv_aload_n hx hb dX10_ranks_51 rfl (lv_at hl 0 rfl) ?_
              refine h_getr (C := RX10) (T := TX10) (N := 9) hx hb hts inX10 hown hK hT0 (on_w0 hW) rfl 1 rfl wF_X10_19 rfl dX10_ranks_52 ?_
              refine h_getr (C := RX5) (T := TX5) (N := 11) hx hb hts inX5 hown hK hT0 (on_rg (on_wr hW)) rfl 5 rfl wF_X10_180 rfl dX10_ranks_55 ?_
              refine lv_iload_n hx hb dX10_ranks_58 rfl (lv_at hl 1 rfl) ?_
              refine h_callVi (T := TX0) (rest := [.ref (o)]) (As := [.int u1]) hx hb hml hown hts hK hT0 (fun _ h => h) hS0 (c_X0_gotOf l G Y (o + 3 + 19) (on_bo (on_wr hW)) u1) trivial wd_X0_gotOf wV_X0_gotOf wL_X10_216 ((on_bo (on_wr hW)).o rfl) rfl rfl hl.1 rfl (Nat.le_of_ble_eq_true rfl) dX10_ranks_59 ⟨Nat.le_of_ble_eq_true rfl, Nat.le_of_ble_eq_true rfl⟩ ⟨Nat.zero_le _, Nat.zero_le _⟩ (fun r12 H6 locs hp6 hT6 hS6 hk6 => ?_)
              obtain ⟨hp6, he⟩ := hp6
              have he := he.symm
              subst he
              have hp6 : r12 = 0 := hp6
              subst hp6
              refine lv_goto (tgt := 76) hx hb dX10_ranks_62 (by decide) ?_
              refine h_callVi (T := TX10) (rest := []) (As := [.int 0]) hx hb hml hown hts hK hT0 (fun _ h => h) hS6 (c_X10_give l G Y (o) hW 0) trivial wd_X10_give wV_X10_give wL_X10_95 (on_w0 hW) rfl rfl hl.1 rfl (Nat.le_of_ble_eq_true rfl) dX10_ranks_76 ⟨Nat.le_of_ble_eq_true rfl, Nat.le_of_ble_eq_true rfl⟩ ⟨Nat.zero_le _, Nat.zero_le _⟩ (fun r13 H7 locs hp7 hT7 hS7 hk7 => ?_)
              have hp7 : r13 = 0 := hp7
              subst hp7
              exact hret _ _ _ _ _ hT7 hS7 (by refine ⟨fun h => ?_, fun h => ?_⟩ <;> first | rfl | exact absurd h (by decide) | (exfalso; simp only [Int32.lt_iff_toInt_lt, Int32.le_iff_toInt_le, ← Int32.toInt_inj, Int32.reduceToInt, (show (-1 : Int32).toInt = -1 from rfl)] at c1 c3 c5 c7 c8 c9 <;> omega)) dX10_ranks_79
          · skip
            refine lv_aload_n hx hb dX10_ranks_29 rfl (lv_at hl 0 rfl) ?_
            refine lv_aload_n hx hb dX10_ranks_30 rfl (lv_at hl 0 rfl) ?_
            refine h_getr (C := RX10) (T := TX10) (N := 9) hx hb hts inX10 hown hK hT0 (on_w0 hW) rfl 1 rfl wF_X10_19 rfl dX10_ranks_31 ?_
            refine h_getr (C := RX5) (T := TX5) (N := 11) hx hb hts inX5 hown hK hT0 (on_rg (on_wr hW)) rfl 1 rfl wF_X10_105 rfl dX10_ranks_34 ?_
            refine lv_iload_n hx hb dX10_ranks_37 rfl (lv_at hl 1 rfl) ?_
            refine h_callVi (T := TX2) (rest := [.ref (o)]) (As := [.int u1]) hx hb hml hown hts hK hT0 (fun _ h => h) hS0 (c_X2_totalOf l G Y (o + 3 + 7) (on_qu (on_wr hW)) u1) trivial wd_X2_totalOf wV_X2_totalOf wL_X10_213 ((on_qu (on_wr hW)).o rfl) rfl rfl hl.1 rfl (Nat.le_of_ble_eq_true rfl) dX10_ranks_38 ⟨Nat.le_of_ble_eq_true rfl, Nat.le_of_ble_eq_true rfl⟩ ⟨Nat.zero_le _, Nat.zero_le _⟩ (fun r14 H8 locs hp8 hT8 hS8 hk8 => ?_)
            obtain ⟨hp8, he⟩ := hp8
            have he := he.symm
            subst he
            have hp8 : r14 = 0 := hp8
            subst hp8
            refine h_callVi (T := TX10) (rest := []) (As := [.int 0]) hx hb hml hown hts hK hT0 (fun _ h => h) hS8 (c_X10_give l G Y (o) hW 0) trivial wd_X10_give wV_X10_give wL_X10_95 (on_w0 hW) rfl rfl hl.1 rfl (Nat.le_of_ble_eq_true rfl) dX10_ranks_41 ⟨Nat.le_of_ble_eq_true rfl, Nat.le_of_ble_eq_true rfl⟩ ⟨Nat.zero_le _, Nat.zero_le _⟩ (fun r15 H9 locs hp9 hT9 hS9 hk9 => ?_)
            have hp9 : r15 = 0 := hp9
            subst hp9
            exact hret _ _ _ _ _ hT9 hS9 (by refine ⟨fun h => ?_, fun h => ?_⟩ <;> first | rfl | exact absurd h (by decide) | (exfalso; simp only [Int32.lt_iff_toInt_lt, Int32.le_iff_toInt_le, ← Int32.toInt_inj, Int32.reduceToInt, (show (-1 : Int32).toInt = -1 from rfl)] at c1 c3 c5 c7 c8 <;> omega)) dX10_ranks_44
        · skip
          refine lv_aload_n hx hb dX10_ranks_19 rfl (lv_at hl 0 rfl) ?_
          refine lv_iconst (v := 1) hx hb dX10_ranks_20 (by decide) ?_
          refine h_callVi (T := TX10) (rest := []) (As := [.int 1]) hx hb hml hown hts hK hT0 (fun _ h => h) hS0 (c_X10_fail l G Y (o) hW 1) trivial wd_X10_fail wV_X10_fail wL_X10_66 (on_w0 hW) rfl rfl hl.1 rfl (Nat.le_of_ble_eq_true rfl) dX10_ranks_21 ⟨Nat.le_of_ble_eq_true rfl, Nat.le_of_ble_eq_true rfl⟩ ⟨Nat.zero_le _, Nat.zero_le _⟩ (fun r16 H10 locs hp10 hT10 hS10 hk10 => ?_)
          have hp10 : r16 = (-1) := hp10
          subst hp10
          exact hret _ _ _ _ _ hT10 hS10 (by refine ⟨fun h => ?_, fun h => ?_⟩ <;> first | rfl | exact absurd h (by decide) | (exfalso; simp only [Int32.lt_iff_toInt_lt, Int32.le_iff_toInt_le, ← Int32.toInt_inj, Int32.reduceToInt, (show (-1 : Int32).toInt = -1 from rfl)] at c1 c3 c5 c7 <;> omega)) dX10_ranks_24
set_option maxHeartbeats 4000000 in
set_option maxRecDepth 100000 in
theorem c_X10_hops (l : Launch) (G : hG) (Y : hW) (o : Nat) (hW : h_On Y o (wldE tF o)) (u1 u2 : Int32) : hMi l yX10_hops cX10_hops 4 (some .int) 1 21 G Y [.ref (o), .int u1, .int u2] (fun H => True) (fun H r H1 => r = (-1)) := by
  refine h_ofi (by decide +kernel) (Nat.le_of_ble_eq_true rfl) ?_
  intro p e s m args below meth c H0 ls Q hx hb hts hown hml hK hT0 hpr hS0 hl hret
  have hl : lv_has ls 4 [(0, .ref (o)), (1, .int u1), (2, .int u2)] := hl
  refine lv_aload_n hx hb dX10_hops_0 rfl (lv_at hl 0 rfl) ?_
  refine h_getr (C := RX10) (T := TX10) (N := 9) hx hb hts inX10 hown hK hT0 (on_w0 hW) rfl 1 rfl wF_X10_19 rfl dX10_hops_1 ?_
  refine h_getr (C := RX5) (T := TX5) (N := 11) hx hb hts inX5 hown hK hT0 (on_rg (on_wr hW)) rfl 0 rfl wF_X10_86 rfl dX10_hops_4 ?_
  refine lv_astore_n (lv' := [(3, .ref (o + 3 + 1)), (0, .ref (o)), (1, .int u1), (2, .int u2)]) hx hb dX10_hops_7 rfl hl (by decide) rfl (fun ls hl => ?_)
  refine lv_aload_n hx hb dX10_hops_8 rfl (lv_at hl 0 rfl) ?_
  refine lv_iload_n hx hb dX10_hops_9 rfl (lv_at hl 2 rfl) ?_
  refine h_callVi (T := TX7) (rest := []) (As := [.int u1]) hx hb hml hown hts hK hT0 (fun _ h => h) hS0 (c_X7_exists l G Y (o + 3 + 1) (on_st (on_wr hW)) u1) trivial wd_X7_exists wV_X7_exists wL_X10_146 ((on_st (on_wr hW)).o rfl) rfl rfl hl.1 rfl (Nat.le_of_ble_eq_true rfl) dX10_hops_10 ⟨Nat.le_of_ble_eq_true rfl, Nat.le_of_ble_eq_true rfl⟩ ⟨Nat.zero_le _, Nat.zero_le _⟩ (fun r1 H1 locs hp1 hT1 hS1 hk1 => ?_)
  obtain ⟨hp1, he⟩ := hp1
  have he := he.symm
  subst he
  have hp1 : r1 = 0 := hp1
  subst hp1
  refine lv_if_eq (tgt := 24) hx hb dX10_hops_13 (by decide) (fun _ => ?_) (fun h => absurd (by decide) h)
  refine lv_aload_n hx hb dX10_hops_24 rfl (lv_at hl 1 rfl) ?_
  refine lv_iconst (v := 2) hx hb dX10_hops_25 (by decide) ?_
  refine h_callVi (T := TX10) (rest := []) (As := [.int 2]) hx hb hml hown hts hK hT0 (fun _ h => h) hS1 (c_X10_fail l G Y (o) hW 2) trivial wd_X10_fail wV_X10_fail wL_X10_66 (on_w0 hW) rfl rfl hl.1 rfl (Nat.le_of_ble_eq_true rfl) dX10_hops_26 ⟨Nat.le_of_ble_eq_true rfl, Nat.le_of_ble_eq_true rfl⟩ ⟨Nat.zero_le _, Nat.zero_le _⟩ (fun r3 H2 locs hp2 hT2 hS2 hk2 => ?_)
  have hp2 : r3 = (-1) := hp2
  subst hp2
  exact hret _ _ _ _ _ hT2 hS2 rfl dX10_hops_29
set_option maxHeartbeats 4000000 in
set_option maxRecDepth 100000 in
theorem c_X10_heir (l : Launch) (G : hG) (Y : hW) (o : Nat) (hW : h_On Y o (wldE tF o)) : hMi l yX10_heir cX10_heir 2 (some .int) 1 23 G Y [.ref (o)] (fun H => True) (fun H r H1 => r = (-1)) := by
  refine h_ofi (by decide +kernel) (Nat.le_of_ble_eq_true rfl) ?_
  intro p e s m args below meth c H0 ls Q hx hb hts hown hml hK hT0 hpr hS0 hl hret
  have hl : lv_has ls 2 [(0, .ref (o))] := hl
  refine lv_aload_n hx hb dX10_heir_0 rfl (lv_at hl 0 rfl) ?_
  refine h_getr (C := RX10) (T := TX10) (N := 9) hx hb hts inX10 hown hK hT0 (on_w0 hW) rfl 1 rfl wF_X10_19 rfl dX10_heir_1 ?_
  refine h_getr (C := RX5) (T := TX5) (N := 11) hx hb hts inX5 hown hK hT0 (on_rg (on_wr hW)) rfl 0 rfl wF_X10_86 rfl dX10_heir_4 ?_
  refine h_callVi (T := TX7) (rest := []) (As := []) hx hb hml hown hts hK hT0 (fun _ h => h) hS0 (c_X7_greatestOn l G Y (o + 3 + 1) (on_st (on_wr hW))) trivial wd_X7_greatestOn wV_X7_greatestOn wL_X10_232 ((on_st (on_wr hW)).o rfl) rfl rfl hl.1 rfl (Nat.le_of_ble_eq_true rfl) dX10_heir_7 ⟨Nat.le_of_ble_eq_true rfl, Nat.le_of_ble_eq_true rfl⟩ ⟨Nat.zero_le _, Nat.zero_le _⟩ (fun r1 H1 locs hp1 hT1 hS1 hk1 => ?_)
  obtain ⟨hp1, he⟩ := hp1
  have he := he.symm
  subst he
  have hp1 : r1 = (-1) := hp1
  subst hp1
  refine lv_istore_n (lv' := [(1, .int (-1)), (0, .ref (o))]) hx hb dX10_heir_10 rfl hl (by decide) rfl (fun ls hl => ?_)
  refine lv_iload_n hx hb dX10_heir_11 rfl (lv_at hl 0 rfl) ?_
  refine lv_iconst (v := (-1)) hx hb dX10_heir_12 (by decide) ?_
  refine lv_icmp_ne (tgt := 24) hx hb dX10_heir_13 (by decide) (fun h => absurd (by decide) h) (fun _ => ?_)
  refine lv_aload_n hx hb dX10_heir_16 rfl (lv_at hl 1 rfl) ?_
  refine lv_iconst (v := 5) hx hb dX10_heir_17 (by decide) ?_
  refine h_callVi (T := TX10) (rest := []) (As := [.int 5]) hx hb hml hown hts hK hT0 (fun _ h => h) hS1 (c_X10_fail l G Y (o) hW 5) trivial wd_X10_fail wV_X10_fail wL_X10_66 (on_w0 hW) rfl rfl hl.1 rfl (Nat.le_of_ble_eq_true rfl) dX10_heir_18 ⟨Nat.le_of_ble_eq_true rfl, Nat.le_of_ble_eq_true rfl⟩ ⟨Nat.zero_le _, Nat.zero_le _⟩ (fun r3 H2 locs hp2 hT2 hS2 hk2 => ?_)
  have hp2 : r3 = (-1) := hp2
  subst hp2
  refine lv_goto (tgt := 29) hx hb dX10_heir_21 (by decide) ?_
  exact hret _ _ _ _ _ hT2 hS2 rfl dX10_heir_29
set_option maxHeartbeats 4000000 in
set_option maxRecDepth 100000 in
theorem c_X10_send (l : Launch) (G : hG) (Y : hW) (o : Nat) (hW : h_On Y o (wldE tF o)) (u1 u2 u3 : Int32) : hMi l yX10_send cX10_send 4 (some .int) 1 21 G Y [.ref (o), .int u1, .int u2, .int u3] (fun H => True) (fun H r H1 => r = (-1)) := by
  refine h_ofi (by decide +kernel) (Nat.le_of_ble_eq_true rfl) ?_
  intro p e s m args below meth c H0 ls Q hx hb hts hown hml hK hT0 hpr hS0 hl hret
  have hl : lv_has ls 4 [(0, .ref (o)), (1, .int u1), (2, .int u2), (3, .int u3)] := hl
  refine lv_iload_n hx hb dX10_send_0 rfl (lv_at hl 3 rfl) ?_
  refine lv_if_lt (tgt := 10) hx hb dX10_send_1 (by decide) (fun c1 => ?_) (fun c1 => ?_)
  · skip
    refine lv_aload_n hx hb dX10_send_10 rfl (lv_at hl 0 rfl) ?_
    refine lv_iconst (v := 1) hx hb dX10_send_11 (by decide) ?_
    refine h_callVi (T := TX10) (rest := []) (As := [.int 1]) hx hb hml hown hts hK hT0 (fun _ h => h) hS0 (c_X10_fail l G Y (o) hW 1) trivial wd_X10_fail wV_X10_fail wL_X10_66 (on_w0 hW) rfl rfl hl.1 rfl (Nat.le_of_ble_eq_true rfl) dX10_send_12 ⟨Nat.le_of_ble_eq_true rfl, Nat.le_of_ble_eq_true rfl⟩ ⟨Nat.zero_le _, Nat.zero_le _⟩ (fun r2 H1 locs hp1 hT1 hS1 hk1 => ?_)
    have hp1 : r2 = (-1) := hp1
    subst hp1
    exact hret _ _ _ _ _ hT1 hS1 rfl dX10_send_15
  · skip
    refine lv_iload_n hx hb dX10_send_4 rfl (lv_at hl 3 rfl) ?_
    refine lv_bipush (v := 8) hx hb dX10_send_5 (by decide) ?_
    refine lv_icmp_lt (tgt := 16) hx hb dX10_send_7 (by decide) (fun c3 => ?_) (fun c3 => ?_)
    · skip
      refine lv_aload_n hx hb dX10_send_16 rfl (lv_at hl 0 rfl) ?_
      refine h_getr (C := RX10) (T := TX10) (N := 9) hx hb hts inX10 hown hK hT0 (on_w0 hW) rfl 1 rfl wF_X10_19 rfl dX10_send_17 ?_
      refine h_getr (C := RX5) (T := TX5) (N := 11) hx hb hts inX5 hown hK hT0 (on_rg (on_wr hW)) rfl 0 rfl wF_X10_86 rfl dX10_send_20 ?_
      refine lv_iload_n hx hb dX10_send_23 rfl (lv_at hl 1 rfl) ?_
      refine h_callVi (T := TX7) (rest := []) (As := [.int u1]) hx hb hml hown hts hK hT0 (fun _ h => h) hS0 (c_X7_exists l G Y (o + 3 + 1) (on_st (on_wr hW)) u1) trivial wd_X7_exists wV_X7_exists wL_X10_146 ((on_st (on_wr hW)).o rfl) rfl rfl hl.1 rfl (Nat.le_of_ble_eq_true rfl) dX10_send_24 ⟨Nat.le_of_ble_eq_true rfl, Nat.le_of_ble_eq_true rfl⟩ ⟨Nat.zero_le _, Nat.zero_le _⟩ (fun r4 H2 locs hp2 hT2 hS2 hk2 => ?_)
      obtain ⟨hp2, he⟩ := hp2
      have he := he.symm
      subst he
      have hp2 : r4 = 0 := hp2
      subst hp2
      refine lv_if_eq (tgt := 44) hx hb dX10_send_27 (by decide) (fun _ => ?_) (fun h => absurd (by decide) h)
      refine lv_aload_n hx hb dX10_send_44 rfl (lv_at hl 0 rfl) ?_
      refine lv_iconst (v := 2) hx hb dX10_send_45 (by decide) ?_
      refine h_callVi (T := TX10) (rest := []) (As := [.int 2]) hx hb hml hown hts hK hT0 (fun _ h => h) hS2 (c_X10_fail l G Y (o) hW 2) trivial wd_X10_fail wV_X10_fail wL_X10_66 (on_w0 hW) rfl rfl hl.1 rfl (Nat.le_of_ble_eq_true rfl) dX10_send_46 ⟨Nat.le_of_ble_eq_true rfl, Nat.le_of_ble_eq_true rfl⟩ ⟨Nat.zero_le _, Nat.zero_le _⟩ (fun r6 H3 locs hp3 hT3 hS3 hk3 => ?_)
      have hp3 : r6 = (-1) := hp3
      subst hp3
      exact hret _ _ _ _ _ hT3 hS3 rfl dX10_send_49
    · skip
      refine lv_aload_n hx hb dX10_send_10 rfl (lv_at hl 0 rfl) ?_
      refine lv_iconst (v := 1) hx hb dX10_send_11 (by decide) ?_
      refine h_callVi (T := TX10) (rest := []) (As := [.int 1]) hx hb hml hown hts hK hT0 (fun _ h => h) hS0 (c_X10_fail l G Y (o) hW 1) trivial wd_X10_fail wV_X10_fail wL_X10_66 (on_w0 hW) rfl rfl hl.1 rfl (Nat.le_of_ble_eq_true rfl) dX10_send_12 ⟨Nat.le_of_ble_eq_true rfl, Nat.le_of_ble_eq_true rfl⟩ ⟨Nat.zero_le _, Nat.zero_le _⟩ (fun r7 H4 locs hp4 hT4 hS4 hk4 => ?_)
      have hp4 : r7 = (-1) := hp4
      subst hp4
      exact hret _ _ _ _ _ hT4 hS4 rfl dX10_send_15
set_option maxHeartbeats 4000000 in
set_option maxRecDepth 100000 in
theorem c_X10_take (l : Launch) (G : hG) (Y : hW) (o : Nat) (hW : h_On Y o (wldE tF o)) (u1 : Int32) : hMi l yX10_take cX10_take 3 (some .int) 1 23 G Y [.ref (o), .int u1] (fun H => True) (fun H r H1 => r = (-1)) := by
  refine h_ofi (by decide +kernel) (Nat.le_of_ble_eq_true rfl) ?_
  intro p e s m args below meth c H0 ls Q hx hb hts hown hml hK hT0 hpr hS0 hl hret
  have hl : lv_has ls 3 [(0, .ref (o)), (1, .int u1)] := hl
  refine lv_iload_n hx hb dX10_take_0 rfl (lv_at hl 1 rfl) ?_
  refine lv_if_ge (tgt := 10) hx hb dX10_take_1 (by decide) (fun c1 => ?_) (fun c1 => ?_)
  · skip
    refine lv_aload_n hx hb dX10_take_10 rfl (lv_at hl 0 rfl) ?_
    refine h_getr (C := RX10) (T := TX10) (N := 9) hx hb hts inX10 hown hK hT0 (on_w0 hW) rfl 1 rfl wF_X10_19 rfl dX10_take_11 ?_
    refine h_getr (C := RX5) (T := TX5) (N := 11) hx hb hts inX5 hown hK hT0 (on_rg (on_wr hW)) rfl 1 rfl wF_X10_105 rfl dX10_take_14 ?_
    refine lv_iload_n hx hb dX10_take_17 rfl (lv_at hl 1 rfl) ?_
    refine h_callVi (T := TX2) (rest := []) (As := [.int u1]) hx hb hml hown hts hK hT0 (fun _ h => h) hS0 (c_X2_slotOf l G Y (o + 3 + 7) (on_qu (on_wr hW)) u1) trivial wd_X2_slotOf wV_X2_slotOf wL_X10_249 ((on_qu (on_wr hW)).o rfl) rfl rfl hl.1 rfl (Nat.le_of_ble_eq_true rfl) dX10_take_18 ⟨Nat.le_of_ble_eq_true rfl, Nat.le_of_ble_eq_true rfl⟩ ⟨Nat.zero_le _, Nat.zero_le _⟩ (fun r2 H1 locs hp1 hT1 hS1 hk1 => ?_)
    obtain ⟨hp1, he⟩ := hp1
    have he := he.symm
    subst he
    have hp1 : r2 = (-1) := hp1
    subst hp1
    refine lv_istore_n (lv' := [(2, .int (-1)), (0, .ref (o)), (1, .int u1)]) hx hb dX10_take_21 rfl hl (by decide) rfl (fun ls hl => ?_)
    refine lv_iload_n hx hb dX10_take_22 rfl (lv_at hl 0 rfl) ?_
    refine lv_iconst (v := (-1)) hx hb dX10_take_23 (by decide) ?_
    refine lv_icmp_ne (tgt := 33) hx hb dX10_take_24 (by decide) (fun h => absurd (by decide) h) (fun _ => ?_)
    refine lv_aload_n hx hb dX10_take_27 rfl (lv_at hl 1 rfl) ?_
    refine lv_iconst (v := 5) hx hb dX10_take_28 (by decide) ?_
    refine h_callVi (T := TX10) (rest := []) (As := [.int 5]) hx hb hml hown hts hK hT0 (fun _ h => h) hS1 (c_X10_fail l G Y (o) hW 5) trivial wd_X10_fail wV_X10_fail wL_X10_66 (on_w0 hW) rfl rfl hl.1 rfl (Nat.le_of_ble_eq_true rfl) dX10_take_29 ⟨Nat.le_of_ble_eq_true rfl, Nat.le_of_ble_eq_true rfl⟩ ⟨Nat.zero_le _, Nat.zero_le _⟩ (fun r4 H2 locs hp2 hT2 hS2 hk2 => ?_)
    have hp2 : r4 = (-1) := hp2
    subst hp2
    exact hret _ _ _ _ _ hT2 hS2 rfl dX10_take_32
  · skip
    refine lv_aload_n hx hb dX10_take_4 rfl (lv_at hl 0 rfl) ?_
    refine lv_iconst (v := 1) hx hb dX10_take_5 (by decide) ?_
    refine h_callVi (T := TX10) (rest := []) (As := [.int 1]) hx hb hml hown hts hK hT0 (fun _ h => h) hS0 (c_X10_fail l G Y (o) hW 1) trivial wd_X10_fail wV_X10_fail wL_X10_66 (on_w0 hW) rfl rfl hl.1 rfl (Nat.le_of_ble_eq_true rfl) dX10_take_6 ⟨Nat.le_of_ble_eq_true rfl, Nat.le_of_ble_eq_true rfl⟩ ⟨Nat.zero_le _, Nat.zero_le _⟩ (fun r5 H3 locs hp3 hT3 hS3 hk3 => ?_)
    have hp3 : r5 = (-1) := hp3
    subst hp3
    exact hret _ _ _ _ _ hT3 hS3 rfl dX10_take_9
set_option maxHeartbeats 4000000 in
set_option maxRecDepth 100000 in
theorem c_X10_shed (l : Launch) (G : hG) (Y : hW) (o : Nat) (hW : h_On Y o (wldE tF o)) (u1 u2 : Int32) : hMi l yX10_shed cX10_shed 3 (some .int) 1 21 G Y [.ref (o), .int u1, .int u2] (fun H => True) (fun H r H1 => r = (-1)) := by
  refine h_ofi (by decide +kernel) (Nat.le_of_ble_eq_true rfl) ?_
  intro p e s m args below meth c H0 ls Q hx hb hts hown hml hK hT0 hpr hS0 hl hret
  have hl : lv_has ls 3 [(0, .ref (o)), (1, .int u1), (2, .int u2)] := hl
  refine lv_iload_n hx hb dX10_shed_0 rfl (lv_at hl 2 rfl) ?_
  refine lv_if_lt (tgt := 10) hx hb dX10_shed_1 (by decide) (fun c1 => ?_) (fun c1 => ?_)
  · skip
    refine lv_aload_n hx hb dX10_shed_10 rfl (lv_at hl 0 rfl) ?_
    refine lv_iconst (v := 1) hx hb dX10_shed_11 (by decide) ?_
    refine h_callVi (T := TX10) (rest := []) (As := [.int 1]) hx hb hml hown hts hK hT0 (fun _ h => h) hS0 (c_X10_fail l G Y (o) hW 1) trivial wd_X10_fail wV_X10_fail wL_X10_66 (on_w0 hW) rfl rfl hl.1 rfl (Nat.le_of_ble_eq_true rfl) dX10_shed_12 ⟨Nat.le_of_ble_eq_true rfl, Nat.le_of_ble_eq_true rfl⟩ ⟨Nat.zero_le _, Nat.zero_le _⟩ (fun r2 H1 locs hp1 hT1 hS1 hk1 => ?_)
    have hp1 : r2 = (-1) := hp1
    subst hp1
    exact hret _ _ _ _ _ hT1 hS1 rfl dX10_shed_15
  · skip
    refine lv_iload_n hx hb dX10_shed_4 rfl (lv_at hl 2 rfl) ?_
    refine lv_bipush (v := 8) hx hb dX10_shed_5 (by decide) ?_
    refine lv_icmp_le (tgt := 16) hx hb dX10_shed_7 (by decide) (fun c3 => ?_) (fun c3 => ?_)
    · skip
      refine lv_aload_n hx hb dX10_shed_16 rfl (lv_at hl 0 rfl) ?_
      refine h_getr (C := RX10) (T := TX10) (N := 9) hx hb hts inX10 hown hK hT0 (on_w0 hW) rfl 1 rfl wF_X10_19 rfl dX10_shed_17 ?_
      refine h_getr (C := RX5) (T := TX5) (N := 11) hx hb hts inX5 hown hK hT0 (on_rg (on_wr hW)) rfl 0 rfl wF_X10_86 rfl dX10_shed_20 ?_
      refine lv_iload_n hx hb dX10_shed_23 rfl (lv_at hl 1 rfl) ?_
      refine h_callVi (T := TX7) (rest := []) (As := [.int u1]) hx hb hml hown hts hK hT0 (fun _ h => h) hS0 (c_X7_exists l G Y (o + 3 + 1) (on_st (on_wr hW)) u1) trivial wd_X7_exists wV_X7_exists wL_X10_146 ((on_st (on_wr hW)).o rfl) rfl rfl hl.1 rfl (Nat.le_of_ble_eq_true rfl) dX10_shed_24 ⟨Nat.le_of_ble_eq_true rfl, Nat.le_of_ble_eq_true rfl⟩ ⟨Nat.zero_le _, Nat.zero_le _⟩ (fun r4 H2 locs hp2 hT2 hS2 hk2 => ?_)
      obtain ⟨hp2, he⟩ := hp2
      have he := he.symm
      subst he
      have hp2 : r4 = 0 := hp2
      subst hp2
      refine lv_if_ne (tgt := 36) hx hb dX10_shed_27 (by decide) (fun h => absurd (by decide) h) (fun _ => ?_)
      refine lv_aload_n hx hb dX10_shed_30 rfl (lv_at hl 0 rfl) ?_
      refine lv_iconst (v := 2) hx hb dX10_shed_31 (by decide) ?_
      refine h_callVi (T := TX10) (rest := []) (As := [.int 2]) hx hb hml hown hts hK hT0 (fun _ h => h) hS2 (c_X10_fail l G Y (o) hW 2) trivial wd_X10_fail wV_X10_fail wL_X10_66 (on_w0 hW) rfl rfl hl.1 rfl (Nat.le_of_ble_eq_true rfl) dX10_shed_32 ⟨Nat.le_of_ble_eq_true rfl, Nat.le_of_ble_eq_true rfl⟩ ⟨Nat.zero_le _, Nat.zero_le _⟩ (fun r6 H3 locs hp3 hT3 hS3 hk3 => ?_)
      have hp3 : r6 = (-1) := hp3
      subst hp3
      exact hret _ _ _ _ _ hT3 hS3 rfl dX10_shed_35
    · skip
      refine lv_aload_n hx hb dX10_shed_10 rfl (lv_at hl 0 rfl) ?_
      refine lv_iconst (v := 1) hx hb dX10_shed_11 (by decide) ?_
      refine h_callVi (T := TX10) (rest := []) (As := [.int 1]) hx hb hml hown hts hK hT0 (fun _ h => h) hS0 (c_X10_fail l G Y (o) hW 1) trivial wd_X10_fail wV_X10_fail wL_X10_66 (on_w0 hW) rfl rfl hl.1 rfl (Nat.le_of_ble_eq_true rfl) dX10_shed_12 ⟨Nat.le_of_ble_eq_true rfl, Nat.le_of_ble_eq_true rfl⟩ ⟨Nat.zero_le _, Nat.zero_le _⟩ (fun r7 H4 locs hp4 hT4 hS4 hk4 => ?_)
      have hp4 : r7 = (-1) := hp4
      subst hp4
      exact hret _ _ _ _ _ hT4 hS4 rfl dX10_shed_15
set_option maxHeartbeats 4000000 in
set_option maxRecDepth 100000 in
theorem c_X10_off (l : Launch) (G : hG) (Y : hW) (o : Nat) (hW : h_On Y o (wldE tF o)) (u1 : Int32) : hMi l yX10_off cX10_off 2 (some .boolean) 1 21 G Y [.ref (o), .int u1] (fun H => True) (fun H r H1 => r = 0) := by
  refine h_ofz (by decide +kernel) (Nat.le_of_ble_eq_true rfl) ?_
  intro p e s m args below meth c H0 ls Q hx hb hts hown hml hK hT0 hpr hS0 hl hret
  have hl : lv_has ls 2 [(0, .ref (o)), (1, .int u1)] := hl
  refine lv_aload_n hx hb dX10_off_0 rfl (lv_at hl 0 rfl) ?_
  refine h_getr (C := RX10) (T := TX10) (N := 9) hx hb hts inX10 hown hK hT0 (on_w0 hW) rfl 1 rfl wF_X10_19 rfl dX10_off_1 ?_
  refine h_getr (C := RX5) (T := TX5) (N := 11) hx hb hts inX5 hown hK hT0 (on_rg (on_wr hW)) rfl 0 rfl wF_X10_86 rfl dX10_off_4 ?_
  refine lv_iload_n hx hb dX10_off_7 rfl (lv_at hl 1 rfl) ?_
  refine h_callVi (T := TX7) (rest := []) (As := [.int u1]) hx hb hml hown hts hK hT0 (fun _ h => h) hS0 (c_X7_exists l G Y (o + 3 + 1) (on_st (on_wr hW)) u1) trivial wd_X7_exists wV_X7_exists wL_X10_146 ((on_st (on_wr hW)).o rfl) rfl rfl hl.1 rfl (Nat.le_of_ble_eq_true rfl) dX10_off_8 ⟨Nat.le_of_ble_eq_true rfl, Nat.le_of_ble_eq_true rfl⟩ ⟨Nat.zero_le _, Nat.zero_le _⟩ (fun r1 H1 locs hp1 hT1 hS1 hk1 => ?_)
  obtain ⟨hp1, he⟩ := hp1
  have he := he.symm
  subst he
  have hp1 : r1 = 0 := hp1
  subst hp1
  refine lv_if_ne (tgt := 20) hx hb dX10_off_11 (by decide) (fun h => absurd (by decide) h) (fun _ => ?_)
  refine lv_aload_n hx hb dX10_off_14 rfl (lv_at hl 0 rfl) ?_
  refine lv_iconst (v := 2) hx hb dX10_off_15 (by decide) ?_
  refine h_callVi (T := TX10) (rest := []) (As := [.int 2]) hx hb hml hown hts hK hT0 (fun _ h => h) hS1 (c_X10_refuse l G Y (o) hW 2) trivial wd_X10_refuse wV_X10_refuse wL_X10_258 (on_w0 hW) rfl rfl hl.1 rfl (Nat.le_of_ble_eq_true rfl) dX10_off_16 ⟨Nat.le_of_ble_eq_true rfl, Nat.le_of_ble_eq_true rfl⟩ ⟨Nat.zero_le _, Nat.zero_le _⟩ (fun r3 H2 locs hp2 hT2 hS2 hk2 => ?_)
  have hp2 : r3 = 0 := hp2
  subst hp2
  exact hret _ _ _ _ _ hT2 hS2 ⟨by decide, rfl⟩ dX10_off_19
set_option maxHeartbeats 4000000 in
set_option maxRecDepth 100000 in
theorem c_X10_on (l : Launch) (G : hG) (Y : hW) (o : Nat) (hW : h_On Y o (wldE tF o)) (u1 : Int32) : hMi l yX10_on cX10_on 2 (some .boolean) 1 21 G Y [.ref (o), .int u1] (fun H => True) (fun H r H1 => r = 0) := by
  refine h_ofz (by decide +kernel) (Nat.le_of_ble_eq_true rfl) ?_
  intro p e s m args below meth c H0 ls Q hx hb hts hown hml hK hT0 hpr hS0 hl hret
  have hl : lv_has ls 2 [(0, .ref (o)), (1, .int u1)] := hl
  refine lv_aload_n hx hb dX10_on_0 rfl (lv_at hl 0 rfl) ?_
  refine h_getr (C := RX10) (T := TX10) (N := 9) hx hb hts inX10 hown hK hT0 (on_w0 hW) rfl 1 rfl wF_X10_19 rfl dX10_on_1 ?_
  refine h_getr (C := RX5) (T := TX5) (N := 11) hx hb hts inX5 hown hK hT0 (on_rg (on_wr hW)) rfl 0 rfl wF_X10_86 rfl dX10_on_4 ?_
  refine lv_iload_n hx hb dX10_on_7 rfl (lv_at hl 1 rfl) ?_
  refine h_callVi (T := TX7) (rest := []) (As := [.int u1]) hx hb hml hown hts hK hT0 (fun _ h => h) hS0 (c_X7_exists l G Y (o + 3 + 1) (on_st (on_wr hW)) u1) trivial wd_X7_exists wV_X7_exists wL_X10_146 ((on_st (on_wr hW)).o rfl) rfl rfl hl.1 rfl (Nat.le_of_ble_eq_true rfl) dX10_on_8 ⟨Nat.le_of_ble_eq_true rfl, Nat.le_of_ble_eq_true rfl⟩ ⟨Nat.zero_le _, Nat.zero_le _⟩ (fun r1 H1 locs hp1 hT1 hS1 hk1 => ?_)
  obtain ⟨hp1, he⟩ := hp1
  have he := he.symm
  subst he
  have hp1 : r1 = 0 := hp1
  subst hp1
  refine lv_if_ne (tgt := 20) hx hb dX10_on_11 (by decide) (fun h => absurd (by decide) h) (fun _ => ?_)
  refine lv_aload_n hx hb dX10_on_14 rfl (lv_at hl 0 rfl) ?_
  refine lv_iconst (v := 2) hx hb dX10_on_15 (by decide) ?_
  refine h_callVi (T := TX10) (rest := []) (As := [.int 2]) hx hb hml hown hts hK hT0 (fun _ h => h) hS1 (c_X10_refuse l G Y (o) hW 2) trivial wd_X10_refuse wV_X10_refuse wL_X10_258 (on_w0 hW) rfl rfl hl.1 rfl (Nat.le_of_ble_eq_true rfl) dX10_on_16 ⟨Nat.le_of_ble_eq_true rfl, Nat.le_of_ble_eq_true rfl⟩ ⟨Nat.zero_le _, Nat.zero_le _⟩ (fun r3 H2 locs hp2 hT2 hS2 hk2 => ?_)
  have hp2 : r3 = 0 := hp2
  subst hp2
  exact hret _ _ _ _ _ hT2 hS2 ⟨by decide, rfl⟩ dX10_on_19
set_option maxHeartbeats 4000000 in
set_option maxRecDepth 100000 in
theorem c_X10_monitor (l : Launch) (G : hG) (Y : hW) (o : Nat) (hW : h_On Y o (wldE tF o)) (u1 : Int32) : hMi l yX10_monitor cX10_monitor 2 (some .boolean) 1 21 G Y [.ref (o), .int u1] (fun H => True) (fun H r H1 => r = 0) := by
  refine h_ofz (by decide +kernel) (Nat.le_of_ble_eq_true rfl) ?_
  intro p e s m args below meth c H0 ls Q hx hb hts hown hml hK hT0 hpr hS0 hl hret
  have hl : lv_has ls 2 [(0, .ref (o)), (1, .int u1)] := hl
  refine lv_aload_n hx hb dX10_monitor_0 rfl (lv_at hl 0 rfl) ?_
  refine h_getr (C := RX10) (T := TX10) (N := 9) hx hb hts inX10 hown hK hT0 (on_w0 hW) rfl 1 rfl wF_X10_19 rfl dX10_monitor_1 ?_
  refine h_getr (C := RX5) (T := TX5) (N := 11) hx hb hts inX5 hown hK hT0 (on_rg (on_wr hW)) rfl 0 rfl wF_X10_86 rfl dX10_monitor_4 ?_
  refine lv_iload_n hx hb dX10_monitor_7 rfl (lv_at hl 1 rfl) ?_
  refine h_callVi (T := TX7) (rest := []) (As := [.int u1]) hx hb hml hown hts hK hT0 (fun _ h => h) hS0 (c_X7_exists l G Y (o + 3 + 1) (on_st (on_wr hW)) u1) trivial wd_X7_exists wV_X7_exists wL_X10_146 ((on_st (on_wr hW)).o rfl) rfl rfl hl.1 rfl (Nat.le_of_ble_eq_true rfl) dX10_monitor_8 ⟨Nat.le_of_ble_eq_true rfl, Nat.le_of_ble_eq_true rfl⟩ ⟨Nat.zero_le _, Nat.zero_le _⟩ (fun r1 H1 locs hp1 hT1 hS1 hk1 => ?_)
  obtain ⟨hp1, he⟩ := hp1
  have he := he.symm
  subst he
  have hp1 : r1 = 0 := hp1
  subst hp1
  refine lv_if_ne (tgt := 20) hx hb dX10_monitor_11 (by decide) (fun h => absurd (by decide) h) (fun _ => ?_)
  refine lv_aload_n hx hb dX10_monitor_14 rfl (lv_at hl 0 rfl) ?_
  refine lv_iconst (v := 2) hx hb dX10_monitor_15 (by decide) ?_
  refine h_callVi (T := TX10) (rest := []) (As := [.int 2]) hx hb hml hown hts hK hT0 (fun _ h => h) hS1 (c_X10_refuse l G Y (o) hW 2) trivial wd_X10_refuse wV_X10_refuse wL_X10_258 (on_w0 hW) rfl rfl hl.1 rfl (Nat.le_of_ble_eq_true rfl) dX10_monitor_16 ⟨Nat.le_of_ble_eq_true rfl, Nat.le_of_ble_eq_true rfl⟩ ⟨Nat.zero_le _, Nat.zero_le _⟩ (fun r3 H2 locs hp2 hT2 hS2 hk2 => ?_)
  have hp2 : r3 = 0 := hp2
  subst hp2
  exact hret _ _ _ _ _ hT2 hS2 ⟨by decide, rfl⟩ dX10_monitor_19
set_option maxHeartbeats 4000000 in
set_option maxRecDepth 100000 in
theorem c_X10_lose (l : Launch) (G : hG) (Y : hW) (o : Nat) (hW : h_On Y o (wldE tF o)) : hMi l yX10_lose cX10_lose 1 (some .boolean) 1 21 G Y [.ref (o)] (fun H => True) (fun H r H1 => r = 0) := by
  refine h_ofz (by decide +kernel) (Nat.le_of_ble_eq_true rfl) ?_
  intro p e s m args below meth c H0 ls Q hx hb hts hown hml hK hT0 hpr hS0 hl hret
  have hl : lv_has ls 1 [(0, .ref (o))] := hl
  refine lv_aload_n hx hb dX10_lose_0 rfl (lv_at hl 0 rfl) ?_
  refine h_getr (C := RX10) (T := TX10) (N := 9) hx hb hts inX10 hown hK hT0 (on_w0 hW) rfl 1 rfl wF_X10_19 rfl dX10_lose_1 ?_
  refine h_getr (C := RX5) (T := TX5) (N := 11) hx hb hts inX5 hown hK hT0 (on_rg (on_wr hW)) rfl 3 rfl wF_X10_120 rfl dX10_lose_4 ?_
  refine h_getc (v := 0) (C := RX9) (T := TX9) (N := 11) hx hb hts inX9 hown hK hT0 ((on_wa (on_wr hW)).o rfl) rfl 0 rfl wF_X10_124 rfl (fun _ h => h) dX10_lose_7 ?_
  refine lv_if_ne (tgt := 20) hx hb dX10_lose_10 (by decide) (fun h => absurd (by decide) h) (fun _ => ?_)
  refine lv_aload_n hx hb dX10_lose_13 rfl (lv_at hl 0 rfl) ?_
  refine lv_bipush (v := 6) hx hb dX10_lose_14 (by decide) ?_
  refine h_callVi (T := TX10) (rest := []) (As := [.int 6]) hx hb hml hown hts hK hT0 (fun _ h => h) hS0 (c_X10_refuse l G Y (o) hW 6) trivial wd_X10_refuse wV_X10_refuse wL_X10_258 (on_w0 hW) rfl rfl hl.1 rfl (Nat.le_of_ble_eq_true rfl) dX10_lose_16 ⟨Nat.le_of_ble_eq_true rfl, Nat.le_of_ble_eq_true rfl⟩ ⟨Nat.zero_le _, Nat.zero_le _⟩ (fun r2 H1 locs hp1 hT1 hS1 hk1 => ?_)
  have hp1 : r2 = 0 := hp1
  subst hp1
  exact hret _ _ _ _ _ hT1 hS1 ⟨by decide, rfl⟩ dX10_lose_19
set_option maxHeartbeats 4000000 in
set_option maxRecDepth 100000 in
theorem c_X10_snap (l : Launch) (G : hG) (Y : hW) (o : Nat) (hW : h_On Y o (wldE tF o)) (u1 u2 : Int32) : hMi l yX10_snap cX10_snap 3 (some .boolean) 1 21 G Y [.ref (o), .int u1, .int u2] (fun H => True) (fun H r H1 => r = 0) := by
  refine h_ofz (by decide +kernel) (Nat.le_of_ble_eq_true rfl) ?_
  intro p e s m args below meth c H0 ls Q hx hb hts hown hml hK hT0 hpr hS0 hl hret
  have hl : lv_has ls 3 [(0, .ref (o)), (1, .int u1), (2, .int u2)] := hl
  refine lv_iload_n hx hb dX10_snap_0 rfl (lv_at hl 2 rfl) ?_
  refine lv_if_lt (tgt := 9) hx hb dX10_snap_1 (by decide) (fun c1 => ?_) (fun c1 => ?_)
  · skip
    refine lv_aload_n hx hb dX10_snap_9 rfl (lv_at hl 0 rfl) ?_
    refine lv_iconst (v := 1) hx hb dX10_snap_10 (by decide) ?_
    refine h_callVi (T := TX10) (rest := []) (As := [.int 1]) hx hb hml hown hts hK hT0 (fun _ h => h) hS0 (c_X10_refuse l G Y (o) hW 1) trivial wd_X10_refuse wV_X10_refuse wL_X10_258 (on_w0 hW) rfl rfl hl.1 rfl (Nat.le_of_ble_eq_true rfl) dX10_snap_11 ⟨Nat.le_of_ble_eq_true rfl, Nat.le_of_ble_eq_true rfl⟩ ⟨Nat.zero_le _, Nat.zero_le _⟩ (fun r2 H1 locs hp1 hT1 hS1 hk1 => ?_)
    have hp1 : r2 = 0 := hp1
    subst hp1
    exact hret _ _ _ _ _ hT1 hS1 ⟨by decide, rfl⟩ dX10_snap_14
  · skip
    refine lv_iload_n hx hb dX10_snap_4 rfl (lv_at hl 2 rfl) ?_
    refine lv_iconst (v := 3) hx hb dX10_snap_5 (by decide) ?_
    refine lv_icmp_lt (tgt := 15) hx hb dX10_snap_6 (by decide) (fun c3 => ?_) (fun c3 => ?_)
    · skip
      refine lv_aload_n hx hb dX10_snap_15 rfl (lv_at hl 0 rfl) ?_
      refine h_getr (C := RX10) (T := TX10) (N := 9) hx hb hts inX10 hown hK hT0 (on_w0 hW) rfl 1 rfl wF_X10_19 rfl dX10_snap_16 ?_
      refine h_getr (C := RX5) (T := TX5) (N := 11) hx hb hts inX5 hown hK hT0 (on_rg (on_wr hW)) rfl 0 rfl wF_X10_86 rfl dX10_snap_19 ?_
      refine lv_iload_n hx hb dX10_snap_22 rfl (lv_at hl 1 rfl) ?_
      refine h_callVi (T := TX7) (rest := []) (As := [.int u1]) hx hb hml hown hts hK hT0 (fun _ h => h) hS0 (c_X7_exists l G Y (o + 3 + 1) (on_st (on_wr hW)) u1) trivial wd_X7_exists wV_X7_exists wL_X10_146 ((on_st (on_wr hW)).o rfl) rfl rfl hl.1 rfl (Nat.le_of_ble_eq_true rfl) dX10_snap_23 ⟨Nat.le_of_ble_eq_true rfl, Nat.le_of_ble_eq_true rfl⟩ ⟨Nat.zero_le _, Nat.zero_le _⟩ (fun r4 H2 locs hp2 hT2 hS2 hk2 => ?_)
      obtain ⟨hp2, he⟩ := hp2
      have he := he.symm
      subst he
      have hp2 : r4 = 0 := hp2
      subst hp2
      refine lv_if_ne (tgt := 35) hx hb dX10_snap_26 (by decide) (fun h => absurd (by decide) h) (fun _ => ?_)
      refine lv_aload_n hx hb dX10_snap_29 rfl (lv_at hl 0 rfl) ?_
      refine lv_iconst (v := 2) hx hb dX10_snap_30 (by decide) ?_
      refine h_callVi (T := TX10) (rest := []) (As := [.int 2]) hx hb hml hown hts hK hT0 (fun _ h => h) hS2 (c_X10_refuse l G Y (o) hW 2) trivial wd_X10_refuse wV_X10_refuse wL_X10_258 (on_w0 hW) rfl rfl hl.1 rfl (Nat.le_of_ble_eq_true rfl) dX10_snap_31 ⟨Nat.le_of_ble_eq_true rfl, Nat.le_of_ble_eq_true rfl⟩ ⟨Nat.zero_le _, Nat.zero_le _⟩ (fun r6 H3 locs hp3 hT3 hS3 hk3 => ?_)
      have hp3 : r6 = 0 := hp3
      subst hp3
      exact hret _ _ _ _ _ hT3 hS3 ⟨by decide, rfl⟩ dX10_snap_34
    · skip
      refine lv_aload_n hx hb dX10_snap_9 rfl (lv_at hl 0 rfl) ?_
      refine lv_iconst (v := 1) hx hb dX10_snap_10 (by decide) ?_
      refine h_callVi (T := TX10) (rest := []) (As := [.int 1]) hx hb hml hown hts hK hT0 (fun _ h => h) hS0 (c_X10_refuse l G Y (o) hW 1) trivial wd_X10_refuse wV_X10_refuse wL_X10_258 (on_w0 hW) rfl rfl hl.1 rfl (Nat.le_of_ble_eq_true rfl) dX10_snap_11 ⟨Nat.le_of_ble_eq_true rfl, Nat.le_of_ble_eq_true rfl⟩ ⟨Nat.zero_le _, Nat.zero_le _⟩ (fun r7 H4 locs hp4 hT4 hS4 hk4 => ?_)
      have hp4 : r7 = 0 := hp4
      subst hp4
      exact hret _ _ _ _ _ hT4 hS4 ⟨by decide, rfl⟩ dX10_snap_14
set_option maxHeartbeats 4000000 in
set_option maxRecDepth 100000 in
theorem c_X10_mend (l : Launch) (G : hG) (Y : hW) (o : Nat) (hW : h_On Y o (wldE tF o)) : hMi l yX10_mend cX10_mend 1 (some .boolean) 1 21 G Y [.ref (o)] (fun H => True) (fun H r H1 => r = 0) := by
  refine h_ofz (by decide +kernel) (Nat.le_of_ble_eq_true rfl) ?_
  intro p e s m args below meth c H0 ls Q hx hb hts hown hml hK hT0 hpr hS0 hl hret
  have hl : lv_has ls 1 [(0, .ref (o))] := hl
  refine lv_aload_n hx hb dX10_mend_0 rfl (lv_at hl 0 rfl) ?_
  refine h_getr (C := RX10) (T := TX10) (N := 9) hx hb hts inX10 hown hK hT0 (on_w0 hW) rfl 1 rfl wF_X10_19 rfl dX10_mend_1 ?_
  refine h_getr (C := RX5) (T := TX5) (N := 11) hx hb hts inX5 hown hK hT0 (on_rg (on_wr hW)) rfl 0 rfl wF_X10_86 rfl dX10_mend_4 ?_
  refine h_getc (v := (-1)) (C := RX7) (T := TX7) (N := 9) hx hb hts inX7 hown hK hT0 ((on_st (on_wr hW)).o rfl) rfl 7 rfl wF_X10_140 rfl (fun _ h => h) dX10_mend_7 ?_
  refine lv_iconst (v := (-1)) hx hb dX10_mend_10 (by decide) ?_
  refine lv_icmp_ne (tgt := 20) hx hb dX10_mend_11 (by decide) (fun h => absurd (by decide) h) (fun _ => ?_)
  refine lv_aload_n hx hb dX10_mend_14 rfl (lv_at hl 0 rfl) ?_
  refine lv_iconst (v := 5) hx hb dX10_mend_15 (by decide) ?_
  refine h_callVi (T := TX10) (rest := []) (As := [.int 5]) hx hb hml hown hts hK hT0 (fun _ h => h) hS0 (c_X10_refuse l G Y (o) hW 5) trivial wd_X10_refuse wV_X10_refuse wL_X10_258 (on_w0 hW) rfl rfl hl.1 rfl (Nat.le_of_ble_eq_true rfl) dX10_mend_16 ⟨Nat.le_of_ble_eq_true rfl, Nat.le_of_ble_eq_true rfl⟩ ⟨Nat.zero_le _, Nat.zero_le _⟩ (fun r2 H1 locs hp1 hT1 hS1 hk1 => ?_)
  have hp1 : r2 = 0 := hp1
  subst hp1
  exact hret _ _ _ _ _ hT1 hS1 ⟨by decide, rfl⟩ dX10_mend_19
set_option maxHeartbeats 4000000 in
set_option maxRecDepth 100000 in
theorem c_X10_notice (l : Launch) (G : hG) (Y : hW) (o : Nat) (hW : h_On Y o (wldE tF o)) : hMi l yX10_notice cX10_notice 1 (some .int) 3 63 G Y [.ref (o)] (fun H => True) (fun H r H1 => r = (-1)) := by
  refine h_ofi (by decide +kernel) (Nat.le_of_ble_eq_true rfl) ?_
  intro p e s m args below meth c H0 ls Q hx hb hts hown hml hK hT0 hpr hS0 hl hret
  have hl : lv_has ls 1 [(0, .ref (o))] := hl
  refine lv_aload_n hx hb dX10_notice_0 rfl (lv_at hl 0 rfl) ?_
  refine h_getr (C := RX10) (T := TX10) (N := 9) hx hb hts inX10 hown hK hT0 (on_w0 hW) rfl 1 rfl wF_X10_19 rfl dX10_notice_1 ?_
  refine h_getr (C := RX5) (T := TX5) (N := 11) hx hb hts inX5 hown hK hT0 (on_rg (on_wr hW)) rfl 0 rfl wF_X10_86 rfl dX10_notice_4 ?_
  refine h_callVi (T := TX7) (rest := []) (As := []) hx hb hml hown hts hK hT0 (fun _ h => h) hS0 (c_X7_breakCounts l G Y (o + 3 + 1) (on_st (on_wr hW))) trivial wd_X7_breakCounts wV_X7_breakCounts wL_X10_136 ((on_st (on_wr hW)).o rfl) rfl rfl hl.1 rfl (Nat.le_of_ble_eq_true rfl) dX10_notice_7 ⟨Nat.le_of_ble_eq_true rfl, Nat.le_of_ble_eq_true rfl⟩ ⟨Nat.zero_le _, Nat.zero_le _⟩ (fun r1 H1 locs hp1 hT1 hS1 hk1 => ?_)
  obtain ⟨hp1, he⟩ := hp1
  have he := he.symm
  subst he
  have hp1 : r1 = 0 := hp1
  subst hp1
  refine lv_if_eq (tgt := 19) hx hb dX10_notice_10 (by decide) (fun _ => ?_) (fun h => absurd (by decide) h)
  refine lv_aload_n hx hb dX10_notice_19 rfl (lv_at hl 0 rfl) ?_
  refine h_getr (C := RX10) (T := TX10) (N := 9) hx hb hts inX10 hown hK hT0 (on_w0 hW) rfl 1 rfl wF_X10_19 rfl dX10_notice_20 ?_
  refine h_getr (C := RX5) (T := TX5) (N := 11) hx hb hts inX5 hown hK hT0 (on_rg (on_wr hW)) rfl 0 rfl wF_X10_86 rfl dX10_notice_23 ?_
  refine h_callVi (T := TX7) (rest := []) (As := []) hx hb hml hown hts hK hT0 (fun _ h => h) hS1 (c_X7_chiefIsOn l G Y (o + 3 + 1) (on_st (on_wr hW))) trivial wd_X7_chiefIsOn wV_X7_chiefIsOn wL_X10_284 ((on_st (on_wr hW)).o rfl) rfl rfl hl.1 rfl (Nat.le_of_ble_eq_true rfl) dX10_notice_26 ⟨Nat.le_of_ble_eq_true rfl, Nat.le_of_ble_eq_true rfl⟩ ⟨Nat.zero_le _, Nat.zero_le _⟩ (fun r3 H2 locs hp2 hT2 hS2 hk2 => ?_)
  obtain ⟨hp2, he⟩ := hp2
  have he := he.symm
  subst he
  have hp2 : r3 = 0 := hp2
  subst hp2
  refine lv_if_ne (tgt := 38) hx hb dX10_notice_29 (by decide) (fun h => absurd (by decide) h) (fun _ => ?_)
  refine lv_aload_n hx hb dX10_notice_32 rfl (lv_at hl 0 rfl) ?_
  refine lv_iconst (v := 5) hx hb dX10_notice_33 (by decide) ?_
  refine h_callVi (T := TX10) (rest := []) (As := [.int 5]) hx hb hml hown hts hK hT0 (fun _ h => h) hS2 (c_X10_fail l G Y (o) hW 5) trivial wd_X10_fail wV_X10_fail wL_X10_66 (on_w0 hW) rfl rfl hl.1 rfl (Nat.le_of_ble_eq_true rfl) dX10_notice_34 ⟨Nat.le_of_ble_eq_true rfl, Nat.le_of_ble_eq_true rfl⟩ ⟨Nat.zero_le _, Nat.zero_le _⟩ (fun r5 H3 locs hp3 hT3 hS3 hk3 => ?_)
  have hp3 : r5 = (-1) := hp3
  subst hp3
  exact hret _ _ _ _ _ hT3 hS3 rfl dX10_notice_37
set_option maxHeartbeats 4000000 in
set_option maxRecDepth 100000 in
theorem c_X10_stale (l : Launch) (G : hG) (Y : hW) (o : Nat) (hW : h_On Y o (wldE tF o)) : hMi l yX10_stale cX10_stale 1 (some .int) 1 22 G Y [.ref (o)] (fun H => True) (fun H r H1 => r = 0) := by
  refine h_ofi (by decide +kernel) (Nat.le_of_ble_eq_true rfl) ?_
  intro p e s m args below meth c H0 ls Q hx hb hts hown hml hK hT0 hpr hS0 hl hret
  have hl : lv_has ls 1 [(0, .ref (o))] := hl
  refine lv_aload_n hx hb dX10_stale_0 rfl (lv_at hl 0 rfl) ?_
  refine lv_aload_n hx hb dX10_stale_1 rfl (lv_at hl 0 rfl) ?_
  refine h_getr (C := RX10) (T := TX10) (N := 9) hx hb hts inX10 hown hK hT0 (on_w0 hW) rfl 1 rfl wF_X10_19 rfl dX10_stale_2 ?_
  refine h_getr (C := RX5) (T := TX5) (N := 11) hx hb hts inX5 hown hK hT0 (on_rg (on_wr hW)) rfl 0 rfl wF_X10_86 rfl dX10_stale_5 ?_
  refine h_callVi (T := TX7) (rest := [.ref (o)]) (As := []) hx hb hml hown hts hK hT0 (fun _ h => h) hS0 (c_X7_staleBits l G Y (o + 3 + 1) (on_st (on_wr hW))) trivial wd_X7_staleBits wV_X7_staleBits wL_X10_290 ((on_st (on_wr hW)).o rfl) rfl rfl hl.1 rfl (Nat.le_of_ble_eq_true rfl) dX10_stale_8 ⟨Nat.le_of_ble_eq_true rfl, Nat.le_of_ble_eq_true rfl⟩ ⟨Nat.zero_le _, Nat.zero_le _⟩ (fun r1 H1 locs hp1 hT1 hS1 hk1 => ?_)
  obtain ⟨hp1, he⟩ := hp1
  have he := he.symm
  subst he
  have hp1 : r1 = 0 := hp1
  subst hp1
  refine h_callVi (T := TX10) (rest := []) (As := [.int 0]) hx hb hml hown hts hK hT0 (fun _ h => h) hS1 (c_X10_give l G Y (o) hW 0) trivial wd_X10_give wV_X10_give wL_X10_95 (on_w0 hW) rfl rfl hl.1 rfl (Nat.le_of_ble_eq_true rfl) dX10_stale_11 ⟨Nat.le_of_ble_eq_true rfl, Nat.le_of_ble_eq_true rfl⟩ ⟨Nat.zero_le _, Nat.zero_le _⟩ (fun r2 H2 locs hp2 hT2 hS2 hk2 => ?_)
  have hp2 : r2 = 0 := hp2
  subst hp2
  exact hret _ _ _ _ _ hT2 hS2 rfl dX10_stale_14
set_option maxHeartbeats 4000000 in
set_option maxRecDepth 100000 in
theorem c_X10_quiet (l : Launch) (G : hG) (Y : hW) (o : Nat) (hW : h_On Y o (wldE tF o)) (u1 : Int32) : hMi l yX10_quiet cX10_quiet 2 (some .int) 4 126 G Y [.ref (o), .int u1] (fun H => True) (fun H r H1 => r = 0) := by
  refine h_ofi (by decide +kernel) (Nat.le_of_ble_eq_true rfl) ?_
  intro p e s m args below meth c H0 ls Q hx hb hts hown hml hK hT0 hpr hS0 hl hret
  have hl : lv_has ls 2 [(0, .ref (o)), (1, .int u1)] := hl
  refine lv_aload_n hx hb dX10_quiet_0 rfl (lv_at hl 0 rfl) ?_
  refine lv_aload_n hx hb dX10_quiet_1 rfl (lv_at hl 0 rfl) ?_
  refine h_getr (C := RX10) (T := TX10) (N := 9) hx hb hts inX10 hown hK hT0 (on_w0 hW) rfl 3 rfl wF_X10_31 rfl dX10_quiet_2 ?_
  refine lv_iconst (v := 0) hx hb dX10_quiet_5 (by decide) ?_
  refine lv_iconst (v := (-1)) hx hb dX10_quiet_6 (by decide) ?_
  refine lv_iload_n hx hb dX10_quiet_7 rfl (lv_at hl 1 rfl) ?_
  refine h_callVi (T := TX1) (rest := [.ref (o)]) (As := [.int 0, .int (-1), .int u1]) hx hb hml hown hts hK hT0 (fun _ h => h) hS0 (c_ticksTill_0 l G Y (o + 53) (o + 3) (o + 28) (on_wp hW) (on_wr hW) (on_ws hW) (-1) u1) trivial wd_X1_ticksTill wV_X1_ticksTill wL_X10_296 ((on_wp hW).o rfl) rfl rfl hl.1 rfl (Nat.le_of_ble_eq_true rfl) dX10_quiet_8 ⟨Nat.le_of_ble_eq_true rfl, Nat.le_of_ble_eq_true rfl⟩ ⟨Nat.zero_le _, Nat.zero_le _⟩ (fun r1 H1 locs hp1 hT1 hS1 hk1 => ?_)
  have hp1 : r1 = 0 := hp1
  subst hp1
  refine h_callVi (T := TX10) (rest := []) (As := [.int 0]) hx hb hml hown hts hK hT1 (fun _ h => h) hS1 (c_X10_giveReached l G Y (o) hW 0) trivial wd_X10_giveReached wV_X10_giveReached wL_X10_300 (on_w0 hW) rfl rfl hl.1 rfl (Nat.le_of_ble_eq_true rfl) dX10_quiet_11 ⟨Nat.le_of_ble_eq_true rfl, Nat.le_of_ble_eq_true rfl⟩ ⟨Nat.zero_le _, Nat.zero_le _⟩ (fun r2 H2 locs hp2 hT2 hS2 hk2 => ?_)
  have hp2 : r2 = 0 := hp2
  subst hp2
  exact hret _ _ _ _ _ hT2 hS2 rfl dX10_quiet_14
set_option maxHeartbeats 4000000 in
set_option maxRecDepth 100000 in
theorem c_X10_when (l : Launch) (G : hG) (Y : hW) (o : Nat) (hW : h_On Y o (wldE tF o)) (u1 u2 : Int32) : hMi l yX10_when cX10_when 3 (some .int) 2 44 G Y [.ref (o), .int u1, .int u2] (fun H => True) (fun H r H1 => r = (-1)) := by
  refine h_ofi (by decide +kernel) (Nat.le_of_ble_eq_true rfl) ?_
  intro p e s m args below meth c H0 ls Q hx hb hts hown hml hK hT0 hpr hS0 hl hret
  have hl : lv_has ls 3 [(0, .ref (o)), (1, .int u1), (2, .int u2)] := hl
  refine lv_iload_n hx hb dX10_when_0 rfl (lv_at hl 1 rfl) ?_
  refine lv_if_ge (tgt := 10) hx hb dX10_when_1 (by decide) (fun c1 => ?_) (fun c1 => ?_)
  · skip
    refine lv_aload_n hx hb dX10_when_10 rfl (lv_at hl 0 rfl) ?_
    refine h_getr (C := RX10) (T := TX10) (N := 9) hx hb hts inX10 hown hK hT0 (on_w0 hW) rfl 1 rfl wF_X10_19 rfl dX10_when_11 ?_
    refine lv_iload_n hx hb dX10_when_14 rfl (lv_at hl 1 rfl) ?_
    refine h_callVi (T := TX5) (rest := []) (As := [.int u1]) hx hb hml hown hts hK hT0 (fun _ h => h) hS0 (c_X5_hasFrame l G Y (o + 3) (on_wr hW) u1) trivial wd_X5_hasFrame wV_X5_hasFrame wL_X10_303 (on_rg (on_wr hW)) rfl rfl hl.1 rfl (Nat.le_of_ble_eq_true rfl) dX10_when_15 ⟨Nat.le_of_ble_eq_true rfl, Nat.le_of_ble_eq_true rfl⟩ ⟨Nat.zero_le _, Nat.zero_le _⟩ (fun r2 H1 locs hp1 hT1 hS1 hk1 => ?_)
    obtain ⟨hp1, he⟩ := hp1
    have he := he.symm
    subst he
    have hp1 : r2 = 0 := hp1
    subst hp1
    refine lv_if_ne (tgt := 27) hx hb dX10_when_18 (by decide) (fun h => absurd (by decide) h) (fun _ => ?_)
    refine lv_aload_n hx hb dX10_when_21 rfl (lv_at hl 0 rfl) ?_
    refine lv_iconst (v := 5) hx hb dX10_when_22 (by decide) ?_
    refine h_callVi (T := TX10) (rest := []) (As := [.int 5]) hx hb hml hown hts hK hT0 (fun _ h => h) hS1 (c_X10_fail l G Y (o) hW 5) trivial wd_X10_fail wV_X10_fail wL_X10_66 (on_w0 hW) rfl rfl hl.1 rfl (Nat.le_of_ble_eq_true rfl) dX10_when_23 ⟨Nat.le_of_ble_eq_true rfl, Nat.le_of_ble_eq_true rfl⟩ ⟨Nat.zero_le _, Nat.zero_le _⟩ (fun r4 H2 locs hp2 hT2 hS2 hk2 => ?_)
    have hp2 : r4 = (-1) := hp2
    subst hp2
    exact hret _ _ _ _ _ hT2 hS2 rfl dX10_when_26
  · skip
    refine lv_aload_n hx hb dX10_when_4 rfl (lv_at hl 0 rfl) ?_
    refine lv_iconst (v := 1) hx hb dX10_when_5 (by decide) ?_
    refine h_callVi (T := TX10) (rest := []) (As := [.int 1]) hx hb hml hown hts hK hT0 (fun _ h => h) hS0 (c_X10_fail l G Y (o) hW 1) trivial wd_X10_fail wV_X10_fail wL_X10_66 (on_w0 hW) rfl rfl hl.1 rfl (Nat.le_of_ble_eq_true rfl) dX10_when_6 ⟨Nat.le_of_ble_eq_true rfl, Nat.le_of_ble_eq_true rfl⟩ ⟨Nat.zero_le _, Nat.zero_le _⟩ (fun r5 H3 locs hp3 hT3 hS3 hk3 => ?_)
    have hp3 : r5 = (-1) := hp3
    subst hp3
    exact hret _ _ _ _ _ hT3 hS3 rfl dX10_when_9
set_option maxHeartbeats 4000000 in
set_option maxRecDepth 100000 in
theorem c_X10_next (l : Launch) (G : hG) (Y : hW) (o : Nat) (hW : h_On Y o (wldE tF o)) (u1 u2 : Int32) : hMi l yX10_next cX10_next 3 (some .int) 5 126 G Y [.ref (o), .int u1, .int u2] (fun H => True) (fun H r H1 => r = (-1)) := by
  refine h_ofi (by decide +kernel) (Nat.le_of_ble_eq_true rfl) ?_
  intro p e s m args below meth c H0 ls Q hx hb hts hown hml hK hT0 hpr hS0 hl hret
  have hl : lv_has ls 3 [(0, .ref (o)), (1, .int u1), (2, .int u2)] := hl
  refine lv_iload_n hx hb dX10_next_0 rfl (lv_at hl 1 rfl) ?_
  refine lv_if_ge (tgt := 10) hx hb dX10_next_1 (by decide) (fun c1 => ?_) (fun c1 => ?_)
  · skip
    refine lv_aload_n hx hb dX10_next_10 rfl (lv_at hl 0 rfl) ?_
    refine lv_aload_n hx hb dX10_next_11 rfl (lv_at hl 0 rfl) ?_
    refine h_getr (C := RX10) (T := TX10) (N := 9) hx hb hts inX10 hown hK hT0 (on_w0 hW) rfl 3 rfl wF_X10_31 rfl dX10_next_12 ?_
    refine lv_iload_n hx hb dX10_next_15 rfl (lv_at hl 1 rfl) ?_
    refine lv_iload_n hx hb dX10_next_16 rfl (lv_at hl 2 rfl) ?_
    refine h_callVi (T := TX1) (rest := [.ref (o)]) (As := [.int u1, .int u2]) hx hb hml hown hts hK hT0 (fun _ h => h) hS0 (c_X1_numberGot l G Y (o + 53) (o + 3) (o + 28) (on_wp hW) (on_wr hW) (on_ws hW) u1 u2) trivial wd_X1_numberGot wV_X1_numberGot wL_X10_306 ((on_wp hW).o rfl) rfl rfl hl.1 rfl (Nat.le_of_ble_eq_true rfl) dX10_next_17 ⟨Nat.le_of_ble_eq_true rfl, Nat.le_of_ble_eq_true rfl⟩ ⟨Nat.zero_le _, Nat.zero_le _⟩ (fun r2 H1 locs hp1 hT1 hS1 hk1 => ?_)
    have hp1 : r2 = (-1) := hp1
    subst hp1
    refine h_callVi (T := TX10) (rest := []) (As := [.int (-1)]) hx hb hml hown hts hK hT1 (fun _ h => h) hS1 (c_X10_giveReached l G Y (o) hW (-1)) trivial wd_X10_giveReached wV_X10_giveReached wL_X10_300 (on_w0 hW) rfl rfl hl.1 rfl (Nat.le_of_ble_eq_true rfl) dX10_next_20 ⟨Nat.le_of_ble_eq_true rfl, Nat.le_of_ble_eq_true rfl⟩ ⟨Nat.zero_le _, Nat.zero_le _⟩ (fun r3 H2 locs hp2 hT2 hS2 hk2 => ?_)
    have hp2 : r3 = (-1) := hp2
    subst hp2
    exact hret _ _ _ _ _ hT2 hS2 rfl dX10_next_23
  · skip
    refine lv_aload_n hx hb dX10_next_4 rfl (lv_at hl 0 rfl) ?_
    refine lv_iconst (v := 1) hx hb dX10_next_5 (by decide) ?_
    refine h_callVi (T := TX10) (rest := []) (As := [.int 1]) hx hb hml hown hts hK hT0 (fun _ h => h) hS0 (c_X10_fail l G Y (o) hW 1) trivial wd_X10_fail wV_X10_fail wL_X10_66 (on_w0 hW) rfl rfl hl.1 rfl (Nat.le_of_ble_eq_true rfl) dX10_next_6 ⟨Nat.le_of_ble_eq_true rfl, Nat.le_of_ble_eq_true rfl⟩ ⟨Nat.zero_le _, Nat.zero_le _⟩ (fun r4 H3 locs hp3 hT3 hS3 hk3 => ?_)
    have hp3 : r4 = (-1) := hp3
    subst hp3
    exact hret _ _ _ _ _ hT3 hS3 rfl dX10_next_9
set_option maxHeartbeats 4000000 in
set_option maxRecDepth 100000 in
theorem c_X10_peak (l : Launch) (G : hG) (Y : hW) (o : Nat) (hW : h_On Y o (wldE tF o)) : hMi l yX10_peak cX10_peak 1 (some .int) 4 124 G Y [.ref (o)] (fun H => True) (fun H r H1 => r = 0) := by
  refine h_ofi (by decide +kernel) (Nat.le_of_ble_eq_true rfl) ?_
  intro p e s m args below meth c H0 ls Q hx hb hts hown hml hK hT0 hpr hS0 hl hret
  have hl : lv_has ls 1 [(0, .ref (o))] := hl
  refine lv_aload_n hx hb dX10_peak_0 rfl (lv_at hl 0 rfl) ?_
  refine lv_aload_n hx hb dX10_peak_1 rfl (lv_at hl 0 rfl) ?_
  refine h_getr (C := RX10) (T := TX10) (N := 9) hx hb hts inX10 hown hK hT0 (on_w0 hW) rfl 3 rfl wF_X10_31 rfl dX10_peak_2 ?_
  refine h_callVi (T := TX1) (rest := [.ref (o)]) (As := []) hx hb hml hown hts hK hT0 (fun _ h => h) hS0 (c_X1_greatestLevel l G Y (o + 53) (o + 3) (o + 28) (on_wp hW) (on_wr hW) (on_ws hW)) trivial wd_X1_greatestLevel wV_X1_greatestLevel wL_X10_310 ((on_wp hW).o rfl) rfl rfl hl.1 rfl (Nat.le_of_ble_eq_true rfl) dX10_peak_5 ⟨Nat.le_of_ble_eq_true rfl, Nat.le_of_ble_eq_true rfl⟩ ⟨Nat.zero_le _, Nat.zero_le _⟩ (fun r1 H1 locs hp1 hT1 hS1 hk1 => ?_)
  have hp1 : r1 = 0 := hp1
  subst hp1
  refine h_callVi (T := TX10) (rest := []) (As := [.int 0]) hx hb hml hown hts hK hT1 (fun _ h => h) hS1 (c_X10_giveReached l G Y (o) hW 0) trivial wd_X10_giveReached wV_X10_giveReached wL_X10_300 (on_w0 hW) rfl rfl hl.1 rfl (Nat.le_of_ble_eq_true rfl) dX10_peak_8 ⟨Nat.le_of_ble_eq_true rfl, Nat.le_of_ble_eq_true rfl⟩ ⟨Nat.zero_le _, Nat.zero_le _⟩ (fun r2 H2 locs hp2 hT2 hS2 hk2 => ?_)
  have hp2 : r2 = 0 := hp2
  subst hp2
  exact hret _ _ _ _ _ hT2 hS2 rfl dX10_peak_11
set_option maxHeartbeats 4000000 in
set_option maxRecDepth 100000 in
theorem c_X10_lowered (l : Launch) (G : hG) (Y : hW) (o : Nat) (hW : h_On Y o (wldE tF o)) : hMi l yX10_lowered cX10_lowered 1 (some .int) 4 126 G Y [.ref (o)] (fun H => True) (fun H r H1 => r = 0) := by
  refine h_ofi (by decide +kernel) (Nat.le_of_ble_eq_true rfl) ?_
  intro p e s m args below meth c H0 ls Q hx hb hts hown hml hK hT0 hpr hS0 hl hret
  have hl : lv_has ls 1 [(0, .ref (o))] := hl
  refine lv_aload_n hx hb dX10_lowered_0 rfl (lv_at hl 0 rfl) ?_
  refine lv_aload_n hx hb dX10_lowered_1 rfl (lv_at hl 0 rfl) ?_
  refine h_getr (C := RX10) (T := TX10) (N := 9) hx hb hts inX10 hown hK hT0 (on_w0 hW) rfl 3 rfl wF_X10_31 rfl dX10_lowered_2 ?_
  refine lv_iconst (v := 2) hx hb dX10_lowered_5 (by decide) ?_
  refine lv_iconst (v := (-1)) hx hb dX10_lowered_6 (by decide) ?_
  refine lv_iconst (v := 0) hx hb dX10_lowered_7 (by decide) ?_
  refine h_callVi (T := TX1) (rest := [.ref (o)]) (As := [.int 2, .int (-1), .int 0]) hx hb hml hown hts hK hT0 (fun _ h => h) hS0 (c_ticksTill_2 l G Y (o + 53) (o + 3) (o + 28) (on_wp hW) (on_wr hW) (on_ws hW) (-1) 0) trivial wd_X1_ticksTill wV_X1_ticksTill wL_X10_296 ((on_wp hW).o rfl) rfl rfl hl.1 rfl (Nat.le_of_ble_eq_true rfl) dX10_lowered_8 ⟨Nat.le_of_ble_eq_true rfl, Nat.le_of_ble_eq_true rfl⟩ ⟨Nat.zero_le _, Nat.zero_le _⟩ (fun r1 H1 locs hp1 hT1 hS1 hk1 => ?_)
  have hp1 : r1 = 0 := hp1
  subst hp1
  refine h_callVi (T := TX10) (rest := []) (As := [.int 0]) hx hb hml hown hts hK hT1 (fun _ h => h) hS1 (c_X10_giveReached l G Y (o) hW 0) trivial wd_X10_giveReached wV_X10_giveReached wL_X10_300 (on_w0 hW) rfl rfl hl.1 rfl (Nat.le_of_ble_eq_true rfl) dX10_lowered_11 ⟨Nat.le_of_ble_eq_true rfl, Nat.le_of_ble_eq_true rfl⟩ ⟨Nat.zero_le _, Nat.zero_le _⟩ (fun r2 H2 locs hp2 hT2 hS2 hk2 => ?_)
  have hp2 : r2 = 0 := hp2
  subst hp2
  exact hret _ _ _ _ _ hT2 hS2 rfl dX10_lowered_14
set_option maxHeartbeats 4000000 in
set_option maxRecDepth 100000 in
theorem c_X10_healed (l : Launch) (G : hG) (Y : hW) (o : Nat) (hW : h_On Y o (wldE tF o)) : hMi l yX10_healed cX10_healed 1 (some .int) 5 126 G Y [.ref (o)] (fun H => True) (fun H r H1 => r = (-1)) := by
  refine h_ofi (by decide +kernel) (Nat.le_of_ble_eq_true rfl) ?_
  intro p e s m args below meth c H0 ls Q hx hb hts hown hml hK hT0 hpr hS0 hl hret
  have hl : lv_has ls 1 [(0, .ref (o))] := hl
  refine lv_aload_n hx hb dX10_healed_0 rfl (lv_at hl 0 rfl) ?_
  refine lv_aload_n hx hb dX10_healed_1 rfl (lv_at hl 0 rfl) ?_
  refine h_getr (C := RX10) (T := TX10) (N := 9) hx hb hts inX10 hown hK hT0 (on_w0 hW) rfl 3 rfl wF_X10_31 rfl dX10_healed_2 ?_
  refine lv_iconst (v := 3) hx hb dX10_healed_5 (by decide) ?_
  refine lv_iconst (v := (-1)) hx hb dX10_healed_6 (by decide) ?_
  refine lv_iconst (v := 0) hx hb dX10_healed_7 (by decide) ?_
  refine h_callVi (T := TX1) (rest := [.ref (o)]) (As := [.int 3, .int (-1), .int 0]) hx hb hml hown hts hK hT0 (fun _ h => h) hS0 (c_ticksTill_3 l G Y (o + 53) (o + 3) (o + 28) (on_wp hW) (on_wr hW) (on_ws hW) (-1) 0) trivial wd_X1_ticksTill wV_X1_ticksTill wL_X10_296 ((on_wp hW).o rfl) rfl rfl hl.1 rfl (Nat.le_of_ble_eq_true rfl) dX10_healed_8 ⟨Nat.le_of_ble_eq_true rfl, Nat.le_of_ble_eq_true rfl⟩ ⟨Nat.zero_le _, Nat.zero_le _⟩ (fun r1 H1 locs hp1 hT1 hS1 hk1 => ?_)
  have hp1 : r1 = (-1) := hp1
  subst hp1
  refine h_callVi (T := TX10) (rest := []) (As := [.int (-1)]) hx hb hml hown hts hK hT1 (fun _ h => h) hS1 (c_X10_giveReached l G Y (o) hW (-1)) trivial wd_X10_giveReached wV_X10_giveReached wL_X10_300 (on_w0 hW) rfl rfl hl.1 rfl (Nat.le_of_ble_eq_true rfl) dX10_healed_11 ⟨Nat.le_of_ble_eq_true rfl, Nat.le_of_ble_eq_true rfl⟩ ⟨Nat.zero_le _, Nat.zero_le _⟩ (fun r2 H2 locs hp2 hT2 hS2 hk2 => ?_)
  have hp2 : r2 = (-1) := hp2
  subst hp2
  exact hret _ _ _ _ _ hT2 hS2 rfl dX10_healed_14
set_option maxHeartbeats 4000000 in
set_option maxRecDepth 100000 in
theorem c_X10_purged (l : Launch) (G : hG) (Y : hW) (o : Nat) (hW : h_On Y o (wldE tF o)) : hMi l yX10_purged cX10_purged 1 (some .int) 5 126 G Y [.ref (o)] (fun H => True) (fun H r H1 => r = (-1)) := by
  refine h_ofi (by decide +kernel) (Nat.le_of_ble_eq_true rfl) ?_
  intro p e s m args below meth c H0 ls Q hx hb hts hown hml hK hT0 hpr hS0 hl hret
  have hl : lv_has ls 1 [(0, .ref (o))] := hl
  refine lv_aload_n hx hb dX10_purged_0 rfl (lv_at hl 0 rfl) ?_
  refine lv_aload_n hx hb dX10_purged_1 rfl (lv_at hl 0 rfl) ?_
  refine h_getr (C := RX10) (T := TX10) (N := 9) hx hb hts inX10 hown hK hT0 (on_w0 hW) rfl 3 rfl wF_X10_31 rfl dX10_purged_2 ?_
  refine lv_iconst (v := 4) hx hb dX10_purged_5 (by decide) ?_
  refine lv_iconst (v := (-1)) hx hb dX10_purged_6 (by decide) ?_
  refine lv_iconst (v := 0) hx hb dX10_purged_7 (by decide) ?_
  refine h_callVi (T := TX1) (rest := [.ref (o)]) (As := [.int 4, .int (-1), .int 0]) hx hb hml hown hts hK hT0 (fun _ h => h) hS0 (c_ticksTill_4 l G Y (o + 53) (o + 3) (o + 28) (on_wp hW) (on_wr hW) (on_ws hW) (-1) 0) trivial wd_X1_ticksTill wV_X1_ticksTill wL_X10_296 ((on_wp hW).o rfl) rfl rfl hl.1 rfl (Nat.le_of_ble_eq_true rfl) dX10_purged_8 ⟨Nat.le_of_ble_eq_true rfl, Nat.le_of_ble_eq_true rfl⟩ ⟨Nat.zero_le _, Nat.zero_le _⟩ (fun r1 H1 locs hp1 hT1 hS1 hk1 => ?_)
  have hp1 : r1 = (-1) := hp1
  subst hp1
  refine h_callVi (T := TX10) (rest := []) (As := [.int (-1)]) hx hb hml hown hts hK hT1 (fun _ h => h) hS1 (c_X10_giveReached l G Y (o) hW (-1)) trivial wd_X10_giveReached wV_X10_giveReached wL_X10_300 (on_w0 hW) rfl rfl hl.1 rfl (Nat.le_of_ble_eq_true rfl) dX10_purged_11 ⟨Nat.le_of_ble_eq_true rfl, Nat.le_of_ble_eq_true rfl⟩ ⟨Nat.zero_le _, Nat.zero_le _⟩ (fun r2 H2 locs hp2 hT2 hS2 hk2 => ?_)
  have hp2 : r2 = (-1) := hp2
  subst hp2
  exact hret _ _ _ _ _ hT2 hS2 rfl dX10_purged_14
set_option maxHeartbeats 4000000 in
set_option maxRecDepth 100000 in
theorem c_X10_blamed (l : Launch) (G : hG) (Y : hW) (o : Nat) (hW : h_On Y o (wldE tF o)) : hMi l yX10_blamed cX10_blamed 2 (some .int) 5 126 G Y [.ref (o)] (fun H => True) (fun H r H1 => r = (-1)) := by
  refine h_ofi (by decide +kernel) (Nat.le_of_ble_eq_true rfl) ?_
  intro p e s m args below meth c H0 ls Q hx hb hts hown hml hK hT0 hpr hS0 hl hret
  have hl : lv_has ls 2 [(0, .ref (o))] := hl
  refine lv_aload_n hx hb dX10_blamed_0 rfl (lv_at hl 0 rfl) ?_
  refine h_getr (C := RX10) (T := TX10) (N := 9) hx hb hts inX10 hown hK hT0 (on_w0 hW) rfl 3 rfl wF_X10_31 rfl dX10_blamed_1 ?_
  refine lv_iconst (v := 5) hx hb dX10_blamed_4 (by decide) ?_
  refine lv_iconst (v := (-1)) hx hb dX10_blamed_5 (by decide) ?_
  refine lv_iconst (v := 0) hx hb dX10_blamed_6 (by decide) ?_
  refine h_callVi (T := TX1) (rest := []) (As := [.int 5, .int (-1), .int 0]) hx hb hml hown hts hK hT0 (fun _ h => h) hS0 (c_ticksTill_5 l G Y (o + 53) (o + 3) (o + 28) (on_wp hW) (on_wr hW) (on_ws hW) (-1) 0) trivial wd_X1_ticksTill wV_X1_ticksTill wL_X10_296 ((on_wp hW).o rfl) rfl rfl hl.1 rfl (Nat.le_of_ble_eq_true rfl) dX10_blamed_7 ⟨Nat.le_of_ble_eq_true rfl, Nat.le_of_ble_eq_true rfl⟩ ⟨Nat.zero_le _, Nat.zero_le _⟩ (fun r1 H1 locs hp1 hT1 hS1 hk1 => ?_)
  have hp1 : r1 = (-1) := hp1
  subst hp1
  refine lv_istore_n (lv' := [(1, .int (-1)), (0, .ref (o))]) hx hb dX10_blamed_10 rfl hl (by decide) rfl (fun ls hl => ?_)
  refine lv_aload_n hx hb dX10_blamed_11 rfl (lv_at hl 1 rfl) ?_
  refine lv_iload_n hx hb dX10_blamed_12 rfl (lv_at hl 0 rfl) ?_
  refine lv_iconst (v := (-1)) hx hb dX10_blamed_13 (by decide) ?_
  refine lv_icmp_ne (tgt := 21) hx hb dX10_blamed_14 (by decide) (fun h => absurd (by decide) h) (fun _ => ?_)
  refine lv_iconst (v := (-1)) hx hb dX10_blamed_17 (by decide) ?_
  refine lv_goto (tgt := 28) hx hb dX10_blamed_18 (by decide) ?_
  refine h_callVi (T := TX10) (rest := []) (As := [.int (-1)]) hx hb hml hown hts hK hT1 (fun _ h => h) hS1 (c_X10_giveReached l G Y (o) hW (-1)) trivial wd_X10_giveReached wV_X10_giveReached wL_X10_300 (on_w0 hW) rfl rfl hl.1 rfl (Nat.le_of_ble_eq_true rfl) dX10_blamed_28 ⟨Nat.le_of_ble_eq_true rfl, Nat.le_of_ble_eq_true rfl⟩ ⟨Nat.zero_le _, Nat.zero_le _⟩ (fun r3 H2 locs hp2 hT2 hS2 hk2 => ?_)
  have hp2 : r3 = (-1) := hp2
  subst hp2
  exact hret _ _ _ _ _ hT2 hS2 rfl dX10_blamed_31
set_option maxHeartbeats 4000000 in
set_option maxRecDepth 100000 in
theorem c_X10_gain (l : Launch) (G : hG) (Y : hW) (o : Nat) (hW : h_On Y o (wldE tF o)) : hMi l yX10_gain cX10_gain 1 (some .int) 5 126 G Y [.ref (o)] (fun H => True) (fun H r H1 => r = 0) := by
  refine h_ofi (by decide +kernel) (Nat.le_of_ble_eq_true rfl) ?_
  intro p e s m args below meth c H0 ls Q hx hb hts hown hml hK hT0 hpr hS0 hl hret
  have hl : lv_has ls 1 [(0, .ref (o))] := hl
  refine lv_aload_n hx hb dX10_gain_0 rfl (lv_at hl 0 rfl) ?_
  refine h_getr (C := RX10) (T := TX10) (N := 9) hx hb hts inX10 hown hK hT0 (on_w0 hW) rfl 3 rfl wF_X10_31 rfl dX10_gain_1 ?_
  refine lv_iconst (v := 0) hx hb dX10_gain_4 (by decide) ?_
  refine h_callVv (T := TX1) (rest := []) (As := [.int 0]) hx hb hml hown hts hK hT0 (fun _ h => h) hS0 (c_X1_noteGot l G Y (o + 53) (o + 3) (o + 28) (on_wp hW) (on_wr hW) (on_ws hW) 0) trivial wd_X1_noteGot wV_X1_noteGot wL_X10_316 ((on_wp hW).o rfl) rfl rfl hl.1 rfl (Nat.le_of_ble_eq_true rfl) dX10_gain_5 ⟨Nat.le_of_ble_eq_true rfl, Nat.le_of_ble_eq_true rfl⟩ ⟨Nat.zero_le _, Nat.zero_le _⟩ (fun H1 locs hp1 hT1 hS1 hk1 => ?_)
  refine lv_aload_n hx hb dX10_gain_8 rfl (lv_at hl 0 rfl) ?_
  refine h_getr (C := RX10) (T := TX10) (N := 9) hx hb hts inX10 hown hK hT1 (on_w0 hW) rfl 3 rfl wF_X10_31 rfl dX10_gain_9 ?_
  refine lv_iconst (v := 1) hx hb dX10_gain_12 (by decide) ?_
  refine h_callVv (T := TX1) (rest := []) (As := [.int 1]) hx hb hml hown hts hK hT1 (fun _ h => h) hS1 (c_X1_noteGot l G Y (o + 53) (o + 3) (o + 28) (on_wp hW) (on_wr hW) (on_ws hW) 1) trivial wd_X1_noteGot wV_X1_noteGot wL_X10_316 ((on_wp hW).o rfl) rfl rfl hl.1 rfl (Nat.le_of_ble_eq_true rfl) dX10_gain_13 ⟨Nat.le_of_ble_eq_true rfl, Nat.le_of_ble_eq_true rfl⟩ ⟨Nat.zero_le _, Nat.zero_le _⟩ (fun H2 locs hp2 hT2 hS2 hk2 => ?_)
  refine lv_aload_n hx hb dX10_gain_16 rfl (lv_at hl 0 rfl) ?_
  refine lv_aload_n hx hb dX10_gain_17 rfl (lv_at hl 0 rfl) ?_
  refine h_getr (C := RX10) (T := TX10) (N := 9) hx hb hts inX10 hown hK hT2 (on_w0 hW) rfl 3 rfl wF_X10_31 rfl dX10_gain_18 ?_
  refine h_callVi (T := TX1) (rest := [.ref (o)]) (As := []) hx hb hml hown hts hK hT2 (fun _ h => h) hS2 (c_X1_ticksGained l G Y (o + 53) (o + 3) (o + 28) (on_wp hW) (on_wr hW) (on_ws hW)) trivial wd_X1_ticksGained wV_X1_ticksGained wL_X10_319 ((on_wp hW).o rfl) rfl rfl hl.1 rfl (Nat.le_of_ble_eq_true rfl) dX10_gain_21 ⟨Nat.le_of_ble_eq_true rfl, Nat.le_of_ble_eq_true rfl⟩ ⟨Nat.zero_le _, Nat.zero_le _⟩ (fun r1 H3 locs hp3 hT3 hS3 hk3 => ?_)
  have hp3 : r1 = 0 := hp3
  subst hp3
  refine h_callVi (T := TX10) (rest := []) (As := [.int 0]) hx hb hml hown hts hK hT3 (fun _ h => h) hS3 (c_X10_give l G Y (o) hW 0) trivial wd_X10_give wV_X10_give wL_X10_95 (on_w0 hW) rfl rfl hl.1 rfl (Nat.le_of_ble_eq_true rfl) dX10_gain_24 ⟨Nat.le_of_ble_eq_true rfl, Nat.le_of_ble_eq_true rfl⟩ ⟨Nat.zero_le _, Nat.zero_le _⟩ (fun r2 H4 locs hp4 hT4 hS4 hk4 => ?_)
  have hp4 : r2 = 0 := hp4
  subst hp4
  exact hret _ _ _ _ _ hT4 hS4 rfl dX10_gain_27
