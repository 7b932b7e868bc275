set_option maxHeartbeats 4000000 in
set_option maxRecDepth 100000 in
theorem c_X10_give (l : Launch) (G : hG) (Y : hW) (P : Int32 → Prop) (o : Nat) (hW : h_On Y o (wldE (tC P) o)) (u1 : Int32) : hMi l yX10_give cX10_give 2 (some .int) 0 0 G Y [.ref (o), .int u1] (fun H => True) (fun H r H1 => r = u1 ∧ h_gi G H1 10 o 7 = h_gi G H 10 o 7) := by
  refine h_ofi (by decide +kernel) (Nat.le_of_ble_eq_true rfl) ?_
  intro p e s m args below meth c H0 ls Q hx hb hts hown hml hK hZ hT0 hpr hS0 hl hret
  have hl : lv_has ls 2 [(0, .ref (o)), (1, .int u1)] := hl
  refine lv_aload_n hx hb dX10_give_0 rfl (lv_at hl 0 rfl) ?_
  refine lv_iconst (v := 0) hx hb dX10_give_1 (by decide) ?_
  refine h_puti (C := RX10) (T := TX10) (N := 9) hx hb hts inX10 tyX10 tyX10_ok nmX10 hown hK hT0 (fun _ h => h) hS0 (on_w0 hW) rfl 8 rfl wF_X10_56 rfl rfl trivial rfl rfl dX10_give_2 (fun H1 locs hT1 hS1 hu1 => ?_)
  refine lv_iload_n hx hb dX10_give_5 rfl (lv_at hl 1 rfl) ?_
  exact hret _ _ _ _ _ hT1 hS1 ⟨rfl, h_ps hu1 rfl (by decide) (by decide)⟩ dX10_give_6
set_option maxHeartbeats 4000000 in
set_option maxRecDepth 100000 in
theorem c_X10_fail (l : Launch) (G : hG) (Y : hW) (P : Int32 → Prop) (o : Nat) (hW : h_On Y o (wldE (tC P) o)) (u1 : Int32) : hMi l yX10_fail cX10_fail 2 (some .int) 0 0 G Y [.ref (o), .int u1] (fun H => True) (fun H r H1 => r = -1 ∧ h_gi G H1 10 o 7 = h_gi G H 10 o 7) := by
  refine h_ofi (by decide +kernel) (Nat.le_of_ble_eq_true rfl) ?_
  intro p e s m args below meth c H0 ls Q hx hb hts hown hml hK hZ hT0 hpr hS0 hl hret
  have hl : lv_has ls 2 [(0, .ref (o)), (1, .int u1)] := hl
  refine lv_aload_n hx hb dX10_fail_0 rfl (lv_at hl 0 rfl) ?_
  refine lv_iload_n hx hb dX10_fail_1 rfl (lv_at hl 1 rfl) ?_
  refine h_puti (C := RX10) (T := TX10) (N := 9) hx hb hts inX10 tyX10 tyX10_ok nmX10 hown hK hT0 (fun _ h => h) hS0 (on_w0 hW) rfl 8 rfl wF_X10_56 rfl rfl trivial rfl rfl dX10_fail_2 (fun H1 locs hT1 hS1 hu1 => ?_)
  refine lv_iconst (v := (-1)) hx hb dX10_fail_5 (by decide) ?_
  exact hret _ _ _ _ _ hT1 hS1 ⟨rfl, h_ps hu1 rfl (by decide) (by decide)⟩ dX10_fail_6
set_option maxHeartbeats 4000000 in
set_option maxRecDepth 100000 in
theorem c_X10_giveReached (l : Launch) (G : hG) (Y : hW) (P : Int32 → Prop) (o : Nat) (hW : h_On Y o (wldE (tC P) o)) (u1 : Int32) : hMi l yX10_giveReached cX10_giveReached 2 (some .int) 0 0 G Y [.ref (o), .int u1] (fun H => True) (fun H r H1 => True) := by
  refine h_ofi (by decide +kernel) (Nat.le_of_ble_eq_true rfl) ?_
  intro p e s m args below meth c H0 ls Q hx hb hts hown hml hK hZ hT0 hpr hS0 hl hret
  have hl : lv_has ls 2 [(0, .ref (o)), (1, .int u1)] := hl
  refine lv_aload_n hx hb dX10_giveReached_0 rfl (lv_at hl 0 rfl) ?_
  refine lv_iload_n hx hb dX10_giveReached_1 rfl (lv_at hl 1 rfl) ?_
  refine lv_iconst (v := (-1)) hx hb dX10_giveReached_2 (by decide) ?_
  refine lv_icmp_ne (tgt := 11) hx hb dX10_giveReached_3 (by decide) (fun c1 => ?_) (fun c1 => ?_)
  · skip
    refine lv_iconst (v := 0) hx hb dX10_giveReached_11 (by decide) ?_
    refine h_puti (C := RX10) (T := TX10) (N := 9) hx hb hts inX10 tyX10 tyX10_ok nmX10 hown hK hT0 (fun _ h => h) hS0 (on_w0 hW) rfl 8 rfl wF_X10_56 rfl rfl trivial rfl rfl dX10_giveReached_12 (fun H1 locs hT1 hS1 hu1 => ?_)
    refine lv_iload_n hx hb dX10_giveReached_15 rfl (lv_at hl 1 rfl) ?_
    exact hret _ _ _ _ _ hT1 hS1 trivial dX10_giveReached_16
  · skip
    refine lv_bipush (v := 7) hx hb dX10_giveReached_6 (by decide) ?_
    refine lv_goto (tgt := 12) hx hb dX10_giveReached_8 (by decide) ?_
    refine h_puti (C := RX10) (T := TX10) (N := 9) hx hb hts inX10 tyX10 tyX10_ok nmX10 hown hK hT0 (fun _ h => h) hS0 (on_w0 hW) rfl 8 rfl wF_X10_56 rfl rfl trivial rfl rfl dX10_giveReached_12 (fun H2 locs hT2 hS2 hu2 => ?_)
    refine lv_iload_n hx hb dX10_giveReached_15 rfl (lv_at hl 1 rfl) ?_
    exact hret _ _ _ _ _ hT2 hS2 trivial dX10_giveReached_16
set_option maxHeartbeats 4000000 in
set_option maxRecDepth 100000 in
theorem c_X10_load (l : Launch) (G : hG) (Y : hW) (P : Int32 → Prop) (o : Nat) (hW : h_On Y o (wldE (tC P) o)) (u1 : Int32) : hMi l yX10_load cX10_load 3 (some .int) 10 213 G Y [.ref (o), .int u1] (fun H => True) (fun H r H1 => True) := by
  refine h_ofi (by decide +kernel) (Nat.le_of_ble_eq_true rfl) ?_
  intro p e s m args below meth c H0 ls Q hx hb hts hown hml hK hZ hT0 hpr hS0 hl hret
  have hl : lv_has ls 3 [(0, .ref (o)), (1, .int u1)] := hl
  refine lv_iload_n hx hb dX10_load_0 rfl (lv_at hl 1 rfl) ?_
  refine lv_if_lt (tgt := 15) hx hb dX10_load_1 (by decide) (fun c1 => ?_) (fun c1 => ?_)
  · skip
    refine lv_aload_n hx hb dX10_load_15 rfl (lv_at hl 0 rfl) ?_
    refine lv_iconst (v := 1) hx hb dX10_load_16 (by decide) ?_
    refine h_callVi (T := TX10) (rest := []) (As := [.int 1]) hx hb hml hown hts hK hT0 hZ (fun _ h => h) hS0 (c_X10_fail l G Y P (o) hW 1) trivial wd_X10_fail wV_X10_fail wL_X10_66 (on_w0 hW) rfl rfl hl.1 rfl (Nat.le_of_ble_eq_true rfl) dX10_load_17 ⟨Nat.le_of_ble_eq_true rfl, Nat.le_of_ble_eq_true rfl⟩ ⟨Nat.zero_le _, Nat.zero_le _⟩ (fun r2 H1 locs hp1 hT1 hS1 hk1 => ?_)
    obtain ⟨hq, hp1⟩ := hp1
    have hq : r2 = (-1) := hq
    subst hq
    exact hret _ _ _ _ _ hT1 hS1 trivial dX10_load_20
  · skip
    refine lv_iload_n hx hb dX10_load_4 rfl (lv_at hl 1 rfl) ?_
    refine lv_aload_n hx hb dX10_load_5 rfl (lv_at hl 0 rfl) ?_
    refine h_getr (C := RX10) (T := TX10) (N := 9) hx hb hts inX10 hown hK hT0 (on_w0 hW) rfl 0 rfl wF_X10_10 rfl dX10_load_6 ?_
    refine h_geti (C := RX8) (T := TX8) (N := 4) hx hb hts inX8 hown hK hT0 ((on_wt hW).o rfl) rfl 1 rfl wF_X10_59 rfl dX10_load_9 (fun p3 => ?_)
    refine lv_topi (fun x4 ex4 => ?_)
    refine lv_icmp_le (tgt := 21) hx hb dX10_load_12 (by decide) (fun c5 => ?_) (fun c5 => ?_)
    · skip
      refine lv_aload_n hx hb dX10_load_21 rfl (lv_at hl 0 rfl) ?_
      refine h_getr (C := RX10) (T := TX10) (N := 9) hx hb hts inX10 hown hK hT0 (on_w0 hW) rfl 4 rfl wF_X10_40 rfl dX10_load_22 ?_
      refine lv_iload_n hx hb dX10_load_25 rfl (lv_at hl 1 rfl) ?_
      refine h_callVi (T := TX4) (rest := []) (As := [.int u1]) hx hb hml hown hts hK hT0 hZ (fun _ h => h) hS0 (c_X4_readText l G Y P (o + 56) (o + 1) (o + 28) (on_we hW) (on_wt hW) (on_ws hW) u1) trivial wd_X4_readText wV_X4_readText wL_X10_70 ((on_we hW).o rfl) rfl rfl hl.1 rfl (Nat.le_of_ble_eq_true rfl) dX10_load_26 ⟨Nat.le_of_ble_eq_true rfl, Nat.le_of_ble_eq_true rfl⟩ ⟨Nat.zero_le _, Nat.zero_le _⟩ (fun r6 H2 locs hp2 hT2 hS2 hk2 => ?_)
      refine lv_istore_n (lv' := [(2, .int r6), (0, .ref (o)), (1, .int u1)]) hx hb dX10_load_29 rfl hl (by decide) rfl (fun ls hl => ?_)
      refine lv_aload_n hx hb dX10_load_30 rfl (lv_at hl 1 rfl) ?_
      refine h_getr (C := RX10) (T := TX10) (N := 9) hx hb hts inX10 hown hK hT2 (on_w0 hW) rfl 0 rfl wF_X10_10 rfl dX10_load_31 ?_
      refine lv_iconst (v := 0) hx hb dX10_load_34 (by decide) ?_
      refine h_puti (C := RX8) (T := TX8) (N := 4) hx hb hts inX8 tyX8 tyX8_ok nmX8 hown hK hT2 (fun _ h => h) hS2 ((on_wt hW).o rfl) rfl 1 rfl wF_X10_59 rfl rfl trivial rfl rfl dX10_load_35 (fun H3 locs hT3 hS3 hu3 => ?_)
      refine lv_aload_n hx hb dX10_load_38 rfl (lv_at hl 1 rfl) ?_
      refine h_getr (C := RX10) (T := TX10) (N := 9) hx hb hts inX10 hown hK hT3 (on_w0 hW) rfl 0 rfl wF_X10_10 rfl dX10_load_39 ?_
      refine lv_aload_n hx hb dX10_load_42 rfl (lv_at hl 1 rfl) ?_
      refine h_getr (C := RX10) (T := TX10) (N := 9) hx hb hts inX10 hown hK hT3 (on_w0 hW) rfl 4 rfl wF_X10_40 rfl dX10_load_43 ?_
      refine h_geti (C := RX4) (T := TX4) (N := 13) hx hb hts inX4 hown hK hT3 ((on_we hW).o rfl) rfl 11 rfl wF_X10_74 rfl dX10_load_46 (fun p7 => ?_)
      refine lv_topi (fun x8 ex8 => ?_)
      refine h_puti (C := RX8) (T := TX8) (N := 4) hx hb hts inX8 tyX8 tyX8_ok nmX8 hown hK hT3 (fun _ h => h) hS3 ((on_wt hW).o rfl) rfl 2 rfl wF_X10_77 rfl rfl trivial rfl rfl dX10_load_49 (fun H4 locs hT4 hS4 hu4 => ?_)
      refine lv_aload_n hx hb dX10_load_52 rfl (lv_at hl 1 rfl) ?_
      refine h_getr (C := RX10) (T := TX10) (N := 9) hx hb hts inX10 hown hK hT4 (on_w0 hW) rfl 0 rfl wF_X10_10 rfl dX10_load_53 ?_
      refine lv_aload_n hx hb dX10_load_56 rfl (lv_at hl 1 rfl) ?_
      refine h_getr (C := RX10) (T := TX10) (N := 9) hx hb hts inX10 hown hK hT4 (on_w0 hW) rfl 4 rfl wF_X10_40 rfl dX10_load_57 ?_
      refine h_geti (C := RX4) (T := TX4) (N := 13) hx hb hts inX4 hown hK hT4 ((on_we hW).o rfl) rfl 12 rfl wF_X10_78 rfl dX10_load_60 (fun p9 => ?_)
      refine lv_topi (fun x10 ex10 => ?_)
      refine h_puti (C := RX8) (T := TX8) (N := 4) hx hb hts inX8 tyX8 tyX8_ok nmX8 hown hK hT4 (fun _ h => h) hS4 ((on_wt hW).o rfl) rfl 3 rfl wF_X10_81 rfl rfl trivial rfl rfl dX10_load_63 (fun H5 locs hT5 hS5 hu5 => ?_)
      refine lv_iload_n hx hb dX10_load_66 rfl (lv_at hl 0 rfl) ?_
      refine lv_if_ne (tgt := 77) hx hb dX10_load_67 (by decide) (fun c11 => ?_) (fun c11 => ?_)
      · skip
        refine lv_aload_n hx hb dX10_load_77 rfl (lv_at hl 1 rfl) ?_
        refine h_getr (C := RX10) (T := TX10) (N := 9) hx hb hts inX10 hown hK hT5 (on_w0 hW) rfl 1 rfl wF_X10_19 rfl dX10_load_78 ?_
        refine lv_aload_n hx hb dX10_load_81 rfl (lv_at hl 1 rfl) ?_
        refine h_getr (C := RX10) (T := TX10) (N := 9) hx hb hts inX10 hown hK hT5 (on_w0 hW) rfl 2 rfl wF_X10_23 rfl dX10_load_82 ?_
        refine h_callVv (T := TX5) (rest := []) (As := [.ref (o + 28)]) hx hb hml hown hts hK hT5 hZ (fun _ h => h) hS5 (c_X5_copyFrom l G Y P (o + 3) (o + 28) (on_wr hW) (on_ws hW)) trivial wd_X5_copyFrom wV_X5_copyFrom wL_X10_82 (on_rg (on_wr hW)) rfl rfl hl.1 rfl (Nat.le_of_ble_eq_true rfl) dX10_load_85 ⟨Nat.le_of_ble_eq_true rfl, Nat.le_of_ble_eq_true rfl⟩ ⟨Nat.zero_le _, Nat.zero_le _⟩ (fun H6 locs hp6 hT6 hS6 hk6 => ?_)
        refine lv_aload_n hx hb dX10_load_88 rfl (lv_at hl 1 rfl) ?_
        refine lv_aload_n hx hb dX10_load_89 rfl (lv_at hl 1 rfl) ?_
        refine h_getr (C := RX10) (T := TX10) (N := 9) hx hb hts inX10 hown hK hT6 (on_w0 hW) rfl 1 rfl wF_X10_19 rfl dX10_load_90 ?_
        refine h_getr (C := RX5) (T := TX5) (N := 11) hx hb hts inX5 hown hK hT6 (on_rg (on_wr hW)) rfl 0 rfl wF_X10_86 rfl dX10_load_93 ?_
        refine h_geti (C := RX7) (T := TX7) (N := 9) hx hb hts inX7 hown hK hT6 ((on_st (on_wr hW)).o rfl) rfl 5 rfl wF_X10_90 rfl dX10_load_96 (fun p12 => ?_)
        refine lv_topi (fun x13 ex13 => ?_)
        refine h_callVi (T := TX10) (rest := []) (As := [.int x13]) hx hb hml hown hts hK hT6 hZ (fun _ h => h) hS6 (c_X10_give l G Y P (o) hW x13) trivial wd_X10_give wV_X10_give wL_X10_95 (on_w0 hW) rfl rfl hl.1 rfl (Nat.le_of_ble_eq_true rfl) dX10_load_99 ⟨Nat.le_of_ble_eq_true rfl, Nat.le_of_ble_eq_true rfl⟩ ⟨Nat.zero_le _, Nat.zero_le _⟩ (fun r14 H7 locs hp7 hT7 hS7 hk7 => ?_)
        obtain ⟨hq, hp7⟩ := hp7
        have hq : r14 = x13 := hq
        subst hq
        exact hret _ _ _ _ _ hT7 hS7 trivial dX10_load_102
      · skip
        refine lv_aload_n hx hb dX10_load_70 rfl (lv_at hl 1 rfl) ?_
        refine lv_bipush (v := 9) hx hb dX10_load_71 (by decide) ?_
        refine h_callVi (T := TX10) (rest := []) (As := [.int 9]) hx hb hml hown hts hK hT5 hZ (fun _ h => h) hS5 (c_X10_fail l G Y P (o) hW 9) trivial wd_X10_fail wV_X10_fail wL_X10_66 (on_w0 hW) rfl rfl hl.1 rfl (Nat.le_of_ble_eq_true rfl) dX10_load_73 ⟨Nat.le_of_ble_eq_true rfl, Nat.le_of_ble_eq_true rfl⟩ ⟨Nat.zero_le _, Nat.zero_le _⟩ (fun r15 H8 locs hp8 hT8 hS8 hk8 => ?_)
        obtain ⟨hq, hp8⟩ := hp8
        have hq : r15 = (-1) := hq
        subst hq
        exact hret _ _ _ _ _ hT8 hS8 trivial dX10_load_76
    · skip
      refine lv_aload_n hx hb dX10_load_15 rfl (lv_at hl 0 rfl) ?_
      refine lv_iconst (v := 1) hx hb dX10_load_16 (by decide) ?_
      refine h_callVi (T := TX10) (rest := []) (As := [.int 1]) hx hb hml hown hts hK hT0 hZ (fun _ h => h) hS0 (c_X10_fail l G Y P (o) hW 1) trivial wd_X10_fail wV_X10_fail wL_X10_66 (on_w0 hW) rfl rfl hl.1 rfl (Nat.le_of_ble_eq_true rfl) dX10_load_17 ⟨Nat.le_of_ble_eq_true rfl, Nat.le_of_ble_eq_true rfl⟩ ⟨Nat.zero_le _, Nat.zero_le _⟩ (fun r16 H9 locs hp9 hT9 hS9 hk9 => ?_)
      obtain ⟨hq, hp9⟩ := hp9
      have hq : r16 = (-1) := hq
      subst hq
      exact hret _ _ _ _ _ hT9 hS9 trivial dX10_load_20
set_option maxHeartbeats 4000000 in
set_option maxRecDepth 100000 in
theorem c_X10_refuse (l : Launch) (G : hG) (Y : hW) (P : Int32 → Prop) (o : Nat) (hW : h_On Y o (wldE (tC P) o)) (u1 : Int32) : hMi l yX10_refuse cX10_refuse 2 (some .boolean) 0 0 G Y [.ref (o), .int u1] (fun H => True) (fun H r H1 => (r = 0 ∨ r = 1) ∧ True) := by
  refine h_ofz (by decide +kernel) (Nat.le_of_ble_eq_true rfl) ?_
  intro p e s m args below meth c H0 ls Q hx hb hts hown hml hK hZ hT0 hpr hS0 hl hret
  have hl : lv_has ls 2 [(0, .ref (o)), (1, .int u1)] := hl
  refine lv_aload_n hx hb dX10_refuse_0 rfl (lv_at hl 0 rfl) ?_
  refine lv_iload_n hx hb dX10_refuse_1 rfl (lv_at hl 1 rfl) ?_
  refine h_puti (C := RX10) (T := TX10) (N := 9) hx hb hts inX10 tyX10 tyX10_ok nmX10 hown hK hT0 (fun _ h => h) hS0 (on_w0 hW) rfl 8 rfl wF_X10_56 rfl rfl trivial rfl rfl dX10_refuse_2 (fun H1 locs hT1 hS1 hu1 => ?_)
  refine lv_iconst (v := 0) hx hb dX10_refuse_5 (by decide) ?_
  exact hret _ _ _ _ _ hT1 hS1 ⟨(by decide), ⟨(by decide), trivial⟩⟩ dX10_refuse_6
set_option maxHeartbeats 4000000 in
set_option maxRecDepth 100000 in
theorem c_X10_succeed (l : Launch) (G : hG) (Y : hW) (P : Int32 → Prop) (o : Nat) (hW : h_On Y o (wldE (tC P) o)) : hMi l yX10_succeed cX10_succeed 1 (some .boolean) 0 0 G Y [.ref (o)] (fun H => True) (fun H r H1 => (r = 0 ∨ r = 1) ∧ True) := by
  refine h_ofz (by decide +kernel) (Nat.le_of_ble_eq_true rfl) ?_
  intro p e s m args below meth c H0 ls Q hx hb hts hown hml hK hZ hT0 hpr hS0 hl hret
  have hl : lv_has ls 1 [(0, .ref (o))] := hl
  refine lv_aload_n hx hb dX10_succeed_0 rfl (lv_at hl 0 rfl) ?_
  refine lv_iconst (v := 0) hx hb dX10_succeed_1 (by decide) ?_
  refine h_puti (C := RX10) (T := TX10) (N := 9) hx hb hts inX10 tyX10 tyX10_ok nmX10 hown hK hT0 (fun _ h => h) hS0 (on_w0 hW) rfl 8 rfl wF_X10_56 rfl rfl trivial rfl rfl dX10_succeed_2 (fun H1 locs hT1 hS1 hu1 => ?_)
  refine lv_iconst (v := 1) hx hb dX10_succeed_5 (by decide) ?_
  exact hret _ _ _ _ _ hT1 hS1 ⟨(by decide), ⟨(by decide), trivial⟩⟩ dX10_succeed_6
set_option maxHeartbeats 4000000 in
set_option maxRecDepth 100000 in
theorem c_X10_status (l : Launch) (G : hG) (Y : hW) (P : Int32 → Prop) (o : Nat) (hW : h_On Y o (wldE (tC P) o)) : hMi l yX10_status cX10_status 1 (some .int) 0 0 G Y [.ref (o)] (fun H => True) (fun H r H1 => (True) ∧ H1 = H) := by
  refine h_ofi (by decide +kernel) (Nat.le_of_ble_eq_true rfl) ?_
  intro p e s m args below meth c H0 ls Q hx hb hts hown hml hK hZ hT0 hpr hS0 hl hret
  have hl : lv_has ls 1 [(0, .ref (o))] := hl
  refine lv_aload_n hx hb dX10_status_0 rfl (lv_at hl 0 rfl) ?_
  refine h_geti (C := RX10) (T := TX10) (N := 9) hx hb hts inX10 hown hK hT0 (on_w0 hW) rfl 8 rfl wF_X10_56 rfl dX10_status_1 (fun p1 => ?_)
  refine lv_topi (fun x2 ex2 => ?_)
  exact hret _ _ _ _ _ hT0 hS0 ⟨trivial, rfl⟩ dX10_status_4
set_option maxHeartbeats 4000000 in
set_option maxRecDepth 100000 in
theorem c_X10_feed (l : Launch) (G : hG) (Y : hW) (P : Int32 → Prop) (o : Nat) (hW : h_On Y o (wldE (tC P) o)) (u1 u2 u3 u4 u5 : Int32) : hMi l yX10_feed cX10_feed 6 (some .int) 1 22 G Y [.ref (o), .int u1, .int u2, .int u3, .int u4, .int u5] (fun H => True) (fun H r H1 => True) := by
  refine h_ofi (by decide +kernel) (Nat.le_of_ble_eq_true rfl) ?_
  intro p e s m args below meth c H0 ls Q hx hb hts hown hml hK hZ hT0 hpr hS0 hl hret
  have hl : lv_has ls 6 [(0, .ref (o)), (1, .int u1), (2, .int u2), (3, .int u3), (4, .int u4), (5, .int u5)] := hl
  refine lv_aload_n hx hb dX10_feed_0 rfl (lv_at hl 0 rfl) ?_
  refine h_getr (C := RX10) (T := TX10) (N := 9) hx hb hts inX10 hown hK hT0 (on_w0 hW) rfl 0 rfl wF_X10_10 rfl dX10_feed_1 ?_
  refine h_geti (C := RX8) (T := TX8) (N := 4) hx hb hts inX8 hown hK hT0 ((on_wt hW).o rfl) rfl 1 rfl wF_X10_59 rfl dX10_feed_4 (fun p1 => ?_)
  refine lv_topi (fun x2 ex2 => ?_)
  refine lv_bipush (v := 20) hx hb dX10_feed_7 (by decide) ?_
  refine lv_iadd hx hb dX10_feed_9 ?_
  refine lv_topi (fun x3 ex3 => ?_)
  refine lv_sipush (v := 500) hx hb dX10_feed_10 (by decide) ?_
  refine lv_icmp_le (tgt := 18) hx hb dX10_feed_13 (by decide) (fun c4 => ?_) (fun c4 => ?_)
  · skip
    refine lv_aload_n hx hb dX10_feed_18 rfl (lv_at hl 0 rfl) ?_
    refine h_getr (C := RX10) (T := TX10) (N := 9) hx hb hts inX10 hown hK hT0 (on_w0 hW) rfl 0 rfl wF_X10_10 rfl dX10_feed_19 ?_
    refine lv_iload_n hx hb dX10_feed_22 rfl (lv_at hl 1 rfl) ?_
    refine h_callVv (T := TX8) (rest := []) (As := [.int u1]) hx hb hml hown hts hK hT0 hZ (fun _ h => h) hS0 (c_X8_append l G Y P (o + 1) (on_wt hW) u1) trivial wd_X8_append wV_X8_append wL_X10_62 ((on_wt hW).o rfl) rfl rfl hl.1 rfl (Nat.le_of_ble_eq_true rfl) dX10_feed_23 ⟨Nat.le_of_ble_eq_true rfl, Nat.le_of_ble_eq_true rfl⟩ ⟨Nat.zero_le _, Nat.zero_le _⟩ (fun H1 locs hp1 hT1 hS1 hk1 => ?_)
    refine lv_aload_n hx hb dX10_feed_26 rfl (lv_at hl 0 rfl) ?_
    refine h_getr (C := RX10) (T := TX10) (N := 9) hx hb hts inX10 hown hK hT1 (on_w0 hW) rfl 0 rfl wF_X10_10 rfl dX10_feed_27 ?_
    refine lv_iload_n hx hb dX10_feed_30 rfl (lv_at hl 2 rfl) ?_
    refine h_callVv (T := TX8) (rest := []) (As := [.int u2]) hx hb hml hown hts hK hT1 hZ (fun _ h => h) hS1 (c_X8_append l G Y P (o + 1) (on_wt hW) u2) trivial wd_X8_append wV_X8_append wL_X10_62 ((on_wt hW).o rfl) rfl rfl hl.1 rfl (Nat.le_of_ble_eq_true rfl) dX10_feed_31 ⟨Nat.le_of_ble_eq_true rfl, Nat.le_of_ble_eq_true rfl⟩ ⟨Nat.zero_le _, Nat.zero_le _⟩ (fun H2 locs hp2 hT2 hS2 hk2 => ?_)
    refine lv_aload_n hx hb dX10_feed_34 rfl (lv_at hl 0 rfl) ?_
    refine h_getr (C := RX10) (T := TX10) (N := 9) hx hb hts inX10 hown hK hT2 (on_w0 hW) rfl 0 rfl wF_X10_10 rfl dX10_feed_35 ?_
    refine lv_iload_n hx hb dX10_feed_38 rfl (lv_at hl 3 rfl) ?_
    refine h_callVv (T := TX8) (rest := []) (As := [.int u3]) hx hb hml hown hts hK hT2 hZ (fun _ h => h) hS2 (c_X8_append l G Y P (o + 1) (on_wt hW) u3) trivial wd_X8_append wV_X8_append wL_X10_62 ((on_wt hW).o rfl) rfl rfl hl.1 rfl (Nat.le_of_ble_eq_true rfl) dX10_feed_39 ⟨Nat.le_of_ble_eq_true rfl, Nat.le_of_ble_eq_true rfl⟩ ⟨Nat.zero_le _, Nat.zero_le _⟩ (fun H3 locs hp3 hT3 hS3 hk3 => ?_)
    refine lv_aload_n hx hb dX10_feed_42 rfl (lv_at hl 0 rfl) ?_
    refine h_getr (C := RX10) (T := TX10) (N := 9) hx hb hts inX10 hown hK hT3 (on_w0 hW) rfl 0 rfl wF_X10_10 rfl dX10_feed_43 ?_
    refine lv_iload hx hb dX10_feed_46 (lv_at hl 4 rfl) ?_
    refine h_callVv (T := TX8) (rest := []) (As := [.int u4]) hx hb hml hown hts hK hT3 hZ (fun _ h => h) hS3 (c_X8_append l G Y P (o + 1) (on_wt hW) u4) trivial wd_X8_append wV_X8_append wL_X10_62 ((on_wt hW).o rfl) rfl rfl hl.1 rfl (Nat.le_of_ble_eq_true rfl) dX10_feed_48 ⟨Nat.le_of_ble_eq_true rfl, Nat.le_of_ble_eq_true rfl⟩ ⟨Nat.zero_le _, Nat.zero_le _⟩ (fun H4 locs hp4 hT4 hS4 hk4 => ?_)
    refine lv_aload_n hx hb dX10_feed_51 rfl (lv_at hl 0 rfl) ?_
    refine h_getr (C := RX10) (T := TX10) (N := 9) hx hb hts inX10 hown hK hT4 (on_w0 hW) rfl 0 rfl wF_X10_10 rfl dX10_feed_52 ?_
    refine lv_iload hx hb dX10_feed_55 (lv_at hl 5 rfl) ?_
    refine h_callVv (T := TX8) (rest := []) (As := [.int u5]) hx hb hml hown hts hK hT4 hZ (fun _ h => h) hS4 (c_X8_append l G Y P (o + 1) (on_wt hW) u5) trivial wd_X8_append wV_X8_append wL_X10_62 ((on_wt hW).o rfl) rfl rfl hl.1 rfl (Nat.le_of_ble_eq_true rfl) dX10_feed_57 ⟨Nat.le_of_ble_eq_true rfl, Nat.le_of_ble_eq_true rfl⟩ ⟨Nat.zero_le _, Nat.zero_le _⟩ (fun H5 locs hp5 hT5 hS5 hk5 => ?_)
    refine lv_aload_n hx hb dX10_feed_60 rfl (lv_at hl 0 rfl) ?_
    refine h_getr (C := RX10) (T := TX10) (N := 9) hx hb hts inX10 hown hK hT5 (on_w0 hW) rfl 0 rfl wF_X10_10 rfl dX10_feed_61 ?_
    refine h_geti (C := RX8) (T := TX8) (N := 4) hx hb hts inX8 hown hK hT5 ((on_wt hW).o rfl) rfl 1 rfl wF_X10_59 rfl dX10_feed_64 (fun p5 => ?_)
    refine lv_topi (fun x6 ex6 => ?_)
    exact hret _ _ _ _ _ hT5 hS5 trivial dX10_feed_67
  · skip
    refine lv_iconst (v := (-1)) hx hb dX10_feed_16 (by decide) ?_
    exact hret _ _ _ _ _ hT0 hS0 trivial dX10_feed_17
set_option maxHeartbeats 4000000 in
set_option maxRecDepth 100000 in
theorem c_X10_fault (l : Launch) (G : hG) (Y : hW) (P : Int32 → Prop) (o : Nat) (hW : h_On Y o (wldE (tC P) o)) (u1 : Int32) : hMi l yX10_fault cX10_fault 2 (some .int) 0 0 G Y [.ref (o), .int u1] (fun H => True) (fun H r H1 => (True) ∧ H1 = H) := by
  refine h_ofi (by decide +kernel) (Nat.le_of_ble_eq_true rfl) ?_
  intro p e s m args below meth c H0 ls Q hx hb hts hown hml hK hZ hT0 hpr hS0 hl hret
  have hl : lv_has ls 2 [(0, .ref (o)), (1, .int u1)] := hl
  refine lv_iload_n hx hb dX10_fault_0 rfl (lv_at hl 1 rfl) ?_
  refine lv_if_ne (tgt := 12) hx hb dX10_fault_1 (by decide) (fun c1 => ?_) (fun c1 => ?_)
  · skip
    refine lv_iload_n hx hb dX10_fault_12 rfl (lv_at hl 1 rfl) ?_
    refine lv_iconst (v := 1) hx hb dX10_fault_13 (by decide) ?_
    refine lv_icmp_ne (tgt := 27) hx hb dX10_fault_14 (by decide) (fun c2 => ?_) (fun c2 => ?_)
    · skip
      refine lv_iconst (v := (-1)) hx hb dX10_fault_27 (by decide) ?_
      exact hret _ _ _ _ _ hT0 hS0 ⟨trivial, rfl⟩ dX10_fault_28
    · skip
      refine lv_aload_n hx hb dX10_fault_17 rfl (lv_at hl 0 rfl) ?_
      refine h_getr (C := RX10) (T := TX10) (N := 9) hx hb hts inX10 hown hK hT0 (on_w0 hW) rfl 0 rfl wF_X10_10 rfl dX10_fault_18 ?_
      refine h_geti (C := RX8) (T := TX8) (N := 4) hx hb hts inX8 hown hK hT0 ((on_wt hW).o rfl) rfl 3 rfl wF_X10_81 rfl dX10_fault_21 (fun p3 => ?_)
      refine lv_topi (fun x4 ex4 => ?_)
      refine lv_goto (tgt := 28) hx hb dX10_fault_24 (by decide) ?_
      exact hret _ _ _ _ _ hT0 hS0 ⟨trivial, rfl⟩ dX10_fault_28
  · skip
    refine lv_aload_n hx hb dX10_fault_4 rfl (lv_at hl 0 rfl) ?_
    refine h_getr (C := RX10) (T := TX10) (N := 9) hx hb hts inX10 hown hK hT0 (on_w0 hW) rfl 0 rfl wF_X10_10 rfl dX10_fault_5 ?_
    refine h_geti (C := RX8) (T := TX8) (N := 4) hx hb hts inX8 hown hK hT0 ((on_wt hW).o rfl) rfl 2 rfl wF_X10_77 rfl dX10_fault_8 (fun p5 => ?_)
    refine lv_topi (fun x6 ex6 => ?_)
    exact hret _ _ _ _ _ hT0 hS0 ⟨trivial, rfl⟩ dX10_fault_11
set_option maxHeartbeats 4000000 in
set_option maxRecDepth 100000 in
theorem c_X10_many (l : Launch) (G : hG) (Y : hW) (P : Int32 → Prop) (o : Nat) (hW : h_On Y o (wldE (tC P) o)) (u1 : Int32) : hMi l yX10_many cX10_many 3 (some .int) 3 63 G Y [.ref (o), .int u1] (fun H => True) (fun H r H1 => True) := by
  refine h_ofi (by decide +kernel) (Nat.le_of_ble_eq_true rfl) ?_
  intro p e s m args below meth c H0 ls Q hx hb hts hown hml hK hZ hT0 hpr hS0 hl hret
  have hl : lv_has ls 3 [(0, .ref (o)), (1, .int u1)] := hl
  refine lv_aload_n hx hb dX10_many_0 rfl (lv_at hl 0 rfl) ?_
  refine h_getr (C := RX10) (T := TX10) (N := 9) hx hb hts inX10 hown hK hT0 (on_w0 hW) rfl 1 rfl wF_X10_19 rfl dX10_many_1 ?_
  refine h_getr (C := RX5) (T := TX5) (N := 11) hx hb hts inX5 hown hK hT0 (on_rg (on_wr hW)) rfl 0 rfl wF_X10_86 rfl dX10_many_4 ?_
  refine lv_astore_n (lv' := [(2, .ref (o + 3 + 1)), (0, .ref (o)), (1, .int u1)]) hx hb dX10_many_7 rfl hl (by decide) rfl (fun ls hl => ?_)
  refine lv_iload_n hx hb dX10_many_8 rfl (lv_at hl 2 rfl) ?_
  rcases h_sw11 u1 with c1 | c1 | c1 | c1 | c1 | c1 | c1 | c1 | c1 | c1 | c1 | c1
  · skip
    refine lv_tableOut (tgt := 210) hx hb dX10_many_9 c1 (by decide) ?_
    refine lv_aload_n hx hb dX10_many_210 rfl (lv_at hl 1 rfl) ?_
    refine lv_iconst (v := 1) hx hb dX10_many_211 (by decide) ?_
    refine h_callVi (T := TX10) (rest := []) (As := [.int 1]) hx hb hml hown hts hK hT0 hZ (fun _ h => h) hS0 (c_X10_fail l G Y P (o) hW 1) trivial wd_X10_fail wV_X10_fail wL_X10_66 (on_w0 hW) rfl rfl hl.1 rfl (Nat.le_of_ble_eq_true rfl) dX10_many_212 ⟨Nat.le_of_ble_eq_true rfl, Nat.le_of_ble_eq_true rfl⟩ ⟨Nat.zero_le _, Nat.zero_le _⟩ (fun r2 H1 locs hp1 hT1 hS1 hk1 => ?_)
    obtain ⟨hq, hp1⟩ := hp1
    have hq : r2 = (-1) := hq
    subst hq
    exact hret _ _ _ _ _ hT1 hS1 trivial dX10_many_215
  · subst c1
    refine lv_tableIn (tgt := 68) hx hb dX10_many_9 (by decide) (by decide) rfl (by decide) ?_
    refine lv_aload_n hx hb dX10_many_68 rfl (lv_at hl 1 rfl) ?_
    refine lv_aload_n hx hb dX10_many_69 rfl (lv_at hl 0 rfl) ?_
    refine h_geti (C := RX7) (T := TX7) (N := 9) hx hb hts inX7 hown hK hT0 ((on_st (on_wr hW)).o rfl) rfl 5 rfl wF_X10_90 rfl dX10_many_70 (fun p3 => ?_)
    refine lv_topi (fun x4 ex4 => ?_)
    refine h_callVi (T := TX10) (rest := []) (As := [.int x4]) hx hb hml hown hts hK hT0 hZ (fun _ h => h) hS0 (c_X10_give l G Y P (o) hW x4) trivial wd_X10_give wV_X10_give wL_X10_95 (on_w0 hW) rfl rfl hl.1 rfl (Nat.le_of_ble_eq_true rfl) dX10_many_73 ⟨Nat.le_of_ble_eq_true rfl, Nat.le_of_ble_eq_true rfl⟩ ⟨Nat.zero_le _, Nat.zero_le _⟩ (fun r5 H2 locs hp2 hT2 hS2 hk2 => ?_)
    obtain ⟨hq, hp2⟩ := hp2
    have hq : r5 = x4 := hq
    subst hq
    exact hret _ _ _ _ _ hT2 hS2 trivial dX10_many_76
  · subst c1
    refine lv_tableIn (tgt := 77) hx hb dX10_many_9 (by decide) (by decide) rfl (by decide) ?_
    refine lv_aload_n hx hb dX10_many_77 rfl (lv_at hl 1 rfl) ?_
    refine lv_aload_n hx hb dX10_many_78 rfl (lv_at hl 0 rfl) ?_
    refine h_callVi (T := TX7) (rest := [.ref (o)]) (As := []) hx hb hml hown hts hK hT0 hZ (fun _ h => h) hS0 (c_X7_onBits l G Y P (o + 3 + 1) (on_st (on_wr hW))) trivial wd_X7_onBits wV_X7_onBits wL_X10_98 ((on_st (on_wr hW)).o rfl) rfl rfl hl.1 rfl (Nat.le_of_ble_eq_true rfl) dX10_many_79 ⟨Nat.le_of_ble_eq_true rfl, Nat.le_of_ble_eq_true rfl⟩ ⟨Nat.zero_le _, Nat.zero_le _⟩ (fun r6 H3 locs hp3 hT3 hS3 hk3 => ?_)
    obtain ⟨hp3, he⟩ := hp3
    have he := he.symm
    subst he
    refine h_callVi (T := TX10) (rest := []) (As := [.int r6]) hx hb hml hown hts hK hT0 hZ (fun _ h => h) hS3 (c_X10_give l G Y P (o) hW r6) trivial wd_X10_give wV_X10_give wL_X10_95 (on_w0 hW) rfl rfl hl.1 rfl (Nat.le_of_ble_eq_true rfl) dX10_many_82 ⟨Nat.le_of_ble_eq_true rfl, Nat.le_of_ble_eq_true rfl⟩ ⟨Nat.zero_le _, Nat.zero_le _⟩ (fun r7 H4 locs hp4 hT4 hS4 hk4 => ?_)
    obtain ⟨hq, hp4⟩ := hp4
    have hq : r7 = r6 := hq
    subst hq
    exact hret _ _ _ _ _ hT4 hS4 trivial dX10_many_85
  · subst c1
    refine lv_tableIn (tgt := 86) hx hb dX10_many_9 (by decide) (by decide) rfl (by decide) ?_
    refine lv_aload_n hx hb dX10_many_86 rfl (lv_at hl 1 rfl) ?_
    refine lv_aload_n hx hb dX10_many_87 rfl (lv_at hl 0 rfl) ?_
    refine h_geti (C := RX7) (T := TX7) (N := 9) hx hb hts inX7 hown hK hT0 ((on_st (on_wr hW)).o rfl) rfl 6 rfl wF_X10_102 rfl dX10_many_88 (fun p8 => ?_)
    refine lv_topi (fun x9 ex9 => ?_)
    refine h_callVi (T := TX10) (rest := []) (As := [.int x9]) hx hb hml hown hts hK hT0 hZ (fun _ h => h) hS0 (c_X10_give l G Y P (o) hW x9) trivial wd_X10_give wV_X10_give wL_X10_95 (on_w0 hW) rfl rfl hl.1 rfl (Nat.le_of_ble_eq_true rfl) dX10_many_91 ⟨Nat.le_of_ble_eq_true rfl, Nat.le_of_ble_eq_true rfl⟩ ⟨Nat.zero_le _, Nat.zero_le _⟩ (fun r10 H5 locs hp5 hT5 hS5 hk5 => ?_)
    obtain ⟨hq, hp5⟩ := hp5
    have hq : r10 = x9 := hq
    subst hq
    exact hret _ _ _ _ _ hT5 hS5 trivial dX10_many_94
  · subst c1
    refine lv_tableIn (tgt := 95) hx hb dX10_many_9 (by decide) (by decide) rfl (by decide) ?_
    refine lv_aload_n hx hb dX10_many_95 rfl (lv_at hl 1 rfl) ?_
    refine lv_aload_n hx hb dX10_many_96 rfl (lv_at hl 1 rfl) ?_
    refine h_getr (C := RX10) (T := TX10) (N := 9) hx hb hts inX10 hown hK hT0 (on_w0 hW) rfl 1 rfl wF_X10_19 rfl dX10_many_97 ?_
    refine h_getr (C := RX5) (T := TX5) (N := 11) hx hb hts inX5 hown hK hT0 (on_rg (on_wr hW)) rfl 1 rfl wF_X10_105 rfl dX10_many_100 ?_
    refine h_callVi (T := TX2) (rest := [.ref (o)]) (As := []) hx hb hml hown hts hK hT0 hZ (fun _ h => h) hS0 (c_X2_total l G Y P (o + 3 + 7) (on_qu (on_wr hW))) trivial wd_X2_total wV_X2_total wL_X10_109 ((on_qu (on_wr hW)).o rfl) rfl rfl hl.1 rfl (Nat.le_of_ble_eq_true rfl) dX10_many_103 ⟨Nat.le_of_ble_eq_true rfl, Nat.le_of_ble_eq_true rfl⟩ ⟨Nat.zero_le _, Nat.zero_le _⟩ (fun r11 H6 locs hp6 hT6 hS6 hk6 => ?_)
    obtain ⟨hp6, he⟩ := hp6
    have he := he.symm
    subst he
    refine h_callVi (T := TX10) (rest := []) (As := [.int r11]) hx hb hml hown hts hK hT0 hZ (fun _ h => h) hS6 (c_X10_give l G Y P (o) hW r11) trivial wd_X10_give wV_X10_give wL_X10_95 (on_w0 hW) rfl rfl hl.1 rfl (Nat.le_of_ble_eq_true rfl) dX10_many_106 ⟨Nat.le_of_ble_eq_true rfl, Nat.le_of_ble_eq_true rfl⟩ ⟨Nat.zero_le _, Nat.zero_le _⟩ (fun r12 H7 locs hp7 hT7 hS7 hk7 => ?_)
    obtain ⟨hq, hp7⟩ := hp7
    have hq : r12 = r11 := hq
    subst hq
    exact hret _ _ _ _ _ hT7 hS7 trivial dX10_many_109
  · subst c1
    refine lv_tableIn (tgt := 110) hx hb dX10_many_9 (by decide) (by decide) rfl (by decide) ?_
    refine lv_aload_n hx hb dX10_many_110 rfl (lv_at hl 1 rfl) ?_
    refine lv_aload_n hx hb dX10_many_111 rfl (lv_at hl 1 rfl) ?_
    refine h_getr (C := RX10) (T := TX10) (N := 9) hx hb hts inX10 hown hK hT0 (on_w0 hW) rfl 1 rfl wF_X10_19 rfl dX10_many_112 ?_
    refine h_geti (C := RX5) (T := TX5) (N := 11) hx hb hts inX5 hown hK hT0 (on_rg (on_wr hW)) rfl 7 rfl wF_X10_114 rfl dX10_many_115 (fun p13 => ?_)
    refine lv_topi (fun x14 ex14 => ?_)
    refine h_callVi (T := TX10) (rest := []) (As := [.int x14]) hx hb hml hown hts hK hT0 hZ (fun _ h => h) hS0 (c_X10_give l G Y P (o) hW x14) trivial wd_X10_give wV_X10_give wL_X10_95 (on_w0 hW) rfl rfl hl.1 rfl (Nat.le_of_ble_eq_true rfl) dX10_many_118 ⟨Nat.le_of_ble_eq_true rfl, Nat.le_of_ble_eq_true rfl⟩ ⟨Nat.zero_le _, Nat.zero_le _⟩ (fun r15 H8 locs hp8 hT8 hS8 hk8 => ?_)
    obtain ⟨hq, hp8⟩ := hp8
    have hq : r15 = x14 := hq
    subst hq
    exact hret _ _ _ _ _ hT8 hS8 trivial dX10_many_121
  · subst c1
    refine lv_tableIn (tgt := 122) hx hb dX10_many_9 (by decide) (by decide) rfl (by decide) ?_
    refine lv_aload_n hx hb dX10_many_122 rfl (lv_at hl 1 rfl) ?_
    refine lv_aload_n hx hb dX10_many_123 rfl (lv_at hl 1 rfl) ?_
    refine h_getr (C := RX10) (T := TX10) (N := 9) hx hb hts inX10 hown hK hT0 (on_w0 hW) rfl 1 rfl wF_X10_19 rfl dX10_many_124 ?_
    refine h_geti (C := RX5) (T := TX5) (N := 11) hx hb hts inX5 hown hK hT0 (on_rg (on_wr hW)) rfl 6 rfl wF_X10_117 rfl dX10_many_127 (fun p16 => ?_)
    refine lv_topi (fun x17 ex17 => ?_)
    refine h_callVi (T := TX10) (rest := []) (As := [.int x17]) hx hb hml hown hts hK hT0 hZ (fun _ h => h) hS0 (c_X10_give l G Y P (o) hW x17) trivial wd_X10_give wV_X10_give wL_X10_95 (on_w0 hW) rfl rfl hl.1 rfl (Nat.le_of_ble_eq_true rfl) dX10_many_130 ⟨Nat.le_of_ble_eq_true rfl, Nat.le_of_ble_eq_true rfl⟩ ⟨Nat.zero_le _, Nat.zero_le _⟩ (fun r18 H9 locs hp9 hT9 hS9 hk9 => ?_)
    obtain ⟨hq, hp9⟩ := hp9
    have hq : r18 = x17 := hq
    subst hq
    exact hret _ _ _ _ _ hT9 hS9 trivial dX10_many_133
  · subst c1
    refine lv_tableIn (tgt := 134) hx hb dX10_many_9 (by decide) (by decide) rfl (by decide) ?_
    refine lv_aload_n hx hb dX10_many_134 rfl (lv_at hl 1 rfl) ?_
    refine lv_aload_n hx hb dX10_many_135 rfl (lv_at hl 1 rfl) ?_
    refine h_getr (C := RX10) (T := TX10) (N := 9) hx hb hts inX10 hown hK hT0 (on_w0 hW) rfl 1 rfl wF_X10_19 rfl dX10_many_136 ?_
    refine h_getr (C := RX5) (T := TX5) (N := 11) hx hb hts inX5 hown hK hT0 (on_rg (on_wr hW)) rfl 3 rfl wF_X10_120 rfl dX10_many_139 ?_
    refine h_geti (C := RX9) (T := TX9) (N := 11) hx hb hts inX9 hown hK hT0 ((on_wa (on_wr hW)).o rfl) rfl 0 rfl wF_X10_124 rfl dX10_many_142 (fun p19 => ?_)
    refine lv_topi (fun x20 ex20 => ?_)
    refine lv_if_ne (tgt := 161) hx hb dX10_many_145 (by decide) (fun c21 => ?_) (fun c21 => ?_)
    · skip
      refine lv_iconst (v := (-1)) hx hb dX10_many_161 (by decide) ?_
      refine h_callVi (T := TX10) (rest := []) (As := [.int (-1)]) hx hb hml hown hts hK hT0 hZ (fun _ h => h) hS0 (c_X10_give l G Y P (o) hW (-1)) trivial wd_X10_give wV_X10_give wL_X10_95 (on_w0 hW) rfl rfl hl.1 rfl (Nat.le_of_ble_eq_true rfl) dX10_many_162 ⟨Nat.le_of_ble_eq_true rfl, Nat.le_of_ble_eq_true rfl⟩ ⟨Nat.zero_le _, Nat.zero_le _⟩ (fun r22 H10 locs hp10 hT10 hS10 hk10 => ?_)
      obtain ⟨hq, hp10⟩ := hp10
      have hq : r22 = (-1) := hq
      subst hq
      exact hret _ _ _ _ _ hT10 hS10 trivial dX10_many_165
    · skip
      refine lv_aload_n hx hb dX10_many_148 rfl (lv_at hl 1 rfl) ?_
      refine h_getr (C := RX10) (T := TX10) (N := 9) hx hb hts inX10 hown hK hT0 (on_w0 hW) rfl 1 rfl wF_X10_19 rfl dX10_many_149 ?_
      refine h_getr (C := RX5) (T := TX5) (N := 11) hx hb hts inX5 hown hK hT0 (on_rg (on_wr hW)) rfl 4 rfl wF_X10_129 rfl dX10_many_152 ?_
      refine h_geti (C := RX6) (T := TX6) (N := 4) hx hb hts inX6 hown hK hT0 ((on_si (on_wr hW)).o rfl) rfl 0 rfl wF_X10_133 rfl dX10_many_155 (fun p23 => ?_)
      refine lv_topi (fun x24 ex24 => ?_)
      refine lv_goto (tgt := 162) hx hb dX10_many_158 (by decide) ?_
      refine h_callVi (T := TX10) (rest := []) (As := [.int x24]) hx hb hml hown hts hK hT0 hZ (fun _ h => h) hS0 (c_X10_give l G Y P (o) hW x24) trivial wd_X10_give wV_X10_give wL_X10_95 (on_w0 hW) rfl rfl hl.1 rfl (Nat.le_of_ble_eq_true rfl) dX10_many_162 ⟨Nat.le_of_ble_eq_true rfl, Nat.le_of_ble_eq_true rfl⟩ ⟨Nat.zero_le _, Nat.zero_le _⟩ (fun r25 H11 locs hp11 hT11 hS11 hk11 => ?_)
      obtain ⟨hq, hp11⟩ := hp11
      have hq : r25 = x24 := hq
      subst hq
      exact hret _ _ _ _ _ hT11 hS11 trivial dX10_many_165
  · subst c1
    refine lv_tableIn (tgt := 166) hx hb dX10_many_9 (by decide) (by decide) rfl (by decide) ?_
    refine lv_aload_n hx hb dX10_many_166 rfl (lv_at hl 1 rfl) ?_
    refine lv_aload_n hx hb dX10_many_167 rfl (lv_at hl 1 rfl) ?_
    refine h_geti (C := RX10) (T := TX10) (N := 9) hx hb hts inX10 hown hK hT0 (on_w0 hW) rfl 7 rfl wF_X10_52 rfl dX10_many_168 (fun p26 => ?_)
    refine lv_topi (fun x27 ex27 => ?_)
    refine h_callVi (T := TX10) (rest := []) (As := [.int x27]) hx hb hml hown hts hK hT0 hZ (fun _ h => h) hS0 (c_X10_give l G Y P (o) hW x27) trivial wd_X10_give wV_X10_give wL_X10_95 (on_w0 hW) rfl rfl hl.1 rfl (Nat.le_of_ble_eq_true rfl) dX10_many_171 ⟨Nat.le_of_ble_eq_true rfl, Nat.le_of_ble_eq_true rfl⟩ ⟨Nat.zero_le _, Nat.zero_le _⟩ (fun r28 H12 locs hp12 hT12 hS12 hk12 => ?_)
    obtain ⟨hq, hp12⟩ := hp12
    have hq : r28 = x27 := hq
    subst hq
    exact hret _ _ _ _ _ hT12 hS12 trivial dX10_many_174
  · subst c1
    refine lv_tableIn (tgt := 175) hx hb dX10_many_9 (by decide) (by decide) rfl (by decide) ?_
    refine lv_aload_n hx hb dX10_many_175 rfl (lv_at hl 1 rfl) ?_
    refine lv_aload_n hx hb dX10_many_176 rfl (lv_at hl 0 rfl) ?_
    refine h_callVi (T := TX7) (rest := [.ref (o)]) (As := []) hx hb hml hown hts hK hT0 hZ (fun _ h => h) hS0 (c_X7_breakCounts l G Y P (o + 3 + 1) (on_st (on_wr hW))) trivial wd_X7_breakCounts wV_X7_breakCounts wL_X10_136 ((on_st (on_wr hW)).o rfl) rfl rfl hl.1 rfl (Nat.le_of_ble_eq_true rfl) dX10_many_177 ⟨Nat.le_of_ble_eq_true rfl, Nat.le_of_ble_eq_true rfl⟩ ⟨Nat.zero_le _, Nat.zero_le _⟩ (fun r29 H13 locs hp13 hT13 hS13 hk13 => ?_)
    obtain ⟨hp13, he⟩ := hp13
    have he := he.symm
    subst he
    refine lv_if_eq (tgt := 187) hx hb dX10_many_180 (by decide) (fun c30 => ?_) (fun c30 => ?_)
    · skip
      refine lv_iconst (v := 0) hx hb dX10_many_187 (by decide) ?_
      refine h_callVi (T := TX10) (rest := []) (As := [.int 0]) hx hb hml hown hts hK hT0 hZ (fun _ h => h) hS13 (c_X10_give l G Y P (o) hW 0) trivial wd_X10_give wV_X10_give wL_X10_95 (on_w0 hW) rfl rfl hl.1 rfl (Nat.le_of_ble_eq_true rfl) dX10_many_188 ⟨Nat.le_of_ble_eq_true rfl, Nat.le_of_ble_eq_true rfl⟩ ⟨Nat.zero_le _, Nat.zero_le _⟩ (fun r31 H14 locs hp14 hT14 hS14 hk14 => ?_)
      obtain ⟨hq, hp14⟩ := hp14
      have hq : r31 = 0 := hq
      subst hq
      exact hret _ _ _ _ _ hT14 hS14 trivial dX10_many_191
    · skip
      refine lv_iconst (v := 1) hx hb dX10_many_183 (by decide) ?_
      refine lv_goto (tgt := 188) hx hb dX10_many_184 (by decide) ?_
      refine h_callVi (T := TX10) (rest := []) (As := [.int 1]) hx hb hml hown hts hK hT0 hZ (fun _ h => h) hS13 (c_X10_give l G Y P (o) hW 1) trivial wd_X10_give wV_X10_give wL_X10_95 (on_w0 hW) rfl rfl hl.1 rfl (Nat.le_of_ble_eq_true rfl) dX10_many_188 ⟨Nat.le_of_ble_eq_true rfl, Nat.le_of_ble_eq_true rfl⟩ ⟨Nat.zero_le _, Nat.zero_le _⟩ (fun r32 H15 locs hp15 hT15 hS15 hk15 => ?_)
      obtain ⟨hq, hp15⟩ := hp15
      have hq : r32 = 1 := hq
      subst hq
      exact hret _ _ _ _ _ hT15 hS15 trivial dX10_many_191
  · subst c1
    refine lv_tableIn (tgt := 192) hx hb dX10_many_9 (by decide) (by decide) rfl (by decide) ?_
    refine lv_aload_n hx hb dX10_many_192 rfl (lv_at hl 1 rfl) ?_
    refine lv_aload_n hx hb dX10_many_193 rfl (lv_at hl 0 rfl) ?_
    refine h_geti (C := RX7) (T := TX7) (N := 9) hx hb hts inX7 hown hK hT0 ((on_st (on_wr hW)).o rfl) rfl 7 rfl wF_X10_140 rfl dX10_many_194 (fun p33 => ?_)
    refine lv_topi (fun x34 ex34 => ?_)
    refine h_callVi (T := TX10) (rest := []) (As := [.int x34]) hx hb hml hown hts hK hT0 hZ (fun _ h => h) hS0 (c_X10_give l G Y P (o) hW x34) trivial wd_X10_give wV_X10_give wL_X10_95 (on_w0 hW) rfl rfl hl.1 rfl (Nat.le_of_ble_eq_true rfl) dX10_many_197 ⟨Nat.le_of_ble_eq_true rfl, Nat.le_of_ble_eq_true rfl⟩ ⟨Nat.zero_le _, Nat.zero_le _⟩ (fun r35 H16 locs hp16 hT16 hS16 hk16 => ?_)
    obtain ⟨hq, hp16⟩ := hp16
    have hq : r35 = x34 := hq
    subst hq
    exact hret _ _ _ _ _ hT16 hS16 trivial dX10_many_200
  · subst c1
    refine lv_tableIn (tgt := 201) hx hb dX10_many_9 (by decide) (by decide) rfl (by decide) ?_
    refine lv_aload_n hx hb dX10_many_201 rfl (lv_at hl 1 rfl) ?_
    refine lv_aload_n hx hb dX10_many_202 rfl (lv_at hl 0 rfl) ?_
    refine h_geti (C := RX7) (T := TX7) (N := 9) hx hb hts inX7 hown hK hT0 ((on_st (on_wr hW)).o rfl) rfl 8 rfl wF_X10_143 rfl dX10_many_203 (fun p36 => ?_)
    refine lv_topi (fun x37 ex37 => ?_)
    refine h_callVi (T := TX10) (rest := []) (As := [.int x37]) hx hb hml hown hts hK hT0 hZ (fun _ h => h) hS0 (c_X10_give l G Y P (o) hW x37) trivial wd_X10_give wV_X10_give wL_X10_95 (on_w0 hW) rfl rfl hl.1 rfl (Nat.le_of_ble_eq_true rfl) dX10_many_206 ⟨Nat.le_of_ble_eq_true rfl, Nat.le_of_ble_eq_true rfl⟩ ⟨Nat.zero_le _, Nat.zero_le _⟩ (fun r38 H17 locs hp17 hT17 hS17 hk17 => ?_)
    obtain ⟨hq, hp17⟩ := hp17
    have hq : r38 = x37 := hq
    subst hq
    exact hret _ _ _ _ _ hT17 hS17 trivial dX10_many_209
set_option maxHeartbeats 4000000 in
set_option maxRecDepth 100000 in
theorem c_X10_station (l : Launch) (G : hG) (Y : hW) (P : Int32 → Prop) (o : Nat) (hW : h_On Y o (wldE (tC P) o)) (u1 u2 : Int32) : hMi l yX10_station cX10_station 3 (some .int) 3 69 G Y [.ref (o), .int u1, .int u2] (fun H => True) (fun H r H1 => True) := by
  refine h_ofi (by decide +kernel) (Nat.le_of_ble_eq_true rfl) ?_
  intro p e s m args below meth c H0 ls Q hx hb hts hown hml hK hZ hT0 hpr hS0 hl hret
  have hl : lv_has ls 3 [(0, .ref (o)), (1, .int u1), (2, .int u2)] := hl
  refine lv_iload_n hx hb dX10_station_0 rfl (lv_at hl 2 rfl) ?_
  refine lv_if_lt (tgt := 10) hx hb dX10_station_1 (by decide) (fun c1 => ?_) (fun c1 => ?_)
  · skip
    refine lv_aload_n hx hb dX10_station_10 rfl (lv_at hl 0 rfl) ?_
    refine lv_iconst (v := 1) hx hb dX10_station_11 (by decide) ?_
    refine h_callVi (T := TX10) (rest := []) (As := [.int 1]) hx hb hml hown hts hK hT0 hZ (fun _ h => h) hS0 (c_X10_fail l G Y P (o) hW 1) trivial wd_X10_fail wV_X10_fail wL_X10_66 (on_w0 hW) rfl rfl hl.1 rfl (Nat.le_of_ble_eq_true rfl) dX10_station_12 ⟨Nat.le_of_ble_eq_true rfl, Nat.le_of_ble_eq_true rfl⟩ ⟨Nat.zero_le _, Nat.zero_le _⟩ (fun r2 H1 locs hp1 hT1 hS1 hk1 => ?_)
    obtain ⟨hq, hp1⟩ := hp1
    have hq : r2 = (-1) := hq
    subst hq
    exact hret _ _ _ _ _ hT1 hS1 trivial dX10_station_15
  · skip
    refine lv_iload_n hx hb dX10_station_4 rfl (lv_at hl 2 rfl) ?_
    refine lv_bipush (v := 9) hx hb dX10_station_5 (by decide) ?_
    refine lv_icmp_le (tgt := 16) hx hb dX10_station_7 (by decide) (fun c3 => ?_) (fun c3 => ?_)
    · skip
      refine lv_aload_n hx hb dX10_station_16 rfl (lv_at hl 0 rfl) ?_
      refine h_getr (C := RX10) (T := TX10) (N := 9) hx hb hts inX10 hown hK hT0 (on_w0 hW) rfl 1 rfl wF_X10_19 rfl dX10_station_17 ?_
      refine h_getr (C := RX5) (T := TX5) (N := 11) hx hb hts inX5 hown hK hT0 (on_rg (on_wr hW)) rfl 0 rfl wF_X10_86 rfl dX10_station_20 ?_
      refine lv_iload_n hx hb dX10_station_23 rfl (lv_at hl 1 rfl) ?_
      refine h_callVi (T := TX7) (rest := []) (As := [.int u1]) hx hb hml hown hts hK hT0 hZ (fun _ h => h) hS0 (c_X7_exists l G Y P (o + 3 + 1) (on_st (on_wr hW)) u1) trivial wd_X7_exists wV_X7_exists wL_X10_146 ((on_st (on_wr hW)).o rfl) rfl rfl hl.1 rfl (Nat.le_of_ble_eq_true rfl) dX10_station_24 ⟨Nat.le_of_ble_eq_true rfl, Nat.le_of_ble_eq_true rfl⟩ ⟨Nat.zero_le _, Nat.zero_le _⟩ (fun r4 H2 locs hp2 hT2 hS2 hk2 => ?_)
      obtain ⟨hp2, he⟩ := hp2
      have he := he.symm
      subst he
      refine lv_if_ne (tgt := 36) hx hb dX10_station_27 (by decide) (fun c5 => ?_) (fun c5 => ?_)
      · skip
        obtain ⟨g6a, g6b⟩ := hp2.2 c5
        refine lv_aload_n hx hb dX10_station_36 rfl (lv_at hl 0 rfl) ?_
        refine lv_aload_n hx hb dX10_station_37 rfl (lv_at hl 0 rfl) ?_
        refine h_getr (C := RX10) (T := TX10) (N := 9) hx hb hts inX10 hown hK hT0 (on_w0 hW) rfl 1 rfl wF_X10_19 rfl dX10_station_38 ?_
        refine lv_iload_n hx hb dX10_station_41 rfl (lv_at hl 1 rfl) ?_
        refine lv_iload_n hx hb dX10_station_42 rfl (lv_at hl 2 rfl) ?_
        refine h_callVi (T := TX5) (rest := [.ref (o)]) (As := [.int u1, .int u2]) hx hb hml hown hts hK hT0 hZ (fun _ h => h) hS2 (c_X5_tellOf l G Y P (o + 3) (on_wr hW) u1 u2) trivial wd_X5_tellOf wV_X5_tellOf wL_X10_149 (on_rg (on_wr hW)) rfl rfl hl.1 rfl (Nat.le_of_ble_eq_true rfl) dX10_station_43 ⟨Nat.le_of_ble_eq_true rfl, Nat.le_of_ble_eq_true rfl⟩ ⟨Nat.zero_le _, Nat.zero_le _⟩ (fun r7 H3 locs hp3 hT3 hS3 hk3 => ?_)
        obtain ⟨hp3, he⟩ := hp3
        have he := he.symm
        subst he
        refine h_callVi (T := TX10) (rest := []) (As := [.int r7]) hx hb hml hown hts hK hT0 hZ (fun _ h => h) hS3 (c_X10_give l G Y P (o) hW r7) trivial wd_X10_give wV_X10_give wL_X10_95 (on_w0 hW) rfl rfl hl.1 rfl (Nat.le_of_ble_eq_true rfl) dX10_station_46 ⟨Nat.le_of_ble_eq_true rfl, Nat.le_of_ble_eq_true rfl⟩ ⟨Nat.zero_le _, Nat.zero_le _⟩ (fun r8 H4 locs hp4 hT4 hS4 hk4 => ?_)
        obtain ⟨hq, hp4⟩ := hp4
        have hq : r8 = r7 := hq
        subst hq
        exact hret _ _ _ _ _ hT4 hS4 trivial dX10_station_49
      · skip
        refine lv_aload_n hx hb dX10_station_30 rfl (lv_at hl 0 rfl) ?_
        refine lv_iconst (v := 2) hx hb dX10_station_31 (by decide) ?_
        refine h_callVi (T := TX10) (rest := []) (As := [.int 2]) hx hb hml hown hts hK hT0 hZ (fun _ h => h) hS2 (c_X10_fail l G Y P (o) hW 2) trivial wd_X10_fail wV_X10_fail wL_X10_66 (on_w0 hW) rfl rfl hl.1 rfl (Nat.le_of_ble_eq_true rfl) dX10_station_32 ⟨Nat.le_of_ble_eq_true rfl, Nat.le_of_ble_eq_true rfl⟩ ⟨Nat.zero_le _, Nat.zero_le _⟩ (fun r9 H5 locs hp5 hT5 hS5 hk5 => ?_)
        obtain ⟨hq, hp5⟩ := hp5
        have hq : r9 = (-1) := hq
        subst hq
        exact hret _ _ _ _ _ hT5 hS5 trivial dX10_station_35
    · skip
      refine lv_aload_n hx hb dX10_station_10 rfl (lv_at hl 0 rfl) ?_
      refine lv_iconst (v := 1) hx hb dX10_station_11 (by decide) ?_
      refine h_callVi (T := TX10) (rest := []) (As := [.int 1]) hx hb hml hown hts hK hT0 hZ (fun _ h => h) hS0 (c_X10_fail l G Y P (o) hW 1) trivial wd_X10_fail wV_X10_fail wL_X10_66 (on_w0 hW) rfl rfl hl.1 rfl (Nat.le_of_ble_eq_true rfl) dX10_station_12 ⟨Nat.le_of_ble_eq_true rfl, Nat.le_of_ble_eq_true rfl⟩ ⟨Nat.zero_le _, Nat.zero_le _⟩ (fun r10 H6 locs hp6 hT6 hS6 hk6 => ?_)
      obtain ⟨hq, hp6⟩ := hp6
      have hq : r10 = (-1) := hq
      subst hq
      exact hret _ _ _ _ _ hT6 hS6 trivial dX10_station_15
set_option maxHeartbeats 4000000 in
set_option maxRecDepth 100000 in
theorem c_X10_waits (l : Launch) (G : hG) (Y : hW) (P : Int32 → Prop) (o : Nat) (hW : h_On Y o (wldE (tC P) o)) (u1 u2 u3 : Int32) : hMi l yX10_waits cX10_waits 5 (some .int) 1 22 G Y [.ref (o), .int u1, .int u2, .int u3] (fun H => True) (fun H r H1 => True) := by
  refine h_ofi (by decide +kernel) (Nat.le_of_ble_eq_true rfl) ?_
  intro p e s m args below meth c H0 ls Q hx hb hts hown hml hK hZ hT0 hpr hS0 hl hret
  have hl : lv_has ls 5 [(0, .ref (o)), (1, .int u1), (2, .int u2), (3, .int u3)] := hl
  refine lv_iload_n hx hb dX10_waits_0 rfl (lv_at hl 2 rfl) ?_
  refine lv_if_lt (tgt := 13) hx hb dX10_waits_1 (by decide) (fun c1 => ?_) (fun c1 => ?_)
  · skip
    refine lv_aload_n hx hb dX10_waits_13 rfl (lv_at hl 0 rfl) ?_
    refine lv_iconst (v := 1) hx hb dX10_waits_14 (by decide) ?_
    refine h_callVi (T := TX10) (rest := []) (As := [.int 1]) hx hb hml hown hts hK hT0 hZ (fun _ h => h) hS0 (c_X10_fail l G Y P (o) hW 1) trivial wd_X10_fail wV_X10_fail wL_X10_66 (on_w0 hW) rfl rfl hl.1 rfl (Nat.le_of_ble_eq_true rfl) dX10_waits_15 ⟨Nat.le_of_ble_eq_true rfl, Nat.le_of_ble_eq_true rfl⟩ ⟨Nat.zero_le _, Nat.zero_le _⟩ (fun r2 H1 locs hp1 hT1 hS1 hk1 => ?_)
    obtain ⟨hq, hp1⟩ := hp1
    have hq : r2 = (-1) := hq
    subst hq
    exact hret _ _ _ _ _ hT1 hS1 trivial dX10_waits_18
  · skip
    refine lv_iload_n hx hb dX10_waits_4 rfl (lv_at hl 3 rfl) ?_
    refine lv_if_lt (tgt := 13) hx hb dX10_waits_5 (by decide) (fun c3 => ?_) (fun c3 => ?_)
    · skip
      refine lv_aload_n hx hb dX10_waits_13 rfl (lv_at hl 0 rfl) ?_
      refine lv_iconst (v := 1) hx hb dX10_waits_14 (by decide) ?_
      refine h_callVi (T := TX10) (rest := []) (As := [.int 1]) hx hb hml hown hts hK hT0 hZ (fun _ h => h) hS0 (c_X10_fail l G Y P (o) hW 1) trivial wd_X10_fail wV_X10_fail wL_X10_66 (on_w0 hW) rfl rfl hl.1 rfl (Nat.le_of_ble_eq_true rfl) dX10_waits_15 ⟨Nat.le_of_ble_eq_true rfl, Nat.le_of_ble_eq_true rfl⟩ ⟨Nat.zero_le _, Nat.zero_le _⟩ (fun r4 H2 locs hp2 hT2 hS2 hk2 => ?_)
      obtain ⟨hq, hp2⟩ := hp2
      have hq : r4 = (-1) := hq
      subst hq
      exact hret _ _ _ _ _ hT2 hS2 trivial dX10_waits_18
    · skip
      refine lv_iload_n hx hb dX10_waits_8 rfl (lv_at hl 3 rfl) ?_
      refine lv_iconst (v := 2) hx hb dX10_waits_9 (by decide) ?_
      refine lv_icmp_le (tgt := 19) hx hb dX10_waits_10 (by decide) (fun c5 => ?_) (fun c5 => ?_)
      · skip
        refine lv_aload_n hx hb dX10_waits_19 rfl (lv_at hl 0 rfl) ?_
        refine h_getr (C := RX10) (T := TX10) (N := 9) hx hb hts inX10 hown hK hT0 (on_w0 hW) rfl 1 rfl wF_X10_19 rfl dX10_waits_20 ?_
        refine h_getr (C := RX5) (T := TX5) (N := 11) hx hb hts inX5 hown hK hT0 (on_rg (on_wr hW)) rfl 0 rfl wF_X10_86 rfl dX10_waits_23 ?_
        refine lv_iload_n hx hb dX10_waits_26 rfl (lv_at hl 1 rfl) ?_
        refine h_callVi (T := TX7) (rest := []) (As := [.int u1]) hx hb hml hown hts hK hT0 hZ (fun _ h => h) hS0 (c_X7_exists l G Y P (o + 3 + 1) (on_st (on_wr hW)) u1) trivial wd_X7_exists wV_X7_exists wL_X10_146 ((on_st (on_wr hW)).o rfl) rfl rfl hl.1 rfl (Nat.le_of_ble_eq_true rfl) dX10_waits_27 ⟨Nat.le_of_ble_eq_true rfl, Nat.le_of_ble_eq_true rfl⟩ ⟨Nat.zero_le _, Nat.zero_le _⟩ (fun r6 H3 locs hp3 hT3 hS3 hk3 => ?_)
        obtain ⟨hp3, he⟩ := hp3
        have he := he.symm
        subst he
        refine lv_if_ne (tgt := 39) hx hb dX10_waits_30 (by decide) (fun c7 => ?_) (fun c7 => ?_)
        · skip
          obtain ⟨g8a, g8b⟩ := hp3.2 c7
          refine lv_iload_n hx hb dX10_waits_39 rfl (lv_at hl 2 rfl) ?_
          refine lv_aload_n hx hb dX10_waits_40 rfl (lv_at hl 0 rfl) ?_
          refine h_getr (C := RX10) (T := TX10) (N := 9) hx hb hts inX10 hown hK hT0 (on_w0 hW) rfl 1 rfl wF_X10_19 rfl dX10_waits_41 ?_
          refine h_getr (C := RX5) (T := TX5) (N := 11) hx hb hts inX5 hown hK hT0 (on_rg (on_wr hW)) rfl 1 rfl wF_X10_105 rfl dX10_waits_44 ?_
          refine lv_iload_n hx hb dX10_waits_47 rfl (lv_at hl 1 rfl) ?_
          refine h_callVi (T := TX2) (rest := [.int u2]) (As := [.int u1]) hx hb hml hown hts hK hT0 hZ (fun _ h => h) hS3 (c_X2_sizeOf l G Y P (o + 3 + 7) (on_qu (on_wr hW)) u1) trivial wd_X2_sizeOf wV_X2_sizeOf wL_X10_153 ((on_qu (on_wr hW)).o rfl) rfl rfl hl.1 rfl (Nat.le_of_ble_eq_true rfl) dX10_waits_48 ⟨Nat.le_of_ble_eq_true rfl, Nat.le_of_ble_eq_true rfl⟩ ⟨Nat.zero_le _, Nat.zero_le _⟩ (fun r9 H4 locs hp4 hT4 hS4 hk4 => ?_)
          obtain ⟨hp4, he⟩ := hp4
          have he := he.symm
          subst he
          refine lv_icmp_lt (tgt := 60) hx hb dX10_waits_51 (by decide) (fun c10 => ?_) (fun c10 => ?_)
          · skip
            refine lv_aload_n hx hb dX10_waits_60 rfl (lv_at hl 0 rfl) ?_
            refine h_getr (C := RX10) (T := TX10) (N := 9) hx hb hts inX10 hown hK hT0 (on_w0 hW) rfl 1 rfl wF_X10_19 rfl dX10_waits_61 ?_
            refine h_getr (C := RX5) (T := TX5) (N := 11) hx hb hts inX5 hown hK hT0 (on_rg (on_wr hW)) rfl 1 rfl wF_X10_105 rfl dX10_waits_64 ?_
            refine lv_iload_n hx hb dX10_waits_67 rfl (lv_at hl 1 rfl) ?_
            refine lv_iload_n hx hb dX10_waits_68 rfl (lv_at hl 2 rfl) ?_
            refine h_callVi (T := TX2) (rest := []) (As := [.int u1, .int u2]) hx hb hml hown hts hK hT0 hZ (fun _ h => h) hS4 (c_X2_slotAt l G Y P (o + 3 + 7) (on_qu (on_wr hW)) u1 u2) trivial wd_X2_slotAt wV_X2_slotAt wL_X10_156 ((on_qu (on_wr hW)).o rfl) rfl rfl hl.1 rfl (Nat.le_of_ble_eq_true rfl) dX10_waits_69 ⟨Nat.le_of_ble_eq_true rfl, Nat.le_of_ble_eq_true rfl⟩ ⟨Nat.zero_le _, Nat.zero_le _⟩ (fun r11 H5 locs hp5 hT5 hS5 hk5 => ?_)
            obtain ⟨hp5, he⟩ := hp5
            have he := he.symm
            subst he
            refine lv_istore (lv' := [(4, .int r11), (0, .ref (o)), (1, .int u1), (2, .int u2), (3, .int u3)]) hx hb dX10_waits_72 hl (by decide) rfl (fun ls hl => ?_)
            refine lv_iload_n hx hb dX10_waits_74 rfl (lv_at hl 4 rfl) ?_
            refine lv_if_ne (tgt := 95) hx hb dX10_waits_75 (by decide) (fun c12 => ?_) (fun c12 => ?_)
            · skip
              refine lv_aload_n hx hb dX10_waits_95 rfl (lv_at hl 1 rfl) ?_
              refine lv_iload_n hx hb dX10_waits_96 rfl (lv_at hl 4 rfl) ?_
              refine lv_iconst (v := 1) hx hb dX10_waits_97 (by decide) ?_
              refine lv_icmp_ne (tgt := 116) hx hb dX10_waits_98 (by decide) (fun c13 => ?_) (fun c13 => ?_)
              · skip
                refine lv_aload_n hx hb dX10_waits_116 rfl (lv_at hl 1 rfl) ?_
                refine h_getr (C := RX10) (T := TX10) (N := 9) hx hb hts inX10 hown hK hT0 (on_w0 hW) rfl 1 rfl wF_X10_19 rfl dX10_waits_117 ?_
                refine h_getr (C := RX5) (T := TX5) (N := 11) hx hb hts inX5 hown hK hT0 (on_rg (on_wr hW)) rfl 1 rfl wF_X10_105 rfl dX10_waits_120 ?_
                refine lv_iload hx hb dX10_waits_123 (lv_at hl 0 rfl) ?_
                refine h_callVi (T := TX2) (rest := [.ref (o)]) (As := [.int r11]) hx hb hml hown hts hK hT0 hZ (fun _ h => h) hS5 (c_X2_rankIn l G Y P (o + 3 + 7) (on_qu (on_wr hW)) r11) trivial wd_X2_rankIn wV_X2_rankIn wL_X10_165 ((on_qu (on_wr hW)).o rfl) rfl rfl hl.1 rfl (Nat.le_of_ble_eq_true rfl) dX10_waits_125 ⟨Nat.le_of_ble_eq_true rfl, Nat.le_of_ble_eq_true rfl⟩ ⟨Nat.zero_le _, Nat.zero_le _⟩ (fun r14 H6 locs hp6 hT6 hS6 hk6 => ?_)
                obtain ⟨hp6, he⟩ := hp6
                have he := he.symm
                subst he
                refine h_callVi (T := TX10) (rest := []) (As := [.int r14]) hx hb hml hown hts hK hT0 hZ (fun _ h => h) hS6 (c_X10_give l G Y P (o) hW r14) trivial wd_X10_give wV_X10_give wL_X10_95 (on_w0 hW) rfl rfl hl.1 rfl (Nat.le_of_ble_eq_true rfl) dX10_waits_128 ⟨Nat.le_of_ble_eq_true rfl, Nat.le_of_ble_eq_true rfl⟩ ⟨Nat.zero_le _, Nat.zero_le _⟩ (fun r15 H7 locs hp7 hT7 hS7 hk7 => ?_)
                obtain ⟨hq, hp7⟩ := hp7
                have hq : r15 = r14 := hq
                subst hq
                exact hret _ _ _ _ _ hT7 hS7 trivial dX10_waits_131
              · skip
                refine lv_aload_n hx hb dX10_waits_101 rfl (lv_at hl 1 rfl) ?_
                refine h_getr (C := RX10) (T := TX10) (N := 9) hx hb hts inX10 hown hK hT0 (on_w0 hW) rfl 1 rfl wF_X10_19 rfl dX10_waits_102 ?_
                refine h_getr (C := RX5) (T := TX5) (N := 11) hx hb hts inX5 hown hK hT0 (on_rg (on_wr hW)) rfl 1 rfl wF_X10_105 rfl dX10_waits_105 ?_
                refine lv_iload hx hb dX10_waits_108 (lv_at hl 0 rfl) ?_
                refine h_callVi (T := TX2) (rest := [.ref (o)]) (As := [.int r11]) hx hb hml hown hts hK hT0 hZ (fun _ h => h) hS5 (c_X2_toIn l G Y P (o + 3 + 7) (on_qu (on_wr hW)) r11) trivial wd_X2_toIn wV_X2_toIn wL_X10_162 ((on_qu (on_wr hW)).o rfl) rfl rfl hl.1 rfl (Nat.le_of_ble_eq_true rfl) dX10_waits_110 ⟨Nat.le_of_ble_eq_true rfl, Nat.le_of_ble_eq_true rfl⟩ ⟨Nat.zero_le _, Nat.zero_le _⟩ (fun r16 H8 locs hp8 hT8 hS8 hk8 => ?_)
                obtain ⟨hp8, he⟩ := hp8
                have he := he.symm
                subst he
                refine lv_goto (tgt := 128) hx hb dX10_waits_113 (by decide) ?_
                refine h_callVi (T := TX10) (rest := []) (As := [.int r16]) hx hb hml hown hts hK hT0 hZ (fun _ h => h) hS8 (c_X10_give l G Y P (o) hW r16) trivial wd_X10_give wV_X10_give wL_X10_95 (on_w0 hW) rfl rfl hl.1 rfl (Nat.le_of_ble_eq_true rfl) dX10_waits_128 ⟨Nat.le_of_ble_eq_true rfl, Nat.le_of_ble_eq_true rfl⟩ ⟨Nat.zero_le _, Nat.zero_le _⟩ (fun r17 H9 locs hp9 hT9 hS9 hk9 => ?_)
                obtain ⟨hq, hp9⟩ := hp9
                have hq : r17 = r16 := hq
                subst hq
                exact hret _ _ _ _ _ hT9 hS9 trivial dX10_waits_131
            · skip
              refine lv_aload_n hx hb dX10_waits_78 rfl (lv_at hl 1 rfl) ?_
              refine lv_aload_n hx hb dX10_waits_79 rfl (lv_at hl 1 rfl) ?_
              refine h_getr (C := RX10) (T := TX10) (N := 9) hx hb hts inX10 hown hK hT0 (on_w0 hW) rfl 1 rfl wF_X10_19 rfl dX10_waits_80 ?_
              refine h_getr (C := RX5) (T := TX5) (N := 11) hx hb hts inX5 hown hK hT0 (on_rg (on_wr hW)) rfl 1 rfl wF_X10_105 rfl dX10_waits_83 ?_
              refine lv_iload hx hb dX10_waits_86 (lv_at hl 0 rfl) ?_
              refine h_callVi (T := TX2) (rest := [.ref (o)]) (As := [.int r11]) hx hb hml hown hts hK hT0 hZ (fun _ h => h) hS5 (c_X2_numberIn l G Y P (o + 3 + 7) (on_qu (on_wr hW)) r11) trivial wd_X2_numberIn wV_X2_numberIn wL_X10_159 ((on_qu (on_wr hW)).o rfl) rfl rfl hl.1 rfl (Nat.le_of_ble_eq_true rfl) dX10_waits_88 ⟨Nat.le_of_ble_eq_true rfl, Nat.le_of_ble_eq_true rfl⟩ ⟨Nat.zero_le _, Nat.zero_le _⟩ (fun r18 H10 locs hp10 hT10 hS10 hk10 => ?_)
              obtain ⟨hp10, he⟩ := hp10
              have he := he.symm
              subst he
              refine h_callVi (T := TX10) (rest := []) (As := [.int r18]) hx hb hml hown hts hK hT0 hZ (fun _ h => h) hS10 (c_X10_give l G Y P (o) hW r18) trivial wd_X10_give wV_X10_give wL_X10_95 (on_w0 hW) rfl rfl hl.1 rfl (Nat.le_of_ble_eq_true rfl) dX10_waits_91 ⟨Nat.le_of_ble_eq_true rfl, Nat.le_of_ble_eq_true rfl⟩ ⟨Nat.zero_le _, Nat.zero_le _⟩ (fun r19 H11 locs hp11 hT11 hS11 hk11 => ?_)
              obtain ⟨hq, hp11⟩ := hp11
              have hq : r19 = r18 := hq
              subst hq
              exact hret _ _ _ _ _ hT11 hS11 trivial dX10_waits_94
          · skip
            refine lv_aload_n hx hb dX10_waits_54 rfl (lv_at hl 0 rfl) ?_
            refine lv_iconst (v := 5) hx hb dX10_waits_55 (by decide) ?_
            refine h_callVi (T := TX10) (rest := []) (As := [.int 5]) hx hb hml hown hts hK hT0 hZ (fun _ h => h) hS4 (c_X10_fail l G Y P (o) hW 5) trivial wd_X10_fail wV_X10_fail wL_X10_66 (on_w0 hW) rfl rfl hl.1 rfl (Nat.le_of_ble_eq_true rfl) dX10_waits_56 ⟨Nat.le_of_ble_eq_true rfl, Nat.le_of_ble_eq_true rfl⟩ ⟨Nat.zero_le _, Nat.zero_le _⟩ (fun r20 H12 locs hp12 hT12 hS12 hk12 => ?_)
            obtain ⟨hq, hp12⟩ := hp12
            have hq : r20 = (-1) := hq
            subst hq
            exact hret _ _ _ _ _ hT12 hS12 trivial dX10_waits_59
        · skip
          refine lv_aload_n hx hb dX10_waits_33 rfl (lv_at hl 0 rfl) ?_
          refine lv_iconst (v := 2) hx hb dX10_waits_34 (by decide) ?_
          refine h_callVi (T := TX10) (rest := []) (As := [.int 2]) hx hb hml hown hts hK hT0 hZ (fun _ h => h) hS3 (c_X10_fail l G Y P (o) hW 2) trivial wd_X10_fail wV_X10_fail wL_X10_66 (on_w0 hW) rfl rfl hl.1 rfl (Nat.le_of_ble_eq_true rfl) dX10_waits_35 ⟨Nat.le_of_ble_eq_true rfl, Nat.le_of_ble_eq_true rfl⟩ ⟨Nat.zero_le _, Nat.zero_le _⟩ (fun r21 H13 locs hp13 hT13 hS13 hk13 => ?_)
          obtain ⟨hq, hp13⟩ := hp13
          have hq : r21 = (-1) := hq
          subst hq
          exact hret _ _ _ _ _ hT13 hS13 trivial dX10_waits_38
      · skip
        refine lv_aload_n hx hb dX10_waits_13 rfl (lv_at hl 0 rfl) ?_
        refine lv_iconst (v := 1) hx hb dX10_waits_14 (by decide) ?_
        refine h_callVi (T := TX10) (rest := []) (As := [.int 1]) hx hb hml hown hts hK hT0 hZ (fun _ h => h) hS0 (c_X10_fail l G Y P (o) hW 1) trivial wd_X10_fail wV_X10_fail wL_X10_66 (on_w0 hW) rfl rfl hl.1 rfl (Nat.le_of_ble_eq_true rfl) dX10_waits_15 ⟨Nat.le_of_ble_eq_true rfl, Nat.le_of_ble_eq_true rfl⟩ ⟨Nat.zero_le _, Nat.zero_le _⟩ (fun r22 H14 locs hp14 hT14 hS14 hk14 => ?_)
        obtain ⟨hq, hp14⟩ := hp14
        have hq : r22 = (-1) := hq
        subst hq
        exact hret _ _ _ _ _ hT14 hS14 trivial dX10_waits_18
set_option maxHeartbeats 4000000 in
set_option maxRecDepth 100000 in
theorem c_X10_way (l : Launch) (G : hG) (Y : hW) (P : Int32 → Prop) (o : Nat) (hW : h_On Y o (wldE (tC P) o)) (u1 : Int32) : hMi l yX10_way cX10_way 3 (some .int) 1 21 G Y [.ref (o), .int u1] (fun H => True) (fun H r H1 => True) := by
  refine h_ofi (by decide +kernel) (Nat.le_of_ble_eq_true rfl) ?_
  intro p e s m args below meth c H0 ls Q hx hb hts hown hml hK hZ hT0 hpr hS0 hl hret
  have hl : lv_has ls 3 [(0, .ref (o)), (1, .int u1)] := hl
  refine lv_iload_n hx hb dX10_way_0 rfl (lv_at hl 1 rfl) ?_
  refine lv_if_lt (tgt := 10) hx hb dX10_way_1 (by decide) (fun c1 => ?_) (fun c1 => ?_)
  · skip
    refine lv_aload_n hx hb dX10_way_10 rfl (lv_at hl 0 rfl) ?_
    refine lv_iconst (v := 1) hx hb dX10_way_11 (by decide) ?_
    refine h_callVi (T := TX10) (rest := []) (As := [.int 1]) hx hb hml hown hts hK hT0 hZ (fun _ h => h) hS0 (c_X10_fail l G Y P (o) hW 1) trivial wd_X10_fail wV_X10_fail wL_X10_66 (on_w0 hW) rfl rfl hl.1 rfl (Nat.le_of_ble_eq_true rfl) dX10_way_12 ⟨Nat.le_of_ble_eq_true rfl, Nat.le_of_ble_eq_true rfl⟩ ⟨Nat.zero_le _, Nat.zero_le _⟩ (fun r2 H1 locs hp1 hT1 hS1 hk1 => ?_)
    obtain ⟨hq, hp1⟩ := hp1
    have hq : r2 = (-1) := hq
    subst hq
    exact hret _ _ _ _ _ hT1 hS1 trivial dX10_way_15
  · skip
    refine lv_iload_n hx hb dX10_way_4 rfl (lv_at hl 1 rfl) ?_
    refine lv_bipush (v := 9) hx hb dX10_way_5 (by decide) ?_
    refine lv_icmp_le (tgt := 16) hx hb dX10_way_7 (by decide) (fun c3 => ?_) (fun c3 => ?_)
    · skip
      refine lv_aload_n hx hb dX10_way_16 rfl (lv_at hl 0 rfl) ?_
      refine h_getr (C := RX10) (T := TX10) (N := 9) hx hb hts inX10 hown hK hT0 (on_w0 hW) rfl 1 rfl wF_X10_19 rfl dX10_way_17 ?_
      refine h_getr (C := RX5) (T := TX5) (N := 11) hx hb hts inX5 hown hK hT0 (on_rg (on_wr hW)) rfl 3 rfl wF_X10_120 rfl dX10_way_20 ?_
      refine h_geti (C := RX9) (T := TX9) (N := 11) hx hb hts inX9 hown hK hT0 ((on_wa (on_wr hW)).o rfl) rfl 0 rfl wF_X10_124 rfl dX10_way_23 (fun p4 => ?_)
      refine lv_topi (fun x5 ex5 => ?_)
      refine lv_istore_n (lv' := [(2, .int x5), (0, .ref (o)), (1, .int u1)]) hx hb dX10_way_26 rfl hl (by decide) rfl (fun ls hl => ?_)
      refine lv_iload_n hx hb dX10_way_27 rfl (lv_at hl 2 rfl) ?_
      refine lv_iconst (v := 1) hx hb dX10_way_28 (by decide) ?_
      refine lv_icmp_lt (tgt := 36) hx hb dX10_way_29 (by decide) (fun c6 => ?_) (fun c6 => ?_)
      · skip
        refine lv_iload_n hx hb dX10_way_36 rfl (lv_at hl 2 rfl) ?_
        refine lv_iconst (v := 5) hx hb dX10_way_37 (by decide) ?_
        refine lv_icmp_lt (tgt := 53) hx hb dX10_way_38 (by decide) (fun _ => ?_) (fun h => absurd (by (try simp only [Int32.lt_iff_toInt_lt, Int32.le_iff_toInt_le, ← Int32.toInt_inj, Int32.reduceToInt, (show (-1 : Int32).toInt = -1 from rfl)] at c1 c3 c6 ⊢); omega) h)
        refine lv_aload_n hx hb dX10_way_53 rfl (lv_at hl 1 rfl) ?_
        refine lv_aload_n hx hb dX10_way_54 rfl (lv_at hl 1 rfl) ?_
        refine h_getr (C := RX10) (T := TX10) (N := 9) hx hb hts inX10 hown hK hT0 (on_w0 hW) rfl 1 rfl wF_X10_19 rfl dX10_way_55 ?_
        refine h_getr (C := RX5) (T := TX5) (N := 11) hx hb hts inX5 hown hK hT0 (on_rg (on_wr hW)) rfl 3 rfl wF_X10_120 rfl dX10_way_58 ?_
        refine lv_iload_n hx hb dX10_way_61 rfl (lv_at hl 2 rfl) ?_
        refine h_callVi (T := TX9) (rest := [.ref (o)]) (As := [.int u1]) hx hb hml hown hts hK hT0 hZ (fun _ h => h) hS0 (c_X9_tell l G Y P (o + 3 + 17) (on_wa (on_wr hW)) u1) trivial wd_X9_tell wV_X9_tell wL_X10_168 ((on_wa (on_wr hW)).o rfl) rfl rfl hl.1 rfl (Nat.le_of_ble_eq_true rfl) dX10_way_62 ⟨Nat.le_of_ble_eq_true rfl, Nat.le_of_ble_eq_true rfl⟩ ⟨Nat.zero_le _, Nat.zero_le _⟩ (fun r7 H2 locs hp2 hT2 hS2 hk2 => ?_)
        obtain ⟨hp2, he⟩ := hp2
        have he := he.symm
        subst he
        refine h_callVi (T := TX10) (rest := []) (As := [.int r7]) hx hb hml hown hts hK hT0 hZ (fun _ h => h) hS2 (c_X10_give l G Y P (o) hW r7) trivial wd_X10_give wV_X10_give wL_X10_95 (on_w0 hW) rfl rfl hl.1 rfl (Nat.le_of_ble_eq_true rfl) dX10_way_65 ⟨Nat.le_of_ble_eq_true rfl, Nat.le_of_ble_eq_true rfl⟩ ⟨Nat.zero_le _, Nat.zero_le _⟩ (fun r8 H3 locs hp3 hT3 hS3 hk3 => ?_)
        obtain ⟨hq, hp3⟩ := hp3
        have hq : r8 = r7 := hq
        subst hq
        exact hret _ _ _ _ _ hT3 hS3 trivial dX10_way_68
      · skip
        refine lv_iload_n hx hb dX10_way_32 rfl (lv_at hl 0 rfl) ?_
        refine lv_if_eq (tgt := 46) hx hb dX10_way_33 (by decide) (fun c9 => ?_) (fun c9 => ?_)
        · skip
          refine lv_aload_n hx hb dX10_way_46 rfl (lv_at hl 1 rfl) ?_
          refine lv_bipush (v := 6) hx hb dX10_way_47 (by decide) ?_
          refine h_callVi (T := TX10) (rest := []) (As := [.int 6]) hx hb hml hown hts hK hT0 hZ (fun _ h => h) hS0 (c_X10_fail l G Y P (o) hW 6) trivial wd_X10_fail wV_X10_fail wL_X10_66 (on_w0 hW) rfl rfl hl.1 rfl (Nat.le_of_ble_eq_true rfl) dX10_way_49 ⟨Nat.le_of_ble_eq_true rfl, Nat.le_of_ble_eq_true rfl⟩ ⟨Nat.zero_le _, Nat.zero_le _⟩ (fun r10 H4 locs hp4 hT4 hS4 hk4 => ?_)
          obtain ⟨hq, hp4⟩ := hp4
          have hq : r10 = (-1) := hq
          subst hq
          exact hret _ _ _ _ _ hT4 hS4 trivial dX10_way_52
        · skip
          refine lv_iload_n hx hb dX10_way_36 rfl (lv_at hl 2 rfl) ?_
          refine lv_iconst (v := 5) hx hb dX10_way_37 (by decide) ?_
          refine lv_icmp_lt (tgt := 53) hx hb dX10_way_38 (by decide) (fun c11 => ?_) (fun c11 => ?_)
          · skip
            refine lv_aload_n hx hb dX10_way_53 rfl (lv_at hl 1 rfl) ?_
            refine lv_aload_n hx hb dX10_way_54 rfl (lv_at hl 1 rfl) ?_
            refine h_getr (C := RX10) (T := TX10) (N := 9) hx hb hts inX10 hown hK hT0 (on_w0 hW) rfl 1 rfl wF_X10_19 rfl dX10_way_55 ?_
            refine h_getr (C := RX5) (T := TX5) (N := 11) hx hb hts inX5 hown hK hT0 (on_rg (on_wr hW)) rfl 3 rfl wF_X10_120 rfl dX10_way_58 ?_
            refine lv_iload_n hx hb dX10_way_61 rfl (lv_at hl 2 rfl) ?_
            refine h_callVi (T := TX9) (rest := [.ref (o)]) (As := [.int u1]) hx hb hml hown hts hK hT0 hZ (fun _ h => h) hS0 (c_X9_tell l G Y P (o + 3 + 17) (on_wa (on_wr hW)) u1) trivial wd_X9_tell wV_X9_tell wL_X10_168 ((on_wa (on_wr hW)).o rfl) rfl rfl hl.1 rfl (Nat.le_of_ble_eq_true rfl) dX10_way_62 ⟨Nat.le_of_ble_eq_true rfl, Nat.le_of_ble_eq_true rfl⟩ ⟨Nat.zero_le _, Nat.zero_le _⟩ (fun r12 H5 locs hp5 hT5 hS5 hk5 => ?_)
            obtain ⟨hp5, he⟩ := hp5
            have he := he.symm
            subst he
            refine h_callVi (T := TX10) (rest := []) (As := [.int r12]) hx hb hml hown hts hK hT0 hZ (fun _ h => h) hS5 (c_X10_give l G Y P (o) hW r12) trivial wd_X10_give wV_X10_give wL_X10_95 (on_w0 hW) rfl rfl hl.1 rfl (Nat.le_of_ble_eq_true rfl) dX10_way_65 ⟨Nat.le_of_ble_eq_true rfl, Nat.le_of_ble_eq_true rfl⟩ ⟨Nat.zero_le _, Nat.zero_le _⟩ (fun r13 H6 locs hp6 hT6 hS6 hk6 => ?_)
            obtain ⟨hq, hp6⟩ := hp6
            have hq : r13 = r12 := hq
            subst hq
            exact hret _ _ _ _ _ hT6 hS6 trivial dX10_way_68
          · skip
            refine lv_iload_n hx hb dX10_way_41 rfl (lv_at hl 0 rfl) ?_
            refine lv_iconst (v := 2) hx hb dX10_way_42 (by decide) ?_
            refine lv_icmp_eq (tgt := 53) hx hb dX10_way_43 (by decide) (fun c14 => ?_) (fun c14 => ?_)
            · skip
              refine lv_aload_n hx hb dX10_way_53 rfl (lv_at hl 1 rfl) ?_
              refine lv_aload_n hx hb dX10_way_54 rfl (lv_at hl 1 rfl) ?_
              refine h_getr (C := RX10) (T := TX10) (N := 9) hx hb hts inX10 hown hK hT0 (on_w0 hW) rfl 1 rfl wF_X10_19 rfl dX10_way_55 ?_
              refine h_getr (C := RX5) (T := TX5) (N := 11) hx hb hts inX5 hown hK hT0 (on_rg (on_wr hW)) rfl 3 rfl wF_X10_120 rfl dX10_way_58 ?_
              refine lv_iload_n hx hb dX10_way_61 rfl (lv_at hl 2 rfl) ?_
              refine h_callVi (T := TX9) (rest := [.ref (o)]) (As := [.int u1]) hx hb hml hown hts hK hT0 hZ (fun _ h => h) hS0 (c_X9_tell l G Y P (o + 3 + 17) (on_wa (on_wr hW)) u1) trivial wd_X9_tell wV_X9_tell wL_X10_168 ((on_wa (on_wr hW)).o rfl) rfl rfl hl.1 rfl (Nat.le_of_ble_eq_true rfl) dX10_way_62 ⟨Nat.le_of_ble_eq_true rfl, Nat.le_of_ble_eq_true rfl⟩ ⟨Nat.zero_le _, Nat.zero_le _⟩ (fun r15 H7 locs hp7 hT7 hS7 hk7 => ?_)
              obtain ⟨hp7, he⟩ := hp7
              have he := he.symm
              subst he
              refine h_callVi (T := TX10) (rest := []) (As := [.int r15]) hx hb hml hown hts hK hT0 hZ (fun _ h => h) hS7 (c_X10_give l G Y P (o) hW r15) trivial wd_X10_give wV_X10_give wL_X10_95 (on_w0 hW) rfl rfl hl.1 rfl (Nat.le_of_ble_eq_true rfl) dX10_way_65 ⟨Nat.le_of_ble_eq_true rfl, Nat.le_of_ble_eq_true rfl⟩ ⟨Nat.zero_le _, Nat.zero_le _⟩ (fun r16 H8 locs hp8 hT8 hS8 hk8 => ?_)
              obtain ⟨hq, hp8⟩ := hp8
              have hq : r16 = r15 := hq
              subst hq
              exact hret _ _ _ _ _ hT8 hS8 trivial dX10_way_68
            · skip
              refine lv_aload_n hx hb dX10_way_46 rfl (lv_at hl 1 rfl) ?_
              refine lv_bipush (v := 6) hx hb dX10_way_47 (by decide) ?_
              refine h_callVi (T := TX10) (rest := []) (As := [.int 6]) hx hb hml hown hts hK hT0 hZ (fun _ h => h) hS0 (c_X10_fail l G Y P (o) hW 6) trivial wd_X10_fail wV_X10_fail wL_X10_66 (on_w0 hW) rfl rfl hl.1 rfl (Nat.le_of_ble_eq_true rfl) dX10_way_49 ⟨Nat.le_of_ble_eq_true rfl, Nat.le_of_ble_eq_true rfl⟩ ⟨Nat.zero_le _, Nat.zero_le _⟩ (fun r17 H9 locs hp9 hT9 hS9 hk9 => ?_)
              obtain ⟨hq, hp9⟩ := hp9
              have hq : r17 = (-1) := hq
              subst hq
              exact hret _ _ _ _ _ hT9 hS9 trivial dX10_way_52
    · skip
      refine lv_aload_n hx hb dX10_way_10 rfl (lv_at hl 0 rfl) ?_
      refine lv_iconst (v := 1) hx hb dX10_way_11 (by decide) ?_
      refine h_callVi (T := TX10) (rest := []) (As := [.int 1]) hx hb hml hown hts hK hT0 hZ (fun _ h => h) hS0 (c_X10_fail l G Y P (o) hW 1) trivial wd_X10_fail wV_X10_fail wL_X10_66 (on_w0 hW) rfl rfl hl.1 rfl (Nat.le_of_ble_eq_true rfl) dX10_way_12 ⟨Nat.le_of_ble_eq_true rfl, Nat.le_of_ble_eq_true rfl⟩ ⟨Nat.zero_le _, Nat.zero_le _⟩ (fun r18 H10 locs hp10 hT10 hS10 hk10 => ?_)
      obtain ⟨hq, hp10⟩ := hp10
      have hq : r18 = (-1) := hq
      subst hq
      exact hret _ _ _ _ _ hT10 hS10 trivial dX10_way_15
set_option maxHeartbeats 4000000 in
set_option maxRecDepth 100000 in
theorem c_X10_beacon (l : Launch) (G : hG) (Y : hW) (P : Int32 → Prop) (o : Nat) (hW : h_On Y o (wldE (tC P) o)) (u1 : Int32) : hMi l yX10_beacon cX10_beacon 3 (some .int) 1 21 G Y [.ref (o), .int u1] (fun H => True) (fun H r H1 => True) := by
  refine h_ofi (by decide +kernel) (Nat.le_of_ble_eq_true rfl) ?_
  intro p e s m args below meth c H0 ls Q hx hb hts hown hml hK hZ hT0 hpr hS0 hl hret
  have hl : lv_has ls 3 [(0, .ref (o)), (1, .int u1)] := hl
  refine lv_iload_n hx hb dX10_beacon_0 rfl (lv_at hl 1 rfl) ?_
  refine lv_if_lt (tgt := 9) hx hb dX10_beacon_1 (by decide) (fun c1 => ?_) (fun c1 => ?_)
  · skip
    refine lv_aload_n hx hb dX10_beacon_9 rfl (lv_at hl 0 rfl) ?_
    refine lv_iconst (v := 1) hx hb dX10_beacon_10 (by decide) ?_
    refine h_callVi (T := TX10) (rest := []) (As := [.int 1]) hx hb hml hown hts hK hT0 hZ (fun _ h => h) hS0 (c_X10_fail l G Y P (o) hW 1) trivial wd_X10_fail wV_X10_fail wL_X10_66 (on_w0 hW) rfl rfl hl.1 rfl (Nat.le_of_ble_eq_true rfl) dX10_beacon_11 ⟨Nat.le_of_ble_eq_true rfl, Nat.le_of_ble_eq_true rfl⟩ ⟨Nat.zero_le _, Nat.zero_le _⟩ (fun r2 H1 locs hp1 hT1 hS1 hk1 => ?_)
    obtain ⟨hq, hp1⟩ := hp1
    have hq : r2 = (-1) := hq
    subst hq
    exact hret _ _ _ _ _ hT1 hS1 trivial dX10_beacon_14
  · skip
    refine lv_iload_n hx hb dX10_beacon_4 rfl (lv_at hl 1 rfl) ?_
    refine lv_iconst (v := 2) hx hb dX10_beacon_5 (by decide) ?_
    refine lv_icmp_le (tgt := 15) hx hb dX10_beacon_6 (by decide) (fun c3 => ?_) (fun c3 => ?_)
    · skip
      refine lv_aload_n hx hb dX10_beacon_15 rfl (lv_at hl 0 rfl) ?_
      refine h_getr (C := RX10) (T := TX10) (N := 9) hx hb hts inX10 hown hK hT0 (on_w0 hW) rfl 1 rfl wF_X10_19 rfl dX10_beacon_16 ?_
      refine h_getr (C := RX5) (T := TX5) (N := 11) hx hb hts inX5 hown hK hT0 (on_rg (on_wr hW)) rfl 4 rfl wF_X10_129 rfl dX10_beacon_19 ?_
      refine lv_astore_n (lv' := [(2, .ref (o + 3 + 18)), (0, .ref (o)), (1, .int u1)]) hx hb dX10_beacon_22 rfl hl (by decide) rfl (fun ls hl => ?_)
      refine lv_iload_n hx hb dX10_beacon_23 rfl (lv_at hl 2 rfl) ?_
      refine lv_if_ne (tgt := 36) hx hb dX10_beacon_24 (by decide) (fun c4 => ?_) (fun c4 => ?_)
      · skip
        refine lv_aload_n hx hb dX10_beacon_36 rfl (lv_at hl 0 rfl) ?_
        refine h_geti (C := RX6) (T := TX6) (N := 4) hx hb hts inX6 hown hK hT0 ((on_si (on_wr hW)).o rfl) rfl 1 rfl wF_X10_171 rfl dX10_beacon_37 (fun p5 => ?_)
        refine lv_topi (fun x6 ex6 => ?_)
        refine lv_iconst (v := 2) hx hb dX10_beacon_40 (by decide) ?_
        refine lv_icmp_eq (tgt := 50) hx hb dX10_beacon_41 (by decide) (fun c7 => ?_) (fun c7 => ?_)
        · skip
          refine lv_aload_n hx hb dX10_beacon_50 rfl (lv_at hl 1 rfl) ?_
          refine lv_iload_n hx hb dX10_beacon_51 rfl (lv_at hl 2 rfl) ?_
          refine lv_iconst (v := 1) hx hb dX10_beacon_52 (by decide) ?_
          refine lv_icmp_ne (tgt := 63) hx hb dX10_beacon_53 (by decide) (fun c8 => ?_) (fun c8 => ?_)
          · skip
            refine lv_aload_n hx hb dX10_beacon_63 rfl (lv_at hl 0 rfl) ?_
            refine h_geti (C := RX6) (T := TX6) (N := 4) hx hb hts inX6 hown hK hT0 ((on_si (on_wr hW)).o rfl) rfl 3 rfl wF_X10_177 rfl dX10_beacon_64 (fun p9 => ?_)
            refine lv_topi (fun x10 ex10 => ?_)
            refine h_callVi (T := TX10) (rest := []) (As := [.int x10]) hx hb hml hown hts hK hT0 hZ (fun _ h => h) hS0 (c_X10_give l G Y P (o) hW x10) trivial wd_X10_give wV_X10_give wL_X10_95 (on_w0 hW) rfl rfl hl.1 rfl (Nat.le_of_ble_eq_true rfl) dX10_beacon_67 ⟨Nat.le_of_ble_eq_true rfl, Nat.le_of_ble_eq_true rfl⟩ ⟨Nat.zero_le _, Nat.zero_le _⟩ (fun r11 H2 locs hp2 hT2 hS2 hk2 => ?_)
            obtain ⟨hq, hp2⟩ := hp2
            have hq : r11 = x10 := hq
            subst hq
            exact hret _ _ _ _ _ hT2 hS2 trivial dX10_beacon_70
          · skip
            refine lv_aload_n hx hb dX10_beacon_56 rfl (lv_at hl 0 rfl) ?_
            refine h_geti (C := RX6) (T := TX6) (N := 4) hx hb hts inX6 hown hK hT0 ((on_si (on_wr hW)).o rfl) rfl 2 rfl wF_X10_174 rfl dX10_beacon_57 (fun p12 => ?_)
            refine lv_topi (fun x13 ex13 => ?_)
            refine lv_goto (tgt := 67) hx hb dX10_beacon_60 (by decide) ?_
            refine h_callVi (T := TX10) (rest := []) (As := [.int x13]) hx hb hml hown hts hK hT0 hZ (fun _ h => h) hS0 (c_X10_give l G Y P (o) hW x13) trivial wd_X10_give wV_X10_give wL_X10_95 (on_w0 hW) rfl rfl hl.1 rfl (Nat.le_of_ble_eq_true rfl) dX10_beacon_67 ⟨Nat.le_of_ble_eq_true rfl, Nat.le_of_ble_eq_true rfl⟩ ⟨Nat.zero_le _, Nat.zero_le _⟩ (fun r14 H3 locs hp3 hT3 hS3 hk3 => ?_)
            obtain ⟨hq, hp3⟩ := hp3
            have hq : r14 = x13 := hq
            subst hq
            exact hret _ _ _ _ _ hT3 hS3 trivial dX10_beacon_70
        · skip
          refine lv_aload_n hx hb dX10_beacon_44 rfl (lv_at hl 1 rfl) ?_
          refine lv_iconst (v := 5) hx hb dX10_beacon_45 (by decide) ?_
          refine h_callVi (T := TX10) (rest := []) (As := [.int 5]) hx hb hml hown hts hK hT0 hZ (fun _ h => h) hS0 (c_X10_fail l G Y P (o) hW 5) trivial wd_X10_fail wV_X10_fail wL_X10_66 (on_w0 hW) rfl rfl hl.1 rfl (Nat.le_of_ble_eq_true rfl) dX10_beacon_46 ⟨Nat.le_of_ble_eq_true rfl, Nat.le_of_ble_eq_true rfl⟩ ⟨Nat.zero_le _, Nat.zero_le _⟩ (fun r15 H4 locs hp4 hT4 hS4 hk4 => ?_)
          obtain ⟨hq, hp4⟩ := hp4
          have hq : r15 = (-1) := hq
          subst hq
          exact hret _ _ _ _ _ hT4 hS4 trivial dX10_beacon_49
      · skip
        refine lv_aload_n hx hb dX10_beacon_27 rfl (lv_at hl 1 rfl) ?_
        refine lv_aload_n hx hb dX10_beacon_28 rfl (lv_at hl 0 rfl) ?_
        refine h_geti (C := RX6) (T := TX6) (N := 4) hx hb hts inX6 hown hK hT0 ((on_si (on_wr hW)).o rfl) rfl 1 rfl wF_X10_171 rfl dX10_beacon_29 (fun p16 => ?_)
        refine lv_topi (fun x17 ex17 => ?_)
        refine h_callVi (T := TX10) (rest := []) (As := [.int x17]) hx hb hml hown hts hK hT0 hZ (fun _ h => h) hS0 (c_X10_give l G Y P (o) hW x17) trivial wd_X10_give wV_X10_give wL_X10_95 (on_w0 hW) rfl rfl hl.1 rfl (Nat.le_of_ble_eq_true rfl) dX10_beacon_32 ⟨Nat.le_of_ble_eq_true rfl, Nat.le_of_ble_eq_true rfl⟩ ⟨Nat.zero_le _, Nat.zero_le _⟩ (fun r18 H5 locs hp5 hT5 hS5 hk5 => ?_)
        obtain ⟨hq, hp5⟩ := hp5
        have hq : r18 = x17 := hq
        subst hq
        exact hret _ _ _ _ _ hT5 hS5 trivial dX10_beacon_35
    · skip
      refine lv_aload_n hx hb dX10_beacon_9 rfl (lv_at hl 0 rfl) ?_
      refine lv_iconst (v := 1) hx hb dX10_beacon_10 (by decide) ?_
      refine h_callVi (T := TX10) (rest := []) (As := [.int 1]) hx hb hml hown hts hK hT0 hZ (fun _ h => h) hS0 (c_X10_fail l G Y P (o) hW 1) trivial wd_X10_fail wV_X10_fail wL_X10_66 (on_w0 hW) rfl rfl hl.1 rfl (Nat.le_of_ble_eq_true rfl) dX10_beacon_11 ⟨Nat.le_of_ble_eq_true rfl, Nat.le_of_ble_eq_true rfl⟩ ⟨Nat.zero_le _, Nat.zero_le _⟩ (fun r19 H6 locs hp6 hT6 hS6 hk6 => ?_)
      obtain ⟨hq, hp6⟩ := hp6
      have hq : r19 = (-1) := hq
      subst hq
      exact hret _ _ _ _ _ hT6 hS6 trivial dX10_beacon_14
set_option maxHeartbeats 4000000 in
set_option maxRecDepth 100000 in
theorem c_X10_been (l : Launch) (G : hG) (Y : hW) (P : Int32 → Prop) (o : Nat) (hW : h_On Y o (wldE (tC P) o)) (u1 : Int32) : hMi l yX10_been cX10_been 2 (some .int) 1 21 G Y [.ref (o), .int u1] (fun H => True) (fun H r H1 => True) := by
  refine h_ofi (by decide +kernel) (Nat.le_of_ble_eq_true rfl) ?_
  intro p e s m args below meth c H0 ls Q hx hb hts hown hml hK hZ hT0 hpr hS0 hl hret
  have hl : lv_has ls 2 [(0, .ref (o)), (1, .int u1)] := hl
  refine lv_iload_n hx hb dX10_been_0 rfl (lv_at hl 1 rfl) ?_
  refine lv_if_lt (tgt := 10) hx hb dX10_been_1 (by decide) (fun c1 => ?_) (fun c1 => ?_)
  · skip
    refine lv_aload_n hx hb dX10_been_10 rfl (lv_at hl 0 rfl) ?_
    refine lv_iconst (v := 1) hx hb dX10_been_11 (by decide) ?_
    refine h_callVi (T := TX10) (rest := []) (As := [.int 1]) hx hb hml hown hts hK hT0 hZ (fun _ h => h) hS0 (c_X10_fail l G Y P (o) hW 1) trivial wd_X10_fail wV_X10_fail wL_X10_66 (on_w0 hW) rfl rfl hl.1 rfl (Nat.le_of_ble_eq_true rfl) dX10_been_12 ⟨Nat.le_of_ble_eq_true rfl, Nat.le_of_ble_eq_true rfl⟩ ⟨Nat.zero_le _, Nat.zero_le _⟩ (fun r2 H1 locs hp1 hT1 hS1 hk1 => ?_)
    obtain ⟨hq, hp1⟩ := hp1
    have hq : r2 = (-1) := hq
    subst hq
    exact hret _ _ _ _ _ hT1 hS1 trivial dX10_been_15
  · skip
    refine lv_iload_n hx hb dX10_been_4 rfl (lv_at hl 1 rfl) ?_
    refine lv_bipush (v := 10) hx hb dX10_been_5 (by decide) ?_
    refine lv_icmp_lt (tgt := 16) hx hb dX10_been_7 (by decide) (fun c3 => ?_) (fun c3 => ?_)
    · skip
      refine lv_aload_n hx hb dX10_been_16 rfl (lv_at hl 0 rfl) ?_
      refine lv_aload_n hx hb dX10_been_17 rfl (lv_at hl 0 rfl) ?_
      refine h_getr (C := RX10) (T := TX10) (N := 9) hx hb hts inX10 hown hK hT0 (on_w0 hW) rfl 1 rfl wF_X10_19 rfl dX10_been_18 ?_
      refine h_getr (C := RX5) (T := TX5) (N := 11) hx hb hts inX5 hown hK hT0 (on_rg (on_wr hW)) rfl 5 rfl wF_X10_180 rfl dX10_been_21 ?_
      refine lv_iload_n hx hb dX10_been_24 rfl (lv_at hl 1 rfl) ?_
      refine h_callVi (T := TX0) (rest := [.ref (o)]) (As := [.int u1]) hx hb hml hown hts hK hT0 hZ (fun _ h => h) hS0 (c_X0_counted l G Y P (o + 3 + 19) (on_bo (on_wr hW)) u1) trivial wd_X0_counted wV_X0_counted wL_X10_184 ((on_bo (on_wr hW)).o rfl) rfl rfl hl.1 rfl (Nat.le_of_ble_eq_true rfl) dX10_been_25 ⟨Nat.le_of_ble_eq_true rfl, Nat.le_of_ble_eq_true rfl⟩ ⟨Nat.zero_le _, Nat.zero_le _⟩ (fun r4 H2 locs hp2 hT2 hS2 hk2 => ?_)
      obtain ⟨hp2, he⟩ := hp2
      have he := he.symm
      subst he
      refine h_callVi (T := TX10) (rest := []) (As := [.int r4]) hx hb hml hown hts hK hT0 hZ (fun _ h => h) hS2 (c_X10_give l G Y P (o) hW r4) trivial wd_X10_give wV_X10_give wL_X10_95 (on_w0 hW) rfl rfl hl.1 rfl (Nat.le_of_ble_eq_true rfl) dX10_been_28 ⟨Nat.le_of_ble_eq_true rfl, Nat.le_of_ble_eq_true rfl⟩ ⟨Nat.zero_le _, Nat.zero_le _⟩ (fun r5 H3 locs hp3 hT3 hS3 hk3 => ?_)
      obtain ⟨hq, hp3⟩ := hp3
      have hq : r5 = r4 := hq
      subst hq
      exact hret _ _ _ _ _ hT3 hS3 trivial dX10_been_31
    · skip
      refine lv_aload_n hx hb dX10_been_10 rfl (lv_at hl 0 rfl) ?_
      refine lv_iconst (v := 1) hx hb dX10_been_11 (by decide) ?_
      refine h_callVi (T := TX10) (rest := []) (As := [.int 1]) hx hb hml hown hts hK hT0 hZ (fun _ h => h) hS0 (c_X10_fail l G Y P (o) hW 1) trivial wd_X10_fail wV_X10_fail wL_X10_66 (on_w0 hW) rfl rfl hl.1 rfl (Nat.le_of_ble_eq_true rfl) dX10_been_12 ⟨Nat.le_of_ble_eq_true rfl, Nat.le_of_ble_eq_true rfl⟩ ⟨Nat.zero_le _, Nat.zero_le _⟩ (fun r6 H4 locs hp4 hT4 hS4 hk4 => ?_)
      obtain ⟨hq, hp4⟩ := hp4
      have hq : r6 = (-1) := hq
      subst hq
      exact hret _ _ _ _ _ hT4 hS4 trivial dX10_been_15
set_option maxHeartbeats 4000000 in
set_option maxRecDepth 100000 in
theorem c_X10_got (l : Launch) (G : hG) (Y : hW) (P : Int32 → Prop) (o : Nat) (hW : h_On Y o (wldE (tC P) o)) (u1 u2 : Int32) : hMi l yX10_got cX10_got 3 (some .int) 2 45 G Y [.ref (o), .int u1, .int u2] (fun H => True) (fun H r H1 => True) := by
  refine h_ofi (by decide +kernel) (Nat.le_of_ble_eq_true rfl) ?_
  intro p e s m args below meth c H0 ls Q hx hb hts hown hml hK hZ hT0 hpr hS0 hl hret
  have hl : lv_has ls 3 [(0, .ref (o)), (1, .int u1), (2, .int u2)] := hl
  refine lv_iload_n hx hb dX10_got_0 rfl (lv_at hl 1 rfl) ?_
  refine lv_if_lt (tgt := 20) hx hb dX10_got_1 (by decide) (fun c1 => ?_) (fun c1 => ?_)
  · skip
    refine lv_aload_n hx hb dX10_got_20 rfl (lv_at hl 0 rfl) ?_
    refine lv_iconst (v := 1) hx hb dX10_got_21 (by decide) ?_
    refine h_callVi (T := TX10) (rest := []) (As := [.int 1]) hx hb hml hown hts hK hT0 hZ (fun _ h => h) hS0 (c_X10_fail l G Y P (o) hW 1) trivial wd_X10_fail wV_X10_fail wL_X10_66 (on_w0 hW) rfl rfl hl.1 rfl (Nat.le_of_ble_eq_true rfl) dX10_got_22 ⟨Nat.le_of_ble_eq_true rfl, Nat.le_of_ble_eq_true rfl⟩ ⟨Nat.zero_le _, Nat.zero_le _⟩ (fun r2 H1 locs hp1 hT1 hS1 hk1 => ?_)
    obtain ⟨hq, hp1⟩ := hp1
    have hq : r2 = (-1) := hq
    subst hq
    exact hret _ _ _ _ _ hT1 hS1 trivial dX10_got_25
  · skip
    refine lv_iload_n hx hb dX10_got_4 rfl (lv_at hl 1 rfl) ?_
    refine lv_bipush (v := 16) hx hb dX10_got_5 (by decide) ?_
    refine lv_icmp_ge (tgt := 20) hx hb dX10_got_7 (by decide) (fun c3 => ?_) (fun c3 => ?_)
    · skip
      refine lv_aload_n hx hb dX10_got_20 rfl (lv_at hl 0 rfl) ?_
      refine lv_iconst (v := 1) hx hb dX10_got_21 (by decide) ?_
      refine h_callVi (T := TX10) (rest := []) (As := [.int 1]) hx hb hml hown hts hK hT0 hZ (fun _ h => h) hS0 (c_X10_fail l G Y P (o) hW 1) trivial wd_X10_fail wV_X10_fail wL_X10_66 (on_w0 hW) rfl rfl hl.1 rfl (Nat.le_of_ble_eq_true rfl) dX10_got_22 ⟨Nat.le_of_ble_eq_true rfl, Nat.le_of_ble_eq_true rfl⟩ ⟨Nat.zero_le _, Nat.zero_le _⟩ (fun r4 H2 locs hp2 hT2 hS2 hk2 => ?_)
      obtain ⟨hq, hp2⟩ := hp2
      have hq : r4 = (-1) := hq
      subst hq
      exact hret _ _ _ _ _ hT2 hS2 trivial dX10_got_25
    · skip
      refine lv_iload_n hx hb dX10_got_10 rfl (lv_at hl 2 rfl) ?_
      refine lv_if_lt (tgt := 20) hx hb dX10_got_11 (by decide) (fun c5 => ?_) (fun c5 => ?_)
      · skip
        refine lv_aload_n hx hb dX10_got_20 rfl (lv_at hl 0 rfl) ?_
        refine lv_iconst (v := 1) hx hb dX10_got_21 (by decide) ?_
        refine h_callVi (T := TX10) (rest := []) (As := [.int 1]) hx hb hml hown hts hK hT0 hZ (fun _ h => h) hS0 (c_X10_fail l G Y P (o) hW 1) trivial wd_X10_fail wV_X10_fail wL_X10_66 (on_w0 hW) rfl rfl hl.1 rfl (Nat.le_of_ble_eq_true rfl) dX10_got_22 ⟨Nat.le_of_ble_eq_true rfl, Nat.le_of_ble_eq_true rfl⟩ ⟨Nat.zero_le _, Nat.zero_le _⟩ (fun r6 H3 locs hp3 hT3 hS3 hk3 => ?_)
        obtain ⟨hq, hp3⟩ := hp3
        have hq : r6 = (-1) := hq
        subst hq
        exact hret _ _ _ _ _ hT3 hS3 trivial dX10_got_25
      · skip
        refine lv_iload_n hx hb dX10_got_14 rfl (lv_at hl 2 rfl) ?_
        refine lv_bipush (v := 6) hx hb dX10_got_15 (by decide) ?_
        refine lv_icmp_lt (tgt := 26) hx hb dX10_got_17 (by decide) (fun c7 => ?_) (fun c7 => ?_)
        · skip
          refine lv_iload_n hx hb dX10_got_26 rfl (lv_at hl 1 rfl) ?_
          refine lv_aload_n hx hb dX10_got_27 rfl (lv_at hl 0 rfl) ?_
          refine h_getr (C := RX10) (T := TX10) (N := 9) hx hb hts inX10 hown hK hT0 (on_w0 hW) rfl 1 rfl wF_X10_19 rfl dX10_got_28 ?_
          refine h_getr (C := RX5) (T := TX5) (N := 11) hx hb hts inX5 hown hK hT0 (on_rg (on_wr hW)) rfl 5 rfl wF_X10_180 rfl dX10_got_31 ?_
          refine lv_iconst (v := 0) hx hb dX10_got_34 (by decide) ?_
          refine h_callVi (T := TX0) (rest := [.int u1]) (As := [.int 0]) hx hb hml hown hts hK hT0 hZ (fun _ h => h) hS0 (c_X0_counted l G Y P (o + 3 + 19) (on_bo (on_wr hW)) 0) trivial wd_X0_counted wV_X0_counted wL_X10_184 ((on_bo (on_wr hW)).o rfl) rfl rfl hl.1 rfl (Nat.le_of_ble_eq_true rfl) dX10_got_35 ⟨Nat.le_of_ble_eq_true rfl, Nat.le_of_ble_eq_true rfl⟩ ⟨Nat.zero_le _, Nat.zero_le _⟩ (fun r8 H4 locs hp4 hT4 hS4 hk4 => ?_)
          obtain ⟨hp4, he⟩ := hp4
          have he := he.symm
          subst he
          refine lv_icmp_lt (tgt := 47) hx hb dX10_got_38 (by decide) (fun c9 => ?_) (fun c9 => ?_)
          · skip
            refine lv_aload_n hx hb dX10_got_47 rfl (lv_at hl 0 rfl) ?_
            refine lv_aload_n hx hb dX10_got_48 rfl (lv_at hl 0 rfl) ?_
            refine h_getr (C := RX10) (T := TX10) (N := 9) hx hb hts inX10 hown hK hT0 (on_w0 hW) rfl 1 rfl wF_X10_19 rfl dX10_got_49 ?_
            refine h_getr (C := RX5) (T := TX5) (N := 11) hx hb hts inX5 hown hK hT0 (on_rg (on_wr hW)) rfl 5 rfl wF_X10_180 rfl dX10_got_52 ?_
            refine lv_iload_n hx hb dX10_got_55 rfl (lv_at hl 1 rfl) ?_
            refine lv_iload_n hx hb dX10_got_56 rfl (lv_at hl 2 rfl) ?_
            refine h_callVi (T := TX0) (rest := [.ref (o)]) (As := [.int u1, .int u2]) hx hb hml hown hts hK hT0 hZ (fun _ h => h) hS4 (c_X0_gotAt l G Y P (o + 3 + 19) (on_bo (on_wr hW)) u1 u2) trivial wd_X0_gotAt wV_X0_gotAt wL_X10_189 ((on_bo (on_wr hW)).o rfl) rfl rfl hl.1 rfl (Nat.le_of_ble_eq_true rfl) dX10_got_57 ⟨Nat.le_of_ble_eq_true rfl, Nat.le_of_ble_eq_true rfl⟩ ⟨Nat.zero_le _, Nat.zero_le _⟩ (fun r10 H5 locs hp5 hT5 hS5 hk5 => ?_)
            obtain ⟨hp5, he⟩ := hp5
            have he := he.symm
            subst he
            refine h_callVi (T := TX10) (rest := []) (As := [.int r10]) hx hb hml hown hts hK hT0 hZ (fun _ h => h) hS5 (c_X10_give l G Y P (o) hW r10) trivial wd_X10_give wV_X10_give wL_X10_95 (on_w0 hW) rfl rfl hl.1 rfl (Nat.le_of_ble_eq_true rfl) dX10_got_60 ⟨Nat.le_of_ble_eq_true rfl, Nat.le_of_ble_eq_true rfl⟩ ⟨Nat.zero_le _, Nat.zero_le _⟩ (fun r11 H6 locs hp6 hT6 hS6 hk6 => ?_)
            obtain ⟨hq, hp6⟩ := hp6
            have hq : r11 = r10 := hq
            subst hq
            exact hret _ _ _ _ _ hT6 hS6 trivial dX10_got_63
          · skip
            refine lv_aload_n hx hb dX10_got_41 rfl (lv_at hl 0 rfl) ?_
            refine lv_iconst (v := 5) hx hb dX10_got_42 (by decide) ?_
            refine h_callVi (T := TX10) (rest := []) (As := [.int 5]) hx hb hml hown hts hK hT0 hZ (fun _ h => h) hS4 (c_X10_fail l G Y P (o) hW 5) trivial wd_X10_fail wV_X10_fail wL_X10_66 (on_w0 hW) rfl rfl hl.1 rfl (Nat.le_of_ble_eq_true rfl) dX10_got_43 ⟨Nat.le_of_ble_eq_true rfl, Nat.le_of_ble_eq_true rfl⟩ ⟨Nat.zero_le _, Nat.zero_le _⟩ (fun r12 H7 locs hp7 hT7 hS7 hk7 => ?_)
            obtain ⟨hq, hp7⟩ := hp7
            have hq : r12 = (-1) := hq
            subst hq
            exact hret _ _ _ _ _ hT7 hS7 trivial dX10_got_46
        · skip
          refine lv_aload_n hx hb dX10_got_20 rfl (lv_at hl 0 rfl) ?_
          refine lv_iconst (v := 1) hx hb dX10_got_21 (by decide) ?_
          refine h_callVi (T := TX10) (rest := []) (As := [.int 1]) hx hb hml hown hts hK hT0 hZ (fun _ h => h) hS0 (c_X10_fail l G Y P (o) hW 1) trivial wd_X10_fail wV_X10_fail wL_X10_66 (on_w0 hW) rfl rfl hl.1 rfl (Nat.le_of_ble_eq_true rfl) dX10_got_22 ⟨Nat.le_of_ble_eq_true rfl, Nat.le_of_ble_eq_true rfl⟩ ⟨Nat.zero_le _, Nat.zero_le _⟩ (fun r13 H8 locs hp8 hT8 hS8 hk8 => ?_)
          obtain ⟨hq, hp8⟩ := hp8
          have hq : r13 = (-1) := hq
          subst hq
          exact hret _ _ _ _ _ hT8 hS8 trivial dX10_got_25
set_option maxHeartbeats 4000000 in
set_option maxRecDepth 100000 in
theorem c_X10_raise (l : Launch) (G : hG) (Y : hW) (P : Int32 → Prop) (o : Nat) (hW : h_On Y o (wldE (tC P) o)) (u1 u2 u3 : Int32) : hMi l yX10_raise cX10_raise 4 (some .int) 2 45 G Y [.ref (o), .int u1, .int u2, .int u3] (fun H => True) (fun H r H1 => True) := by
  refine h_ofi (by decide +kernel) (Nat.le_of_ble_eq_true rfl) ?_
  intro p e s m args below meth c H0 ls Q hx hb hts hown hml hK hZ hT0 hpr hS0 hl hret
  have hl : lv_has ls 4 [(0, .ref (o)), (1, .int u1), (2, .int u2), (3, .int u3)] := hl
  refine lv_iload_n hx hb dX10_raise_0 rfl (lv_at hl 2 rfl) ?_
  refine lv_if_lt (tgt := 13) hx hb dX10_raise_1 (by decide) (fun c1 => ?_) (fun c1 => ?_)
  · skip
    refine lv_aload_n hx hb dX10_raise_13 rfl (lv_at hl 0 rfl) ?_
    refine lv_iconst (v := 1) hx hb dX10_raise_14 (by decide) ?_
    refine h_callVi (T := TX10) (rest := []) (As := [.int 1]) hx hb hml hown hts hK hT0 hZ (fun _ h => h) hS0 (c_X10_fail l G Y P (o) hW 1) trivial wd_X10_fail wV_X10_fail wL_X10_66 (on_w0 hW) rfl rfl hl.1 rfl (Nat.le_of_ble_eq_true rfl) dX10_raise_15 ⟨Nat.le_of_ble_eq_true rfl, Nat.le_of_ble_eq_true rfl⟩ ⟨Nat.zero_le _, Nat.zero_le _⟩ (fun r2 H1 locs hp1 hT1 hS1 hk1 => ?_)
    obtain ⟨hq, hp1⟩ := hp1
    have hq : r2 = (-1) := hq
    subst hq
    exact hret _ _ _ _ _ hT1 hS1 trivial dX10_raise_18
  · skip
    refine lv_iload_n hx hb dX10_raise_4 rfl (lv_at hl 3 rfl) ?_
    refine lv_if_lt (tgt := 13) hx hb dX10_raise_5 (by decide) (fun c3 => ?_) (fun c3 => ?_)
    · skip
      refine lv_aload_n hx hb dX10_raise_13 rfl (lv_at hl 0 rfl) ?_
      refine lv_iconst (v := 1) hx hb dX10_raise_14 (by decide) ?_
      refine h_callVi (T := TX10) (rest := []) (As := [.int 1]) hx hb hml hown hts hK hT0 hZ (fun _ h => h) hS0 (c_X10_fail l G Y P (o) hW 1) trivial wd_X10_fail wV_X10_fail wL_X10_66 (on_w0 hW) rfl rfl hl.1 rfl (Nat.le_of_ble_eq_true rfl) dX10_raise_15 ⟨Nat.le_of_ble_eq_true rfl, Nat.le_of_ble_eq_true rfl⟩ ⟨Nat.zero_le _, Nat.zero_le _⟩ (fun r4 H2 locs hp2 hT2 hS2 hk2 => ?_)
      obtain ⟨hq, hp2⟩ := hp2
      have hq : r4 = (-1) := hq
      subst hq
      exact hret _ _ _ _ _ hT2 hS2 trivial dX10_raise_18
    · skip
      refine lv_iload_n hx hb dX10_raise_8 rfl (lv_at hl 3 rfl) ?_
      refine lv_iconst (v := 1) hx hb dX10_raise_9 (by decide) ?_
      refine lv_icmp_le (tgt := 19) hx hb dX10_raise_10 (by decide) (fun c5 => ?_) (fun c5 => ?_)
      · skip
        refine lv_aload_n hx hb dX10_raise_19 rfl (lv_at hl 0 rfl) ?_
        refine h_getr (C := RX10) (T := TX10) (N := 9) hx hb hts inX10 hown hK hT0 (on_w0 hW) rfl 1 rfl wF_X10_19 rfl dX10_raise_20 ?_
        refine h_getr (C := RX5) (T := TX5) (N := 11) hx hb hts inX5 hown hK hT0 (on_rg (on_wr hW)) rfl 0 rfl wF_X10_86 rfl dX10_raise_23 ?_
        refine lv_iload_n hx hb dX10_raise_26 rfl (lv_at hl 1 rfl) ?_
        refine h_callVi (T := TX7) (rest := []) (As := [.int u1]) hx hb hml hown hts hK hT0 hZ (fun _ h => h) hS0 (c_X7_exists l G Y P (o + 3 + 1) (on_st (on_wr hW)) u1) trivial wd_X7_exists wV_X7_exists wL_X10_146 ((on_st (on_wr hW)).o rfl) rfl rfl hl.1 rfl (Nat.le_of_ble_eq_true rfl) dX10_raise_27 ⟨Nat.le_of_ble_eq_true rfl, Nat.le_of_ble_eq_true rfl⟩ ⟨Nat.zero_le _, Nat.zero_le _⟩ (fun r6 H3 locs hp3 hT3 hS3 hk3 => ?_)
        obtain ⟨hp3, he⟩ := hp3
        have he := he.symm
        subst he
        refine lv_if_ne (tgt := 39) hx hb dX10_raise_30 (by decide) (fun c7 => ?_) (fun c7 => ?_)
        · skip
          obtain ⟨g8a, g8b⟩ := hp3.2 c7
          refine lv_iload_n hx hb dX10_raise_39 rfl (lv_at hl 2 rfl) ?_
          refine lv_aload_n hx hb dX10_raise_40 rfl (lv_at hl 0 rfl) ?_
          refine h_getr (C := RX10) (T := TX10) (N := 9) hx hb hts inX10 hown hK hT0 (on_w0 hW) rfl 1 rfl wF_X10_19 rfl dX10_raise_41 ?_
          refine h_getr (C := RX5) (T := TX5) (N := 11) hx hb hts inX5 hown hK hT0 (on_rg (on_wr hW)) rfl 2 rfl wF_X10_192 rfl dX10_raise_44 ?_
          refine lv_iload_n hx hb dX10_raise_47 rfl (lv_at hl 1 rfl) ?_
          refine h_callVi (T := TX3) (rest := [.int u2]) (As := [.int u1]) hx hb hml hown hts hK hT0 hZ (fun _ h => h) hS3 (c_X3_depthOf l G Y P (o + 3 + 13) (on_ra (on_wr hW)) u1) trivial wd_X3_depthOf wV_X3_depthOf wL_X10_196 ((on_ra (on_wr hW)).o rfl) rfl rfl hl.1 rfl (Nat.le_of_ble_eq_true rfl) dX10_raise_48 ⟨Nat.le_of_ble_eq_true rfl, Nat.le_of_ble_eq_true rfl⟩ ⟨Nat.zero_le _, Nat.zero_le _⟩ (fun r9 H4 locs hp4 hT4 hS4 hk4 => ?_)
          obtain ⟨hp4, he⟩ := hp4
          have he := he.symm
          subst he
          refine lv_icmp_lt (tgt := 60) hx hb dX10_raise_51 (by decide) (fun c10 => ?_) (fun c10 => ?_)
          · skip
            refine lv_aload_n hx hb dX10_raise_60 rfl (lv_at hl 0 rfl) ?_
            refine lv_iload_n hx hb dX10_raise_61 rfl (lv_at hl 3 rfl) ?_
            refine lv_if_ne (tgt := 80) hx hb dX10_raise_62 (by decide) (fun c11 => ?_) (fun c11 => ?_)
            · skip
              refine lv_aload_n hx hb dX10_raise_80 rfl (lv_at hl 0 rfl) ?_
              refine h_getr (C := RX10) (T := TX10) (N := 9) hx hb hts inX10 hown hK hT0 (on_w0 hW) rfl 1 rfl wF_X10_19 rfl dX10_raise_81 ?_
              refine h_getr (C := RX5) (T := TX5) (N := 11) hx hb hts inX5 hown hK hT0 (on_rg (on_wr hW)) rfl 2 rfl wF_X10_192 rfl dX10_raise_84 ?_
              refine lv_iload_n hx hb dX10_raise_87 rfl (lv_at hl 1 rfl) ?_
              refine lv_iload_n hx hb dX10_raise_88 rfl (lv_at hl 2 rfl) ?_
              refine h_callVi (T := TX3) (rest := [.ref (o)]) (As := [.int u1, .int u2]) hx hb hml hown hts hK hT0 hZ (fun _ h => h) hS4 (c_X3_newAt l G Y P (o + 3 + 13) (on_ra (on_wr hW)) u1 u2) trivial wd_X3_newAt wV_X3_newAt wL_X10_204 ((on_ra (on_wr hW)).o rfl) rfl rfl hl.1 rfl (Nat.le_of_ble_eq_true rfl) dX10_raise_89 ⟨Nat.le_of_ble_eq_true rfl, Nat.le_of_ble_eq_true rfl⟩ ⟨Nat.zero_le _, Nat.zero_le _⟩ (fun r12 H5 locs hp5 hT5 hS5 hk5 => ?_)
              obtain ⟨hp5, he⟩ := hp5
              have he := he.symm
              subst he
              refine h_callVi (T := TX10) (rest := []) (As := [.int r12]) hx hb hml hown hts hK hT0 hZ (fun _ h => h) hS5 (c_X10_give l G Y P (o) hW r12) trivial wd_X10_give wV_X10_give wL_X10_95 (on_w0 hW) rfl rfl hl.1 rfl (Nat.le_of_ble_eq_true rfl) dX10_raise_92 ⟨Nat.le_of_ble_eq_true rfl, Nat.le_of_ble_eq_true rfl⟩ ⟨Nat.zero_le _, Nat.zero_le _⟩ (fun r13 H6 locs hp6 hT6 hS6 hk6 => ?_)
              obtain ⟨hq, hp6⟩ := hp6
              have hq : r13 = r12 := hq
              subst hq
              exact hret _ _ _ _ _ hT6 hS6 trivial dX10_raise_95
            · skip
              refine lv_aload_n hx hb dX10_raise_65 rfl (lv_at hl 0 rfl) ?_
              refine h_getr (C := RX10) (T := TX10) (N := 9) hx hb hts inX10 hown hK hT0 (on_w0 hW) rfl 1 rfl wF_X10_19 rfl dX10_raise_66 ?_
              refine h_getr (C := RX5) (T := TX5) (N := 11) hx hb hts inX5 hown hK hT0 (on_rg (on_wr hW)) rfl 2 rfl wF_X10_192 rfl dX10_raise_69 ?_
              refine lv_iload_n hx hb dX10_raise_72 rfl (lv_at hl 1 rfl) ?_
              refine lv_iload_n hx hb dX10_raise_73 rfl (lv_at hl 2 rfl) ?_
              refine h_callVi (T := TX3) (rest := [.ref (o)]) (As := [.int u1, .int u2]) hx hb hml hown hts hK hT0 hZ (fun _ h => h) hS4 (c_X3_oldAt l G Y P (o + 3 + 13) (on_ra (on_wr hW)) u1 u2) trivial wd_X3_oldAt wV_X3_oldAt wL_X10_201 ((on_ra (on_wr hW)).o rfl) rfl rfl hl.1 rfl (Nat.le_of_ble_eq_true rfl) dX10_raise_74 ⟨Nat.le_of_ble_eq_true rfl, Nat.le_of_ble_eq_true rfl⟩ ⟨Nat.zero_le _, Nat.zero_le _⟩ (fun r14 H7 locs hp7 hT7 hS7 hk7 => ?_)
              obtain ⟨hp7, he⟩ := hp7
              have he := he.symm
              subst he
              refine lv_goto (tgt := 92) hx hb dX10_raise_77 (by decide) ?_
              refine h_callVi (T := TX10) (rest := []) (As := [.int r14]) hx hb hml hown hts hK hT0 hZ (fun _ h => h) hS7 (c_X10_give l G Y P (o) hW r14) trivial wd_X10_give wV_X10_give wL_X10_95 (on_w0 hW) rfl rfl hl.1 rfl (Nat.le_of_ble_eq_true rfl) dX10_raise_92 ⟨Nat.le_of_ble_eq_true rfl, Nat.le_of_ble_eq_true rfl⟩ ⟨Nat.zero_le _, Nat.zero_le _⟩ (fun r15 H8 locs hp8 hT8 hS8 hk8 => ?_)
              obtain ⟨hq, hp8⟩ := hp8
              have hq : r15 = r14 := hq
              subst hq
              exact hret _ _ _ _ _ hT8 hS8 trivial dX10_raise_95
          · skip
            refine lv_aload_n hx hb dX10_raise_54 rfl (lv_at hl 0 rfl) ?_
            refine lv_iconst (v := 5) hx hb dX10_raise_55 (by decide) ?_
            refine h_callVi (T := TX10) (rest := []) (As := [.int 5]) hx hb hml hown hts hK hT0 hZ (fun _ h => h) hS4 (c_X10_fail l G Y P (o) hW 5) trivial wd_X10_fail wV_X10_fail wL_X10_66 (on_w0 hW) rfl rfl hl.1 rfl (Nat.le_of_ble_eq_true rfl) dX10_raise_56 ⟨Nat.le_of_ble_eq_true rfl, Nat.le_of_ble_eq_true rfl⟩ ⟨Nat.zero_le _, Nat.zero_le _⟩ (fun r16 H9 locs hp9 hT9 hS9 hk9 => ?_)
            obtain ⟨hq, hp9⟩ := hp9
            have hq : r16 = (-1) := hq
            subst hq
            exact hret _ _ _ _ _ hT9 hS9 trivial dX10_raise_59
        · skip
          refine lv_aload_n hx hb dX10_raise_33 rfl (lv_at hl 0 rfl) ?_
          refine lv_iconst (v := 2) hx hb dX10_raise_34 (by decide) ?_
          refine h_callVi (T := TX10) (rest := []) (As := [.int 2]) hx hb hml hown hts hK hT0 hZ (fun _ h => h) hS3 (c_X10_fail l G Y P (o) hW 2) trivial wd_X10_fail wV_X10_fail wL_X10_66 (on_w0 hW) rfl rfl hl.1 rfl (Nat.le_of_ble_eq_true rfl) dX10_raise_35 ⟨Nat.le_of_ble_eq_true rfl, Nat.le_of_ble_eq_true rfl⟩ ⟨Nat.zero_le _, Nat.zero_le _⟩ (fun r17 H10 locs hp10 hT10 hS10 hk10 => ?_)
          obtain ⟨hq, hp10⟩ := hp10
          have hq : r17 = (-1) := hq
          subst hq
          exact hret _ _ _ _ _ hT10 hS10 trivial dX10_raise_38
      · skip
        refine lv_aload_n hx hb dX10_raise_13 rfl (lv_at hl 0 rfl) ?_
        refine lv_iconst (v := 1) hx hb dX10_raise_14 (by decide) ?_
        refine h_callVi (T := TX10) (rest := []) (As := [.int 1]) hx hb hml hown hts hK hT0 hZ (fun _ h => h) hS0 (c_X10_fail l G Y P (o) hW 1) trivial wd_X10_fail wV_X10_fail wL_X10_66 (on_w0 hW) rfl rfl hl.1 rfl (Nat.le_of_ble_eq_true rfl) dX10_raise_15 ⟨Nat.le_of_ble_eq_true rfl, Nat.le_of_ble_eq_true rfl⟩ ⟨Nat.zero_le _, Nat.zero_le _⟩ (fun r18 H11 locs hp11 hT11 hS11 hk11 => ?_)
        obtain ⟨hq, hp11⟩ := hp11
        have hq : r18 = (-1) := hq
        subst hq
        exact hret _ _ _ _ _ hT11 hS11 trivial dX10_raise_18
set_option maxHeartbeats 4000000 in
set_option maxRecDepth 100000 in
theorem c_X10_event (l : Launch) (G : hG) (Y : hW) (P : Int32 → Prop) (o : Nat) (hW : h_On Y o (wldE (tC P) o)) (u1 u2 : Int32) : hMi l yX10_event cX10_event 3 (some .int) 2 45 G Y [.ref (o), .int u1, .int u2] (fun H => True) (fun H r H1 => True) := by
  refine h_ofi (by decide +kernel) (Nat.le_of_ble_eq_true rfl) ?_
  intro p e s m args below meth c H0 ls Q hx hb hts hown hml hK hZ hT0 hpr hS0 hl hret
  have hl : lv_has ls 3 [(0, .ref (o)), (1, .int u1), (2, .int u2)] := hl
  refine lv_iload_n hx hb dX10_event_0 rfl (lv_at hl 1 rfl) ?_
  refine lv_if_lt (tgt := 19) hx hb dX10_event_1 (by decide) (fun c1 => ?_) (fun c1 => ?_)
  · skip
    refine lv_aload_n hx hb dX10_event_19 rfl (lv_at hl 0 rfl) ?_
    refine lv_iconst (v := 1) hx hb dX10_event_20 (by decide) ?_
    refine h_callVi (T := TX10) (rest := []) (As := [.int 1]) hx hb hml hown hts hK hT0 hZ (fun _ h => h) hS0 (c_X10_fail l G Y P (o) hW 1) trivial wd_X10_fail wV_X10_fail wL_X10_66 (on_w0 hW) rfl rfl hl.1 rfl (Nat.le_of_ble_eq_true rfl) dX10_event_21 ⟨Nat.le_of_ble_eq_true rfl, Nat.le_of_ble_eq_true rfl⟩ ⟨Nat.zero_le _, Nat.zero_le _⟩ (fun r2 H1 locs hp1 hT1 hS1 hk1 => ?_)
    obtain ⟨hq, hp1⟩ := hp1
    have hq : r2 = (-1) := hq
    subst hq
    exact hret _ _ _ _ _ hT1 hS1 trivial dX10_event_24
  · skip
    refine lv_iload_n hx hb dX10_event_4 rfl (lv_at hl 1 rfl) ?_
    refine lv_bipush (v := 24) hx hb dX10_event_5 (by decide) ?_
    refine lv_icmp_ge (tgt := 19) hx hb dX10_event_7 (by decide) (fun c3 => ?_) (fun c3 => ?_)
    · skip
      refine lv_aload_n hx hb dX10_event_19 rfl (lv_at hl 0 rfl) ?_
      refine lv_iconst (v := 1) hx hb dX10_event_20 (by decide) ?_
      refine h_callVi (T := TX10) (rest := []) (As := [.int 1]) hx hb hml hown hts hK hT0 hZ (fun _ h => h) hS0 (c_X10_fail l G Y P (o) hW 1) trivial wd_X10_fail wV_X10_fail wL_X10_66 (on_w0 hW) rfl rfl hl.1 rfl (Nat.le_of_ble_eq_true rfl) dX10_event_21 ⟨Nat.le_of_ble_eq_true rfl, Nat.le_of_ble_eq_true rfl⟩ ⟨Nat.zero_le _, Nat.zero_le _⟩ (fun r4 H2 locs hp2 hT2 hS2 hk2 => ?_)
      obtain ⟨hq, hp2⟩ := hp2
      have hq : r4 = (-1) := hq
      subst hq
      exact hret _ _ _ _ _ hT2 hS2 trivial dX10_event_24
    · skip
      refine lv_iload_n hx hb dX10_event_10 rfl (lv_at hl 2 rfl) ?_
      refine lv_if_lt (tgt := 19) hx hb dX10_event_11 (by decide) (fun c5 => ?_) (fun c5 => ?_)
      · skip
        refine lv_aload_n hx hb dX10_event_19 rfl (lv_at hl 0 rfl) ?_
        refine lv_iconst (v := 1) hx hb dX10_event_20 (by decide) ?_
        refine h_callVi (T := TX10) (rest := []) (As := [.int 1]) hx hb hml hown hts hK hT0 hZ (fun _ h => h) hS0 (c_X10_fail l G Y P (o) hW 1) trivial wd_X10_fail wV_X10_fail wL_X10_66 (on_w0 hW) rfl rfl hl.1 rfl (Nat.le_of_ble_eq_true rfl) dX10_event_21 ⟨Nat.le_of_ble_eq_true rfl, Nat.le_of_ble_eq_true rfl⟩ ⟨Nat.zero_le _, Nat.zero_le _⟩ (fun r6 H3 locs hp3 hT3 hS3 hk3 => ?_)
        obtain ⟨hq, hp3⟩ := hp3
        have hq : r6 = (-1) := hq
        subst hq
        exact hret _ _ _ _ _ hT3 hS3 trivial dX10_event_24
      · skip
        refine lv_iload_n hx hb dX10_event_14 rfl (lv_at hl 2 rfl) ?_
        refine lv_iconst (v := 3) hx hb dX10_event_15 (by decide) ?_
        refine lv_icmp_lt (tgt := 25) hx hb dX10_event_16 (by decide) (fun c7 => ?_) (fun c7 => ?_)
        · skip
          refine lv_iload_n hx hb dX10_event_25 rfl (lv_at hl 1 rfl) ?_
          refine lv_aload_n hx hb dX10_event_26 rfl (lv_at hl 0 rfl) ?_
          refine h_getr (C := RX10) (T := TX10) (N := 9) hx hb hts inX10 hown hK hT0 (on_w0 hW) rfl 1 rfl wF_X10_19 rfl dX10_event_27 ?_
          refine h_getr (C := RX5) (T := TX5) (N := 11) hx hb hts inX5 hown hK hT0 (on_rg (on_wr hW)) rfl 5 rfl wF_X10_180 rfl dX10_event_30 ?_
          refine h_geti (C := RX0) (T := TX0) (N := 6) hx hb hts inX0 hown hK hT0 ((on_bo (on_wr hW)).o rfl) rfl 5 rfl wF_X10_207 rfl dX10_event_33 (fun p8 => ?_)
          refine lv_topi (fun x9 ex9 => ?_)
          refine lv_icmp_lt (tgt := 45) hx hb dX10_event_36 (by decide) (fun c10 => ?_) (fun c10 => ?_)
          · skip
            refine lv_aload_n hx hb dX10_event_45 rfl (lv_at hl 0 rfl) ?_
            refine lv_aload_n hx hb dX10_event_46 rfl (lv_at hl 0 rfl) ?_
            refine h_getr (C := RX10) (T := TX10) (N := 9) hx hb hts inX10 hown hK hT0 (on_w0 hW) rfl 1 rfl wF_X10_19 rfl dX10_event_47 ?_
            refine h_getr (C := RX5) (T := TX5) (N := 11) hx hb hts inX5 hown hK hT0 (on_rg (on_wr hW)) rfl 5 rfl wF_X10_180 rfl dX10_event_50 ?_
            refine lv_iload_n hx hb dX10_event_53 rfl (lv_at hl 1 rfl) ?_
            refine lv_iload_n hx hb dX10_event_54 rfl (lv_at hl 2 rfl) ?_
            refine h_callVi (T := TX0) (rest := [.ref (o)]) (As := [.int u1, .int u2]) hx hb hml hown hts hK hT0 hZ (fun _ h => h) hS0 (c_X0_eventAt l G Y P (o + 3 + 19) (on_bo (on_wr hW)) u1 u2) trivial wd_X0_eventAt wV_X0_eventAt wL_X10_210 ((on_bo (on_wr hW)).o rfl) rfl rfl hl.1 rfl (Nat.le_of_ble_eq_true rfl) dX10_event_55 ⟨Nat.le_of_ble_eq_true rfl, Nat.le_of_ble_eq_true rfl⟩ ⟨Nat.zero_le _, Nat.zero_le _⟩ (fun r11 H4 locs hp4 hT4 hS4 hk4 => ?_)
            obtain ⟨hp4, he⟩ := hp4
            have he := he.symm
            subst he
            refine h_callVi (T := TX10) (rest := []) (As := [.int r11]) hx hb hml hown hts hK hT0 hZ (fun _ h => h) hS4 (c_X10_give l G Y P (o) hW r11) trivial wd_X10_give wV_X10_give wL_X10_95 (on_w0 hW) rfl rfl hl.1 rfl (Nat.le_of_ble_eq_true rfl) dX10_event_58 ⟨Nat.le_of_ble_eq_true rfl, Nat.le_of_ble_eq_true rfl⟩ ⟨Nat.zero_le _, Nat.zero_le _⟩ (fun r12 H5 locs hp5 hT5 hS5 hk5 => ?_)
            obtain ⟨hq, hp5⟩ := hp5
            have hq : r12 = r11 := hq
            subst hq
            exact hret _ _ _ _ _ hT5 hS5 trivial dX10_event_61
          · skip
            refine lv_aload_n hx hb dX10_event_39 rfl (lv_at hl 0 rfl) ?_
            refine lv_iconst (v := 5) hx hb dX10_event_40 (by decide) ?_
            refine h_callVi (T := TX10) (rest := []) (As := [.int 5]) hx hb hml hown hts hK hT0 hZ (fun _ h => h) hS0 (c_X10_fail l G Y P (o) hW 5) trivial wd_X10_fail wV_X10_fail wL_X10_66 (on_w0 hW) rfl rfl hl.1 rfl (Nat.le_of_ble_eq_true rfl) dX10_event_41 ⟨Nat.le_of_ble_eq_true rfl, Nat.le_of_ble_eq_true rfl⟩ ⟨Nat.zero_le _, Nat.zero_le _⟩ (fun r13 H6 locs hp6 hT6 hS6 hk6 => ?_)
            obtain ⟨hq, hp6⟩ := hp6
            have hq : r13 = (-1) := hq
            subst hq
            exact hret _ _ _ _ _ hT6 hS6 trivial dX10_event_44
        · skip
          refine lv_aload_n hx hb dX10_event_19 rfl (lv_at hl 0 rfl) ?_
          refine lv_iconst (v := 1) hx hb dX10_event_20 (by decide) ?_
          refine h_callVi (T := TX10) (rest := []) (As := [.int 1]) hx hb hml hown hts hK hT0 hZ (fun _ h => h) hS0 (c_X10_fail l G Y P (o) hW 1) trivial wd_X10_fail wV_X10_fail wL_X10_66 (on_w0 hW) rfl rfl hl.1 rfl (Nat.le_of_ble_eq_true rfl) dX10_event_21 ⟨Nat.le_of_ble_eq_true rfl, Nat.le_of_ble_eq_true rfl⟩ ⟨Nat.zero_le _, Nat.zero_le _⟩ (fun r14 H7 locs hp7 hT7 hS7 hk7 => ?_)
          obtain ⟨hq, hp7⟩ := hp7
          have hq : r14 = (-1) := hq
          subst hq
          exact hret _ _ _ _ _ hT7 hS7 trivial dX10_event_24
set_option maxHeartbeats 4000000 in
set_option maxRecDepth 100000 in
theorem c_X10_ranks (l : Launch) (G : hG) (Y : hW) (P : Int32 → Prop) (o : Nat) (hW : h_On Y o (wldE (tC P) o)) (u1 u2 : Int32) : hMi l yX10_ranks cX10_ranks 3 (some .int) 2 46 G Y [.ref (o), .int u1, .int u2] (fun H => True) (fun H r H1 => True) := by
  refine h_ofi (by decide +kernel) (Nat.le_of_ble_eq_true rfl) ?_
  intro p e s m args below meth c H0 ls Q hx hb hts hown hml hK hZ hT0 hpr hS0 hl hret
  have hl : lv_has ls 3 [(0, .ref (o)), (1, .int u1), (2, .int u2)] := hl
  refine lv_iload_n hx hb dX10_ranks_0 rfl (lv_at hl 1 rfl) ?_
  refine lv_if_lt (tgt := 19) hx hb dX10_ranks_1 (by decide) (fun c1 => ?_) (fun c1 => ?_)
  · skip
    refine lv_aload_n hx hb dX10_ranks_19 rfl (lv_at hl 0 rfl) ?_
    refine lv_iconst (v := 1) hx hb dX10_ranks_20 (by decide) ?_
    refine h_callVi (T := TX10) (rest := []) (As := [.int 1]) hx hb hml hown hts hK hT0 hZ (fun _ h => h) hS0 (c_X10_fail l G Y P (o) hW 1) trivial wd_X10_fail wV_X10_fail wL_X10_66 (on_w0 hW) rfl rfl hl.1 rfl (Nat.le_of_ble_eq_true rfl) dX10_ranks_21 ⟨Nat.le_of_ble_eq_true rfl, Nat.le_of_ble_eq_true rfl⟩ ⟨Nat.zero_le _, Nat.zero_le _⟩ (fun r2 H1 locs hp1 hT1 hS1 hk1 => ?_)
    obtain ⟨hq, hp1⟩ := hp1
    have hq : r2 = (-1) := hq
    subst hq
    exact hret _ _ _ _ _ hT1 hS1 trivial dX10_ranks_24
  · skip
    refine lv_iload_n hx hb dX10_ranks_4 rfl (lv_at hl 1 rfl) ?_
    refine lv_bipush (v := 8) hx hb dX10_ranks_5 (by decide) ?_
    refine lv_icmp_ge (tgt := 19) hx hb dX10_ranks_7 (by decide) (fun c3 => ?_) (fun c3 => ?_)
    · skip
      refine lv_aload_n hx hb dX10_ranks_19 rfl (lv_at hl 0 rfl) ?_
      refine lv_iconst (v := 1) hx hb dX10_ranks_20 (by decide) ?_
      refine h_callVi (T := TX10) (rest := []) (As := [.int 1]) hx hb hml hown hts hK hT0 hZ (fun _ h => h) hS0 (c_X10_fail l G Y P (o) hW 1) trivial wd_X10_fail wV_X10_fail wL_X10_66 (on_w0 hW) rfl rfl hl.1 rfl (Nat.le_of_ble_eq_true rfl) dX10_ranks_21 ⟨Nat.le_of_ble_eq_true rfl, Nat.le_of_ble_eq_true rfl⟩ ⟨Nat.zero_le _, Nat.zero_le _⟩ (fun r4 H2 locs hp2 hT2 hS2 hk2 => ?_)
      obtain ⟨hq, hp2⟩ := hp2
      have hq : r4 = (-1) := hq
      subst hq
      exact hret _ _ _ _ _ hT2 hS2 trivial dX10_ranks_24
    · skip
      refine lv_iload_n hx hb dX10_ranks_10 rfl (lv_at hl 2 rfl) ?_
      refine lv_if_lt (tgt := 19) hx hb dX10_ranks_11 (by decide) (fun c5 => ?_) (fun c5 => ?_)
      · skip
        refine lv_aload_n hx hb dX10_ranks_19 rfl (lv_at hl 0 rfl) ?_
        refine lv_iconst (v := 1) hx hb dX10_ranks_20 (by decide) ?_
        refine h_callVi (T := TX10) (rest := []) (As := [.int 1]) hx hb hml hown hts hK hT0 hZ (fun _ h => h) hS0 (c_X10_fail l G Y P (o) hW 1) trivial wd_X10_fail wV_X10_fail wL_X10_66 (on_w0 hW) rfl rfl hl.1 rfl (Nat.le_of_ble_eq_true rfl) dX10_ranks_21 ⟨Nat.le_of_ble_eq_true rfl, Nat.le_of_ble_eq_true rfl⟩ ⟨Nat.zero_le _, Nat.zero_le _⟩ (fun r6 H3 locs hp3 hT3 hS3 hk3 => ?_)
        obtain ⟨hq, hp3⟩ := hp3
        have hq : r6 = (-1) := hq
        subst hq
        exact hret _ _ _ _ _ hT3 hS3 trivial dX10_ranks_24
      · skip
        refine lv_iload_n hx hb dX10_ranks_14 rfl (lv_at hl 2 rfl) ?_
        refine lv_iconst (v := 2) hx hb dX10_ranks_15 (by decide) ?_
        refine lv_icmp_le (tgt := 25) hx hb dX10_ranks_16 (by decide) (fun c7 => ?_) (fun c7 => ?_)
        · skip
          refine lv_iload_n hx hb dX10_ranks_25 rfl (lv_at hl 2 rfl) ?_
          refine lv_if_ne (tgt := 45) hx hb dX10_ranks_26 (by decide) (fun c8 => ?_) (fun c8 => ?_)
          · skip
            refine lv_aload_n hx hb dX10_ranks_45 rfl (lv_at hl 0 rfl) ?_
            refine lv_iload_n hx hb dX10_ranks_46 rfl (lv_at hl 2 rfl) ?_
            refine lv_iconst (v := 1) hx hb dX10_ranks_47 (by decide) ?_
            refine lv_icmp_ne (tgt := 65) hx hb dX10_ranks_48 (by decide) (fun c9 => ?_) (fun c9 => ?_)
            · skip
              refine lv_aload_n hx hb dX10_ranks_65 rfl (lv_at hl 0 rfl) ?_
              refine h_getr (C := RX10) (T := TX10) (N := 9) hx hb hts inX10 hown hK hT0 (on_w0 hW) rfl 1 rfl wF_X10_19 rfl dX10_ranks_66 ?_
              refine h_getr (C := RX5) (T := TX5) (N := 11) hx hb hts inX5 hown hK hT0 (on_rg (on_wr hW)) rfl 5 rfl wF_X10_180 rfl dX10_ranks_69 ?_
              refine lv_iload_n hx hb dX10_ranks_72 rfl (lv_at hl 1 rfl) ?_
              refine h_callVi (T := TX0) (rest := [.ref (o)]) (As := [.int u1]) hx hb hml hown hts hK hT0 hZ (fun _ h => h) hS0 (c_X0_agesOf l G Y P (o + 3 + 19) (on_bo (on_wr hW)) u1) trivial wd_X0_agesOf wV_X0_agesOf wL_X10_219 ((on_bo (on_wr hW)).o rfl) rfl rfl hl.1 rfl (Nat.le_of_ble_eq_true rfl) dX10_ranks_73 ⟨Nat.le_of_ble_eq_true rfl, Nat.le_of_ble_eq_true rfl⟩ ⟨Nat.zero_le _, Nat.zero_le _⟩ (fun r10 H4 locs hp4 hT4 hS4 hk4 => ?_)
              obtain ⟨hp4, he⟩ := hp4
              have he := he.symm
              subst he
              refine h_callVi (T := TX10) (rest := []) (As := [.int r10]) hx hb hml hown hts hK hT0 hZ (fun _ h => h) hS4 (c_X10_give l G Y P (o) hW r10) trivial wd_X10_give wV_X10_give wL_X10_95 (on_w0 hW) rfl rfl hl.1 rfl (Nat.le_of_ble_eq_true rfl) dX10_ranks_76 ⟨Nat.le_of_ble_eq_true rfl, Nat.le_of_ble_eq_true rfl⟩ ⟨Nat.zero_le _, Nat.zero_le _⟩ (fun r11 H5 locs hp5 hT5 hS5 hk5 => ?_)
              obtain ⟨hq, hp5⟩ := hp5
              have hq : r11 = r10 := hq
              subst hq
              exact hret _ _ _ _ _ hT5 hS5 trivial dX10_ranks_79
            · skip
              refine lv_aload_n hx hb dX10_ranks_51 rfl (lv_at hl 0 rfl) ?_
              refine h_getr (C := RX10) (T := TX10) (N := 9) hx hb hts inX10 hown hK hT0 (on_w0 hW) rfl 1 rfl wF_X10_19 rfl dX10_ranks_52 ?_
              refine h_getr (C := RX5) (T := TX5) (N := 11) hx hb hts inX5 hown hK hT0 (on_rg (on_wr hW)) rfl 5 rfl wF_X10_180 rfl dX10_ranks_55 ?_
              refine lv_iload_n hx hb dX10_ranks_58 rfl (lv_at hl 1 rfl) ?_
              refine h_callVi (T := TX0) (rest := [.ref (o)]) (As := [.int u1]) hx hb hml hown hts hK hT0 hZ (fun _ h => h) hS0 (c_X0_gotOf l G Y P (o + 3 + 19) (on_bo (on_wr hW)) u1) trivial wd_X0_gotOf wV_X0_gotOf wL_X10_216 ((on_bo (on_wr hW)).o rfl) rfl rfl hl.1 rfl (Nat.le_of_ble_eq_true rfl) dX10_ranks_59 ⟨Nat.le_of_ble_eq_true rfl, Nat.le_of_ble_eq_true rfl⟩ ⟨Nat.zero_le _, Nat.zero_le _⟩ (fun r12 H6 locs hp6 hT6 hS6 hk6 => ?_)
              obtain ⟨hp6, he⟩ := hp6
              have he := he.symm
              subst he
              refine lv_goto (tgt := 76) hx hb dX10_ranks_62 (by decide) ?_
              refine h_callVi (T := TX10) (rest := []) (As := [.int r12]) hx hb hml hown hts hK hT0 hZ (fun _ h => h) hS6 (c_X10_give l G Y P (o) hW r12) trivial wd_X10_give wV_X10_give wL_X10_95 (on_w0 hW) rfl rfl hl.1 rfl (Nat.le_of_ble_eq_true rfl) dX10_ranks_76 ⟨Nat.le_of_ble_eq_true rfl, Nat.le_of_ble_eq_true rfl⟩ ⟨Nat.zero_le _, Nat.zero_le _⟩ (fun r13 H7 locs hp7 hT7 hS7 hk7 => ?_)
              obtain ⟨hq, hp7⟩ := hp7
              have hq : r13 = r12 := hq
              subst hq
              exact hret _ _ _ _ _ hT7 hS7 trivial dX10_ranks_79
          · skip
            refine lv_aload_n hx hb dX10_ranks_29 rfl (lv_at hl 0 rfl) ?_
            refine lv_aload_n hx hb dX10_ranks_30 rfl (lv_at hl 0 rfl) ?_
            refine h_getr (C := RX10) (T := TX10) (N := 9) hx hb hts inX10 hown hK hT0 (on_w0 hW) rfl 1 rfl wF_X10_19 rfl dX10_ranks_31 ?_
            refine h_getr (C := RX5) (T := TX5) (N := 11) hx hb hts inX5 hown hK hT0 (on_rg (on_wr hW)) rfl 1 rfl wF_X10_105 rfl dX10_ranks_34 ?_
            refine lv_iload_n hx hb dX10_ranks_37 rfl (lv_at hl 1 rfl) ?_
            refine h_callVi (T := TX2) (rest := [.ref (o)]) (As := [.int u1]) hx hb hml hown hts hK hT0 hZ (fun _ h => h) hS0 (c_X2_totalOf l G Y P (o + 3 + 7) (on_qu (on_wr hW)) u1) trivial wd_X2_totalOf wV_X2_totalOf wL_X10_213 ((on_qu (on_wr hW)).o rfl) rfl rfl hl.1 rfl (Nat.le_of_ble_eq_true rfl) dX10_ranks_38 ⟨Nat.le_of_ble_eq_true rfl, Nat.le_of_ble_eq_true rfl⟩ ⟨Nat.zero_le _, Nat.zero_le _⟩ (fun r14 H8 locs hp8 hT8 hS8 hk8 => ?_)
            obtain ⟨hp8, he⟩ := hp8
            have he := he.symm
            subst he
            refine h_callVi (T := TX10) (rest := []) (As := [.int r14]) hx hb hml hown hts hK hT0 hZ (fun _ h => h) hS8 (c_X10_give l G Y P (o) hW r14) trivial wd_X10_give wV_X10_give wL_X10_95 (on_w0 hW) rfl rfl hl.1 rfl (Nat.le_of_ble_eq_true rfl) dX10_ranks_41 ⟨Nat.le_of_ble_eq_true rfl, Nat.le_of_ble_eq_true rfl⟩ ⟨Nat.zero_le _, Nat.zero_le _⟩ (fun r15 H9 locs hp9 hT9 hS9 hk9 => ?_)
            obtain ⟨hq, hp9⟩ := hp9
            have hq : r15 = r14 := hq
            subst hq
            exact hret _ _ _ _ _ hT9 hS9 trivial dX10_ranks_44
        · skip
          refine lv_aload_n hx hb dX10_ranks_19 rfl (lv_at hl 0 rfl) ?_
          refine lv_iconst (v := 1) hx hb dX10_ranks_20 (by decide) ?_
          refine h_callVi (T := TX10) (rest := []) (As := [.int 1]) hx hb hml hown hts hK hT0 hZ (fun _ h => h) hS0 (c_X10_fail l G Y P (o) hW 1) trivial wd_X10_fail wV_X10_fail wL_X10_66 (on_w0 hW) rfl rfl hl.1 rfl (Nat.le_of_ble_eq_true rfl) dX10_ranks_21 ⟨Nat.le_of_ble_eq_true rfl, Nat.le_of_ble_eq_true rfl⟩ ⟨Nat.zero_le _, Nat.zero_le _⟩ (fun r16 H10 locs hp10 hT10 hS10 hk10 => ?_)
          obtain ⟨hq, hp10⟩ := hp10
          have hq : r16 = (-1) := hq
          subst hq
          exact hret _ _ _ _ _ hT10 hS10 trivial dX10_ranks_24
set_option maxHeartbeats 4000000 in
set_option maxRecDepth 100000 in
theorem c_X10_hops (l : Launch) (G : hG) (Y : hW) (P : Int32 → Prop) (o : Nat) (hW : h_On Y o (wldE (tC P) o)) (u1 u2 : Int32) : hMi l yX10_hops cX10_hops 4 (some .int) 4 87 G Y [.ref (o), .int u1, .int u2] (fun H => True) (fun H r H1 => True) := by
  refine h_ofi (by decide +kernel) (Nat.le_of_ble_eq_true rfl) ?_
  intro p e s m args below meth c H0 ls Q hx hb hts hown hml hK hZ hT0 hpr hS0 hl hret
  have hl : lv_has ls 4 [(0, .ref (o)), (1, .int u1), (2, .int u2)] := hl
  refine lv_aload_n hx hb dX10_hops_0 rfl (lv_at hl 0 rfl) ?_
  refine h_getr (C := RX10) (T := TX10) (N := 9) hx hb hts inX10 hown hK hT0 (on_w0 hW) rfl 1 rfl wF_X10_19 rfl dX10_hops_1 ?_
  refine h_getr (C := RX5) (T := TX5) (N := 11) hx hb hts inX5 hown hK hT0 (on_rg (on_wr hW)) rfl 0 rfl wF_X10_86 rfl dX10_hops_4 ?_
  refine lv_astore_n (lv' := [(3, .ref (o + 3 + 1)), (0, .ref (o)), (1, .int u1), (2, .int u2)]) hx hb dX10_hops_7 rfl hl (by decide) rfl (fun ls hl => ?_)
  refine lv_aload_n hx hb dX10_hops_8 rfl (lv_at hl 0 rfl) ?_
  refine lv_iload_n hx hb dX10_hops_9 rfl (lv_at hl 2 rfl) ?_
  refine h_callVi (T := TX7) (rest := []) (As := [.int u1]) hx hb hml hown hts hK hT0 hZ (fun _ h => h) hS0 (c_X7_exists l G Y P (o + 3 + 1) (on_st (on_wr hW)) u1) trivial wd_X7_exists wV_X7_exists wL_X10_146 ((on_st (on_wr hW)).o rfl) rfl rfl hl.1 rfl (Nat.le_of_ble_eq_true rfl) dX10_hops_10 ⟨Nat.le_of_ble_eq_true rfl, Nat.le_of_ble_eq_true rfl⟩ ⟨Nat.zero_le _, Nat.zero_le _⟩ (fun r1 H1 locs hp1 hT1 hS1 hk1 => ?_)
  obtain ⟨hp1, he⟩ := hp1
  have he := he.symm
  subst he
  refine lv_if_eq (tgt := 24) hx hb dX10_hops_13 (by decide) (fun c2 => ?_) (fun c2 => ?_)
  · skip
    refine lv_aload_n hx hb dX10_hops_24 rfl (lv_at hl 1 rfl) ?_
    refine lv_iconst (v := 2) hx hb dX10_hops_25 (by decide) ?_
    refine h_callVi (T := TX10) (rest := []) (As := [.int 2]) hx hb hml hown hts hK hT0 hZ (fun _ h => h) hS1 (c_X10_fail l G Y P (o) hW 2) trivial wd_X10_fail wV_X10_fail wL_X10_66 (on_w0 hW) rfl rfl hl.1 rfl (Nat.le_of_ble_eq_true rfl) dX10_hops_26 ⟨Nat.le_of_ble_eq_true rfl, Nat.le_of_ble_eq_true rfl⟩ ⟨Nat.zero_le _, Nat.zero_le _⟩ (fun r3 H2 locs hp2 hT2 hS2 hk2 => ?_)
    obtain ⟨hq, hp2⟩ := hp2
    have hq : r3 = (-1) := hq
    subst hq
    exact hret _ _ _ _ _ hT2 hS2 trivial dX10_hops_29
  · skip
    obtain ⟨g4a, g4b⟩ := hp1.2 c2
    refine lv_aload_n hx hb dX10_hops_16 rfl (lv_at hl 0 rfl) ?_
    refine lv_iload_n hx hb dX10_hops_17 rfl (lv_at hl 3 rfl) ?_
    refine h_callVi (T := TX7) (rest := []) (As := [.int u2]) hx hb hml hown hts hK hT0 hZ (fun _ h => h) hS1 (c_X7_exists l G Y P (o + 3 + 1) (on_st (on_wr hW)) u2) trivial wd_X7_exists wV_X7_exists wL_X10_146 ((on_st (on_wr hW)).o rfl) rfl rfl hl.1 rfl (Nat.le_of_ble_eq_true rfl) dX10_hops_18 ⟨Nat.le_of_ble_eq_true rfl, Nat.le_of_ble_eq_true rfl⟩ ⟨Nat.zero_le _, Nat.zero_le _⟩ (fun r5 H3 locs hp3 hT3 hS3 hk3 => ?_)
    obtain ⟨hp3, he⟩ := hp3
    have he := he.symm
    subst he
    refine lv_if_ne (tgt := 30) hx hb dX10_hops_21 (by decide) (fun c6 => ?_) (fun c6 => ?_)
    · skip
      obtain ⟨g7a, g7b⟩ := hp3.2 c6
      refine lv_aload_n hx hb dX10_hops_30 rfl (lv_at hl 0 rfl) ?_
      refine lv_iload_n hx hb dX10_hops_31 rfl (lv_at hl 2 rfl) ?_
      refine lv_iload_n hx hb dX10_hops_32 rfl (lv_at hl 3 rfl) ?_
      refine h_callVi (T := TX7) (rest := []) (As := [.int u1, .int u2]) hx hb hml hown hts hK hT0 hZ (fun _ h => h) hS3 (c_X7_breakBetween l G Y P (o + 3 + 1) (on_st (on_wr hW)) u1 u2) trivial wd_X7_breakBetween wV_X7_breakBetween wL_X10_222 ((on_st (on_wr hW)).o rfl) rfl rfl hl.1 rfl (Nat.le_of_ble_eq_true rfl) dX10_hops_33 ⟨Nat.le_of_ble_eq_true rfl, Nat.le_of_ble_eq_true rfl⟩ ⟨Nat.zero_le _, Nat.zero_le _⟩ (fun r8 H4 locs hp4 hT4 hS4 hk4 => ?_)
      obtain ⟨hp4, he⟩ := hp4
      have he := he.symm
      subst he
      refine lv_if_eq (tgt := 45) hx hb dX10_hops_36 (by decide) (fun c9 => ?_) (fun c9 => ?_)
      · skip
        refine lv_aload_n hx hb dX10_hops_45 rfl (lv_at hl 0 rfl) ?_
        refine lv_iload_n hx hb dX10_hops_46 rfl (lv_at hl 3 rfl) ?_
        refine h_callVi (T := TX7) (rest := []) (As := [.int u2]) hx hb hml hown hts hK hT0 hZ (fun _ h => h) hS4 (c_X7_isOn l G Y P (o + 3 + 1) (on_st (on_wr hW)) u2) trivial wd_X7_isOn wV_X7_isOn wL_X10_226 ((on_st (on_wr hW)).o rfl) rfl rfl hl.1 rfl (Nat.le_of_ble_eq_true rfl) dX10_hops_47 ⟨Nat.le_of_ble_eq_true rfl, Nat.le_of_ble_eq_true rfl⟩ ⟨Nat.zero_le _, Nat.zero_le _⟩ (fun r10 H5 locs hp5 hT5 hS5 hk5 => ?_)
        obtain ⟨hp5, he⟩ := hp5
        have he := he.symm
        subst he
        refine lv_if_ne (tgt := 59) hx hb dX10_hops_50 (by decide) (fun c11 => ?_) (fun c11 => ?_)
        · skip
          obtain ⟨g12a, g12b⟩ := hp5.2 c11
          refine lv_aload_n hx hb dX10_hops_59 rfl (lv_at hl 1 rfl) ?_
          refine lv_aload_n hx hb dX10_hops_60 rfl (lv_at hl 0 rfl) ?_
          refine lv_iload_n hx hb dX10_hops_61 rfl (lv_at hl 2 rfl) ?_
          refine lv_iload_n hx hb dX10_hops_62 rfl (lv_at hl 3 rfl) ?_
          refine h_callVi (T := TX7) (rest := [.ref (o)]) (As := [.int u1, .int u2]) hx hb hml hown hts hK hT0 hZ (fun _ h => h) hS5 (c_X7_stepsBetween l G Y P (o + 3 + 1) (on_st (on_wr hW)) u1 u2) trivial wd_X7_stepsBetween wV_X7_stepsBetween wL_X10_229 ((on_st (on_wr hW)).o rfl) rfl rfl hl.1 rfl (Nat.le_of_ble_eq_true rfl) dX10_hops_63 ⟨Nat.le_of_ble_eq_true rfl, Nat.le_of_ble_eq_true rfl⟩ ⟨Nat.zero_le _, Nat.zero_le _⟩ (fun r13 H6 locs hp6 hT6 hS6 hk6 => ?_)
          obtain ⟨hp6, he⟩ := hp6
          have he := he.symm
          subst he
          refine h_callVi (T := TX10) (rest := []) (As := [.int r13]) hx hb hml hown hts hK hT0 hZ (fun _ h => h) hS6 (c_X10_give l G Y P (o) hW r13) trivial wd_X10_give wV_X10_give wL_X10_95 (on_w0 hW) rfl rfl hl.1 rfl (Nat.le_of_ble_eq_true rfl) dX10_hops_66 ⟨Nat.le_of_ble_eq_true rfl, Nat.le_of_ble_eq_true rfl⟩ ⟨Nat.zero_le _, Nat.zero_le _⟩ (fun r14 H7 locs hp7 hT7 hS7 hk7 => ?_)
          obtain ⟨hq, hp7⟩ := hp7
          have hq : r14 = r13 := hq
          subst hq
          exact hret _ _ _ _ _ hT7 hS7 trivial dX10_hops_69
        · skip
          refine lv_aload_n hx hb dX10_hops_53 rfl (lv_at hl 1 rfl) ?_
          refine lv_iconst (v := 5) hx hb dX10_hops_54 (by decide) ?_
          refine h_callVi (T := TX10) (rest := []) (As := [.int 5]) hx hb hml hown hts hK hT0 hZ (fun _ h => h) hS5 (c_X10_fail l G Y P (o) hW 5) trivial wd_X10_fail wV_X10_fail wL_X10_66 (on_w0 hW) rfl rfl hl.1 rfl (Nat.le_of_ble_eq_true rfl) dX10_hops_55 ⟨Nat.le_of_ble_eq_true rfl, Nat.le_of_ble_eq_true rfl⟩ ⟨Nat.zero_le _, Nat.zero_le _⟩ (fun r15 H8 locs hp8 hT8 hS8 hk8 => ?_)
          obtain ⟨hq, hp8⟩ := hp8
          have hq : r15 = (-1) := hq
          subst hq
          exact hret _ _ _ _ _ hT8 hS8 trivial dX10_hops_58
      · skip
        refine lv_aload_n hx hb dX10_hops_39 rfl (lv_at hl 1 rfl) ?_
        refine lv_iconst (v := 3) hx hb dX10_hops_40 (by decide) ?_
        refine h_callVi (T := TX10) (rest := []) (As := [.int 3]) hx hb hml hown hts hK hT0 hZ (fun _ h => h) hS4 (c_X10_fail l G Y P (o) hW 3) trivial wd_X10_fail wV_X10_fail wL_X10_66 (on_w0 hW) rfl rfl hl.1 rfl (Nat.le_of_ble_eq_true rfl) dX10_hops_41 ⟨Nat.le_of_ble_eq_true rfl, Nat.le_of_ble_eq_true rfl⟩ ⟨Nat.zero_le _, Nat.zero_le _⟩ (fun r16 H9 locs hp9 hT9 hS9 hk9 => ?_)
        obtain ⟨hq, hp9⟩ := hp9
        have hq : r16 = (-1) := hq
        subst hq
        exact hret _ _ _ _ _ hT9 hS9 trivial dX10_hops_44
    · skip
      refine lv_aload_n hx hb dX10_hops_24 rfl (lv_at hl 1 rfl) ?_
      refine lv_iconst (v := 2) hx hb dX10_hops_25 (by decide) ?_
      refine h_callVi (T := TX10) (rest := []) (As := [.int 2]) hx hb hml hown hts hK hT0 hZ (fun _ h => h) hS3 (c_X10_fail l G Y P (o) hW 2) trivial wd_X10_fail wV_X10_fail wL_X10_66 (on_w0 hW) rfl rfl hl.1 rfl (Nat.le_of_ble_eq_true rfl) dX10_hops_26 ⟨Nat.le_of_ble_eq_true rfl, Nat.le_of_ble_eq_true rfl⟩ ⟨Nat.zero_le _, Nat.zero_le _⟩ (fun r17 H10 locs hp10 hT10 hS10 hk10 => ?_)
      obtain ⟨hq, hp10⟩ := hp10
      have hq : r17 = (-1) := hq
      subst hq
      exact hret _ _ _ _ _ hT10 hS10 trivial dX10_hops_29
set_option maxHeartbeats 4000000 in
set_option maxRecDepth 100000 in
theorem c_X10_heir (l : Launch) (G : hG) (Y : hW) (P : Int32 → Prop) (o : Nat) (hW : h_On Y o (wldE (tC P) o)) : hMi l yX10_heir cX10_heir 2 (some .int) 2 44 G Y [.ref (o)] (fun H => True) (fun H r H1 => True) := by
  refine h_ofi (by decide +kernel) (Nat.le_of_ble_eq_true rfl) ?_
  intro p e s m args below meth c H0 ls Q hx hb hts hown hml hK hZ hT0 hpr hS0 hl hret
  have hl : lv_has ls 2 [(0, .ref (o))] := hl
  refine lv_aload_n hx hb dX10_heir_0 rfl (lv_at hl 0 rfl) ?_
  refine h_getr (C := RX10) (T := TX10) (N := 9) hx hb hts inX10 hown hK hT0 (on_w0 hW) rfl 1 rfl wF_X10_19 rfl dX10_heir_1 ?_
  refine h_getr (C := RX5) (T := TX5) (N := 11) hx hb hts inX5 hown hK hT0 (on_rg (on_wr hW)) rfl 0 rfl wF_X10_86 rfl dX10_heir_4 ?_
  refine h_callVi (T := TX7) (rest := []) (As := []) hx hb hml hown hts hK hT0 hZ (fun _ h => h) hS0 (c_X7_greatestOn l G Y P (o + 3 + 1) (on_st (on_wr hW))) trivial wd_X7_greatestOn wV_X7_greatestOn wL_X10_232 ((on_st (on_wr hW)).o rfl) rfl rfl hl.1 rfl (Nat.le_of_ble_eq_true rfl) dX10_heir_7 ⟨Nat.le_of_ble_eq_true rfl, Nat.le_of_ble_eq_true rfl⟩ ⟨Nat.zero_le _, Nat.zero_le _⟩ (fun r1 H1 locs hp1 hT1 hS1 hk1 => ?_)
  obtain ⟨hp1, he⟩ := hp1
  have he := he.symm
  subst he
  refine lv_istore_n (lv' := [(1, .int r1), (0, .ref (o))]) hx hb dX10_heir_10 rfl hl (by decide) rfl (fun ls hl => ?_)
  refine lv_iload_n hx hb dX10_heir_11 rfl (lv_at hl 0 rfl) ?_
  refine lv_iconst (v := (-1)) hx hb dX10_heir_12 (by decide) ?_
  refine lv_icmp_ne (tgt := 24) hx hb dX10_heir_13 (by decide) (fun c2 => ?_) (fun c2 => ?_)
  · skip
    refine lv_aload_n hx hb dX10_heir_24 rfl (lv_at hl 1 rfl) ?_
    refine lv_iload_n hx hb dX10_heir_25 rfl (lv_at hl 0 rfl) ?_
    refine h_callVi (T := TX10) (rest := []) (As := [.int r1]) hx hb hml hown hts hK hT0 hZ (fun _ h => h) hS1 (c_X10_give l G Y P (o) hW r1) trivial wd_X10_give wV_X10_give wL_X10_95 (on_w0 hW) rfl rfl hl.1 rfl (Nat.le_of_ble_eq_true rfl) dX10_heir_26 ⟨Nat.le_of_ble_eq_true rfl, Nat.le_of_ble_eq_true rfl⟩ ⟨Nat.zero_le _, Nat.zero_le _⟩ (fun r3 H2 locs hp2 hT2 hS2 hk2 => ?_)
    obtain ⟨hq, hp2⟩ := hp2
    have hq : r3 = r1 := hq
    subst hq
    exact hret _ _ _ _ _ hT2 hS2 trivial dX10_heir_29
  · skip
    refine lv_aload_n hx hb dX10_heir_16 rfl (lv_at hl 1 rfl) ?_
    refine lv_iconst (v := 5) hx hb dX10_heir_17 (by decide) ?_
    refine h_callVi (T := TX10) (rest := []) (As := [.int 5]) hx hb hml hown hts hK hT0 hZ (fun _ h => h) hS1 (c_X10_fail l G Y P (o) hW 5) trivial wd_X10_fail wV_X10_fail wL_X10_66 (on_w0 hW) rfl rfl hl.1 rfl (Nat.le_of_ble_eq_true rfl) dX10_heir_18 ⟨Nat.le_of_ble_eq_true rfl, Nat.le_of_ble_eq_true rfl⟩ ⟨Nat.zero_le _, Nat.zero_le _⟩ (fun r4 H3 locs hp3 hT3 hS3 hk3 => ?_)
    obtain ⟨hq, hp3⟩ := hp3
    have hq : r4 = (-1) := hq
    subst hq
    refine lv_goto (tgt := 29) hx hb dX10_heir_21 (by decide) ?_
    exact hret _ _ _ _ _ hT3 hS3 trivial dX10_heir_29
set_option maxHeartbeats 4000000 in
set_option maxRecDepth 100000 in
theorem c_X10_add (l : Launch) (G : hG) (Y : hW) (P : Int32 → Prop) (o : Nat) (hW : h_On Y o (wldE (tC P) o)) (u1 : Int32) : hMi l yX10_add cX10_add 2 (some .int) 2 43 G Y [.ref (o), .int u1] (fun H => True) (fun H r H1 => True) := by
  refine h_ofi (by decide +kernel) (Nat.le_of_ble_eq_true rfl) ?_
  intro p e s m args below meth c H0 ls Q hx hb hts hown hml hK hZ hT0 hpr hS0 hl hret
  have hl : lv_has ls 2 [(0, .ref (o)), (1, .int u1)] := hl
  refine lv_iload_n hx hb dX10_add_0 rfl (lv_at hl 1 rfl) ?_
  refine lv_if_lt (tgt := 10) hx hb dX10_add_1 (by decide) (fun c1 => ?_) (fun c1 => ?_)
  · skip
    refine lv_aload_n hx hb dX10_add_10 rfl (lv_at hl 0 rfl) ?_
    refine lv_iconst (v := 1) hx hb dX10_add_11 (by decide) ?_
    refine h_callVi (T := TX10) (rest := []) (As := [.int 1]) hx hb hml hown hts hK hT0 hZ (fun _ h => h) hS0 (c_X10_fail l G Y P (o) hW 1) trivial wd_X10_fail wV_X10_fail wL_X10_66 (on_w0 hW) rfl rfl hl.1 rfl (Nat.le_of_ble_eq_true rfl) dX10_add_12 ⟨Nat.le_of_ble_eq_true rfl, Nat.le_of_ble_eq_true rfl⟩ ⟨Nat.zero_le _, Nat.zero_le _⟩ (fun r2 H1 locs hp1 hT1 hS1 hk1 => ?_)
    obtain ⟨hq, hp1⟩ := hp1
    have hq : r2 = (-1) := hq
    subst hq
    exact hret _ _ _ _ _ hT1 hS1 trivial dX10_add_15
  · skip
    refine lv_iload_n hx hb dX10_add_4 rfl (lv_at hl 1 rfl) ?_
    refine lv_bipush (v := 100) hx hb dX10_add_5 (by decide) ?_
    refine lv_icmp_lt (tgt := 16) hx hb dX10_add_7 (by decide) (fun c3 => ?_) (fun c3 => ?_)
    · skip
      refine lv_aload_n hx hb dX10_add_16 rfl (lv_at hl 0 rfl) ?_
      refine h_getr (C := RX10) (T := TX10) (N := 9) hx hb hts inX10 hown hK hT0 (on_w0 hW) rfl 1 rfl wF_X10_19 rfl dX10_add_17 ?_
      refine h_getr (C := RX5) (T := TX5) (N := 11) hx hb hts inX5 hown hK hT0 (on_rg (on_wr hW)) rfl 0 rfl wF_X10_86 rfl dX10_add_20 ?_
      refine h_geti (C := RX7) (T := TX7) (N := 9) hx hb hts inX7 hown hK hT0 ((on_st (on_wr hW)).o rfl) rfl 5 rfl wF_X10_90 rfl dX10_add_23 (fun p4 => ?_)
      refine lv_topi (fun x5 ex5 => ?_)
      refine lv_bipush (v := 8) hx hb dX10_add_26 (by decide) ?_
      refine lv_icmp_lt (tgt := 37) hx hb dX10_add_28 (by decide) (fun c6 => ?_) (fun c6 => ?_)
      · skip
        refine lv_aload_n hx hb dX10_add_37 rfl (lv_at hl 0 rfl) ?_
        refine h_getr (C := RX10) (T := TX10) (N := 9) hx hb hts inX10 hown hK hT0 (on_w0 hW) rfl 1 rfl wF_X10_19 rfl dX10_add_38 ?_
        refine h_getr (C := RX5) (T := TX5) (N := 11) hx hb hts inX5 hown hK hT0 (on_rg (on_wr hW)) rfl 0 rfl wF_X10_86 rfl dX10_add_41 ?_
        refine lv_iload_n hx hb dX10_add_44 rfl (lv_at hl 1 rfl) ?_
        refine h_callVi (T := TX7) (rest := []) (As := [.int u1]) hx hb hml hown hts hK hT0 hZ (fun _ h => h) hS0 (c_X7_hasAddress l G Y P (o + 3 + 1) (on_st (on_wr hW)) u1) trivial wd_X7_hasAddress wV_X7_hasAddress wL_X10_235 ((on_st (on_wr hW)).o rfl) rfl rfl hl.1 rfl (Nat.le_of_ble_eq_true rfl) dX10_add_45 ⟨Nat.le_of_ble_eq_true rfl, Nat.le_of_ble_eq_true rfl⟩ ⟨Nat.zero_le _, Nat.zero_le _⟩ (fun r7 H2 locs hp2 hT2 hS2 hk2 => ?_)
        obtain ⟨hp2, he⟩ := hp2
        have he := he.symm
        subst he
        refine lv_if_eq (tgt := 58) hx hb dX10_add_48 (by decide) (fun c8 => ?_) (fun c8 => ?_)
        · skip
          refine lv_aload_n hx hb dX10_add_58 rfl (lv_at hl 0 rfl) ?_
          refine h_getr (C := RX10) (T := TX10) (N := 9) hx hb hts inX10 hown hK hT0 (on_w0 hW) rfl 1 rfl wF_X10_19 rfl dX10_add_59 ?_
          refine h_getr (C := RX5) (T := TX5) (N := 11) hx hb hts inX5 hown hK hT0 (on_rg (on_wr hW)) rfl 0 rfl wF_X10_86 rfl dX10_add_62 ?_
          refine lv_iload_n hx hb dX10_add_65 rfl (lv_at hl 1 rfl) ?_
          refine h_callVv (T := TX7) (rest := []) (As := [.int u1]) hx hb hml hown hts hK hT0 hZ (fun _ h => h) hS2 (c_X7_append l G Y P (o + 3 + 1) (on_st (on_wr hW)) u1) trivial wd_X7_append wV_X7_append wL_X10_238 ((on_st (on_wr hW)).o rfl) rfl rfl hl.1 rfl (Nat.le_of_ble_eq_true rfl) dX10_add_66 ⟨Nat.le_of_ble_eq_true rfl, Nat.le_of_ble_eq_true rfl⟩ ⟨Nat.zero_le _, Nat.zero_le _⟩ (fun H3 locs hp3 hT3 hS3 hk3 => ?_)
          refine lv_aload_n hx hb dX10_add_69 rfl (lv_at hl 0 rfl) ?_
          refine h_getr (C := RX10) (T := TX10) (N := 9) hx hb hts inX10 hown hK hT3 (on_w0 hW) rfl 1 rfl wF_X10_19 rfl dX10_add_70 ?_
          refine h_callVv (T := TX5) (rest := []) (As := []) hx hb hml hown hts hK hT3 hZ (fun _ h => h) hS3 (c_X5_startSilence l G Y P (o + 3) (on_wr hW)) trivial wd_X5_startSilence wV_X5_startSilence wL_X10_239 (on_rg (on_wr hW)) rfl rfl hl.1 rfl (Nat.le_of_ble_eq_true rfl) dX10_add_73 ⟨Nat.le_of_ble_eq_true rfl, Nat.le_of_ble_eq_true rfl⟩ ⟨Nat.zero_le _, Nat.zero_le _⟩ (fun H4 locs hp4 hT4 hS4 hk4 => ?_)
          refine lv_aload_n hx hb dX10_add_76 rfl (lv_at hl 0 rfl) ?_
          refine lv_aload_n hx hb dX10_add_77 rfl (lv_at hl 0 rfl) ?_
          refine h_getr (C := RX10) (T := TX10) (N := 9) hx hb hts inX10 hown hK hT4 (on_w0 hW) rfl 1 rfl wF_X10_19 rfl dX10_add_78 ?_
          refine h_getr (C := RX5) (T := TX5) (N := 11) hx hb hts inX5 hown hK hT4 (on_rg (on_wr hW)) rfl 0 rfl wF_X10_86 rfl dX10_add_81 ?_
          refine h_geti (C := RX7) (T := TX7) (N := 9) hx hb hts inX7 hown hK hT4 ((on_st (on_wr hW)).o rfl) rfl 5 rfl wF_X10_90 rfl dX10_add_84 (fun p9 => ?_)
          refine lv_topi (fun x10 ex10 => ?_)
          refine lv_iconst (v := 1) hx hb dX10_add_87 (by decide) ?_
          refine lv_isub hx hb dX10_add_88 ?_
          refine lv_topi (fun x11 ex11 => ?_)
          refine h_callVi (T := TX10) (rest := []) (As := [.int x11]) hx hb hml hown hts hK hT4 hZ (fun _ h => h) hS4 (c_X10_give l G Y P (o) hW x11) trivial wd_X10_give wV_X10_give wL_X10_95 (on_w0 hW) rfl rfl hl.1 rfl (Nat.le_of_ble_eq_true rfl) dX10_add_89 ⟨Nat.le_of_ble_eq_true rfl, Nat.le_of_ble_eq_true rfl⟩ ⟨Nat.zero_le _, Nat.zero_le _⟩ (fun r12 H5 locs hp5 hT5 hS5 hk5 => ?_)
          obtain ⟨hq, hp5⟩ := hp5
          have hq : r12 = x11 := hq
          subst hq
          exact hret _ _ _ _ _ hT5 hS5 trivial dX10_add_92
        · skip
          refine lv_aload_n hx hb dX10_add_51 rfl (lv_at hl 0 rfl) ?_
          refine lv_bipush (v := 8) hx hb dX10_add_52 (by decide) ?_
          refine h_callVi (T := TX10) (rest := []) (As := [.int 8]) hx hb hml hown hts hK hT0 hZ (fun _ h => h) hS2 (c_X10_fail l G Y P (o) hW 8) trivial wd_X10_fail wV_X10_fail wL_X10_66 (on_w0 hW) rfl rfl hl.1 rfl (Nat.le_of_ble_eq_true rfl) dX10_add_54 ⟨Nat.le_of_ble_eq_true rfl, Nat.le_of_ble_eq_true rfl⟩ ⟨Nat.zero_le _, Nat.zero_le _⟩ (fun r13 H6 locs hp6 hT6 hS6 hk6 => ?_)
          obtain ⟨hq, hp6⟩ := hp6
          have hq : r13 = (-1) := hq
          subst hq
          exact hret _ _ _ _ _ hT6 hS6 trivial dX10_add_57
      · skip
        refine lv_aload_n hx hb dX10_add_31 rfl (lv_at hl 0 rfl) ?_
        refine lv_iconst (v := 3) hx hb dX10_add_32 (by decide) ?_
        refine h_callVi (T := TX10) (rest := []) (As := [.int 3]) hx hb hml hown hts hK hT0 hZ (fun _ h => h) hS0 (c_X10_fail l G Y P (o) hW 3) trivial wd_X10_fail wV_X10_fail wL_X10_66 (on_w0 hW) rfl rfl hl.1 rfl (Nat.le_of_ble_eq_true rfl) dX10_add_33 ⟨Nat.le_of_ble_eq_true rfl, Nat.le_of_ble_eq_true rfl⟩ ⟨Nat.zero_le _, Nat.zero_le _⟩ (fun r14 H7 locs hp7 hT7 hS7 hk7 => ?_)
        obtain ⟨hq, hp7⟩ := hp7
        have hq : r14 = (-1) := hq
        subst hq
        exact hret _ _ _ _ _ hT7 hS7 trivial dX10_add_36
    · skip
      refine lv_aload_n hx hb dX10_add_10 rfl (lv_at hl 0 rfl) ?_
      refine lv_iconst (v := 1) hx hb dX10_add_11 (by decide) ?_
      refine h_callVi (T := TX10) (rest := []) (As := [.int 1]) hx hb hml hown hts hK hT0 hZ (fun _ h => h) hS0 (c_X10_fail l G Y P (o) hW 1) trivial wd_X10_fail wV_X10_fail wL_X10_66 (on_w0 hW) rfl rfl hl.1 rfl (Nat.le_of_ble_eq_true rfl) dX10_add_12 ⟨Nat.le_of_ble_eq_true rfl, Nat.le_of_ble_eq_true rfl⟩ ⟨Nat.zero_le _, Nat.zero_le _⟩ (fun r15 H8 locs hp8 hT8 hS8 hk8 => ?_)
      obtain ⟨hq, hp8⟩ := hp8
      have hq : r15 = (-1) := hq
      subst hq
      exact hret _ _ _ _ _ hT8 hS8 trivial dX10_add_15
set_option maxHeartbeats 4000000 in
set_option maxRecDepth 100000 in
theorem c_X10_send (l : Launch) (G : hG) (Y : hW) (P : Int32 → Prop) (o : Nat) (hW : h_On Y o (wldE (tC P) o)) (u1 u2 u3 : Int32) : hMi l yX10_send cX10_send 4 (some .int) 4 92 G Y [.ref (o), .int u1, .int u2, .int u3] (fun H => True) (fun H r H1 => True) := by
  refine h_ofi (by decide +kernel) (Nat.le_of_ble_eq_true rfl) ?_
  intro p e s m args below meth c H0 ls Q hx hb hts hown hml hK hZ hT0 hpr hS0 hl hret
  have hl : lv_has ls 4 [(0, .ref (o)), (1, .int u1), (2, .int u2), (3, .int u3)] := hl
  refine lv_iload_n hx hb dX10_send_0 rfl (lv_at hl 3 rfl) ?_
  refine lv_if_lt (tgt := 10) hx hb dX10_send_1 (by decide) (fun c1 => ?_) (fun c1 => ?_)
  · skip
    refine lv_aload_n hx hb dX10_send_10 rfl (lv_at hl 0 rfl) ?_
    refine lv_iconst (v := 1) hx hb dX10_send_11 (by decide) ?_
    refine h_callVi (T := TX10) (rest := []) (As := [.int 1]) hx hb hml hown hts hK hT0 hZ (fun _ h => h) hS0 (c_X10_fail l G Y P (o) hW 1) trivial wd_X10_fail wV_X10_fail wL_X10_66 (on_w0 hW) rfl rfl hl.1 rfl (Nat.le_of_ble_eq_true rfl) dX10_send_12 ⟨Nat.le_of_ble_eq_true rfl, Nat.le_of_ble_eq_true rfl⟩ ⟨Nat.zero_le _, Nat.zero_le _⟩ (fun r2 H1 locs hp1 hT1 hS1 hk1 => ?_)
    obtain ⟨hq, hp1⟩ := hp1
    have hq : r2 = (-1) := hq
    subst hq
    exact hret _ _ _ _ _ hT1 hS1 trivial dX10_send_15
  · skip
    refine lv_iload_n hx hb dX10_send_4 rfl (lv_at hl 3 rfl) ?_
    refine lv_bipush (v := 8) hx hb dX10_send_5 (by decide) ?_
    refine lv_icmp_lt (tgt := 16) hx hb dX10_send_7 (by decide) (fun c3 => ?_) (fun c3 => ?_)
    · skip
      refine lv_aload_n hx hb dX10_send_16 rfl (lv_at hl 0 rfl) ?_
      refine h_getr (C := RX10) (T := TX10) (N := 9) hx hb hts inX10 hown hK hT0 (on_w0 hW) rfl 1 rfl wF_X10_19 rfl dX10_send_17 ?_
      refine h_getr (C := RX5) (T := TX5) (N := 11) hx hb hts inX5 hown hK hT0 (on_rg (on_wr hW)) rfl 0 rfl wF_X10_86 rfl dX10_send_20 ?_
      refine lv_iload_n hx hb dX10_send_23 rfl (lv_at hl 1 rfl) ?_
      refine h_callVi (T := TX7) (rest := []) (As := [.int u1]) hx hb hml hown hts hK hT0 hZ (fun _ h => h) hS0 (c_X7_exists l G Y P (o + 3 + 1) (on_st (on_wr hW)) u1) trivial wd_X7_exists wV_X7_exists wL_X10_146 ((on_st (on_wr hW)).o rfl) rfl rfl hl.1 rfl (Nat.le_of_ble_eq_true rfl) dX10_send_24 ⟨Nat.le_of_ble_eq_true rfl, Nat.le_of_ble_eq_true rfl⟩ ⟨Nat.zero_le _, Nat.zero_le _⟩ (fun r4 H2 locs hp2 hT2 hS2 hk2 => ?_)
      obtain ⟨hp2, he⟩ := hp2
      have he := he.symm
      subst he
      refine lv_if_eq (tgt := 44) hx hb dX10_send_27 (by decide) (fun c5 => ?_) (fun c5 => ?_)
      · skip
        refine lv_aload_n hx hb dX10_send_44 rfl (lv_at hl 0 rfl) ?_
        refine lv_iconst (v := 2) hx hb dX10_send_45 (by decide) ?_
        refine h_callVi (T := TX10) (rest := []) (As := [.int 2]) hx hb hml hown hts hK hT0 hZ (fun _ h => h) hS2 (c_X10_fail l G Y P (o) hW 2) trivial wd_X10_fail wV_X10_fail wL_X10_66 (on_w0 hW) rfl rfl hl.1 rfl (Nat.le_of_ble_eq_true rfl) dX10_send_46 ⟨Nat.le_of_ble_eq_true rfl, Nat.le_of_ble_eq_true rfl⟩ ⟨Nat.zero_le _, Nat.zero_le _⟩ (fun r6 H3 locs hp3 hT3 hS3 hk3 => ?_)
        obtain ⟨hq, hp3⟩ := hp3
        have hq : r6 = (-1) := hq
        subst hq
        exact hret _ _ _ _ _ hT3 hS3 trivial dX10_send_49
      · skip
        obtain ⟨g7a, g7b⟩ := hp2.2 c5
        refine lv_aload_n hx hb dX10_send_30 rfl (lv_at hl 0 rfl) ?_
        refine h_getr (C := RX10) (T := TX10) (N := 9) hx hb hts inX10 hown hK hT0 (on_w0 hW) rfl 1 rfl wF_X10_19 rfl dX10_send_31 ?_
        refine h_getr (C := RX5) (T := TX5) (N := 11) hx hb hts inX5 hown hK hT0 (on_rg (on_wr hW)) rfl 0 rfl wF_X10_86 rfl dX10_send_34 ?_
        refine lv_iload_n hx hb dX10_send_37 rfl (lv_at hl 2 rfl) ?_
        refine h_callVi (T := TX7) (rest := []) (As := [.int u2]) hx hb hml hown hts hK hT0 hZ (fun _ h => h) hS2 (c_X7_exists l G Y P (o + 3 + 1) (on_st (on_wr hW)) u2) trivial wd_X7_exists wV_X7_exists wL_X10_146 ((on_st (on_wr hW)).o rfl) rfl rfl hl.1 rfl (Nat.le_of_ble_eq_true rfl) dX10_send_38 ⟨Nat.le_of_ble_eq_true rfl, Nat.le_of_ble_eq_true rfl⟩ ⟨Nat.zero_le _, Nat.zero_le _⟩ (fun r8 H4 locs hp4 hT4 hS4 hk4 => ?_)
        obtain ⟨hp4, he⟩ := hp4
        have he := he.symm
        subst he
        refine lv_if_ne (tgt := 50) hx hb dX10_send_41 (by decide) (fun c9 => ?_) (fun c9 => ?_)
        · skip
          obtain ⟨g10a, g10b⟩ := hp4.2 c9
          refine lv_aload_n hx hb dX10_send_50 rfl (lv_at hl 0 rfl) ?_
          refine h_getr (C := RX10) (T := TX10) (N := 9) hx hb hts inX10 hown hK hT0 (on_w0 hW) rfl 1 rfl wF_X10_19 rfl dX10_send_51 ?_
          refine h_getr (C := RX5) (T := TX5) (N := 11) hx hb hts inX5 hown hK hT0 (on_rg (on_wr hW)) rfl 1 rfl wF_X10_105 rfl dX10_send_54 ?_
          refine lv_iload_n hx hb dX10_send_57 rfl (lv_at hl 1 rfl) ?_
          refine h_callVi (T := TX2) (rest := []) (As := [.int u1]) hx hb hml hown hts hK hT0 hZ (fun _ h => h) hS4 (c_X2_isFull l G Y P (o + 3 + 7) (on_qu (on_wr hW)) u1) trivial wd_X2_isFull wV_X2_isFull wL_X10_242 ((on_qu (on_wr hW)).o rfl) rfl rfl hl.1 rfl (Nat.le_of_ble_eq_true rfl) dX10_send_58 ⟨Nat.le_of_ble_eq_true rfl, Nat.le_of_ble_eq_true rfl⟩ ⟨Nat.zero_le _, Nat.zero_le _⟩ (fun r11 H5 locs hp5 hT5 hS5 hk5 => ?_)
          obtain ⟨hp5, he⟩ := hp5
          have he := he.symm
          subst he
          refine lv_if_eq (tgt := 70) hx hb dX10_send_61 (by decide) (fun c12 => ?_) (fun c12 => ?_)
          · skip
            refine lv_iload_n hx hb dX10_send_70 rfl (lv_at hl 1 rfl) ?_
            refine lv_iload_n hx hb dX10_send_71 rfl (lv_at hl 2 rfl) ?_
            refine lv_icmp_ne (tgt := 82) hx hb dX10_send_72 (by decide) (fun c13 => ?_) (fun c13 => ?_)
            · skip
              refine lv_aload_n hx hb dX10_send_82 rfl (lv_at hl 0 rfl) ?_
              refine lv_aload_n hx hb dX10_send_83 rfl (lv_at hl 0 rfl) ?_
              refine h_getr (C := RX10) (T := TX10) (N := 9) hx hb hts inX10 hown hK hT0 (on_w0 hW) rfl 1 rfl wF_X10_19 rfl dX10_send_84 ?_
              refine lv_iload_n hx hb dX10_send_87 rfl (lv_at hl 1 rfl) ?_
              refine lv_iload_n hx hb dX10_send_88 rfl (lv_at hl 2 rfl) ?_
              refine lv_iload_n hx hb dX10_send_89 rfl (lv_at hl 3 rfl) ?_
              refine h_callVi (T := TX5) (rest := [.ref (o)]) (As := [.int u1, .int u2, .int u3]) hx hb hml hown hts hK hT0 hZ (fun _ h => h) hS5 (c_X5_newFrame l G Y P (o + 3) (on_wr hW) u1 u2 u3) trivial wd_X5_newFrame wV_X5_newFrame wL_X10_245 (on_rg (on_wr hW)) rfl rfl hl.1 rfl (Nat.le_of_ble_eq_true rfl) dX10_send_90 ⟨Nat.le_of_ble_eq_true rfl, Nat.le_of_ble_eq_true rfl⟩ ⟨Nat.zero_le _, Nat.zero_le _⟩ (fun r14 H6 locs hp6 hT6 hS6 hk6 => ?_)
              refine h_callVi (T := TX10) (rest := []) (As := [.int r14]) hx hb hml hown hts hK hT6 hZ (fun _ h => h) hS6 (c_X10_give l G Y P (o) hW r14) trivial wd_X10_give wV_X10_give wL_X10_95 (on_w0 hW) rfl rfl hl.1 rfl (Nat.le_of_ble_eq_true rfl) dX10_send_93 ⟨Nat.le_of_ble_eq_true rfl, Nat.le_of_ble_eq_true rfl⟩ ⟨Nat.zero_le _, Nat.zero_le _⟩ (fun r15 H7 locs hp7 hT7 hS7 hk7 => ?_)
              obtain ⟨hq, hp7⟩ := hp7
              have hq : r15 = r14 := hq
              subst hq
              exact hret _ _ _ _ _ hT7 hS7 trivial dX10_send_96
            · skip
              refine lv_aload_n hx hb dX10_send_75 rfl (lv_at hl 0 rfl) ?_
              refine lv_bipush (v := 8) hx hb dX10_send_76 (by decide) ?_
              refine h_callVi (T := TX10) (rest := []) (As := [.int 8]) hx hb hml hown hts hK hT0 hZ (fun _ h => h) hS5 (c_X10_fail l G Y P (o) hW 8) trivial wd_X10_fail wV_X10_fail wL_X10_66 (on_w0 hW) rfl rfl hl.1 rfl (Nat.le_of_ble_eq_true rfl) dX10_send_78 ⟨Nat.le_of_ble_eq_true rfl, Nat.le_of_ble_eq_true rfl⟩ ⟨Nat.zero_le _, Nat.zero_le _⟩ (fun r16 H8 locs hp8 hT8 hS8 hk8 => ?_)
              obtain ⟨hq, hp8⟩ := hp8
              have hq : r16 = (-1) := hq
              subst hq
              exact hret _ _ _ _ _ hT8 hS8 trivial dX10_send_81
          · skip
            refine lv_aload_n hx hb dX10_send_64 rfl (lv_at hl 0 rfl) ?_
            refine lv_iconst (v := 3) hx hb dX10_send_65 (by decide) ?_
            refine h_callVi (T := TX10) (rest := []) (As := [.int 3]) hx hb hml hown hts hK hT0 hZ (fun _ h => h) hS5 (c_X10_fail l G Y P (o) hW 3) trivial wd_X10_fail wV_X10_fail wL_X10_66 (on_w0 hW) rfl rfl hl.1 rfl (Nat.le_of_ble_eq_true rfl) dX10_send_66 ⟨Nat.le_of_ble_eq_true rfl, Nat.le_of_ble_eq_true rfl⟩ ⟨Nat.zero_le _, Nat.zero_le _⟩ (fun r17 H9 locs hp9 hT9 hS9 hk9 => ?_)
            obtain ⟨hq, hp9⟩ := hp9
            have hq : r17 = (-1) := hq
            subst hq
            exact hret _ _ _ _ _ hT9 hS9 trivial dX10_send_69
        · skip
          refine lv_aload_n hx hb dX10_send_44 rfl (lv_at hl 0 rfl) ?_
          refine lv_iconst (v := 2) hx hb dX10_send_45 (by decide) ?_
          refine h_callVi (T := TX10) (rest := []) (As := [.int 2]) hx hb hml hown hts hK hT0 hZ (fun _ h => h) hS4 (c_X10_fail l G Y P (o) hW 2) trivial wd_X10_fail wV_X10_fail wL_X10_66 (on_w0 hW) rfl rfl hl.1 rfl (Nat.le_of_ble_eq_true rfl) dX10_send_46 ⟨Nat.le_of_ble_eq_true rfl, Nat.le_of_ble_eq_true rfl⟩ ⟨Nat.zero_le _, Nat.zero_le _⟩ (fun r18 H10 locs hp10 hT10 hS10 hk10 => ?_)
          obtain ⟨hq, hp10⟩ := hp10
          have hq : r18 = (-1) := hq
          subst hq
          exact hret _ _ _ _ _ hT10 hS10 trivial dX10_send_49
    · skip
      refine lv_aload_n hx hb dX10_send_10 rfl (lv_at hl 0 rfl) ?_
      refine lv_iconst (v := 1) hx hb dX10_send_11 (by decide) ?_
      refine h_callVi (T := TX10) (rest := []) (As := [.int 1]) hx hb hml hown hts hK hT0 hZ (fun _ h => h) hS0 (c_X10_fail l G Y P (o) hW 1) trivial wd_X10_fail wV_X10_fail wL_X10_66 (on_w0 hW) rfl rfl hl.1 rfl (Nat.le_of_ble_eq_true rfl) dX10_send_12 ⟨Nat.le_of_ble_eq_true rfl, Nat.le_of_ble_eq_true rfl⟩ ⟨Nat.zero_le _, Nat.zero_le _⟩ (fun r19 H11 locs hp11 hT11 hS11 hk11 => ?_)
      obtain ⟨hq, hp11⟩ := hp11
      have hq : r19 = (-1) := hq
      subst hq
      exact hret _ _ _ _ _ hT11 hS11 trivial dX10_send_15
set_option maxHeartbeats 4000000 in
set_option maxRecDepth 100000 in
theorem c_X10_take (l : Launch) (G : hG) (Y : hW) (P : Int32 → Prop) (o : Nat) (hW : h_On Y o (wldE (tC P) o)) (u1 : Int32) : hMi l yX10_take cX10_take 3 (some .int) 2 46 G Y [.ref (o), .int u1] (fun H => True) (fun H r H1 => True) := by
  refine h_ofi (by decide +kernel) (Nat.le_of_ble_eq_true rfl) ?_
  intro p e s m args below meth c H0 ls Q hx hb hts hown hml hK hZ hT0 hpr hS0 hl hret
  have hl : lv_has ls 3 [(0, .ref (o)), (1, .int u1)] := hl
  refine lv_iload_n hx hb dX10_take_0 rfl (lv_at hl 1 rfl) ?_
  refine lv_if_ge (tgt := 10) hx hb dX10_take_1 (by decide) (fun c1 => ?_) (fun c1 => ?_)
  · skip
    refine lv_aload_n hx hb dX10_take_10 rfl (lv_at hl 0 rfl) ?_
    refine h_getr (C := RX10) (T := TX10) (N := 9) hx hb hts inX10 hown hK hT0 (on_w0 hW) rfl 1 rfl wF_X10_19 rfl dX10_take_11 ?_
    refine h_getr (C := RX5) (T := TX5) (N := 11) hx hb hts inX5 hown hK hT0 (on_rg (on_wr hW)) rfl 1 rfl wF_X10_105 rfl dX10_take_14 ?_
    refine lv_iload_n hx hb dX10_take_17 rfl (lv_at hl 1 rfl) ?_
    refine h_callVi (T := TX2) (rest := []) (As := [.int u1]) hx hb hml hown hts hK hT0 hZ (fun _ h => h) hS0 (c_X2_slotOf l G Y P (o + 3 + 7) (on_qu (on_wr hW)) u1) trivial wd_X2_slotOf wV_X2_slotOf wL_X10_249 ((on_qu (on_wr hW)).o rfl) rfl rfl hl.1 rfl (Nat.le_of_ble_eq_true rfl) dX10_take_18 ⟨Nat.le_of_ble_eq_true rfl, Nat.le_of_ble_eq_true rfl⟩ ⟨Nat.zero_le _, Nat.zero_le _⟩ (fun r2 H1 locs hp1 hT1 hS1 hk1 => ?_)
    obtain ⟨hp1, he⟩ := hp1
    have he := he.symm
    subst he
    refine lv_istore_n (lv' := [(2, .int r2), (0, .ref (o)), (1, .int u1)]) hx hb dX10_take_21 rfl hl (by decide) rfl (fun ls hl => ?_)
    refine lv_iload_n hx hb dX10_take_22 rfl (lv_at hl 0 rfl) ?_
    refine lv_iconst (v := (-1)) hx hb dX10_take_23 (by decide) ?_
    refine lv_icmp_ne (tgt := 33) hx hb dX10_take_24 (by decide) (fun c3 => ?_) (fun c3 => ?_)
    · skip
      refine lv_aload_n hx hb dX10_take_33 rfl (lv_at hl 1 rfl) ?_
      refine h_getr (C := RX10) (T := TX10) (N := 9) hx hb hts inX10 hown hK hT0 (on_w0 hW) rfl 1 rfl wF_X10_19 rfl dX10_take_34 ?_
      refine h_getr (C := RX5) (T := TX5) (N := 11) hx hb hts inX5 hown hK hT0 (on_rg (on_wr hW)) rfl 1 rfl wF_X10_105 rfl dX10_take_37 ?_
      refine lv_iload_n hx hb dX10_take_40 rfl (lv_at hl 0 rfl) ?_
      refine h_callVv (T := TX2) (rest := []) (As := [.int r2]) hx hb hml hown hts hK hT0 hZ (fun _ h => h) hS1 (c_X2_removeSlot l G Y P (o + 3 + 7) (on_qu (on_wr hW)) r2) trivial wd_X2_removeSlot wV_X2_removeSlot wL_X10_252 ((on_qu (on_wr hW)).o rfl) rfl rfl hl.1 rfl (Nat.le_of_ble_eq_true rfl) dX10_take_41 ⟨Nat.le_of_ble_eq_true rfl, Nat.le_of_ble_eq_true rfl⟩ ⟨Nat.zero_le _, Nat.zero_le _⟩ (fun H2 locs hp2 hT2 hS2 hk2 => ?_)
      refine lv_aload_n hx hb dX10_take_44 rfl (lv_at hl 1 rfl) ?_
      refine lv_iload_n hx hb dX10_take_45 rfl (lv_at hl 0 rfl) ?_
      refine lv_bipush (v := 6) hx hb dX10_take_46 (by decide) ?_
      refine lv_idiv hx hb dX10_take_48 (by decide) ?_
      refine lv_topi (fun x4 ex4 => ?_)
      refine h_callVi (T := TX10) (rest := []) (As := [.int x4]) hx hb hml hown hts hK hT2 hZ (fun _ h => h) hS2 (c_X10_give l G Y P (o) hW x4) trivial wd_X10_give wV_X10_give wL_X10_95 (on_w0 hW) rfl rfl hl.1 rfl (Nat.le_of_ble_eq_true rfl) dX10_take_49 ⟨Nat.le_of_ble_eq_true rfl, Nat.le_of_ble_eq_true rfl⟩ ⟨Nat.zero_le _, Nat.zero_le _⟩ (fun r5 H3 locs hp3 hT3 hS3 hk3 => ?_)
      obtain ⟨hq, hp3⟩ := hp3
      have hq : r5 = x4 := hq
      subst hq
      exact hret _ _ _ _ _ hT3 hS3 trivial dX10_take_52
    · skip
      refine lv_aload_n hx hb dX10_take_27 rfl (lv_at hl 1 rfl) ?_
      refine lv_iconst (v := 5) hx hb dX10_take_28 (by decide) ?_
      refine h_callVi (T := TX10) (rest := []) (As := [.int 5]) hx hb hml hown hts hK hT0 hZ (fun _ h => h) hS1 (c_X10_fail l G Y P (o) hW 5) trivial wd_X10_fail wV_X10_fail wL_X10_66 (on_w0 hW) rfl rfl hl.1 rfl (Nat.le_of_ble_eq_true rfl) dX10_take_29 ⟨Nat.le_of_ble_eq_true rfl, Nat.le_of_ble_eq_true rfl⟩ ⟨Nat.zero_le _, Nat.zero_le _⟩ (fun r6 H4 locs hp4 hT4 hS4 hk4 => ?_)
      obtain ⟨hq, hp4⟩ := hp4
      have hq : r6 = (-1) := hq
      subst hq
      exact hret _ _ _ _ _ hT4 hS4 trivial dX10_take_32
  · skip
    refine lv_aload_n hx hb dX10_take_4 rfl (lv_at hl 0 rfl) ?_
    refine lv_iconst (v := 1) hx hb dX10_take_5 (by decide) ?_
    refine h_callVi (T := TX10) (rest := []) (As := [.int 1]) hx hb hml hown hts hK hT0 hZ (fun _ h => h) hS0 (c_X10_fail l G Y P (o) hW 1) trivial wd_X10_fail wV_X10_fail wL_X10_66 (on_w0 hW) rfl rfl hl.1 rfl (Nat.le_of_ble_eq_true rfl) dX10_take_6 ⟨Nat.le_of_ble_eq_true rfl, Nat.le_of_ble_eq_true rfl⟩ ⟨Nat.zero_le _, Nat.zero_le _⟩ (fun r7 H5 locs hp5 hT5 hS5 hk5 => ?_)
    obtain ⟨hq, hp5⟩ := hp5
    have hq : r7 = (-1) := hq
    subst hq
    exact hret _ _ _ _ _ hT5 hS5 trivial dX10_take_9
set_option maxHeartbeats 4000000 in
set_option maxRecDepth 100000 in
theorem c_X10_shed (l : Launch) (G : hG) (Y : hW) (P : Int32 → Prop) (o : Nat) (hW : h_On Y o (wldE (tC P) o)) (u1 u2 : Int32) : hMi l yX10_shed cX10_shed 3 (some .int) 2 47 G Y [.ref (o), .int u1, .int u2] (fun H => True) (fun H r H1 => True) := by
  refine h_ofi (by decide +kernel) (Nat.le_of_ble_eq_true rfl) ?_
  intro p e s m args below meth c H0 ls Q hx hb hts hown hml hK hZ hT0 hpr hS0 hl hret
  have hl : lv_has ls 3 [(0, .ref (o)), (1, .int u1), (2, .int u2)] := hl
  refine lv_iload_n hx hb dX10_shed_0 rfl (lv_at hl 2 rfl) ?_
  refine lv_if_lt (tgt := 10) hx hb dX10_shed_1 (by decide) (fun c1 => ?_) (fun c1 => ?_)
  · skip
    refine lv_aload_n hx hb dX10_shed_10 rfl (lv_at hl 0 rfl) ?_
    refine lv_iconst (v := 1) hx hb dX10_shed_11 (by decide) ?_
    refine h_callVi (T := TX10) (rest := []) (As := [.int 1]) hx hb hml hown hts hK hT0 hZ (fun _ h => h) hS0 (c_X10_fail l G Y P (o) hW 1) trivial wd_X10_fail wV_X10_fail wL_X10_66 (on_w0 hW) rfl rfl hl.1 rfl (Nat.le_of_ble_eq_true rfl) dX10_shed_12 ⟨Nat.le_of_ble_eq_true rfl, Nat.le_of_ble_eq_true rfl⟩ ⟨Nat.zero_le _, Nat.zero_le _⟩ (fun r2 H1 locs hp1 hT1 hS1 hk1 => ?_)
    obtain ⟨hq, hp1⟩ := hp1
    have hq : r2 = (-1) := hq
    subst hq
    exact hret _ _ _ _ _ hT1 hS1 trivial dX10_shed_15
  · skip
    refine lv_iload_n hx hb dX10_shed_4 rfl (lv_at hl 2 rfl) ?_
    refine lv_bipush (v := 8) hx hb dX10_shed_5 (by decide) ?_
    refine lv_icmp_le (tgt := 16) hx hb dX10_shed_7 (by decide) (fun c3 => ?_) (fun c3 => ?_)
    · skip
      refine lv_aload_n hx hb dX10_shed_16 rfl (lv_at hl 0 rfl) ?_
      refine h_getr (C := RX10) (T := TX10) (N := 9) hx hb hts inX10 hown hK hT0 (on_w0 hW) rfl 1 rfl wF_X10_19 rfl dX10_shed_17 ?_
      refine h_getr (C := RX5) (T := TX5) (N := 11) hx hb hts inX5 hown hK hT0 (on_rg (on_wr hW)) rfl 0 rfl wF_X10_86 rfl dX10_shed_20 ?_
      refine lv_iload_n hx hb dX10_shed_23 rfl (lv_at hl 1 rfl) ?_
      refine h_callVi (T := TX7) (rest := []) (As := [.int u1]) hx hb hml hown hts hK hT0 hZ (fun _ h => h) hS0 (c_X7_exists l G Y P (o + 3 + 1) (on_st (on_wr hW)) u1) trivial wd_X7_exists wV_X7_exists wL_X10_146 ((on_st (on_wr hW)).o rfl) rfl rfl hl.1 rfl (Nat.le_of_ble_eq_true rfl) dX10_shed_24 ⟨Nat.le_of_ble_eq_true rfl, Nat.le_of_ble_eq_true rfl⟩ ⟨Nat.zero_le _, Nat.zero_le _⟩ (fun r4 H2 locs hp2 hT2 hS2 hk2 => ?_)
      obtain ⟨hp2, he⟩ := hp2
      have he := he.symm
      subst he
      refine lv_if_ne (tgt := 36) hx hb dX10_shed_27 (by decide) (fun c5 => ?_) (fun c5 => ?_)
      · skip
        obtain ⟨g6a, g6b⟩ := hp2.2 c5
        refine lv_aload_n hx hb dX10_shed_36 rfl (lv_at hl 0 rfl) ?_
        refine lv_aload_n hx hb dX10_shed_37 rfl (lv_at hl 0 rfl) ?_
        refine h_getr (C := RX10) (T := TX10) (N := 9) hx hb hts inX10 hown hK hT0 (on_w0 hW) rfl 1 rfl wF_X10_19 rfl dX10_shed_38 ?_
        refine h_getr (C := RX5) (T := TX5) (N := 11) hx hb hts inX5 hown hK hT0 (on_rg (on_wr hW)) rfl 1 rfl wF_X10_105 rfl dX10_shed_41 ?_
        refine lv_iload_n hx hb dX10_shed_44 rfl (lv_at hl 1 rfl) ?_
        refine lv_iload_n hx hb dX10_shed_45 rfl (lv_at hl 2 rfl) ?_
        refine h_callVi (T := TX2) (rest := [.ref (o)]) (As := [.int u1, .int u2]) hx hb hml hown hts hK hT0 hZ (fun _ h => h) hS2 (c_X2_removeBelow l G Y P (o + 3 + 7) (on_qu (on_wr hW)) u1 u2) trivial wd_X2_removeBelow wV_X2_removeBelow wL_X10_255 ((on_qu (on_wr hW)).o rfl) rfl rfl hl.1 rfl (Nat.le_of_ble_eq_true rfl) dX10_shed_46 ⟨Nat.le_of_ble_eq_true rfl, Nat.le_of_ble_eq_true rfl⟩ ⟨Nat.zero_le _, Nat.zero_le _⟩ (fun r7 H3 locs hp3 hT3 hS3 hk3 => ?_)
        refine h_callVi (T := TX10) (rest := []) (As := [.int r7]) hx hb hml hown hts hK hT3 hZ (fun _ h => h) hS3 (c_X10_give l G Y P (o) hW r7) trivial wd_X10_give wV_X10_give wL_X10_95 (on_w0 hW) rfl rfl hl.1 rfl (Nat.le_of_ble_eq_true rfl) dX10_shed_49 ⟨Nat.le_of_ble_eq_true rfl, Nat.le_of_ble_eq_true rfl⟩ ⟨Nat.zero_le _, Nat.zero_le _⟩ (fun r8 H4 locs hp4 hT4 hS4 hk4 => ?_)
        obtain ⟨hq, hp4⟩ := hp4
        have hq : r8 = r7 := hq
        subst hq
        exact hret _ _ _ _ _ hT4 hS4 trivial dX10_shed_52
      · skip
        refine lv_aload_n hx hb dX10_shed_30 rfl (lv_at hl 0 rfl) ?_
        refine lv_iconst (v := 2) hx hb dX10_shed_31 (by decide) ?_
        refine h_callVi (T := TX10) (rest := []) (As := [.int 2]) hx hb hml hown hts hK hT0 hZ (fun _ h => h) hS2 (c_X10_fail l G Y P (o) hW 2) trivial wd_X10_fail wV_X10_fail wL_X10_66 (on_w0 hW) rfl rfl hl.1 rfl (Nat.le_of_ble_eq_true rfl) dX10_shed_32 ⟨Nat.le_of_ble_eq_true rfl, Nat.le_of_ble_eq_true rfl⟩ ⟨Nat.zero_le _, Nat.zero_le _⟩ (fun r9 H5 locs hp5 hT5 hS5 hk5 => ?_)
        obtain ⟨hq, hp5⟩ := hp5
        have hq : r9 = (-1) := hq
        subst hq
        exact hret _ _ _ _ _ hT5 hS5 trivial dX10_shed_35
    · skip
      refine lv_aload_n hx hb dX10_shed_10 rfl (lv_at hl 0 rfl) ?_
      refine lv_iconst (v := 1) hx hb dX10_shed_11 (by decide) ?_
      refine h_callVi (T := TX10) (rest := []) (As := [.int 1]) hx hb hml hown hts hK hT0 hZ (fun _ h => h) hS0 (c_X10_fail l G Y P (o) hW 1) trivial wd_X10_fail wV_X10_fail wL_X10_66 (on_w0 hW) rfl rfl hl.1 rfl (Nat.le_of_ble_eq_true rfl) dX10_shed_12 ⟨Nat.le_of_ble_eq_true rfl, Nat.le_of_ble_eq_true rfl⟩ ⟨Nat.zero_le _, Nat.zero_le _⟩ (fun r10 H6 locs hp6 hT6 hS6 hk6 => ?_)
      obtain ⟨hq, hp6⟩ := hp6
      have hq : r10 = (-1) := hq
      subst hq
      exact hret _ _ _ _ _ hT6 hS6 trivial dX10_shed_15
set_option maxHeartbeats 4000000 in
set_option maxRecDepth 100000 in
theorem c_X10_off (l : Launch) (G : hG) (Y : hW) (P : Int32 → Prop) (o : Nat) (hW : h_On Y o (wldE (tC P) o)) (u1 : Int32) : hMi l yX10_off cX10_off 2 (some .boolean) 3 63 G Y [.ref (o), .int u1] (fun H => True) (fun H r H1 => (r = 0 ∨ r = 1) ∧ True) := by
  refine h_ofz (by decide +kernel) (Nat.le_of_ble_eq_true rfl) ?_
  intro p e s m args below meth c H0 ls Q hx hb hts hown hml hK hZ hT0 hpr hS0 hl hret
  have hl : lv_has ls 2 [(0, .ref (o)), (1, .int u1)] := hl
  refine lv_aload_n hx hb dX10_off_0 rfl (lv_at hl 0 rfl) ?_
  refine h_getr (C := RX10) (T := TX10) (N := 9) hx hb hts inX10 hown hK hT0 (on_w0 hW) rfl 1 rfl wF_X10_19 rfl dX10_off_1 ?_
  refine h_getr (C := RX5) (T := TX5) (N := 11) hx hb hts inX5 hown hK hT0 (on_rg (on_wr hW)) rfl 0 rfl wF_X10_86 rfl dX10_off_4 ?_
  refine lv_iload_n hx hb dX10_off_7 rfl (lv_at hl 1 rfl) ?_
  refine h_callVi (T := TX7) (rest := []) (As := [.int u1]) hx hb hml hown hts hK hT0 hZ (fun _ h => h) hS0 (c_X7_exists l G Y P (o + 3 + 1) (on_st (on_wr hW)) u1) trivial wd_X7_exists wV_X7_exists wL_X10_146 ((on_st (on_wr hW)).o rfl) rfl rfl hl.1 rfl (Nat.le_of_ble_eq_true rfl) dX10_off_8 ⟨Nat.le_of_ble_eq_true rfl, Nat.le_of_ble_eq_true rfl⟩ ⟨Nat.zero_le _, Nat.zero_le _⟩ (fun r1 H1 locs hp1 hT1 hS1 hk1 => ?_)
  obtain ⟨hp1, he⟩ := hp1
  have he := he.symm
  subst he
  refine lv_if_ne (tgt := 20) hx hb dX10_off_11 (by decide) (fun c2 => ?_) (fun c2 => ?_)
  · skip
    obtain ⟨g3a, g3b⟩ := hp1.2 c2
    refine lv_aload_n hx hb dX10_off_20 rfl (lv_at hl 0 rfl) ?_
    refine h_getr (C := RX10) (T := TX10) (N := 9) hx hb hts inX10 hown hK hT0 (on_w0 hW) rfl 1 rfl wF_X10_19 rfl dX10_off_21 ?_
    refine h_getr (C := RX5) (T := TX5) (N := 11) hx hb hts inX5 hown hK hT0 (on_rg (on_wr hW)) rfl 0 rfl wF_X10_86 rfl dX10_off_24 ?_
    refine lv_iload_n hx hb dX10_off_27 rfl (lv_at hl 1 rfl) ?_
    refine h_callVi (T := TX7) (rest := []) (As := [.int u1]) hx hb hml hown hts hK hT0 hZ (fun _ h => h) hS1 (c_X7_isOn l G Y P (o + 3 + 1) (on_st (on_wr hW)) u1) trivial wd_X7_isOn wV_X7_isOn wL_X10_226 ((on_st (on_wr hW)).o rfl) rfl rfl hl.1 rfl (Nat.le_of_ble_eq_true rfl) dX10_off_28 ⟨Nat.le_of_ble_eq_true rfl, Nat.le_of_ble_eq_true rfl⟩ ⟨Nat.zero_le _, Nat.zero_le _⟩ (fun r4 H2 locs hp2 hT2 hS2 hk2 => ?_)
    obtain ⟨hp2, he⟩ := hp2
    have he := he.symm
    subst he
    refine lv_if_ne (tgt := 40) hx hb dX10_off_31 (by decide) (fun c5 => ?_) (fun c5 => ?_)
    · skip
      obtain ⟨g6a, g6b⟩ := hp2.2 c5
      refine lv_aload_n hx hb dX10_off_40 rfl (lv_at hl 0 rfl) ?_
      refine h_getr (C := RX10) (T := TX10) (N := 9) hx hb hts inX10 hown hK hT0 (on_w0 hW) rfl 1 rfl wF_X10_19 rfl dX10_off_41 ?_
      refine lv_iload_n hx hb dX10_off_44 rfl (lv_at hl 1 rfl) ?_
      refine h_callVv (T := TX5) (rest := []) (As := [.int u1]) hx hb hml hown hts hK hT0 hZ (fun _ h => h) hS2 (c_X5_switchOff l G Y P (o + 3) (on_wr hW) u1) trivial wd_X5_switchOff wV_X5_switchOff wL_X10_261 (on_rg (on_wr hW)) rfl rfl hl.1 rfl (Nat.le_of_ble_eq_true rfl) dX10_off_45 ⟨Nat.le_of_ble_eq_true rfl, Nat.le_of_ble_eq_true rfl⟩ ⟨Nat.zero_le _, Nat.zero_le _⟩ (fun H3 locs hp3 hT3 hS3 hk3 => ?_)
      refine lv_aload_n hx hb dX10_off_48 rfl (lv_at hl 0 rfl) ?_
      refine h_getr (C := RX10) (T := TX10) (N := 9) hx hb hts inX10 hown hK hT3 (on_w0 hW) rfl 1 rfl wF_X10_19 rfl dX10_off_49 ?_
      refine h_callVv (T := TX5) (rest := []) (As := []) hx hb hml hown hts hK hT3 hZ (fun _ h => h) hS3 (c_X5_startSilence l G Y P (o + 3) (on_wr hW)) trivial wd_X5_startSilence wV_X5_startSilence wL_X10_239 (on_rg (on_wr hW)) rfl rfl hl.1 rfl (Nat.le_of_ble_eq_true rfl) dX10_off_52 ⟨Nat.le_of_ble_eq_true rfl, Nat.le_of_ble_eq_true rfl⟩ ⟨Nat.zero_le _, Nat.zero_le _⟩ (fun H4 locs hp4 hT4 hS4 hk4 => ?_)
      refine lv_aload_n hx hb dX10_off_55 rfl (lv_at hl 0 rfl) ?_
      refine h_callVi (T := TX10) (rest := []) (As := []) hx hb hml hown hts hK hT4 hZ (fun _ h => h) hS4 (c_X10_succeed l G Y P (o) hW) trivial wd_X10_succeed wV_X10_succeed wL_X10_264 (on_w0 hW) rfl rfl hl.1 rfl (Nat.le_of_ble_eq_true rfl) dX10_off_56 ⟨Nat.le_of_ble_eq_true rfl, Nat.le_of_ble_eq_true rfl⟩ ⟨Nat.zero_le _, Nat.zero_le _⟩ (fun r7 H5 locs hp5 hT5 hS5 hk5 => ?_)
      exact hret _ _ _ _ _ hT5 hS5 ⟨hp5.1, ⟨hp5.1, trivial⟩⟩ dX10_off_59
    · skip
      refine lv_aload_n hx hb dX10_off_34 rfl (lv_at hl 0 rfl) ?_
      refine lv_iconst (v := 4) hx hb dX10_off_35 (by decide) ?_
      refine h_callVi (T := TX10) (rest := []) (As := [.int 4]) hx hb hml hown hts hK hT0 hZ (fun _ h => h) hS2 (c_X10_refuse l G Y P (o) hW 4) trivial wd_X10_refuse wV_X10_refuse wL_X10_258 (on_w0 hW) rfl rfl hl.1 rfl (Nat.le_of_ble_eq_true rfl) dX10_off_36 ⟨Nat.le_of_ble_eq_true rfl, Nat.le_of_ble_eq_true rfl⟩ ⟨Nat.zero_le _, Nat.zero_le _⟩ (fun r8 H6 locs hp6 hT6 hS6 hk6 => ?_)
      exact hret _ _ _ _ _ hT6 hS6 ⟨hp6.1, ⟨hp6.1, trivial⟩⟩ dX10_off_39
  · skip
    refine lv_aload_n hx hb dX10_off_14 rfl (lv_at hl 0 rfl) ?_
    refine lv_iconst (v := 2) hx hb dX10_off_15 (by decide) ?_
    refine h_callVi (T := TX10) (rest := []) (As := [.int 2]) hx hb hml hown hts hK hT0 hZ (fun _ h => h) hS1 (c_X10_refuse l G Y P (o) hW 2) trivial wd_X10_refuse wV_X10_refuse wL_X10_258 (on_w0 hW) rfl rfl hl.1 rfl (Nat.le_of_ble_eq_true rfl) dX10_off_16 ⟨Nat.le_of_ble_eq_true rfl, Nat.le_of_ble_eq_true rfl⟩ ⟨Nat.zero_le _, Nat.zero_le _⟩ (fun r9 H7 locs hp7 hT7 hS7 hk7 => ?_)
    exact hret _ _ _ _ _ hT7 hS7 ⟨hp7.1, ⟨hp7.1, trivial⟩⟩ dX10_off_19
set_option maxHeartbeats 4000000 in
set_option maxRecDepth 100000 in
theorem c_X10_on (l : Launch) (G : hG) (Y : hW) (P : Int32 → Prop) (o : Nat) (hW : h_On Y o (wldE (tC P) o)) (u1 : Int32) : hMi l yX10_on cX10_on 2 (some .boolean) 2 42 G Y [.ref (o), .int u1] (fun H => True) (fun H r H1 => (r = 0 ∨ r = 1) ∧ True) := by
  refine h_ofz (by decide +kernel) (Nat.le_of_ble_eq_true rfl) ?_
  intro p e s m args below meth c H0 ls Q hx hb hts hown hml hK hZ hT0 hpr hS0 hl hret
  have hl : lv_has ls 2 [(0, .ref (o)), (1, .int u1)] := hl
  refine lv_aload_n hx hb dX10_on_0 rfl (lv_at hl 0 rfl) ?_
  refine h_getr (C := RX10) (T := TX10) (N := 9) hx hb hts inX10 hown hK hT0 (on_w0 hW) rfl 1 rfl wF_X10_19 rfl dX10_on_1 ?_
  refine h_getr (C := RX5) (T := TX5) (N := 11) hx hb hts inX5 hown hK hT0 (on_rg (on_wr hW)) rfl 0 rfl wF_X10_86 rfl dX10_on_4 ?_
  refine lv_iload_n hx hb dX10_on_7 rfl (lv_at hl 1 rfl) ?_
  refine h_callVi (T := TX7) (rest := []) (As := [.int u1]) hx hb hml hown hts hK hT0 hZ (fun _ h => h) hS0 (c_X7_exists l G Y P (o + 3 + 1) (on_st (on_wr hW)) u1) trivial wd_X7_exists wV_X7_exists wL_X10_146 ((on_st (on_wr hW)).o rfl) rfl rfl hl.1 rfl (Nat.le_of_ble_eq_true rfl) dX10_on_8 ⟨Nat.le_of_ble_eq_true rfl, Nat.le_of_ble_eq_true rfl⟩ ⟨Nat.zero_le _, Nat.zero_le _⟩ (fun r1 H1 locs hp1 hT1 hS1 hk1 => ?_)
  obtain ⟨hp1, he⟩ := hp1
  have he := he.symm
  subst he
  refine lv_if_ne (tgt := 20) hx hb dX10_on_11 (by decide) (fun c2 => ?_) (fun c2 => ?_)
  · skip
    obtain ⟨g3a, g3b⟩ := hp1.2 c2
    refine lv_aload_n hx hb dX10_on_20 rfl (lv_at hl 0 rfl) ?_
    refine h_getr (C := RX10) (T := TX10) (N := 9) hx hb hts inX10 hown hK hT0 (on_w0 hW) rfl 1 rfl wF_X10_19 rfl dX10_on_21 ?_
    refine h_getr (C := RX5) (T := TX5) (N := 11) hx hb hts inX5 hown hK hT0 (on_rg (on_wr hW)) rfl 0 rfl wF_X10_86 rfl dX10_on_24 ?_
    refine lv_iload_n hx hb dX10_on_27 rfl (lv_at hl 1 rfl) ?_
    refine h_callVi (T := TX7) (rest := []) (As := [.int u1]) hx hb hml hown hts hK hT0 hZ (fun _ h => h) hS1 (c_X7_isOn l G Y P (o + 3 + 1) (on_st (on_wr hW)) u1) trivial wd_X7_isOn wV_X7_isOn wL_X10_226 ((on_st (on_wr hW)).o rfl) rfl rfl hl.1 rfl (Nat.le_of_ble_eq_true rfl) dX10_on_28 ⟨Nat.le_of_ble_eq_true rfl, Nat.le_of_ble_eq_true rfl⟩ ⟨Nat.zero_le _, Nat.zero_le _⟩ (fun r4 H2 locs hp2 hT2 hS2 hk2 => ?_)
    obtain ⟨hp2, he⟩ := hp2
    have he := he.symm
    subst he
    refine lv_if_eq (tgt := 40) hx hb dX10_on_31 (by decide) (fun c5 => ?_) (fun c5 => ?_)
    · skip
      refine lv_aload_n hx hb dX10_on_40 rfl (lv_at hl 0 rfl) ?_
      refine h_getr (C := RX10) (T := TX10) (N := 9) hx hb hts inX10 hown hK hT0 (on_w0 hW) rfl 1 rfl wF_X10_19 rfl dX10_on_41 ?_
      refine h_getr (C := RX5) (T := TX5) (N := 11) hx hb hts inX5 hown hK hT0 (on_rg (on_wr hW)) rfl 0 rfl wF_X10_86 rfl dX10_on_44 ?_
      refine lv_iload_n hx hb dX10_on_47 rfl (lv_at hl 1 rfl) ?_
      refine h_callVv (T := TX7) (rest := []) (As := [.int u1]) hx hb hml hown hts hK hT0 hZ (fun _ h => h) hS2 (c_X7_switchOn l G Y P (o + 3 + 1) (on_st (on_wr hW)) u1) trivial wd_X7_switchOn wV_X7_switchOn wL_X10_267 ((on_st (on_wr hW)).o rfl) rfl rfl hl.1 rfl (Nat.le_of_ble_eq_true rfl) dX10_on_48 ⟨Nat.le_of_ble_eq_true rfl, Nat.le_of_ble_eq_true rfl⟩ ⟨Nat.zero_le _, Nat.zero_le _⟩ (fun H3 locs hp3 hT3 hS3 hk3 => ?_)
      refine lv_aload_n hx hb dX10_on_51 rfl (lv_at hl 0 rfl) ?_
      refine h_getr (C := RX10) (T := TX10) (N := 9) hx hb hts inX10 hown hK hT3 (on_w0 hW) rfl 1 rfl wF_X10_19 rfl dX10_on_52 ?_
      refine h_callVv (T := TX5) (rest := []) (As := []) hx hb hml hown hts hK hT3 hZ (fun _ h => h) hS3 (c_X5_startSilence l G Y P (o + 3) (on_wr hW)) trivial wd_X5_startSilence wV_X5_startSilence wL_X10_239 (on_rg (on_wr hW)) rfl rfl hl.1 rfl (Nat.le_of_ble_eq_true rfl) dX10_on_55 ⟨Nat.le_of_ble_eq_true rfl, Nat.le_of_ble_eq_true rfl⟩ ⟨Nat.zero_le _, Nat.zero_le _⟩ (fun H4 locs hp4 hT4 hS4 hk4 => ?_)
      refine lv_aload_n hx hb dX10_on_58 rfl (lv_at hl 0 rfl) ?_
      refine h_callVi (T := TX10) (rest := []) (As := []) hx hb hml hown hts hK hT4 hZ (fun _ h => h) hS4 (c_X10_succeed l G Y P (o) hW) trivial wd_X10_succeed wV_X10_succeed wL_X10_264 (on_w0 hW) rfl rfl hl.1 rfl (Nat.le_of_ble_eq_true rfl) dX10_on_59 ⟨Nat.le_of_ble_eq_true rfl, Nat.le_of_ble_eq_true rfl⟩ ⟨Nat.zero_le _, Nat.zero_le _⟩ (fun r6 H5 locs hp5 hT5 hS5 hk5 => ?_)
      exact hret _ _ _ _ _ hT5 hS5 ⟨hp5.1, ⟨hp5.1, trivial⟩⟩ dX10_on_62
    · skip
      obtain ⟨g7a, g7b⟩ := hp2.2 c5
      refine lv_aload_n hx hb dX10_on_34 rfl (lv_at hl 0 rfl) ?_
      refine lv_iconst (v := 4) hx hb dX10_on_35 (by decide) ?_
      refine h_callVi (T := TX10) (rest := []) (As := [.int 4]) hx hb hml hown hts hK hT0 hZ (fun _ h => h) hS2 (c_X10_refuse l G Y P (o) hW 4) trivial wd_X10_refuse wV_X10_refuse wL_X10_258 (on_w0 hW) rfl rfl hl.1 rfl (Nat.le_of_ble_eq_true rfl) dX10_on_36 ⟨Nat.le_of_ble_eq_true rfl, Nat.le_of_ble_eq_true rfl⟩ ⟨Nat.zero_le _, Nat.zero_le _⟩ (fun r8 H6 locs hp6 hT6 hS6 hk6 => ?_)
      exact hret _ _ _ _ _ hT6 hS6 ⟨hp6.1, ⟨hp6.1, trivial⟩⟩ dX10_on_39
  · skip
    refine lv_aload_n hx hb dX10_on_14 rfl (lv_at hl 0 rfl) ?_
    refine lv_iconst (v := 2) hx hb dX10_on_15 (by decide) ?_
    refine h_callVi (T := TX10) (rest := []) (As := [.int 2]) hx hb hml hown hts hK hT0 hZ (fun _ h => h) hS1 (c_X10_refuse l G Y P (o) hW 2) trivial wd_X10_refuse wV_X10_refuse wL_X10_258 (on_w0 hW) rfl rfl hl.1 rfl (Nat.le_of_ble_eq_true rfl) dX10_on_16 ⟨Nat.le_of_ble_eq_true rfl, Nat.le_of_ble_eq_true rfl⟩ ⟨Nat.zero_le _, Nat.zero_le _⟩ (fun r9 H7 locs hp7 hT7 hS7 hk7 => ?_)
    exact hret _ _ _ _ _ hT7 hS7 ⟨hp7.1, ⟨hp7.1, trivial⟩⟩ dX10_on_19
set_option maxHeartbeats 4000000 in
set_option maxRecDepth 100000 in
theorem c_X10_monitor (l : Launch) (G : hG) (Y : hW) (P : Int32 → Prop) (o : Nat) (hW : h_On Y o (wldE (tC P) o)) (u1 : Int32) : hMi l yX10_monitor cX10_monitor 2 (some .boolean) 1 21 G Y [.ref (o), .int u1] (fun H => True) (fun H r H1 => (r = 0 ∨ r = 1) ∧ True) := by
  refine h_ofz (by decide +kernel) (Nat.le_of_ble_eq_true rfl) ?_
  intro p e s m args below meth c H0 ls Q hx hb hts hown hml hK hZ hT0 hpr hS0 hl hret
  have hl : lv_has ls 2 [(0, .ref (o)), (1, .int u1)] := hl
  refine lv_aload_n hx hb dX10_monitor_0 rfl (lv_at hl 0 rfl) ?_
  refine h_getr (C := RX10) (T := TX10) (N := 9) hx hb hts inX10 hown hK hT0 (on_w0 hW) rfl 1 rfl wF_X10_19 rfl dX10_monitor_1 ?_
  refine h_getr (C := RX5) (T := TX5) (N := 11) hx hb hts inX5 hown hK hT0 (on_rg (on_wr hW)) rfl 0 rfl wF_X10_86 rfl dX10_monitor_4 ?_
  refine lv_iload_n hx hb dX10_monitor_7 rfl (lv_at hl 1 rfl) ?_
  refine h_callVi (T := TX7) (rest := []) (As := [.int u1]) hx hb hml hown hts hK hT0 hZ (fun _ h => h) hS0 (c_X7_exists l G Y P (o + 3 + 1) (on_st (on_wr hW)) u1) trivial wd_X7_exists wV_X7_exists wL_X10_146 ((on_st (on_wr hW)).o rfl) rfl rfl hl.1 rfl (Nat.le_of_ble_eq_true rfl) dX10_monitor_8 ⟨Nat.le_of_ble_eq_true rfl, Nat.le_of_ble_eq_true rfl⟩ ⟨Nat.zero_le _, Nat.zero_le _⟩ (fun r1 H1 locs hp1 hT1 hS1 hk1 => ?_)
  obtain ⟨hp1, he⟩ := hp1
  have he := he.symm
  subst he
  refine lv_if_ne (tgt := 20) hx hb dX10_monitor_11 (by decide) (fun c2 => ?_) (fun c2 => ?_)
  · skip
    obtain ⟨g3a, g3b⟩ := hp1.2 c2
    refine lv_aload_n hx hb dX10_monitor_20 rfl (lv_at hl 0 rfl) ?_
    refine h_getr (C := RX10) (T := TX10) (N := 9) hx hb hts inX10 hown hK hT0 (on_w0 hW) rfl 1 rfl wF_X10_19 rfl dX10_monitor_21 ?_
    refine h_getr (C := RX5) (T := TX5) (N := 11) hx hb hts inX5 hown hK hT0 (on_rg (on_wr hW)) rfl 0 rfl wF_X10_86 rfl dX10_monitor_24 ?_
    refine h_geti (C := RX7) (T := TX7) (N := 9) hx hb hts inX7 hown hK hT0 ((on_st (on_wr hW)).o rfl) rfl 6 rfl wF_X10_102 rfl dX10_monitor_27 (fun p4 => ?_)
    refine lv_topi (fun x5 ex5 => ?_)
    refine lv_iload_n hx hb dX10_monitor_30 rfl (lv_at hl 1 rfl) ?_
    refine lv_icmp_ne (tgt := 40) hx hb dX10_monitor_31 (by decide) (fun c6 => ?_) (fun c6 => ?_)
    · skip
      refine lv_aload_n hx hb dX10_monitor_40 rfl (lv_at hl 0 rfl) ?_
      refine h_getr (C := RX10) (T := TX10) (N := 9) hx hb hts inX10 hown hK hT0 (on_w0 hW) rfl 1 rfl wF_X10_19 rfl dX10_monitor_41 ?_
      refine h_getr (C := RX5) (T := TX5) (N := 11) hx hb hts inX5 hown hK hT0 (on_rg (on_wr hW)) rfl 0 rfl wF_X10_86 rfl dX10_monitor_44 ?_
      refine lv_iload_n hx hb dX10_monitor_47 rfl (lv_at hl 1 rfl) ?_
      refine h_puti (C := RX7) (T := TX7) (N := 9) hx hb hts inX7 tyX7 tyX7_ok nmX7 hown hK hT0 (fun _ h => h) hS1 ((on_st (on_wr hW)).o rfl) rfl 6 rfl wF_X10_102 rfl rfl trivial rfl rfl dX10_monitor_48 (fun H2 locs hT2 hS2 hu2 => ?_)
      refine lv_aload_n hx hb dX10_monitor_51 rfl (lv_at hl 0 rfl) ?_
      refine h_callVi (T := TX10) (rest := []) (As := []) hx hb hml hown hts hK hT2 hZ (fun _ h => h) hS2 (c_X10_succeed l G Y P (o) hW) trivial wd_X10_succeed wV_X10_succeed wL_X10_264 (on_w0 hW) rfl rfl hl.1 rfl (Nat.le_of_ble_eq_true rfl) dX10_monitor_52 ⟨Nat.le_of_ble_eq_true rfl, Nat.le_of_ble_eq_true rfl⟩ ⟨Nat.zero_le _, Nat.zero_le _⟩ (fun r7 H3 locs hp3 hT3 hS3 hk3 => ?_)
      exact hret _ _ _ _ _ hT3 hS3 ⟨hp3.1, ⟨hp3.1, trivial⟩⟩ dX10_monitor_55
    · skip
      refine lv_aload_n hx hb dX10_monitor_34 rfl (lv_at hl 0 rfl) ?_
      refine lv_iconst (v := 4) hx hb dX10_monitor_35 (by decide) ?_
      refine h_callVi (T := TX10) (rest := []) (As := [.int 4]) hx hb hml hown hts hK hT0 hZ (fun _ h => h) hS1 (c_X10_refuse l G Y P (o) hW 4) trivial wd_X10_refuse wV_X10_refuse wL_X10_258 (on_w0 hW) rfl rfl hl.1 rfl (Nat.le_of_ble_eq_true rfl) dX10_monitor_36 ⟨Nat.le_of_ble_eq_true rfl, Nat.le_of_ble_eq_true rfl⟩ ⟨Nat.zero_le _, Nat.zero_le _⟩ (fun r8 H4 locs hp4 hT4 hS4 hk4 => ?_)
      exact hret _ _ _ _ _ hT4 hS4 ⟨hp4.1, ⟨hp4.1, trivial⟩⟩ dX10_monitor_39
  · skip
    refine lv_aload_n hx hb dX10_monitor_14 rfl (lv_at hl 0 rfl) ?_
    refine lv_iconst (v := 2) hx hb dX10_monitor_15 (by decide) ?_
    refine h_callVi (T := TX10) (rest := []) (As := [.int 2]) hx hb hml hown hts hK hT0 hZ (fun _ h => h) hS1 (c_X10_refuse l G Y P (o) hW 2) trivial wd_X10_refuse wV_X10_refuse wL_X10_258 (on_w0 hW) rfl rfl hl.1 rfl (Nat.le_of_ble_eq_true rfl) dX10_monitor_16 ⟨Nat.le_of_ble_eq_true rfl, Nat.le_of_ble_eq_true rfl⟩ ⟨Nat.zero_le _, Nat.zero_le _⟩ (fun r9 H5 locs hp5 hT5 hS5 hk5 => ?_)
    exact hret _ _ _ _ _ hT5 hS5 ⟨hp5.1, ⟨hp5.1, trivial⟩⟩ dX10_monitor_19
set_option maxHeartbeats 4000000 in
set_option maxRecDepth 100000 in
theorem c_X10_lose (l : Launch) (G : hG) (Y : hW) (P : Int32 → Prop) (o : Nat) (hW : h_On Y o (wldE (tC P) o)) : hMi l yX10_lose cX10_lose 1 (some .boolean) 3 66 G Y [.ref (o)] (fun H => True) (fun H r H1 => (r = 0 ∨ r = 1) ∧ True) := by
  refine h_ofz (by decide +kernel) (Nat.le_of_ble_eq_true rfl) ?_
  intro p e s m args below meth c H0 ls Q hx hb hts hown hml hK hZ hT0 hpr hS0 hl hret
  have hl : lv_has ls 1 [(0, .ref (o))] := hl
  refine lv_aload_n hx hb dX10_lose_0 rfl (lv_at hl 0 rfl) ?_
  refine h_getr (C := RX10) (T := TX10) (N := 9) hx hb hts inX10 hown hK hT0 (on_w0 hW) rfl 1 rfl wF_X10_19 rfl dX10_lose_1 ?_
  refine h_getr (C := RX5) (T := TX5) (N := 11) hx hb hts inX5 hown hK hT0 (on_rg (on_wr hW)) rfl 3 rfl wF_X10_120 rfl dX10_lose_4 ?_
  refine h_geti (C := RX9) (T := TX9) (N := 11) hx hb hts inX9 hown hK hT0 ((on_wa (on_wr hW)).o rfl) rfl 0 rfl wF_X10_124 rfl dX10_lose_7 (fun p1 => ?_)
  refine lv_topi (fun x2 ex2 => ?_)
  refine lv_if_ne (tgt := 20) hx hb dX10_lose_10 (by decide) (fun c3 => ?_) (fun c3 => ?_)
  · skip
    refine lv_aload_n hx hb dX10_lose_20 rfl (lv_at hl 0 rfl) ?_
    refine h_getr (C := RX10) (T := TX10) (N := 9) hx hb hts inX10 hown hK hT0 (on_w0 hW) rfl 1 rfl wF_X10_19 rfl dX10_lose_21 ?_
    refine h_callVv (T := TX5) (rest := []) (As := []) hx hb hml hown hts hK hT0 hZ (fun _ h => h) hS0 (c_X5_dropIt l G Y P (o + 3) (on_wr hW)) trivial wd_X5_dropIt wV_X5_dropIt wL_X10_270 (on_rg (on_wr hW)) rfl rfl hl.1 rfl (Nat.le_of_ble_eq_true rfl) dX10_lose_24 ⟨Nat.le_of_ble_eq_true rfl, Nat.le_of_ble_eq_true rfl⟩ ⟨Nat.zero_le _, Nat.zero_le _⟩ (fun H1 locs hp1 hT1 hS1 hk1 => ?_)
    refine lv_aload_n hx hb dX10_lose_27 rfl (lv_at hl 0 rfl) ?_
    refine h_callVi (T := TX10) (rest := []) (As := []) hx hb hml hown hts hK hT1 hZ (fun _ h => h) hS1 (c_X10_succeed l G Y P (o) hW) trivial wd_X10_succeed wV_X10_succeed wL_X10_264 (on_w0 hW) rfl rfl hl.1 rfl (Nat.le_of_ble_eq_true rfl) dX10_lose_28 ⟨Nat.le_of_ble_eq_true rfl, Nat.le_of_ble_eq_true rfl⟩ ⟨Nat.zero_le _, Nat.zero_le _⟩ (fun r4 H2 locs hp2 hT2 hS2 hk2 => ?_)
    exact hret _ _ _ _ _ hT2 hS2 ⟨hp2.1, ⟨hp2.1, trivial⟩⟩ dX10_lose_31
  · skip
    refine lv_aload_n hx hb dX10_lose_13 rfl (lv_at hl 0 rfl) ?_
    refine lv_bipush (v := 6) hx hb dX10_lose_14 (by decide) ?_
    refine h_callVi (T := TX10) (rest := []) (As := [.int 6]) hx hb hml hown hts hK hT0 hZ (fun _ h => h) hS0 (c_X10_refuse l G Y P (o) hW 6) trivial wd_X10_refuse wV_X10_refuse wL_X10_258 (on_w0 hW) rfl rfl hl.1 rfl (Nat.le_of_ble_eq_true rfl) dX10_lose_16 ⟨Nat.le_of_ble_eq_true rfl, Nat.le_of_ble_eq_true rfl⟩ ⟨Nat.zero_le _, Nat.zero_le _⟩ (fun r5 H3 locs hp3 hT3 hS3 hk3 => ?_)
    exact hret _ _ _ _ _ hT3 hS3 ⟨hp3.1, ⟨hp3.1, trivial⟩⟩ dX10_lose_19
set_option maxHeartbeats 4000000 in
set_option maxRecDepth 100000 in
theorem c_X10_snap (l : Launch) (G : hG) (Y : hW) (P : Int32 → Prop) (o : Nat) (hW : h_On Y o (wldE (tC P) o)) (u1 u2 : Int32) : hMi l yX10_snap cX10_snap 3 (some .boolean) 2 40 G Y [.ref (o), .int u1, .int u2] (fun H => True) (fun H r H1 => (r = 0 ∨ r = 1) ∧ True) := by
  refine h_ofz (by decide +kernel) (Nat.le_of_ble_eq_true rfl) ?_
  intro p e s m args below meth c H0 ls Q hx hb hts hown hml hK hZ hT0 hpr hS0 hl hret
  have hl : lv_has ls 3 [(0, .ref (o)), (1, .int u1), (2, .int u2)] := hl
  refine lv_iload_n hx hb dX10_snap_0 rfl (lv_at hl 2 rfl) ?_
  refine lv_if_lt (tgt := 9) hx hb dX10_snap_1 (by decide) (fun c1 => ?_) (fun c1 => ?_)
  · skip
    refine lv_aload_n hx hb dX10_snap_9 rfl (lv_at hl 0 rfl) ?_
    refine lv_iconst (v := 1) hx hb dX10_snap_10 (by decide) ?_
    refine h_callVi (T := TX10) (rest := []) (As := [.int 1]) hx hb hml hown hts hK hT0 hZ (fun _ h => h) hS0 (c_X10_refuse l G Y P (o) hW 1) trivial wd_X10_refuse wV_X10_refuse wL_X10_258 (on_w0 hW) rfl rfl hl.1 rfl (Nat.le_of_ble_eq_true rfl) dX10_snap_11 ⟨Nat.le_of_ble_eq_true rfl, Nat.le_of_ble_eq_true rfl⟩ ⟨Nat.zero_le _, Nat.zero_le _⟩ (fun r2 H1 locs hp1 hT1 hS1 hk1 => ?_)
    exact hret _ _ _ _ _ hT1 hS1 ⟨hp1.1, ⟨hp1.1, trivial⟩⟩ dX10_snap_14
  · skip
    refine lv_iload_n hx hb dX10_snap_4 rfl (lv_at hl 2 rfl) ?_
    refine lv_iconst (v := 3) hx hb dX10_snap_5 (by decide) ?_
    refine lv_icmp_lt (tgt := 15) hx hb dX10_snap_6 (by decide) (fun c3 => ?_) (fun c3 => ?_)
    · skip
      refine lv_aload_n hx hb dX10_snap_15 rfl (lv_at hl 0 rfl) ?_
      refine h_getr (C := RX10) (T := TX10) (N := 9) hx hb hts inX10 hown hK hT0 (on_w0 hW) rfl 1 rfl wF_X10_19 rfl dX10_snap_16 ?_
      refine h_getr (C := RX5) (T := TX5) (N := 11) hx hb hts inX5 hown hK hT0 (on_rg (on_wr hW)) rfl 0 rfl wF_X10_86 rfl dX10_snap_19 ?_
      refine lv_iload_n hx hb dX10_snap_22 rfl (lv_at hl 1 rfl) ?_
      refine h_callVi (T := TX7) (rest := []) (As := [.int u1]) hx hb hml hown hts hK hT0 hZ (fun _ h => h) hS0 (c_X7_exists l G Y P (o + 3 + 1) (on_st (on_wr hW)) u1) trivial wd_X7_exists wV_X7_exists wL_X10_146 ((on_st (on_wr hW)).o rfl) rfl rfl hl.1 rfl (Nat.le_of_ble_eq_true rfl) dX10_snap_23 ⟨Nat.le_of_ble_eq_true rfl, Nat.le_of_ble_eq_true rfl⟩ ⟨Nat.zero_le _, Nat.zero_le _⟩ (fun r4 H2 locs hp2 hT2 hS2 hk2 => ?_)
      obtain ⟨hp2, he⟩ := hp2
      have he := he.symm
      subst he
      refine lv_if_ne (tgt := 35) hx hb dX10_snap_26 (by decide) (fun c5 => ?_) (fun c5 => ?_)
      · skip
        obtain ⟨g6a, g6b⟩ := hp2.2 c5
        refine lv_aload_n hx hb dX10_snap_35 rfl (lv_at hl 0 rfl) ?_
        refine h_getr (C := RX10) (T := TX10) (N := 9) hx hb hts inX10 hown hK hT0 (on_w0 hW) rfl 1 rfl wF_X10_19 rfl dX10_snap_36 ?_
        refine h_getr (C := RX5) (T := TX5) (N := 11) hx hb hts inX5 hown hK hT0 (on_rg (on_wr hW)) rfl 0 rfl wF_X10_86 rfl dX10_snap_39 ?_
        refine h_geti (C := RX7) (T := TX7) (N := 9) hx hb hts inX7 hown hK hT0 ((on_st (on_wr hW)).o rfl) rfl 7 rfl wF_X10_140 rfl dX10_snap_42 (fun p7 => ?_)
        refine lv_topi (fun x8 ex8 => ?_)
        refine lv_iconst (v := (-1)) hx hb dX10_snap_45 (by decide) ?_
        refine lv_icmp_eq (tgt := 55) hx hb dX10_snap_46 (by decide) (fun c9 => ?_) (fun c9 => ?_)
        · skip
          refine lv_aload_n hx hb dX10_snap_55 rfl (lv_at hl 0 rfl) ?_
          refine h_getr (C := RX10) (T := TX10) (N := 9) hx hb hts inX10 hown hK hT0 (on_w0 hW) rfl 1 rfl wF_X10_19 rfl dX10_snap_56 ?_
          refine h_getr (C := RX5) (T := TX5) (N := 11) hx hb hts inX5 hown hK hT0 (on_rg (on_wr hW)) rfl 0 rfl wF_X10_86 rfl dX10_snap_59 ?_
          refine lv_iload_n hx hb dX10_snap_62 rfl (lv_at hl 1 rfl) ?_
          refine lv_iload_n hx hb dX10_snap_63 rfl (lv_at hl 2 rfl) ?_
          refine h_callVv (T := TX7) (rest := []) (As := [.int u1, .int u2]) hx hb hml hown hts hK hT0 hZ (fun _ h => h) hS2 (c_X7_setBreak l G Y P (o + 3 + 1) (on_st (on_wr hW)) u1 u2) trivial wd_X7_setBreak wV_X7_setBreak wL_X10_273 ((on_st (on_wr hW)).o rfl) rfl rfl hl.1 rfl (Nat.le_of_ble_eq_true rfl) dX10_snap_64 ⟨Nat.le_of_ble_eq_true rfl, Nat.le_of_ble_eq_true rfl⟩ ⟨Nat.zero_le _, Nat.zero_le _⟩ (fun H3 locs hp3 hT3 hS3 hk3 => ?_)
          refine lv_aload_n hx hb dX10_snap_67 rfl (lv_at hl 0 rfl) ?_
          refine h_getr (C := RX10) (T := TX10) (N := 9) hx hb hts inX10 hown hK hT3 (on_w0 hW) rfl 1 rfl wF_X10_19 rfl dX10_snap_68 ?_
          refine h_callVv (T := TX5) (rest := []) (As := []) hx hb hml hown hts hK hT3 hZ (fun _ h => h) hS3 (c_X5_startSilence l G Y P (o + 3) (on_wr hW)) trivial wd_X5_startSilence wV_X5_startSilence wL_X10_239 (on_rg (on_wr hW)) rfl rfl hl.1 rfl (Nat.le_of_ble_eq_true rfl) dX10_snap_71 ⟨Nat.le_of_ble_eq_true rfl, Nat.le_of_ble_eq_true rfl⟩ ⟨Nat.zero_le _, Nat.zero_le _⟩ (fun H4 locs hp4 hT4 hS4 hk4 => ?_)
          refine lv_aload_n hx hb dX10_snap_74 rfl (lv_at hl 0 rfl) ?_
          refine h_callVi (T := TX10) (rest := []) (As := []) hx hb hml hown hts hK hT4 hZ (fun _ h => h) hS4 (c_X10_succeed l G Y P (o) hW) trivial wd_X10_succeed wV_X10_succeed wL_X10_264 (on_w0 hW) rfl rfl hl.1 rfl (Nat.le_of_ble_eq_true rfl) dX10_snap_75 ⟨Nat.le_of_ble_eq_true rfl, Nat.le_of_ble_eq_true rfl⟩ ⟨Nat.zero_le _, Nat.zero_le _⟩ (fun r10 H5 locs hp5 hT5 hS5 hk5 => ?_)
          exact hret _ _ _ _ _ hT5 hS5 ⟨hp5.1, ⟨hp5.1, trivial⟩⟩ dX10_snap_78
        · skip
          refine lv_aload_n hx hb dX10_snap_49 rfl (lv_at hl 0 rfl) ?_
          refine lv_iconst (v := 3) hx hb dX10_snap_50 (by decide) ?_
          refine h_callVi (T := TX10) (rest := []) (As := [.int 3]) hx hb hml hown hts hK hT0 hZ (fun _ h => h) hS2 (c_X10_refuse l G Y P (o) hW 3) trivial wd_X10_refuse wV_X10_refuse wL_X10_258 (on_w0 hW) rfl rfl hl.1 rfl (Nat.le_of_ble_eq_true rfl) dX10_snap_51 ⟨Nat.le_of_ble_eq_true rfl, Nat.le_of_ble_eq_true rfl⟩ ⟨Nat.zero_le _, Nat.zero_le _⟩ (fun r11 H6 locs hp6 hT6 hS6 hk6 => ?_)
          exact hret _ _ _ _ _ hT6 hS6 ⟨hp6.1, ⟨hp6.1, trivial⟩⟩ dX10_snap_54
      · skip
        refine lv_aload_n hx hb dX10_snap_29 rfl (lv_at hl 0 rfl) ?_
        refine lv_iconst (v := 2) hx hb dX10_snap_30 (by decide) ?_
        refine h_callVi (T := TX10) (rest := []) (As := [.int 2]) hx hb hml hown hts hK hT0 hZ (fun _ h => h) hS2 (c_X10_refuse l G Y P (o) hW 2) trivial wd_X10_refuse wV_X10_refuse wL_X10_258 (on_w0 hW) rfl rfl hl.1 rfl (Nat.le_of_ble_eq_true rfl) dX10_snap_31 ⟨Nat.le_of_ble_eq_true rfl, Nat.le_of_ble_eq_true rfl⟩ ⟨Nat.zero_le _, Nat.zero_le _⟩ (fun r12 H7 locs hp7 hT7 hS7 hk7 => ?_)
        exact hret _ _ _ _ _ hT7 hS7 ⟨hp7.1, ⟨hp7.1, trivial⟩⟩ dX10_snap_34
    · skip
      refine lv_aload_n hx hb dX10_snap_9 rfl (lv_at hl 0 rfl) ?_
      refine lv_iconst (v := 1) hx hb dX10_snap_10 (by decide) ?_
      refine h_callVi (T := TX10) (rest := []) (As := [.int 1]) hx hb hml hown hts hK hT0 hZ (fun _ h => h) hS0 (c_X10_refuse l G Y P (o) hW 1) trivial wd_X10_refuse wV_X10_refuse wL_X10_258 (on_w0 hW) rfl rfl hl.1 rfl (Nat.le_of_ble_eq_true rfl) dX10_snap_11 ⟨Nat.le_of_ble_eq_true rfl, Nat.le_of_ble_eq_true rfl⟩ ⟨Nat.zero_le _, Nat.zero_le _⟩ (fun r13 H8 locs hp8 hT8 hS8 hk8 => ?_)
      exact hret _ _ _ _ _ hT8 hS8 ⟨hp8.1, ⟨hp8.1, trivial⟩⟩ dX10_snap_14
set_option maxHeartbeats 4000000 in
set_option maxRecDepth 100000 in
theorem c_X10_mend (l : Launch) (G : hG) (Y : hW) (P : Int32 → Prop) (o : Nat) (hW : h_On Y o (wldE (tC P) o)) : hMi l yX10_mend cX10_mend 1 (some .boolean) 2 40 G Y [.ref (o)] (fun H => True) (fun H r H1 => (r = 0 ∨ r = 1) ∧ True) := by
  refine h_ofz (by decide +kernel) (Nat.le_of_ble_eq_true rfl) ?_
  intro p e s m args below meth c H0 ls Q hx hb hts hown hml hK hZ hT0 hpr hS0 hl hret
  have hl : lv_has ls 1 [(0, .ref (o))] := hl
  refine lv_aload_n hx hb dX10_mend_0 rfl (lv_at hl 0 rfl) ?_
  refine h_getr (C := RX10) (T := TX10) (N := 9) hx hb hts inX10 hown hK hT0 (on_w0 hW) rfl 1 rfl wF_X10_19 rfl dX10_mend_1 ?_
  refine h_getr (C := RX5) (T := TX5) (N := 11) hx hb hts inX5 hown hK hT0 (on_rg (on_wr hW)) rfl 0 rfl wF_X10_86 rfl dX10_mend_4 ?_
  refine h_geti (C := RX7) (T := TX7) (N := 9) hx hb hts inX7 hown hK hT0 ((on_st (on_wr hW)).o rfl) rfl 7 rfl wF_X10_140 rfl dX10_mend_7 (fun p1 => ?_)
  refine lv_topi (fun x2 ex2 => ?_)
  refine lv_iconst (v := (-1)) hx hb dX10_mend_10 (by decide) ?_
  refine lv_icmp_ne (tgt := 20) hx hb dX10_mend_11 (by decide) (fun c3 => ?_) (fun c3 => ?_)
  · skip
    refine lv_aload_n hx hb dX10_mend_20 rfl (lv_at hl 0 rfl) ?_
    refine h_getr (C := RX10) (T := TX10) (N := 9) hx hb hts inX10 hown hK hT0 (on_w0 hW) rfl 1 rfl wF_X10_19 rfl dX10_mend_21 ?_
    refine h_getr (C := RX5) (T := TX5) (N := 11) hx hb hts inX5 hown hK hT0 (on_rg (on_wr hW)) rfl 0 rfl wF_X10_86 rfl dX10_mend_24 ?_
    refine lv_iconst (v := (-1)) hx hb dX10_mend_27 (by decide) ?_
    refine lv_iconst (v := (-1)) hx hb dX10_mend_28 (by decide) ?_
    refine h_callVv (T := TX7) (rest := []) (As := [.int (-1), .int (-1)]) hx hb hml hown hts hK hT0 hZ (fun _ h => h) hS0 (c_X7_setBreak l G Y P (o + 3 + 1) (on_st (on_wr hW)) (-1) (-1)) trivial wd_X7_setBreak wV_X7_setBreak wL_X10_273 ((on_st (on_wr hW)).o rfl) rfl rfl hl.1 rfl (Nat.le_of_ble_eq_true rfl) dX10_mend_29 ⟨Nat.le_of_ble_eq_true rfl, Nat.le_of_ble_eq_true rfl⟩ ⟨Nat.zero_le _, Nat.zero_le _⟩ (fun H1 locs hp1 hT1 hS1 hk1 => ?_)
    refine lv_aload_n hx hb dX10_mend_32 rfl (lv_at hl 0 rfl) ?_
    refine h_getr (C := RX10) (T := TX10) (N := 9) hx hb hts inX10 hown hK hT1 (on_w0 hW) rfl 1 rfl wF_X10_19 rfl dX10_mend_33 ?_
    refine h_callVv (T := TX5) (rest := []) (As := []) hx hb hml hown hts hK hT1 hZ (fun _ h => h) hS1 (c_X5_startSilence l G Y P (o + 3) (on_wr hW)) trivial wd_X5_startSilence wV_X5_startSilence wL_X10_239 (on_rg (on_wr hW)) rfl rfl hl.1 rfl (Nat.le_of_ble_eq_true rfl) dX10_mend_36 ⟨Nat.le_of_ble_eq_true rfl, Nat.le_of_ble_eq_true rfl⟩ ⟨Nat.zero_le _, Nat.zero_le _⟩ (fun H2 locs hp2 hT2 hS2 hk2 => ?_)
    refine lv_aload_n hx hb dX10_mend_39 rfl (lv_at hl 0 rfl) ?_
    refine h_callVi (T := TX10) (rest := []) (As := []) hx hb hml hown hts hK hT2 hZ (fun _ h => h) hS2 (c_X10_succeed l G Y P (o) hW) trivial wd_X10_succeed wV_X10_succeed wL_X10_264 (on_w0 hW) rfl rfl hl.1 rfl (Nat.le_of_ble_eq_true rfl) dX10_mend_40 ⟨Nat.le_of_ble_eq_true rfl, Nat.le_of_ble_eq_true rfl⟩ ⟨Nat.zero_le _, Nat.zero_le _⟩ (fun r4 H3 locs hp3 hT3 hS3 hk3 => ?_)
    exact hret _ _ _ _ _ hT3 hS3 ⟨hp3.1, ⟨hp3.1, trivial⟩⟩ dX10_mend_43
  · skip
    refine lv_aload_n hx hb dX10_mend_14 rfl (lv_at hl 0 rfl) ?_
    refine lv_iconst (v := 5) hx hb dX10_mend_15 (by decide) ?_
    refine h_callVi (T := TX10) (rest := []) (As := [.int 5]) hx hb hml hown hts hK hT0 hZ (fun _ h => h) hS0 (c_X10_refuse l G Y P (o) hW 5) trivial wd_X10_refuse wV_X10_refuse wL_X10_258 (on_w0 hW) rfl rfl hl.1 rfl (Nat.le_of_ble_eq_true rfl) dX10_mend_16 ⟨Nat.le_of_ble_eq_true rfl, Nat.le_of_ble_eq_true rfl⟩ ⟨Nat.zero_le _, Nat.zero_le _⟩ (fun r5 H4 locs hp4 hT4 hS4 hk4 => ?_)
    exact hret _ _ _ _ _ hT4 hS4 ⟨hp4.1, ⟨hp4.1, trivial⟩⟩ dX10_mend_19
set_option maxHeartbeats 4000000 in
set_option maxRecDepth 100000 in
theorem c_X10_tick (l : Launch) (G : hG) (Y : hW) (P : Int32 → Prop) (o : Nat) (hW : h_On Y o (wldE (tC P) o)) (u1 : Int32) : hMi l yX10_tick cX10_tick 3 (some .int) 6 135 G Y [.ref (o), .int u1] (fun H => True) (fun H r H1 => True) := by
  refine h_ofi (by decide +kernel) (Nat.le_of_ble_eq_true rfl) ?_
  intro p e s m args below meth c H0 ls Q hx hb hts hown hml hK hZ hT0 hpr hS0 hl hret
  have hl : lv_has ls 3 [(0, .ref (o)), (1, .int u1)] := hl
  refine lv_iload_n hx hb dX10_tick_0 rfl (lv_at hl 1 rfl) ?_
  refine lv_iconst (v := 1) hx hb dX10_tick_1 (by decide) ?_
  refine lv_icmp_lt (tgt := 12) hx hb dX10_tick_2 (by decide) (fun c1 => ?_) (fun c1 => ?_)
  · skip
    refine lv_aload_n hx hb dX10_tick_12 rfl (lv_at hl 0 rfl) ?_
    refine lv_iconst (v := 1) hx hb dX10_tick_13 (by decide) ?_
    refine h_callVi (T := TX10) (rest := []) (As := [.int 1]) hx hb hml hown hts hK hT0 hZ (fun _ h => h) hS0 (c_X10_fail l G Y P (o) hW 1) trivial wd_X10_fail wV_X10_fail wL_X10_66 (on_w0 hW) rfl rfl hl.1 rfl (Nat.le_of_ble_eq_true rfl) dX10_tick_14 ⟨Nat.le_of_ble_eq_true rfl, Nat.le_of_ble_eq_true rfl⟩ ⟨Nat.zero_le _, Nat.zero_le _⟩ (fun r2 H1 locs hp1 hT1 hS1 hk1 => ?_)
    obtain ⟨hq, hp1⟩ := hp1
    have hq : r2 = (-1) := hq
    subst hq
    exact hret _ _ _ _ _ hT1 hS1 trivial dX10_tick_17
  · skip
    refine lv_iload_n hx hb dX10_tick_5 rfl (lv_at hl 1 rfl) ?_
    refine lv_sipush (v := 500) hx hb dX10_tick_6 (by decide) ?_
    refine lv_icmp_le (tgt := 18) hx hb dX10_tick_9 (by decide) (fun c3 => ?_) (fun c3 => ?_)
    · skip
      refine lv_iconst (v := 0) hx hb dX10_tick_18 (by decide) ?_
      refine lv_istore_n (lv' := [(2, .int 0), (0, .ref (o)), (1, .int u1)]) hx hb dX10_tick_19 rfl hl (by decide) rfl (fun ls hl => ?_)
      have LP1 : ∀ (n1 : Nat) (w1_2 : Int32), 2147483647 - w1_2.toInt < (n1 : Int) → 0 ≤ w1_2.toInt → ∀ (H2 : Heap) (locs : List Loc) (ls : Array Slot), hT G Y H2 → va_S (h_A Y) s.heap H2 locs → lv_has ls 3 [(2, .int w1_2), (0, .ref (o)), (1, .int u1)] → W p l e (h_rm 6 135) s m args below meth c H2 locs 0 0 Q (F0 m 20 ls []) := by
        intro n1
        induction n1 with
        | zero =>
          intro w1_2 hm
          exact absurd hm (by have := Int32.toInt_lt w1_2; have := Int32.le_toInt w1_2; omega)
        | succ n1 ih1 =>
          intro w1_2 hm1 hz1 H2 locs ls hT2 hS2 hl
          refine lv_iload_n hx hb dX10_tick_20 rfl (lv_at hl 0 rfl) ?_
          refine lv_iload_n hx hb dX10_tick_21 rfl (lv_at hl 2 rfl) ?_
          refine lv_icmp_ge (tgt := 39) hx hb dX10_tick_22 (by decide) (fun c4 => ?_) (fun c4 => ?_)
          · skip
            refine lv_aload_n hx hb dX10_tick_39 rfl (lv_at hl 1 rfl) ?_
            refine lv_aload_n hx hb dX10_tick_40 rfl (lv_at hl 1 rfl) ?_
            refine h_getr (C := RX10) (T := TX10) (N := 9) hx hb hts inX10 hown hK hT2 (on_w0 hW) rfl 1 rfl wF_X10_19 rfl dX10_tick_41 ?_
            refine h_geti (C := RX5) (T := TX5) (N := 11) hx hb hts inX5 hown hK hT2 (on_rg (on_wr hW)) rfl 6 rfl wF_X10_117 rfl dX10_tick_44 (fun p5 => ?_)
            refine lv_topi (fun x6 ex6 => ?_)
            refine h_callVi (T := TX10) (rest := []) (As := [.int x6]) hx hb hml hown hts hK hT2 hZ (fun _ h => h) hS2 (c_X10_give l G Y P (o) hW x6) trivial wd_X10_give wV_X10_give wL_X10_95 (on_w0 hW) rfl rfl hl.1 rfl (Nat.le_of_ble_eq_true rfl) dX10_tick_47 ⟨Nat.le_of_ble_eq_true rfl, Nat.le_of_ble_eq_true rfl⟩ ⟨Nat.zero_le _, Nat.zero_le _⟩ (fun r7 H3 locs hp3 hT3 hS3 hk3 => ?_)
            obtain ⟨hq, hp3⟩ := hp3
            have hq : r7 = x6 := hq
            subst hq
            exact hret _ _ _ _ _ hT3 hS3 trivial dX10_tick_50
          · skip
            refine lv_aload_n hx hb dX10_tick_25 rfl (lv_at hl 1 rfl) ?_
            refine h_getr (C := RX10) (T := TX10) (N := 9) hx hb hts inX10 hown hK hT2 (on_w0 hW) rfl 1 rfl wF_X10_19 rfl dX10_tick_26 ?_
            refine lv_iconst (v := 0) hx hb dX10_tick_29 (by decide) ?_
            refine h_callVv (T := TX5) (rest := []) (As := [.int 0]) hx hb hml hown hts hK hT2 hZ (fun _ h => h) hS2 (c_X5_passTick l G Y P (o + 3) (on_wr hW) 0) trivial wd_X5_passTick wV_X5_passTick wL_X10_277 (on_rg (on_wr hW)) rfl rfl hl.1 rfl (Nat.le_of_ble_eq_true rfl) dX10_tick_30 ⟨Nat.le_of_ble_eq_true rfl, Nat.le_of_ble_eq_true rfl⟩ ⟨Nat.zero_le _, Nat.zero_le _⟩ (fun H4 locs hp4 hT4 hS4 hk4 => ?_)
            obtain ⟨x8, ex8⟩ : ∃ y : Int32, y = w1_2 + 1 := ⟨_, rfl⟩
            refine lv_iinc (v := x8) (lv' := [(2, .int x8), (0, .ref (o)), (1, .int u1)]) hx hb dX10_tick_33 hl (k := 0) rfl (by rw [ex8]; rfl) (by decide) rfl (fun ls hl => ?_)
            refine lv_goto (tgt := 20) hx hb dX10_tick_36 (by decide) ?_
            exact ih1 x8 (h_dn hm1 ex8 (by first | exact h_lu c4 | exact h_lu2 c4 | ((try simp only [Int32.lt_iff_toInt_lt, Int32.le_iff_toInt_le, ← Int32.toInt_inj, Int32.reduceToInt, (show (-1 : Int32).toInt = -1 from rfl)] at c4 ⊢); omega))) (h_nn hz1 ex8 (by first | exact h_lu c4 | exact h_lu2 c4 | ((try simp only [Int32.lt_iff_toInt_lt, Int32.le_iff_toInt_le, ← Int32.toInt_inj, Int32.reduceToInt, (show (-1 : Int32).toInt = -1 from rfl)] at c4 ⊢); omega))) _ _ _ hT4 hS4 (lv_sub hl [0, 1, 2] rfl)
      exact LP1 4294967296 0 (h_m0 _) (by decide) _ _ _ hT0 hS0 (lv_sub hl [0, 1, 2] rfl)
    · skip
      refine lv_aload_n hx hb dX10_tick_12 rfl (lv_at hl 0 rfl) ?_
      refine lv_iconst (v := 1) hx hb dX10_tick_13 (by decide) ?_
      refine h_callVi (T := TX10) (rest := []) (As := [.int 1]) hx hb hml hown hts hK hT0 hZ (fun _ h => h) hS0 (c_X10_fail l G Y P (o) hW 1) trivial wd_X10_fail wV_X10_fail wL_X10_66 (on_w0 hW) rfl rfl hl.1 rfl (Nat.le_of_ble_eq_true rfl) dX10_tick_14 ⟨Nat.le_of_ble_eq_true rfl, Nat.le_of_ble_eq_true rfl⟩ ⟨Nat.zero_le _, Nat.zero_le _⟩ (fun r9 H5 locs hp5 hT5 hS5 hk5 => ?_)
      obtain ⟨hq, hp5⟩ := hp5
      have hq : r9 = (-1) := hq
      subst hq
      exact hret _ _ _ _ _ hT5 hS5 trivial dX10_tick_17
set_option maxHeartbeats 4000000 in
set_option maxRecDepth 100000 in
theorem c_X10_run (l : Launch) (G : hG) (Y : hW) (P : Int32 → Prop) (o : Nat) (hW : h_On Y o (wldE (tC P) o)) (u1 u2 u3 : Int32) : hMi l yX10_run cX10_run 7 (some .int) 6 135 G Y [.ref (o), .int u1, .int u2, .int u3] (fun H => True) (fun H r H1 => True) := by
  refine h_ofi (by decide +kernel) (Nat.le_of_ble_eq_true rfl) ?_
  intro p e s m args below meth c H0 ls Q hx hb hts hown hml hK hZ hT0 hpr hS0 hl hret
  have hl : lv_has ls 7 [(0, .ref (o)), (1, .int u1), (2, .int u2), (3, .int u3)] := hl
  refine lv_iload_n hx hb dX10_run_0 rfl (lv_at hl 1 rfl) ?_
  refine lv_iconst (v := 1) hx hb dX10_run_1 (by decide) ?_
  refine lv_icmp_lt (tgt := 33) hx hb dX10_run_2 (by decide) (fun c1 => ?_) (fun c1 => ?_)
  · skip
    refine lv_aload_n hx hb dX10_run_33 rfl (lv_at hl 0 rfl) ?_
    refine lv_iconst (v := 1) hx hb dX10_run_34 (by decide) ?_
    refine h_callVi (T := TX10) (rest := []) (As := [.int 1]) hx hb hml hown hts hK hT0 hZ (fun _ h => h) hS0 (c_X10_fail l G Y P (o) hW 1) trivial wd_X10_fail wV_X10_fail wL_X10_66 (on_w0 hW) rfl rfl hl.1 rfl (Nat.le_of_ble_eq_true rfl) dX10_run_35 ⟨Nat.le_of_ble_eq_true rfl, Nat.le_of_ble_eq_true rfl⟩ ⟨Nat.zero_le _, Nat.zero_le _⟩ (fun r2 H1 locs hp1 hT1 hS1 hk1 => ?_)
    obtain ⟨hq, hp1⟩ := hp1
    have hq : r2 = (-1) := hq
    subst hq
    exact hret _ _ _ _ _ hT1 hS1 trivial dX10_run_38
  · skip
    refine lv_iload_n hx hb dX10_run_5 rfl (lv_at hl 1 rfl) ?_
    refine lv_sipush (v := 500) hx hb dX10_run_6 (by decide) ?_
    refine lv_icmp_gt (tgt := 33) hx hb dX10_run_9 (by decide) (fun c3 => ?_) (fun c3 => ?_)
    · skip
      refine lv_aload_n hx hb dX10_run_33 rfl (lv_at hl 0 rfl) ?_
      refine lv_iconst (v := 1) hx hb dX10_run_34 (by decide) ?_
      refine h_callVi (T := TX10) (rest := []) (As := [.int 1]) hx hb hml hown hts hK hT0 hZ (fun _ h => h) hS0 (c_X10_fail l G Y P (o) hW 1) trivial wd_X10_fail wV_X10_fail wL_X10_66 (on_w0 hW) rfl rfl hl.1 rfl (Nat.le_of_ble_eq_true rfl) dX10_run_35 ⟨Nat.le_of_ble_eq_true rfl, Nat.le_of_ble_eq_true rfl⟩ ⟨Nat.zero_le _, Nat.zero_le _⟩ (fun r4 H2 locs hp2 hT2 hS2 hk2 => ?_)
      obtain ⟨hq, hp2⟩ := hp2
      have hq : r4 = (-1) := hq
      subst hq
      exact hret _ _ _ _ _ hT2 hS2 trivial dX10_run_38
    · skip
      refine lv_iload_n hx hb dX10_run_12 rfl (lv_at hl 2 rfl) ?_
      refine lv_if_lt (tgt := 33) hx hb dX10_run_13 (by decide) (fun c5 => ?_) (fun c5 => ?_)
      · skip
        refine lv_aload_n hx hb dX10_run_33 rfl (lv_at hl 0 rfl) ?_
        refine lv_iconst (v := 1) hx hb dX10_run_34 (by decide) ?_
        refine h_callVi (T := TX10) (rest := []) (As := [.int 1]) hx hb hml hown hts hK hT0 hZ (fun _ h => h) hS0 (c_X10_fail l G Y P (o) hW 1) trivial wd_X10_fail wV_X10_fail wL_X10_66 (on_w0 hW) rfl rfl hl.1 rfl (Nat.le_of_ble_eq_true rfl) dX10_run_35 ⟨Nat.le_of_ble_eq_true rfl, Nat.le_of_ble_eq_true rfl⟩ ⟨Nat.zero_le _, Nat.zero_le _⟩ (fun r6 H3 locs hp3 hT3 hS3 hk3 => ?_)
        obtain ⟨hq, hp3⟩ := hp3
        have hq : r6 = (-1) := hq
        subst hq
        exact hret _ _ _ _ _ hT3 hS3 trivial dX10_run_38
      · skip
        refine lv_iload_n hx hb dX10_run_16 rfl (lv_at hl 2 rfl) ?_
        refine lv_sipush (v := 9999) hx hb dX10_run_17 (by decide) ?_
        refine lv_icmp_gt (tgt := 33) hx hb dX10_run_20 (by decide) (fun c7 => ?_) (fun c7 => ?_)
        · skip
          refine lv_aload_n hx hb dX10_run_33 rfl (lv_at hl 0 rfl) ?_
          refine lv_iconst (v := 1) hx hb dX10_run_34 (by decide) ?_
          refine h_callVi (T := TX10) (rest := []) (As := [.int 1]) hx hb hml hown hts hK hT0 hZ (fun _ h => h) hS0 (c_X10_fail l G Y P (o) hW 1) trivial wd_X10_fail wV_X10_fail wL_X10_66 (on_w0 hW) rfl rfl hl.1 rfl (Nat.le_of_ble_eq_true rfl) dX10_run_35 ⟨Nat.le_of_ble_eq_true rfl, Nat.le_of_ble_eq_true rfl⟩ ⟨Nat.zero_le _, Nat.zero_le _⟩ (fun r8 H4 locs hp4 hT4 hS4 hk4 => ?_)
          obtain ⟨hq, hp4⟩ := hp4
          have hq : r8 = (-1) := hq
          subst hq
          exact hret _ _ _ _ _ hT4 hS4 trivial dX10_run_38
        · skip
          refine lv_iload_n hx hb dX10_run_23 rfl (lv_at hl 3 rfl) ?_
          refine lv_if_lt (tgt := 33) hx hb dX10_run_24 (by decide) (fun c9 => ?_) (fun c9 => ?_)
          · skip
            refine lv_aload_n hx hb dX10_run_33 rfl (lv_at hl 0 rfl) ?_
            refine lv_iconst (v := 1) hx hb dX10_run_34 (by decide) ?_
            refine h_callVi (T := TX10) (rest := []) (As := [.int 1]) hx hb hml hown hts hK hT0 hZ (fun _ h => h) hS0 (c_X10_fail l G Y P (o) hW 1) trivial wd_X10_fail wV_X10_fail wL_X10_66 (on_w0 hW) rfl rfl hl.1 rfl (Nat.le_of_ble_eq_true rfl) dX10_run_35 ⟨Nat.le_of_ble_eq_true rfl, Nat.le_of_ble_eq_true rfl⟩ ⟨Nat.zero_le _, Nat.zero_le _⟩ (fun r10 H5 locs hp5 hT5 hS5 hk5 => ?_)
            obtain ⟨hq, hp5⟩ := hp5
            have hq : r10 = (-1) := hq
            subst hq
            exact hret _ _ _ _ _ hT5 hS5 trivial dX10_run_38
          · skip
            refine lv_iload_n hx hb dX10_run_27 rfl (lv_at hl 3 rfl) ?_
            refine lv_bipush (v := 16) hx hb dX10_run_28 (by decide) ?_
            refine lv_icmp_le (tgt := 39) hx hb dX10_run_30 (by decide) (fun c11 => ?_) (fun c11 => ?_)
            · skip
              refine lv_aload_n hx hb dX10_run_39 rfl (lv_at hl 0 rfl) ?_
              refine h_getr (C := RX10) (T := TX10) (N := 9) hx hb hts inX10 hown hK hT0 (on_w0 hW) rfl 1 rfl wF_X10_19 rfl dX10_run_40 ?_
              refine h_getr (C := RX5) (T := TX5) (N := 11) hx hb hts inX5 hown hK hT0 (on_rg (on_wr hW)) rfl 5 rfl wF_X10_180 rfl dX10_run_43 ?_
              refine lv_iconst (v := 0) hx hb dX10_run_46 (by decide) ?_
              refine h_callVi (T := TX0) (rest := []) (As := [.int 0]) hx hb hml hown hts hK hT0 hZ (fun _ h => h) hS0 (c_X0_counted l G Y P (o + 3 + 19) (on_bo (on_wr hW)) 0) trivial wd_X0_counted wV_X0_counted wL_X10_184 ((on_bo (on_wr hW)).o rfl) rfl rfl hl.1 rfl (Nat.le_of_ble_eq_true rfl) dX10_run_47 ⟨Nat.le_of_ble_eq_true rfl, Nat.le_of_ble_eq_true rfl⟩ ⟨Nat.zero_le _, Nat.zero_le _⟩ (fun r12 H6 locs hp6 hT6 hS6 hk6 => ?_)
              obtain ⟨hp6, he⟩ := hp6
              have he := he.symm
              subst he
              refine lv_istore (lv' := [(4, .int r12), (0, .ref (o)), (1, .int u1), (2, .int u2), (3, .int u3)]) hx hb dX10_run_50 hl (by decide) rfl (fun ls hl => ?_)
              refine lv_iload_n hx hb dX10_run_52 rfl (lv_at hl 3 rfl) ?_
              refine lv_istore (lv' := [(5, .int u2), (4, .int r12), (0, .ref (o)), (1, .int u1), (2, .int u2), (3, .int u3)]) hx hb dX10_run_53 hl (by decide) rfl (fun ls hl => ?_)
              refine lv_iconst (v := 0) hx hb dX10_run_55 (by decide) ?_
              refine lv_istore (lv' := [(6, .int 0), (5, .int u2), (4, .int r12), (0, .ref (o)), (1, .int u1), (2, .int u2), (3, .int u3)]) hx hb dX10_run_56 hl (by decide) rfl (fun ls hl => ?_)
              have LP1 : ∀ (n1 : Nat) (w1_6 w1_5 : Int32), 2147483647 - w1_6.toInt < (n1 : Int) → 0 ≤ w1_6.toInt → ∀ (H7 : Heap) (locs : List Loc) (ls : Array Slot), hT G Y H7 → va_S (h_A Y) s.heap H7 locs → lv_has ls 7 [(6, .int w1_6), (5, .int w1_5), (4, .int r12), (0, .ref (o)), (1, .int u1), (3, .int u3)] → W p l e (h_rm 6 135) s m args below meth c H7 locs 0 0 Q (F0 m 58 ls []) := by
                intro n1
                induction n1 with
                | zero =>
                  intro w1_6 w1_5 hm
                  exact absurd hm (by have := Int32.toInt_lt w1_6; have := Int32.le_toInt w1_6; omega)
                | succ n1 ih1 =>
                  intro w1_6 w1_5 hm1 hz1 H7 locs ls hT7 hS7 hl
                  refine lv_iload hx hb dX10_run_58 (lv_at hl 0 rfl) ?_
                  refine lv_iload_n hx hb dX10_run_60 rfl (lv_at hl 4 rfl) ?_
                  refine lv_icmp_ge (tgt := 90) hx hb dX10_run_61 (by decide) (fun c13 => ?_) (fun c13 => ?_)
                  · skip
                    refine lv_aload_n hx hb dX10_run_90 rfl (lv_at hl 3 rfl) ?_
                    refine lv_aload_n hx hb dX10_run_91 rfl (lv_at hl 3 rfl) ?_
                    refine h_getr (C := RX10) (T := TX10) (N := 9) hx hb hts inX10 hown hK hT7 (on_w0 hW) rfl 1 rfl wF_X10_19 rfl dX10_run_92 ?_
                    refine h_getr (C := RX5) (T := TX5) (N := 11) hx hb hts inX5 hown hK hT7 (on_rg (on_wr hW)) rfl 5 rfl wF_X10_180 rfl dX10_run_95 ?_
                    refine lv_iconst (v := 0) hx hb dX10_run_98 (by decide) ?_
                    refine h_callVi (T := TX0) (rest := [.ref (o)]) (As := [.int 0]) hx hb hml hown hts hK hT7 hZ (fun _ h => h) hS7 (c_X0_counted l G Y P (o + 3 + 19) (on_bo (on_wr hW)) 0) trivial wd_X0_counted wV_X0_counted wL_X10_184 ((on_bo (on_wr hW)).o rfl) rfl rfl hl.1 rfl (Nat.le_of_ble_eq_true rfl) dX10_run_99 ⟨Nat.le_of_ble_eq_true rfl, Nat.le_of_ble_eq_true rfl⟩ ⟨Nat.zero_le _, Nat.zero_le _⟩ (fun r14 H8 locs hp8 hT8 hS8 hk8 => ?_)
                    obtain ⟨hp8, he⟩ := hp8
                    have he := he.symm
                    subst he
                    refine lv_iload hx hb dX10_run_102 (lv_at hl 2 rfl) ?_
                    refine lv_isub hx hb dX10_run_104 ?_
                    refine lv_topi (fun x15 ex15 => ?_)
                    refine h_callVi (T := TX10) (rest := []) (As := [.int x15]) hx hb hml hown hts hK hT7 hZ (fun _ h => h) hS8 (c_X10_give l G Y P (o) hW x15) trivial wd_X10_give wV_X10_give wL_X10_95 (on_w0 hW) rfl rfl hl.1 rfl (Nat.le_of_ble_eq_true rfl) dX10_run_105 ⟨Nat.le_of_ble_eq_true rfl, Nat.le_of_ble_eq_true rfl⟩ ⟨Nat.zero_le _, Nat.zero_le _⟩ (fun r16 H9 locs hp9 hT9 hS9 hk9 => ?_)
                    obtain ⟨hq, hp9⟩ := hp9
                    have hq : r16 = x15 := hq
                    subst hq
                    exact hret _ _ _ _ _ hT9 hS9 trivial dX10_run_108
                  · skip
                    refine lv_aload_n hx hb dX10_run_64 rfl (lv_at hl 3 rfl) ?_
                    refine h_getr (C := RX10) (T := TX10) (N := 9) hx hb hts inX10 hown hK hT7 (on_w0 hW) rfl 1 rfl wF_X10_19 rfl dX10_run_65 ?_
                    refine lv_iload hx hb dX10_run_68 (lv_at hl 1 rfl) ?_
                    refine lv_iload_n hx hb dX10_run_70 rfl (lv_at hl 5 rfl) ?_
                    refine h_callVi (T := TX5) (rest := []) (As := [.int w1_5, .int u3]) hx hb hml hown hts hK hT7 hZ (fun _ h => h) hS7 (c_X5_drawFrame l G Y P (o + 3) (on_wr hW) w1_5 u3) trivial wd_X5_drawFrame wV_X5_drawFrame wL_X10_281 (on_rg (on_wr hW)) rfl rfl hl.1 rfl (Nat.le_of_ble_eq_true rfl) dX10_run_71 ⟨Nat.le_of_ble_eq_true rfl, Nat.le_of_ble_eq_true rfl⟩ ⟨Nat.zero_le _, Nat.zero_le _⟩ (fun r17 H10 locs hp10 hT10 hS10 hk10 => ?_)
                    refine lv_istore (lv' := [(5, .int r17), (6, .int w1_6), (4, .int r12), (0, .ref (o)), (1, .int u1), (3, .int u3)]) hx hb dX10_run_74 hl (by decide) rfl (fun ls hl => ?_)
                    refine lv_aload_n hx hb dX10_run_76 rfl (lv_at hl 3 rfl) ?_
                    refine h_getr (C := RX10) (T := TX10) (N := 9) hx hb hts inX10 hown hK hT10 (on_w0 hW) rfl 1 rfl wF_X10_19 rfl dX10_run_77 ?_
                    refine lv_iconst (v := 0) hx hb dX10_run_80 (by decide) ?_
                    refine h_callVv (T := TX5) (rest := []) (As := [.int 0]) hx hb hml hown hts hK hT10 hZ (fun _ h => h) hS10 (c_X5_passTick l G Y P (o + 3) (on_wr hW) 0) trivial wd_X5_passTick wV_X5_passTick wL_X10_277 (on_rg (on_wr hW)) rfl rfl hl.1 rfl (Nat.le_of_ble_eq_true rfl) dX10_run_81 ⟨Nat.le_of_ble_eq_true rfl, Nat.le_of_ble_eq_true rfl⟩ ⟨Nat.zero_le _, Nat.zero_le _⟩ (fun H11 locs hp11 hT11 hS11 hk11 => ?_)
                    obtain ⟨x18, ex18⟩ : ∃ y : Int32, y = w1_6 + 1 := ⟨_, rfl⟩
                    refine lv_iinc (v := x18) (lv' := [(6, .int x18), (5, .int r17), (4, .int r12), (0, .ref (o)), (1, .int u1), (3, .int u3)]) hx hb dX10_run_84 hl (k := 1) rfl (by rw [ex18]; rfl) (by decide) rfl (fun ls hl => ?_)
                    refine lv_goto (tgt := 58) hx hb dX10_run_87 (by decide) ?_
                    exact ih1 x18 r17 (h_dn hm1 ex18 (by first | exact h_lu c13 | exact h_lu2 c13 | ((try simp only [Int32.lt_iff_toInt_lt, Int32.le_iff_toInt_le, ← Int32.toInt_inj, Int32.reduceToInt, (show (-1 : Int32).toInt = -1 from rfl)] at c13 ⊢); omega))) (h_nn hz1 ex18 (by first | exact h_lu c13 | exact h_lu2 c13 | ((try simp only [Int32.lt_iff_toInt_lt, Int32.le_iff_toInt_le, ← Int32.toInt_inj, Int32.reduceToInt, (show (-1 : Int32).toInt = -1 from rfl)] at c13 ⊢); omega))) _ _ _ hT11 hS11 (lv_sub hl [0, 1, 2, 3, 4, 5] rfl)
              exact LP1 4294967296 0 u2 (h_m0 _) (by decide) _ _ _ hT0 hS6 (lv_sub hl [0, 1, 2, 3, 4, 6] rfl)
            · skip
              refine lv_aload_n hx hb dX10_run_33 rfl (lv_at hl 0 rfl) ?_
              refine lv_iconst (v := 1) hx hb dX10_run_34 (by decide) ?_
              refine h_callVi (T := TX10) (rest := []) (As := [.int 1]) hx hb hml hown hts hK hT0 hZ (fun _ h => h) hS0 (c_X10_fail l G Y P (o) hW 1) trivial wd_X10_fail wV_X10_fail wL_X10_66 (on_w0 hW) rfl rfl hl.1 rfl (Nat.le_of_ble_eq_true rfl) dX10_run_35 ⟨Nat.le_of_ble_eq_true rfl, Nat.le_of_ble_eq_true rfl⟩ ⟨Nat.zero_le _, Nat.zero_le _⟩ (fun r19 H12 locs hp12 hT12 hS12 hk12 => ?_)
              obtain ⟨hq, hp12⟩ := hp12
              have hq : r19 = (-1) := hq
              subst hq
              exact hret _ _ _ _ _ hT12 hS12 trivial dX10_run_38
set_option maxHeartbeats 4000000 in
set_option maxRecDepth 100000 in
theorem c_X10_notice (l : Launch) (G : hG) (Y : hW) (P : Int32 → Prop) (o : Nat) (hW : h_On Y o (wldE (tC P) o)) : hMi l yX10_notice cX10_notice 1 (some .int) 3 66 G Y [.ref (o)] (fun H => True) (fun H r H1 => True) := by
  refine h_ofi (by decide +kernel) (Nat.le_of_ble_eq_true rfl) ?_
  intro p e s m args below meth c H0 ls Q hx hb hts hown hml hK hZ hT0 hpr hS0 hl hret
  have hl : lv_has ls 1 [(0, .ref (o))] := hl
  refine lv_aload_n hx hb dX10_notice_0 rfl (lv_at hl 0 rfl) ?_
  refine h_getr (C := RX10) (T := TX10) (N := 9) hx hb hts inX10 hown hK hT0 (on_w0 hW) rfl 1 rfl wF_X10_19 rfl dX10_notice_1 ?_
  refine h_getr (C := RX5) (T := TX5) (N := 11) hx hb hts inX5 hown hK hT0 (on_rg (on_wr hW)) rfl 0 rfl wF_X10_86 rfl dX10_notice_4 ?_
  refine h_callVi (T := TX7) (rest := []) (As := []) hx hb hml hown hts hK hT0 hZ (fun _ h => h) hS0 (c_X7_breakCounts l G Y P (o + 3 + 1) (on_st (on_wr hW))) trivial wd_X7_breakCounts wV_X7_breakCounts wL_X10_136 ((on_st (on_wr hW)).o rfl) rfl rfl hl.1 rfl (Nat.le_of_ble_eq_true rfl) dX10_notice_7 ⟨Nat.le_of_ble_eq_true rfl, Nat.le_of_ble_eq_true rfl⟩ ⟨Nat.zero_le _, Nat.zero_le _⟩ (fun r1 H1 locs hp1 hT1 hS1 hk1 => ?_)
  obtain ⟨hp1, he⟩ := hp1
  have he := he.symm
  subst he
  refine lv_if_eq (tgt := 19) hx hb dX10_notice_10 (by decide) (fun c2 => ?_) (fun c2 => ?_)
  · skip
    refine lv_aload_n hx hb dX10_notice_19 rfl (lv_at hl 0 rfl) ?_
    refine h_getr (C := RX10) (T := TX10) (N := 9) hx hb hts inX10 hown hK hT0 (on_w0 hW) rfl 1 rfl wF_X10_19 rfl dX10_notice_20 ?_
    refine h_getr (C := RX5) (T := TX5) (N := 11) hx hb hts inX5 hown hK hT0 (on_rg (on_wr hW)) rfl 0 rfl wF_X10_86 rfl dX10_notice_23 ?_
    refine h_callVi (T := TX7) (rest := []) (As := []) hx hb hml hown hts hK hT0 hZ (fun _ h => h) hS1 (c_X7_chiefIsOn l G Y P (o + 3 + 1) (on_st (on_wr hW))) trivial wd_X7_chiefIsOn wV_X7_chiefIsOn wL_X10_284 ((on_st (on_wr hW)).o rfl) rfl rfl hl.1 rfl (Nat.le_of_ble_eq_true rfl) dX10_notice_26 ⟨Nat.le_of_ble_eq_true rfl, Nat.le_of_ble_eq_true rfl⟩ ⟨Nat.zero_le _, Nat.zero_le _⟩ (fun r3 H2 locs hp2 hT2 hS2 hk2 => ?_)
    obtain ⟨hp2, he⟩ := hp2
    have he := he.symm
    subst he
    refine lv_if_ne (tgt := 38) hx hb dX10_notice_29 (by decide) (fun c4 => ?_) (fun c4 => ?_)
    · skip
      refine lv_aload_n hx hb dX10_notice_38 rfl (lv_at hl 0 rfl) ?_
      refine h_getr (C := RX10) (T := TX10) (N := 9) hx hb hts inX10 hown hK hT0 (on_w0 hW) rfl 1 rfl wF_X10_19 rfl dX10_notice_39 ?_
      refine h_getr (C := RX5) (T := TX5) (N := 11) hx hb hts inX5 hown hK hT0 (on_rg (on_wr hW)) rfl 3 rfl wF_X10_120 rfl dX10_notice_42 ?_
      refine h_geti (C := RX9) (T := TX9) (N := 11) hx hb hts inX9 hown hK hT0 ((on_wa (on_wr hW)).o rfl) rfl 0 rfl wF_X10_124 rfl dX10_notice_45 (fun p5 => ?_)
      refine lv_topi (fun x6 ex6 => ?_)
      refine lv_iconst (v := 1) hx hb dX10_notice_48 (by decide) ?_
      refine lv_icmp_eq (tgt := 59) hx hb dX10_notice_49 (by decide) (fun c7 => ?_) (fun c7 => ?_)
      · skip
        refine lv_aload_n hx hb dX10_notice_59 rfl (lv_at hl 0 rfl) ?_
        refine lv_aload_n hx hb dX10_notice_60 rfl (lv_at hl 0 rfl) ?_
        refine h_getr (C := RX10) (T := TX10) (N := 9) hx hb hts inX10 hown hK hT0 (on_w0 hW) rfl 1 rfl wF_X10_19 rfl dX10_notice_61 ?_
        refine h_getr (C := RX5) (T := TX5) (N := 11) hx hb hts inX5 hown hK hT0 (on_rg (on_wr hW)) rfl 0 rfl wF_X10_86 rfl dX10_notice_64 ?_
        refine h_callVi (T := TX7) (rest := [.ref (o)]) (As := []) hx hb hml hown hts hK hT0 hZ (fun _ h => h) hS2 (c_X7_tellNeighbours l G Y P (o + 3 + 1) (on_st (on_wr hW))) trivial wd_X7_tellNeighbours wV_X7_tellNeighbours wL_X10_287 ((on_st (on_wr hW)).o rfl) rfl rfl hl.1 rfl (Nat.le_of_ble_eq_true rfl) dX10_notice_67 ⟨Nat.le_of_ble_eq_true rfl, Nat.le_of_ble_eq_true rfl⟩ ⟨Nat.zero_le _, Nat.zero_le _⟩ (fun r8 H3 locs hp3 hT3 hS3 hk3 => ?_)
        refine h_callVi (T := TX10) (rest := []) (As := [.int r8]) hx hb hml hown hts hK hT3 hZ (fun _ h => h) hS3 (c_X10_give l G Y P (o) hW r8) trivial wd_X10_give wV_X10_give wL_X10_95 (on_w0 hW) rfl rfl hl.1 rfl (Nat.le_of_ble_eq_true rfl) dX10_notice_70 ⟨Nat.le_of_ble_eq_true rfl, Nat.le_of_ble_eq_true rfl⟩ ⟨Nat.zero_le _, Nat.zero_le _⟩ (fun r9 H4 locs hp4 hT4 hS4 hk4 => ?_)
        obtain ⟨hq, hp4⟩ := hp4
        have hq : r9 = r8 := hq
        subst hq
        exact hret _ _ _ _ _ hT4 hS4 trivial dX10_notice_73
      · skip
        refine lv_aload_n hx hb dX10_notice_52 rfl (lv_at hl 0 rfl) ?_
        refine lv_bipush (v := 6) hx hb dX10_notice_53 (by decide) ?_
        refine h_callVi (T := TX10) (rest := []) (As := [.int 6]) hx hb hml hown hts hK hT0 hZ (fun _ h => h) hS2 (c_X10_fail l G Y P (o) hW 6) trivial wd_X10_fail wV_X10_fail wL_X10_66 (on_w0 hW) rfl rfl hl.1 rfl (Nat.le_of_ble_eq_true rfl) dX10_notice_55 ⟨Nat.le_of_ble_eq_true rfl, Nat.le_of_ble_eq_true rfl⟩ ⟨Nat.zero_le _, Nat.zero_le _⟩ (fun r10 H5 locs hp5 hT5 hS5 hk5 => ?_)
        obtain ⟨hq, hp5⟩ := hp5
        have hq : r10 = (-1) := hq
        subst hq
        exact hret _ _ _ _ _ hT5 hS5 trivial dX10_notice_58
    · skip
      refine lv_aload_n hx hb dX10_notice_32 rfl (lv_at hl 0 rfl) ?_
      refine lv_iconst (v := 5) hx hb dX10_notice_33 (by decide) ?_
      refine h_callVi (T := TX10) (rest := []) (As := [.int 5]) hx hb hml hown hts hK hT0 hZ (fun _ h => h) hS2 (c_X10_fail l G Y P (o) hW 5) trivial wd_X10_fail wV_X10_fail wL_X10_66 (on_w0 hW) rfl rfl hl.1 rfl (Nat.le_of_ble_eq_true rfl) dX10_notice_34 ⟨Nat.le_of_ble_eq_true rfl, Nat.le_of_ble_eq_true rfl⟩ ⟨Nat.zero_le _, Nat.zero_le _⟩ (fun r11 H6 locs hp6 hT6 hS6 hk6 => ?_)
      obtain ⟨hq, hp6⟩ := hp6
      have hq : r11 = (-1) := hq
      subst hq
      exact hret _ _ _ _ _ hT6 hS6 trivial dX10_notice_37
  · skip
    refine lv_aload_n hx hb dX10_notice_13 rfl (lv_at hl 0 rfl) ?_
    refine lv_iconst (v := 3) hx hb dX10_notice_14 (by decide) ?_
    refine h_callVi (T := TX10) (rest := []) (As := [.int 3]) hx hb hml hown hts hK hT0 hZ (fun _ h => h) hS1 (c_X10_fail l G Y P (o) hW 3) trivial wd_X10_fail wV_X10_fail wL_X10_66 (on_w0 hW) rfl rfl hl.1 rfl (Nat.le_of_ble_eq_true rfl) dX10_notice_15 ⟨Nat.le_of_ble_eq_true rfl, Nat.le_of_ble_eq_true rfl⟩ ⟨Nat.zero_le _, Nat.zero_le _⟩ (fun r12 H7 locs hp7 hT7 hS7 hk7 => ?_)
    obtain ⟨hq, hp7⟩ := hp7
    have hq : r12 = (-1) := hq
    subst hq
    exact hret _ _ _ _ _ hT7 hS7 trivial dX10_notice_18
set_option maxHeartbeats 4000000 in
set_option maxRecDepth 100000 in
theorem c_X10_stale (l : Launch) (G : hG) (Y : hW) (P : Int32 → Prop) (o : Nat) (hW : h_On Y o (wldE (tC P) o)) : hMi l yX10_stale cX10_stale 1 (some .int) 3 66 G Y [.ref (o)] (fun H => True) (fun H r H1 => True) := by
  refine h_ofi (by decide +kernel) (Nat.le_of_ble_eq_true rfl) ?_
  intro p e s m args below meth c H0 ls Q hx hb hts hown hml hK hZ hT0 hpr hS0 hl hret
  have hl : lv_has ls 1 [(0, .ref (o))] := hl
  refine lv_aload_n hx hb dX10_stale_0 rfl (lv_at hl 0 rfl) ?_
  refine lv_aload_n hx hb dX10_stale_1 rfl (lv_at hl 0 rfl) ?_
  refine h_getr (C := RX10) (T := TX10) (N := 9) hx hb hts inX10 hown hK hT0 (on_w0 hW) rfl 1 rfl wF_X10_19 rfl dX10_stale_2 ?_
  refine h_getr (C := RX5) (T := TX5) (N := 11) hx hb hts inX5 hown hK hT0 (on_rg (on_wr hW)) rfl 0 rfl wF_X10_86 rfl dX10_stale_5 ?_
  refine h_callVi (T := TX7) (rest := [.ref (o)]) (As := []) hx hb hml hown hts hK hT0 hZ (fun _ h => h) hS0 (c_X7_staleBits l G Y P (o + 3 + 1) (on_st (on_wr hW))) trivial wd_X7_staleBits wV_X7_staleBits wL_X10_290 ((on_st (on_wr hW)).o rfl) rfl rfl hl.1 rfl (Nat.le_of_ble_eq_true rfl) dX10_stale_8 ⟨Nat.le_of_ble_eq_true rfl, Nat.le_of_ble_eq_true rfl⟩ ⟨Nat.zero_le _, Nat.zero_le _⟩ (fun r1 H1 locs hp1 hT1 hS1 hk1 => ?_)
  obtain ⟨hp1, he⟩ := hp1
  have he := he.symm
  subst he
  refine h_callVi (T := TX10) (rest := []) (As := [.int r1]) hx hb hml hown hts hK hT0 hZ (fun _ h => h) hS1 (c_X10_give l G Y P (o) hW r1) trivial wd_X10_give wV_X10_give wL_X10_95 (on_w0 hW) rfl rfl hl.1 rfl (Nat.le_of_ble_eq_true rfl) dX10_stale_11 ⟨Nat.le_of_ble_eq_true rfl, Nat.le_of_ble_eq_true rfl⟩ ⟨Nat.zero_le _, Nat.zero_le _⟩ (fun r2 H2 locs hp2 hT2 hS2 hk2 => ?_)
  obtain ⟨hq, hp2⟩ := hp2
  have hq : r2 = r1 := hq
  subst hq
  exact hret _ _ _ _ _ hT2 hS2 trivial dX10_stale_14
set_option maxHeartbeats 4000000 in
set_option maxRecDepth 100000 in
theorem c_X10_quiet (l : Launch) (G : hG) (Y : hW) (P : Int32 → Prop) (o : Nat) (hW : h_On Y o (wldE (tC P) o)) (u1 : Int32) : hMi l yX10_quiet cX10_quiet 2 (some .int) 7 159 G Y [.ref (o), .int u1] (fun H => True) (fun H r H1 => True) := by
  refine h_ofi (by decide +kernel) (Nat.le_of_ble_eq_true rfl) ?_
  intro p e s m args below meth c H0 ls Q hx hb hts hown hml hK hZ hT0 hpr hS0 hl hret
  have hl : lv_has ls 2 [(0, .ref (o)), (1, .int u1)] := hl
  refine lv_aload_n hx hb dX10_quiet_0 rfl (lv_at hl 0 rfl) ?_
  refine lv_aload_n hx hb dX10_quiet_1 rfl (lv_at hl 0 rfl) ?_
  refine h_getr (C := RX10) (T := TX10) (N := 9) hx hb hts inX10 hown hK hT0 (on_w0 hW) rfl 3 rfl wF_X10_31 rfl dX10_quiet_2 ?_
  refine lv_iconst (v := 0) hx hb dX10_quiet_5 (by decide) ?_
  refine lv_iconst (v := (-1)) hx hb dX10_quiet_6 (by decide) ?_
  refine lv_iload_n hx hb dX10_quiet_7 rfl (lv_at hl 1 rfl) ?_
  refine h_callVi (T := TX1) (rest := [.ref (o)]) (As := [.int 0, .int (-1), .int u1]) hx hb hml hown hts hK hT0 hZ (fun _ h => h) hS0 (c_X1_ticksTill l G Y P (o + 53) (o + 3) (o + 28) (on_wp hW) (on_wr hW) (on_ws hW) 0 (-1) u1) trivial wd_X1_ticksTill wV_X1_ticksTill wL_X10_296 ((on_wp hW).o rfl) rfl rfl hl.1 rfl (Nat.le_of_ble_eq_true rfl) dX10_quiet_8 ⟨Nat.le_of_ble_eq_true rfl, Nat.le_of_ble_eq_true rfl⟩ ⟨Nat.zero_le _, Nat.zero_le _⟩ (fun r1 H1 locs hp1 hT1 hS1 hk1 => ?_)
  refine h_callVi (T := TX10) (rest := []) (As := [.int r1]) hx hb hml hown hts hK hT1 hZ (fun _ h => h) hS1 (c_X10_giveReached l G Y P (o) hW r1) trivial wd_X10_giveReached wV_X10_giveReached wL_X10_300 (on_w0 hW) rfl rfl hl.1 rfl (Nat.le_of_ble_eq_true rfl) dX10_quiet_11 ⟨Nat.le_of_ble_eq_true rfl, Nat.le_of_ble_eq_true rfl⟩ ⟨Nat.zero_le _, Nat.zero_le _⟩ (fun r2 H2 locs hp2 hT2 hS2 hk2 => ?_)
  exact hret _ _ _ _ _ hT2 hS2 trivial dX10_quiet_14
set_option maxHeartbeats 4000000 in
set_option maxRecDepth 100000 in
theorem c_X10_when (l : Launch) (G : hG) (Y : hW) (P : Int32 → Prop) (o : Nat) (hW : h_On Y o (wldE (tC P) o)) (u1 u2 : Int32) : hMi l yX10_when cX10_when 3 (some .int) 7 159 G Y [.ref (o), .int u1, .int u2] (fun H => True) (fun H r H1 => True) := by
  refine h_ofi (by decide +kernel) (Nat.le_of_ble_eq_true rfl) ?_
  intro p e s m args below meth c H0 ls Q hx hb hts hown hml hK hZ hT0 hpr hS0 hl hret
  have hl : lv_has ls 3 [(0, .ref (o)), (1, .int u1), (2, .int u2)] := hl
  refine lv_iload_n hx hb dX10_when_0 rfl (lv_at hl 1 rfl) ?_
  refine lv_if_ge (tgt := 10) hx hb dX10_when_1 (by decide) (fun c1 => ?_) (fun c1 => ?_)
  · skip
    refine lv_aload_n hx hb dX10_when_10 rfl (lv_at hl 0 rfl) ?_
    refine h_getr (C := RX10) (T := TX10) (N := 9) hx hb hts inX10 hown hK hT0 (on_w0 hW) rfl 1 rfl wF_X10_19 rfl dX10_when_11 ?_
    refine lv_iload_n hx hb dX10_when_14 rfl (lv_at hl 1 rfl) ?_
    refine h_callVi (T := TX5) (rest := []) (As := [.int u1]) hx hb hml hown hts hK hT0 hZ (fun _ h => h) hS0 (c_X5_hasFrame l G Y P (o + 3) (on_wr hW) u1) trivial wd_X5_hasFrame wV_X5_hasFrame wL_X10_303 (on_rg (on_wr hW)) rfl rfl hl.1 rfl (Nat.le_of_ble_eq_true rfl) dX10_when_15 ⟨Nat.le_of_ble_eq_true rfl, Nat.le_of_ble_eq_true rfl⟩ ⟨Nat.zero_le _, Nat.zero_le _⟩ (fun r2 H1 locs hp1 hT1 hS1 hk1 => ?_)
    obtain ⟨hp1, he⟩ := hp1
    have he := he.symm
    subst he
    refine lv_if_ne (tgt := 27) hx hb dX10_when_18 (by decide) (fun c3 => ?_) (fun c3 => ?_)
    · skip
      refine lv_aload_n hx hb dX10_when_27 rfl (lv_at hl 0 rfl) ?_
      refine lv_aload_n hx hb dX10_when_28 rfl (lv_at hl 0 rfl) ?_
      refine h_getr (C := RX10) (T := TX10) (N := 9) hx hb hts inX10 hown hK hT0 (on_w0 hW) rfl 3 rfl wF_X10_31 rfl dX10_when_29 ?_
      refine lv_iconst (v := 1) hx hb dX10_when_32 (by decide) ?_
      refine lv_iload_n hx hb dX10_when_33 rfl (lv_at hl 1 rfl) ?_
      refine lv_iload_n hx hb dX10_when_34 rfl (lv_at hl 2 rfl) ?_
      refine h_callVi (T := TX1) (rest := [.ref (o)]) (As := [.int 1, .int u1, .int u2]) hx hb hml hown hts hK hT0 hZ (fun _ h => h) hS1 (c_X1_ticksTill l G Y P (o + 53) (o + 3) (o + 28) (on_wp hW) (on_wr hW) (on_ws hW) 1 u1 u2) trivial wd_X1_ticksTill wV_X1_ticksTill wL_X10_296 ((on_wp hW).o rfl) rfl rfl hl.1 rfl (Nat.le_of_ble_eq_true rfl) dX10_when_35 ⟨Nat.le_of_ble_eq_true rfl, Nat.le_of_ble_eq_true rfl⟩ ⟨Nat.zero_le _, Nat.zero_le _⟩ (fun r4 H2 locs hp2 hT2 hS2 hk2 => ?_)
      refine h_callVi (T := TX10) (rest := []) (As := [.int r4]) hx hb hml hown hts hK hT2 hZ (fun _ h => h) hS2 (c_X10_giveReached l G Y P (o) hW r4) trivial wd_X10_giveReached wV_X10_giveReached wL_X10_300 (on_w0 hW) rfl rfl hl.1 rfl (Nat.le_of_ble_eq_true rfl) dX10_when_38 ⟨Nat.le_of_ble_eq_true rfl, Nat.le_of_ble_eq_true rfl⟩ ⟨Nat.zero_le _, Nat.zero_le _⟩ (fun r5 H3 locs hp3 hT3 hS3 hk3 => ?_)
      exact hret _ _ _ _ _ hT3 hS3 trivial dX10_when_41
    · skip
      refine lv_aload_n hx hb dX10_when_21 rfl (lv_at hl 0 rfl) ?_
      refine lv_iconst (v := 5) hx hb dX10_when_22 (by decide) ?_
      refine h_callVi (T := TX10) (rest := []) (As := [.int 5]) hx hb hml hown hts hK hT0 hZ (fun _ h => h) hS1 (c_X10_fail l G Y P (o) hW 5) trivial wd_X10_fail wV_X10_fail wL_X10_66 (on_w0 hW) rfl rfl hl.1 rfl (Nat.le_of_ble_eq_true rfl) dX10_when_23 ⟨Nat.le_of_ble_eq_true rfl, Nat.le_of_ble_eq_true rfl⟩ ⟨Nat.zero_le _, Nat.zero_le _⟩ (fun r6 H4 locs hp4 hT4 hS4 hk4 => ?_)
      obtain ⟨hq, hp4⟩ := hp4
      have hq : r6 = (-1) := hq
      subst hq
      exact hret _ _ _ _ _ hT4 hS4 trivial dX10_when_26
  · skip
    refine lv_aload_n hx hb dX10_when_4 rfl (lv_at hl 0 rfl) ?_
    refine lv_iconst (v := 1) hx hb dX10_when_5 (by decide) ?_
    refine h_callVi (T := TX10) (rest := []) (As := [.int 1]) hx hb hml hown hts hK hT0 hZ (fun _ h => h) hS0 (c_X10_fail l G Y P (o) hW 1) trivial wd_X10_fail wV_X10_fail wL_X10_66 (on_w0 hW) rfl rfl hl.1 rfl (Nat.le_of_ble_eq_true rfl) dX10_when_6 ⟨Nat.le_of_ble_eq_true rfl, Nat.le_of_ble_eq_true rfl⟩ ⟨Nat.zero_le _, Nat.zero_le _⟩ (fun r7 H5 locs hp5 hT5 hS5 hk5 => ?_)
    obtain ⟨hq, hp5⟩ := hp5
    have hq : r7 = (-1) := hq
    subst hq
    exact hret _ _ _ _ _ hT5 hS5 trivial dX10_when_9
set_option maxHeartbeats 4000000 in
set_option maxRecDepth 100000 in
theorem c_X10_next (l : Launch) (G : hG) (Y : hW) (P : Int32 → Prop) (o : Nat) (hW : h_On Y o (wldE (tC P) o)) (u1 u2 : Int32) : hMi l yX10_next cX10_next 3 (some .int) 7 159 G Y [.ref (o), .int u1, .int u2] (fun H => True) (fun H r H1 => True) := by
  refine h_ofi (by decide +kernel) (Nat.le_of_ble_eq_true rfl) ?_
  intro p e s m args below meth c H0 ls Q hx hb hts hown hml hK hZ hT0 hpr hS0 hl hret
  have hl : lv_has ls 3 [(0, .ref (o)), (1, .int u1), (2, .int u2)] := hl
  refine lv_iload_n hx hb dX10_next_0 rfl (lv_at hl 1 rfl) ?_
  refine lv_if_ge (tgt := 10) hx hb dX10_next_1 (by decide) (fun c1 => ?_) (fun c1 => ?_)
  · skip
    refine lv_aload_n hx hb dX10_next_10 rfl (lv_at hl 0 rfl) ?_
    refine lv_aload_n hx hb dX10_next_11 rfl (lv_at hl 0 rfl) ?_
    refine h_getr (C := RX10) (T := TX10) (N := 9) hx hb hts inX10 hown hK hT0 (on_w0 hW) rfl 3 rfl wF_X10_31 rfl dX10_next_12 ?_
    refine lv_iload_n hx hb dX10_next_15 rfl (lv_at hl 1 rfl) ?_
    refine lv_iload_n hx hb dX10_next_16 rfl (lv_at hl 2 rfl) ?_
    refine h_callVi (T := TX1) (rest := [.ref (o)]) (As := [.int u1, .int u2]) hx hb hml hown hts hK hT0 hZ (fun _ h => h) hS0 (c_X1_numberGot l G Y P (o + 53) (o + 3) (o + 28) (on_wp hW) (on_wr hW) (on_ws hW) u1 u2) trivial wd_X1_numberGot wV_X1_numberGot wL_X10_306 ((on_wp hW).o rfl) rfl rfl hl.1 rfl (Nat.le_of_ble_eq_true rfl) dX10_next_17 ⟨Nat.le_of_ble_eq_true rfl, Nat.le_of_ble_eq_true rfl⟩ ⟨Nat.zero_le _, Nat.zero_le _⟩ (fun r2 H1 locs hp1 hT1 hS1 hk1 => ?_)
    refine h_callVi (T := TX10) (rest := []) (As := [.int r2]) hx hb hml hown hts hK hT1 hZ (fun _ h => h) hS1 (c_X10_giveReached l G Y P (o) hW r2) trivial wd_X10_giveReached wV_X10_giveReached wL_X10_300 (on_w0 hW) rfl rfl hl.1 rfl (Nat.le_of_ble_eq_true rfl) dX10_next_20 ⟨Nat.le_of_ble_eq_true rfl, Nat.le_of_ble_eq_true rfl⟩ ⟨Nat.zero_le _, Nat.zero_le _⟩ (fun r3 H2 locs hp2 hT2 hS2 hk2 => ?_)
    exact hret _ _ _ _ _ hT2 hS2 trivial dX10_next_23
  · skip
    refine lv_aload_n hx hb dX10_next_4 rfl (lv_at hl 0 rfl) ?_
    refine lv_iconst (v := 1) hx hb dX10_next_5 (by decide) ?_
    refine h_callVi (T := TX10) (rest := []) (As := [.int 1]) hx hb hml hown hts hK hT0 hZ (fun _ h => h) hS0 (c_X10_fail l G Y P (o) hW 1) trivial wd_X10_fail wV_X10_fail wL_X10_66 (on_w0 hW) rfl rfl hl.1 rfl (Nat.le_of_ble_eq_true rfl) dX10_next_6 ⟨Nat.le_of_ble_eq_true rfl, Nat.le_of_ble_eq_true rfl⟩ ⟨Nat.zero_le _, Nat.zero_le _⟩ (fun r4 H3 locs hp3 hT3 hS3 hk3 => ?_)
    obtain ⟨hq, hp3⟩ := hp3
    have hq : r4 = (-1) := hq
    subst hq
    exact hret _ _ _ _ _ hT3 hS3 trivial dX10_next_9
set_option maxHeartbeats 4000000 in
set_option maxRecDepth 100000 in
theorem c_X10_peak (l : Launch) (G : hG) (Y : hW) (P : Int32 → Prop) (o : Nat) (hW : h_On Y o (wldE (tC P) o)) : hMi l yX10_peak cX10_peak 1 (some .int) 7 157 G Y [.ref (o)] (fun H => True) (fun H r H1 => True) := by
  refine h_ofi (by decide +kernel) (Nat.le_of_ble_eq_true rfl) ?_
  intro p e s m args below meth c H0 ls Q hx hb hts hown hml hK hZ hT0 hpr hS0 hl hret
  have hl : lv_has ls 1 [(0, .ref (o))] := hl
  refine lv_aload_n hx hb dX10_peak_0 rfl (lv_at hl 0 rfl) ?_
  refine lv_aload_n hx hb dX10_peak_1 rfl (lv_at hl 0 rfl) ?_
  refine h_getr (C := RX10) (T := TX10) (N := 9) hx hb hts inX10 hown hK hT0 (on_w0 hW) rfl 3 rfl wF_X10_31 rfl dX10_peak_2 ?_
  refine h_callVi (T := TX1) (rest := [.ref (o)]) (As := []) hx hb hml hown hts hK hT0 hZ (fun _ h => h) hS0 (c_X1_greatestLevel l G Y P (o + 53) (o + 3) (o + 28) (on_wp hW) (on_wr hW) (on_ws hW)) trivial wd_X1_greatestLevel wV_X1_greatestLevel wL_X10_310 ((on_wp hW).o rfl) rfl rfl hl.1 rfl (Nat.le_of_ble_eq_true rfl) dX10_peak_5 ⟨Nat.le_of_ble_eq_true rfl, Nat.le_of_ble_eq_true rfl⟩ ⟨Nat.zero_le _, Nat.zero_le _⟩ (fun r1 H1 locs hp1 hT1 hS1 hk1 => ?_)
  refine h_callVi (T := TX10) (rest := []) (As := [.int r1]) hx hb hml hown hts hK hT1 hZ (fun _ h => h) hS1 (c_X10_giveReached l G Y P (o) hW r1) trivial wd_X10_giveReached wV_X10_giveReached wL_X10_300 (on_w0 hW) rfl rfl hl.1 rfl (Nat.le_of_ble_eq_true rfl) dX10_peak_8 ⟨Nat.le_of_ble_eq_true rfl, Nat.le_of_ble_eq_true rfl⟩ ⟨Nat.zero_le _, Nat.zero_le _⟩ (fun r2 H2 locs hp2 hT2 hS2 hk2 => ?_)
  exact hret _ _ _ _ _ hT2 hS2 trivial dX10_peak_11
set_option maxHeartbeats 4000000 in
set_option maxRecDepth 100000 in
theorem c_X10_lowered (l : Launch) (G : hG) (Y : hW) (P : Int32 → Prop) (o : Nat) (hW : h_On Y o (wldE (tC P) o)) : hMi l yX10_lowered cX10_lowered 1 (some .int) 7 159 G Y [.ref (o)] (fun H => True) (fun H r H1 => True) := by
  refine h_ofi (by decide +kernel) (Nat.le_of_ble_eq_true rfl) ?_
  intro p e s m args below meth c H0 ls Q hx hb hts hown hml hK hZ hT0 hpr hS0 hl hret
  have hl : lv_has ls 1 [(0, .ref (o))] := hl
  refine lv_aload_n hx hb dX10_lowered_0 rfl (lv_at hl 0 rfl) ?_
  refine lv_aload_n hx hb dX10_lowered_1 rfl (lv_at hl 0 rfl) ?_
  refine h_getr (C := RX10) (T := TX10) (N := 9) hx hb hts inX10 hown hK hT0 (on_w0 hW) rfl 3 rfl wF_X10_31 rfl dX10_lowered_2 ?_
  refine lv_iconst (v := 2) hx hb dX10_lowered_5 (by decide) ?_
  refine lv_iconst (v := (-1)) hx hb dX10_lowered_6 (by decide) ?_
  refine lv_iconst (v := 0) hx hb dX10_lowered_7 (by decide) ?_
  refine h_callVi (T := TX1) (rest := [.ref (o)]) (As := [.int 2, .int (-1), .int 0]) hx hb hml hown hts hK hT0 hZ (fun _ h => h) hS0 (c_X1_ticksTill l G Y P (o + 53) (o + 3) (o + 28) (on_wp hW) (on_wr hW) (on_ws hW) 2 (-1) 0) trivial wd_X1_ticksTill wV_X1_ticksTill wL_X10_296 ((on_wp hW).o rfl) rfl rfl hl.1 rfl (Nat.le_of_ble_eq_true rfl) dX10_lowered_8 ⟨Nat.le_of_ble_eq_true rfl, Nat.le_of_ble_eq_true rfl⟩ ⟨Nat.zero_le _, Nat.zero_le _⟩ (fun r1 H1 locs hp1 hT1 hS1 hk1 => ?_)
  refine h_callVi (T := TX10) (rest := []) (As := [.int r1]) hx hb hml hown hts hK hT1 hZ (fun _ h => h) hS1 (c_X10_giveReached l G Y P (o) hW r1) trivial wd_X10_giveReached wV_X10_giveReached wL_X10_300 (on_w0 hW) rfl rfl hl.1 rfl (Nat.le_of_ble_eq_true rfl) dX10_lowered_11 ⟨Nat.le_of_ble_eq_true rfl, Nat.le_of_ble_eq_true rfl⟩ ⟨Nat.zero_le _, Nat.zero_le _⟩ (fun r2 H2 locs hp2 hT2 hS2 hk2 => ?_)
  exact hret _ _ _ _ _ hT2 hS2 trivial dX10_lowered_14
set_option maxHeartbeats 4000000 in
set_option maxRecDepth 100000 in
theorem c_X10_healed (l : Launch) (G : hG) (Y : hW) (P : Int32 → Prop) (o : Nat) (hW : h_On Y o (wldE (tC P) o)) : hMi l yX10_healed cX10_healed 1 (some .int) 7 159 G Y [.ref (o)] (fun H => True) (fun H r H1 => True) := by
  refine h_ofi (by decide +kernel) (Nat.le_of_ble_eq_true rfl) ?_
  intro p e s m args below meth c H0 ls Q hx hb hts hown hml hK hZ hT0 hpr hS0 hl hret
  have hl : lv_has ls 1 [(0, .ref (o))] := hl
  refine lv_aload_n hx hb dX10_healed_0 rfl (lv_at hl 0 rfl) ?_
  refine lv_aload_n hx hb dX10_healed_1 rfl (lv_at hl 0 rfl) ?_
  refine h_getr (C := RX10) (T := TX10) (N := 9) hx hb hts inX10 hown hK hT0 (on_w0 hW) rfl 3 rfl wF_X10_31 rfl dX10_healed_2 ?_
  refine lv_iconst (v := 3) hx hb dX10_healed_5 (by decide) ?_
  refine lv_iconst (v := (-1)) hx hb dX10_healed_6 (by decide) ?_
  refine lv_iconst (v := 0) hx hb dX10_healed_7 (by decide) ?_
  refine h_callVi (T := TX1) (rest := [.ref (o)]) (As := [.int 3, .int (-1), .int 0]) hx hb hml hown hts hK hT0 hZ (fun _ h => h) hS0 (c_X1_ticksTill l G Y P (o + 53) (o + 3) (o + 28) (on_wp hW) (on_wr hW) (on_ws hW) 3 (-1) 0) trivial wd_X1_ticksTill wV_X1_ticksTill wL_X10_296 ((on_wp hW).o rfl) rfl rfl hl.1 rfl (Nat.le_of_ble_eq_true rfl) dX10_healed_8 ⟨Nat.le_of_ble_eq_true rfl, Nat.le_of_ble_eq_true rfl⟩ ⟨Nat.zero_le _, Nat.zero_le _⟩ (fun r1 H1 locs hp1 hT1 hS1 hk1 => ?_)
  refine h_callVi (T := TX10) (rest := []) (As := [.int r1]) hx hb hml hown hts hK hT1 hZ (fun _ h => h) hS1 (c_X10_giveReached l G Y P (o) hW r1) trivial wd_X10_giveReached wV_X10_giveReached wL_X10_300 (on_w0 hW) rfl rfl hl.1 rfl (Nat.le_of_ble_eq_true rfl) dX10_healed_11 ⟨Nat.le_of_ble_eq_true rfl, Nat.le_of_ble_eq_true rfl⟩ ⟨Nat.zero_le _, Nat.zero_le _⟩ (fun r2 H2 locs hp2 hT2 hS2 hk2 => ?_)
  exact hret _ _ _ _ _ hT2 hS2 trivial dX10_healed_14
set_option maxHeartbeats 4000000 in
set_option maxRecDepth 100000 in
theorem c_X10_purged (l : Launch) (G : hG) (Y : hW) (P : Int32 → Prop) (o : Nat) (hW : h_On Y o (wldE (tC P) o)) : hMi l yX10_purged cX10_purged 1 (some .int) 7 159 G Y [.ref (o)] (fun H => True) (fun H r H1 => True) := by
  refine h_ofi (by decide +kernel) (Nat.le_of_ble_eq_true rfl) ?_
  intro p e s m args below meth c H0 ls Q hx hb hts hown hml hK hZ hT0 hpr hS0 hl hret
  have hl : lv_has ls 1 [(0, .ref (o))] := hl
  refine lv_aload_n hx hb dX10_purged_0 rfl (lv_at hl 0 rfl) ?_
  refine lv_aload_n hx hb dX10_purged_1 rfl (lv_at hl 0 rfl) ?_
  refine h_getr (C := RX10) (T := TX10) (N := 9) hx hb hts inX10 hown hK hT0 (on_w0 hW) rfl 3 rfl wF_X10_31 rfl dX10_purged_2 ?_
  refine lv_iconst (v := 4) hx hb dX10_purged_5 (by decide) ?_
  refine lv_iconst (v := (-1)) hx hb dX10_purged_6 (by decide) ?_
  refine lv_iconst (v := 0) hx hb dX10_purged_7 (by decide) ?_
  refine h_callVi (T := TX1) (rest := [.ref (o)]) (As := [.int 4, .int (-1), .int 0]) hx hb hml hown hts hK hT0 hZ (fun _ h => h) hS0 (c_X1_ticksTill l G Y P (o + 53) (o + 3) (o + 28) (on_wp hW) (on_wr hW) (on_ws hW) 4 (-1) 0) trivial wd_X1_ticksTill wV_X1_ticksTill wL_X10_296 ((on_wp hW).o rfl) rfl rfl hl.1 rfl (Nat.le_of_ble_eq_true rfl) dX10_purged_8 ⟨Nat.le_of_ble_eq_true rfl, Nat.le_of_ble_eq_true rfl⟩ ⟨Nat.zero_le _, Nat.zero_le _⟩ (fun r1 H1 locs hp1 hT1 hS1 hk1 => ?_)
  refine h_callVi (T := TX10) (rest := []) (As := [.int r1]) hx hb hml hown hts hK hT1 hZ (fun _ h => h) hS1 (c_X10_giveReached l G Y P (o) hW r1) trivial wd_X10_giveReached wV_X10_giveReached wL_X10_300 (on_w0 hW) rfl rfl hl.1 rfl (Nat.le_of_ble_eq_true rfl) dX10_purged_11 ⟨Nat.le_of_ble_eq_true rfl, Nat.le_of_ble_eq_true rfl⟩ ⟨Nat.zero_le _, Nat.zero_le _⟩ (fun r2 H2 locs hp2 hT2 hS2 hk2 => ?_)
  exact hret _ _ _ _ _ hT2 hS2 trivial dX10_purged_14
set_option maxHeartbeats 4000000 in
set_option maxRecDepth 100000 in
theorem c_X10_blamed (l : Launch) (G : hG) (Y : hW) (P : Int32 → Prop) (o : Nat) (hW : h_On Y o (wldE (tC P) o)) : hMi l yX10_blamed cX10_blamed 2 (some .int) 7 159 G Y [.ref (o)] (fun H => True) (fun H r H1 => True) := by
  refine h_ofi (by decide +kernel) (Nat.le_of_ble_eq_true rfl) ?_
  intro p e s m args below meth c H0 ls Q hx hb hts hown hml hK hZ hT0 hpr hS0 hl hret
  have hl : lv_has ls 2 [(0, .ref (o))] := hl
  refine lv_aload_n hx hb dX10_blamed_0 rfl (lv_at hl 0 rfl) ?_
  refine h_getr (C := RX10) (T := TX10) (N := 9) hx hb hts inX10 hown hK hT0 (on_w0 hW) rfl 3 rfl wF_X10_31 rfl dX10_blamed_1 ?_
  refine lv_iconst (v := 5) hx hb dX10_blamed_4 (by decide) ?_
  refine lv_iconst (v := (-1)) hx hb dX10_blamed_5 (by decide) ?_
  refine lv_iconst (v := 0) hx hb dX10_blamed_6 (by decide) ?_
  refine h_callVi (T := TX1) (rest := []) (As := [.int 5, .int (-1), .int 0]) hx hb hml hown hts hK hT0 hZ (fun _ h => h) hS0 (c_X1_ticksTill l G Y P (o + 53) (o + 3) (o + 28) (on_wp hW) (on_wr hW) (on_ws hW) 5 (-1) 0) trivial wd_X1_ticksTill wV_X1_ticksTill wL_X10_296 ((on_wp hW).o rfl) rfl rfl hl.1 rfl (Nat.le_of_ble_eq_true rfl) dX10_blamed_7 ⟨Nat.le_of_ble_eq_true rfl, Nat.le_of_ble_eq_true rfl⟩ ⟨Nat.zero_le _, Nat.zero_le _⟩ (fun r1 H1 locs hp1 hT1 hS1 hk1 => ?_)
  refine lv_istore_n (lv' := [(1, .int r1), (0, .ref (o))]) hx hb dX10_blamed_10 rfl hl (by decide) rfl (fun ls hl => ?_)
  refine lv_aload_n hx hb dX10_blamed_11 rfl (lv_at hl 1 rfl) ?_
  refine lv_iload_n hx hb dX10_blamed_12 rfl (lv_at hl 0 rfl) ?_
  refine lv_iconst (v := (-1)) hx hb dX10_blamed_13 (by decide) ?_
  refine lv_icmp_ne (tgt := 21) hx hb dX10_blamed_14 (by decide) (fun c2 => ?_) (fun c2 => ?_)
  · skip
    refine lv_aload_n hx hb dX10_blamed_21 rfl (lv_at hl 1 rfl) ?_
    refine h_getr (C := RX10) (T := TX10) (N := 9) hx hb hts inX10 hown hK hT1 (on_w0 hW) rfl 2 rfl wF_X10_23 rfl dX10_blamed_22 ?_
    refine h_geti (C := RX5) (T := TX5) (N := 11) hx hb hts inX5 hown hK hT1 (on_rg (on_ws hW)) rfl 9 rfl wF_X10_313 rfl dX10_blamed_25 (fun p3 => ?_)
    refine lv_topi (fun x4 ex4 => ?_)
    refine h_callVi (T := TX10) (rest := []) (As := [.int x4]) hx hb hml hown hts hK hT1 hZ (fun _ h => h) hS1 (c_X10_giveReached l G Y P (o) hW x4) trivial wd_X10_giveReached wV_X10_giveReached wL_X10_300 (on_w0 hW) rfl rfl hl.1 rfl (Nat.le_of_ble_eq_true rfl) dX10_blamed_28 ⟨Nat.le_of_ble_eq_true rfl, Nat.le_of_ble_eq_true rfl⟩ ⟨Nat.zero_le _, Nat.zero_le _⟩ (fun r5 H2 locs hp2 hT2 hS2 hk2 => ?_)
    exact hret _ _ _ _ _ hT2 hS2 trivial dX10_blamed_31
  · skip
    refine lv_iconst (v := (-1)) hx hb dX10_blamed_17 (by decide) ?_
    refine lv_goto (tgt := 28) hx hb dX10_blamed_18 (by decide) ?_
    refine h_callVi (T := TX10) (rest := []) (As := [.int (-1)]) hx hb hml hown hts hK hT1 hZ (fun _ h => h) hS1 (c_X10_giveReached l G Y P (o) hW (-1)) trivial wd_X10_giveReached wV_X10_giveReached wL_X10_300 (on_w0 hW) rfl rfl hl.1 rfl (Nat.le_of_ble_eq_true rfl) dX10_blamed_28 ⟨Nat.le_of_ble_eq_true rfl, Nat.le_of_ble_eq_true rfl⟩ ⟨Nat.zero_le _, Nat.zero_le _⟩ (fun r6 H3 locs hp3 hT3 hS3 hk3 => ?_)
    exact hret _ _ _ _ _ hT3 hS3 trivial dX10_blamed_31
set_option maxHeartbeats 4000000 in
set_option maxRecDepth 100000 in
theorem c_X10_gain (l : Launch) (G : hG) (Y : hW) (P : Int32 → Prop) (o : Nat) (hW : h_On Y o (wldE (tC P) o)) : hMi l yX10_gain cX10_gain 1 (some .int) 7 159 G Y [.ref (o)] (fun H => True) (fun H r H1 => True) := by
  refine h_ofi (by decide +kernel) (Nat.le_of_ble_eq_true rfl) ?_
  intro p e s m args below meth c H0 ls Q hx hb hts hown hml hK hZ hT0 hpr hS0 hl hret
  have hl : lv_has ls 1 [(0, .ref (o))] := hl
  refine lv_aload_n hx hb dX10_gain_0 rfl (lv_at hl 0 rfl) ?_
  refine h_getr (C := RX10) (T := TX10) (N := 9) hx hb hts inX10 hown hK hT0 (on_w0 hW) rfl 3 rfl wF_X10_31 rfl dX10_gain_1 ?_
  refine lv_iconst (v := 0) hx hb dX10_gain_4 (by decide) ?_
  refine h_callVv (T := TX1) (rest := []) (As := [.int 0]) hx hb hml hown hts hK hT0 hZ (fun _ h => h) hS0 (c_X1_noteGot l G Y P (o + 53) (o + 3) (o + 28) (on_wp hW) (on_wr hW) (on_ws hW) 0) trivial wd_X1_noteGot wV_X1_noteGot wL_X10_316 ((on_wp hW).o rfl) rfl rfl hl.1 rfl (Nat.le_of_ble_eq_true rfl) dX10_gain_5 ⟨Nat.le_of_ble_eq_true rfl, Nat.le_of_ble_eq_true rfl⟩ ⟨Nat.zero_le _, Nat.zero_le _⟩ (fun H1 locs hp1 hT1 hS1 hk1 => ?_)
  refine lv_aload_n hx hb dX10_gain_8 rfl (lv_at hl 0 rfl) ?_
  refine h_getr (C := RX10) (T := TX10) (N := 9) hx hb hts inX10 hown hK hT1 (on_w0 hW) rfl 3 rfl wF_X10_31 rfl dX10_gain_9 ?_
  refine lv_iconst (v := 1) hx hb dX10_gain_12 (by decide) ?_
  refine h_callVv (T := TX1) (rest := []) (As := [.int 1]) hx hb hml hown hts hK hT1 hZ (fun _ h => h) hS1 (c_X1_noteGot l G Y P (o + 53) (o + 3) (o + 28) (on_wp hW) (on_wr hW) (on_ws hW) 1) trivial wd_X1_noteGot wV_X1_noteGot wL_X10_316 ((on_wp hW).o rfl) rfl rfl hl.1 rfl (Nat.le_of_ble_eq_true rfl) dX10_gain_13 ⟨Nat.le_of_ble_eq_true rfl, Nat.le_of_ble_eq_true rfl⟩ ⟨Nat.zero_le _, Nat.zero_le _⟩ (fun H2 locs hp2 hT2 hS2 hk2 => ?_)
  refine lv_aload_n hx hb dX10_gain_16 rfl (lv_at hl 0 rfl) ?_
  refine lv_aload_n hx hb dX10_gain_17 rfl (lv_at hl 0 rfl) ?_
  refine h_getr (C := RX10) (T := TX10) (N := 9) hx hb hts inX10 hown hK hT2 (on_w0 hW) rfl 3 rfl wF_X10_31 rfl dX10_gain_18 ?_
  refine h_callVi (T := TX1) (rest := [.ref (o)]) (As := []) hx hb hml hown hts hK hT2 hZ (fun _ h => h) hS2 (c_X1_ticksGained l G Y P (o + 53) (o + 3) (o + 28) (on_wp hW) (on_wr hW) (on_ws hW)) trivial wd_X1_ticksGained wV_X1_ticksGained wL_X10_319 ((on_wp hW).o rfl) rfl rfl hl.1 rfl (Nat.le_of_ble_eq_true rfl) dX10_gain_21 ⟨Nat.le_of_ble_eq_true rfl, Nat.le_of_ble_eq_true rfl⟩ ⟨Nat.zero_le _, Nat.zero_le _⟩ (fun r1 H3 locs hp3 hT3 hS3 hk3 => ?_)
  obtain ⟨hp3, he⟩ := hp3
  have he := he.symm
  subst he
  refine h_callVi (T := TX10) (rest := []) (As := [.int r1]) hx hb hml hown hts hK hT2 hZ (fun _ h => h) hS3 (c_X10_give l G Y P (o) hW r1) trivial wd_X10_give wV_X10_give wL_X10_95 (on_w0 hW) rfl rfl hl.1 rfl (Nat.le_of_ble_eq_true rfl) dX10_gain_24 ⟨Nat.le_of_ble_eq_true rfl, Nat.le_of_ble_eq_true rfl⟩ ⟨Nat.zero_le _, Nat.zero_le _⟩ (fun r2 H4 locs hp4 hT4 hS4 hk4 => ?_)
  obtain ⟨hq, hp4⟩ := hp4
  have hq : r2 = r1 := hq
  subst hq
  exact hret _ _ _ _ _ hT4 hS4 trivial dX10_gain_27
set_option maxHeartbeats 4000000 in
set_option maxRecDepth 100000 in
theorem c_mark0 (l : Launch) (G : hG) (Y : hW) (P : Int32 → Prop) (hPP : ∀ x, P x) (o : Nat) (hW : h_On Y o (wldE (tC P) o)) : hMi l yX10_mark cX10_mark 1 (some .int) 3 102 G Y [.ref (o)] (fun H => h_gi G H 10 o 7 = 0) (fun H r H1 => r = 1 ∧ h_gi G H1 10 o 7 = 1) := by
  refine h_ofi (by decide +kernel) (Nat.le_of_ble_eq_true rfl) ?_
  intro p e s m args below meth c H0 ls Q hx hb hts hown hml hK hZ hT0 hpr hS0 hl hret
  have hl : lv_has ls 1 [(0, .ref (o))] := hl
  refine lv_aload_n hx hb dX10_mark_0 rfl (lv_at hl 0 rfl) ?_
  refine h_geti (C := RX10) (T := TX10) (N := 9) hx hb hts inX10 hown hK hT0 (on_w0 hW) rfl 7 rfl wF_X10_52 rfl dX10_mark_1 (fun p1 => ?_)
  refine h_top (v := 0) hpr ?_
  refine lv_if_lt (tgt := 15) hx hb dX10_mark_4 (by decide) (fun h => absurd h (by decide)) (fun _ => ?_)
  refine lv_aload_n hx hb dX10_mark_7 rfl (lv_at hl 0 rfl) ?_
  refine h_geti (C := RX10) (T := TX10) (N := 9) hx hb hts inX10 hown hK hT0 (on_w0 hW) rfl 7 rfl wF_X10_52 rfl dX10_mark_8 (fun p3 => ?_)
  refine h_top (v := 0) hpr ?_
  refine lv_iconst (v := 4) hx hb dX10_mark_11 (by decide) ?_
  refine lv_icmp_lt (tgt := 21) hx hb dX10_mark_12 (by decide) (fun _ => ?_) (fun h => absurd (by decide) h)
  refine lv_aload_n hx hb dX10_mark_21 rfl (lv_at hl 0 rfl) ?_
  refine h_getr (C := RX10) (T := TX10) (N := 9) hx hb hts inX10 hown hK hT0 (on_w0 hW) rfl 5 rfl wF_X10_44 rfl dX10_mark_22 ?_
  refine lv_aload_n hx hb dX10_mark_25 rfl (lv_at hl 0 rfl) ?_
  refine h_geti (C := RX10) (T := TX10) (N := 9) hx hb hts inX10 hown hK hT0 (on_w0 hW) rfl 7 rfl wF_X10_52 rfl dX10_mark_26 (fun p5 => ?_)
  refine h_top (v := 0) hpr ?_
  refine h_aal hx hb hK hT0 (by decide) ((on_wm hW).o rfl) (h_inc (by decide)) 0 (by decide) dX10_mark_29 ?_
  refine lv_aload_n hx hb dX10_mark_30 rfl (lv_at hl 0 rfl) ?_
  refine h_getr (C := RX10) (T := TX10) (N := 9) hx hb hts inX10 hown hK hT0 (on_w0 hW) rfl 1 rfl wF_X10_19 rfl dX10_mark_31 ?_
  refine h_callVv (T := TX5) (rest := []) (As := [.ref (o + 3)]) hx hb hml hown hts hK hT0 hZ (fun _ h => h) hS0 (c_X5_copyFrom l G Y P (o + 61 + 27 * 0) (o + 3) (on_kr hW (j := 0) (by decide)) (on_wr hW)) trivial wd_X5_copyFrom wV_X5_copyFrom wL_X10_82 (on_rg (on_kr hW (j := 0) (by decide))) rfl rfl hl.1 rfl (Nat.le_of_ble_eq_true rfl) dX10_mark_34 ⟨Nat.le_of_ble_eq_true rfl, Nat.le_of_ble_eq_true rfl⟩ ⟨Nat.zero_le _, Nat.zero_le _⟩ (fun H1 locs hp1 hT1 hS1 hk1 => ?_)
  refine lv_aload_n hx hb dX10_mark_37 rfl (lv_at hl 0 rfl) ?_
  refine h_getr (C := RX10) (T := TX10) (N := 9) hx hb hts inX10 hown hK hT1 (on_w0 hW) rfl 6 rfl wF_X10_48 rfl dX10_mark_38 ?_
  refine lv_aload_n hx hb dX10_mark_41 rfl (lv_at hl 0 rfl) ?_
  refine h_geti (C := RX10) (T := TX10) (N := 9) hx hb hts inX10 hown hK hT1 (on_w0 hW) rfl 7 rfl wF_X10_52 rfl dX10_mark_42 (fun p6 => ?_)
  refine h_top (v := 0) ((h_gi_same (hp1 (o) (by omega))).trans hpr) ?_
  refine h_aal hx hb hK hT1 (by decide) ((on_wm hW).at 1 rfl) (h_inc (by decide)) 0 (by decide) dX10_mark_45 ?_
  refine lv_aload_n hx hb dX10_mark_46 rfl (lv_at hl 0 rfl) ?_
  refine h_getr (C := RX10) (T := TX10) (N := 9) hx hb hts inX10 hown hK hT1 (on_w0 hW) rfl 0 rfl wF_X10_10 rfl dX10_mark_47 ?_
  refine h_callVv (T := TX8) (rest := []) (As := [.ref (o + 1)]) hx hb hml hown hts hK hT1 hZ (fun _ h => h) hS1 (c_X8_copyFrom l G Y P (o + 61 + 27 * 0 + 25) (o + 1) (on_kt hW (j := 0) (by decide)) (on_wt hW)) trivial wd_X8_copyFrom wV_X8_copyFrom wL_X10_293 ((on_kt hW (j := 0) (by decide)).o rfl) rfl rfl hl.1 rfl (Nat.le_of_ble_eq_true rfl) dX10_mark_50 ⟨Nat.le_of_ble_eq_true rfl, Nat.le_of_ble_eq_true rfl⟩ ⟨Nat.zero_le _, Nat.zero_le _⟩ (fun H2 locs hp2 hT2 hS2 hk2 => ?_)
  refine lv_aload_n hx hb dX10_mark_53 rfl (lv_at hl 0 rfl) ?_
  refine lv_dup hx hb dX10_mark_54 rfl ?_
  refine h_geti (C := RX10) (T := TX10) (N := 9) hx hb hts inX10 hown hK hT2 (on_w0 hW) rfl 7 rfl wF_X10_52 rfl dX10_mark_55 (fun p7 => ?_)
  refine h_top (v := 0) ((h_gi_same (hp2 (o) (by omega))).trans ((h_gi_same (hp1 (o) (by omega))).trans hpr)) ?_
  refine lv_iconst (v := 1) hx hb dX10_mark_58 (by decide) ?_
  refine lv_iadd hx hb dX10_mark_59 ?_
  refine h_top (v := 1) (by decide) ?_
  refine h_puti (C := RX10) (T := TX10) (N := 9) hx hb hts inX10 tyX10 tyX10_ok nmX10 hown hK hT2 (fun _ h => h) hS2 (on_w0 hW) rfl 7 rfl wF_X10_52 rfl rfl (hPP _) rfl rfl dX10_mark_60 (fun H3 locs hT3 hS3 hu3 => ?_)
  refine lv_aload_n hx hb dX10_mark_63 rfl (lv_at hl 0 rfl) ?_
  refine lv_aload_n hx hb dX10_mark_64 rfl (lv_at hl 0 rfl) ?_
  refine h_geti (C := RX10) (T := TX10) (N := 9) hx hb hts inX10 hown hK hT3 (on_w0 hW) rfl 7 rfl wF_X10_52 rfl dX10_mark_65 (fun p8 => ?_)
  refine h_top (v := 1) (h_pu hu3) ?_
  refine h_callVi (T := TX10) (rest := []) (As := [.int 1]) hx hb hml hown hts hK hT3 hZ (fun _ h => h) hS3 (c_X10_give l G Y P (o) hW 1) trivial wd_X10_give wV_X10_give wL_X10_95 (on_w0 hW) rfl rfl hl.1 rfl (Nat.le_of_ble_eq_true rfl) dX10_mark_68 ⟨Nat.le_of_ble_eq_true rfl, Nat.le_of_ble_eq_true rfl⟩ ⟨Nat.zero_le _, Nat.zero_le _⟩ (fun r9 H4 locs hp4 hT4 hS4 hk4 => ?_)
  obtain ⟨hq, hp4⟩ := hp4
  have hq : r9 = 1 := hq
  subst hq
  exact hret _ _ _ _ _ hT4 hS4 ⟨rfl, (hp4.trans (h_pu hu3))⟩ dX10_mark_71
set_option maxHeartbeats 4000000 in
set_option maxRecDepth 100000 in
theorem c_mark1 (l : Launch) (G : hG) (Y : hW) (P : Int32 → Prop) (hPP : ∀ x, P x) (o : Nat) (hW : h_On Y o (wldE (tC P) o)) : hMi l yX10_mark cX10_mark 1 (some .int) 3 102 G Y [.ref (o)] (fun H => h_gi G H 10 o 7 = 1) (fun H r H1 => r = 2 ∧ h_gi G H1 10 o 7 = 2) := by
  refine h_ofi (by decide +kernel) (Nat.le_of_ble_eq_true rfl) ?_
  intro p e s m args below meth c H0 ls Q hx hb hts hown hml hK hZ hT0 hpr hS0 hl hret
  have hl : lv_has ls 1 [(0, .ref (o))] := hl
  refine lv_aload_n hx hb dX10_mark_0 rfl (lv_at hl 0 rfl) ?_
  refine h_geti (C := RX10) (T := TX10) (N := 9) hx hb hts inX10 hown hK hT0 (on_w0 hW) rfl 7 rfl wF_X10_52 rfl dX10_mark_1 (fun p1 => ?_)
  refine h_top (v := 1) hpr ?_
  refine lv_if_lt (tgt := 15) hx hb dX10_mark_4 (by decide) (fun h => absurd h (by decide)) (fun _ => ?_)
  refine lv_aload_n hx hb dX10_mark_7 rfl (lv_at hl 0 rfl) ?_
  refine h_geti (C := RX10) (T := TX10) (N := 9) hx hb hts inX10 hown hK hT0 (on_w0 hW) rfl 7 rfl wF_X10_52 rfl dX10_mark_8 (fun p3 => ?_)
  refine h_top (v := 1) hpr ?_
  refine lv_iconst (v := 4) hx hb dX10_mark_11 (by decide) ?_
  refine lv_icmp_lt (tgt := 21) hx hb dX10_mark_12 (by decide) (fun _ => ?_) (fun h => absurd (by decide) h)
  refine lv_aload_n hx hb dX10_mark_21 rfl (lv_at hl 0 rfl) ?_
  refine h_getr (C := RX10) (T := TX10) (N := 9) hx hb hts inX10 hown hK hT0 (on_w0 hW) rfl 5 rfl wF_X10_44 rfl dX10_mark_22 ?_
  refine lv_aload_n hx hb dX10_mark_25 rfl (lv_at hl 0 rfl) ?_
  refine h_geti (C := RX10) (T := TX10) (N := 9) hx hb hts inX10 hown hK hT0 (on_w0 hW) rfl 7 rfl wF_X10_52 rfl dX10_mark_26 (fun p5 => ?_)
  refine h_top (v := 1) hpr ?_
  refine h_aal hx hb hK hT0 (by decide) ((on_wm hW).o rfl) (h_inc (by decide)) 1 (by decide) dX10_mark_29 ?_
  refine lv_aload_n hx hb dX10_mark_30 rfl (lv_at hl 0 rfl) ?_
  refine h_getr (C := RX10) (T := TX10) (N := 9) hx hb hts inX10 hown hK hT0 (on_w0 hW) rfl 1 rfl wF_X10_19 rfl dX10_mark_31 ?_
  refine h_callVv (T := TX5) (rest := []) (As := [.ref (o + 3)]) hx hb hml hown hts hK hT0 hZ (fun _ h => h) hS0 (c_X5_copyFrom l G Y P (o + 61 + 27 * 1) (o + 3) (on_kr hW (j := 1) (by decide)) (on_wr hW)) trivial wd_X5_copyFrom wV_X5_copyFrom wL_X10_82 (on_rg (on_kr hW (j := 1) (by decide))) rfl rfl hl.1 rfl (Nat.le_of_ble_eq_true rfl) dX10_mark_34 ⟨Nat.le_of_ble_eq_true rfl, Nat.le_of_ble_eq_true rfl⟩ ⟨Nat.zero_le _, Nat.zero_le _⟩ (fun H1 locs hp1 hT1 hS1 hk1 => ?_)
  refine lv_aload_n hx hb dX10_mark_37 rfl (lv_at hl 0 rfl) ?_
  refine h_getr (C := RX10) (T := TX10) (N := 9) hx hb hts inX10 hown hK hT1 (on_w0 hW) rfl 6 rfl wF_X10_48 rfl dX10_mark_38 ?_
  refine lv_aload_n hx hb dX10_mark_41 rfl (lv_at hl 0 rfl) ?_
  refine h_geti (C := RX10) (T := TX10) (N := 9) hx hb hts inX10 hown hK hT1 (on_w0 hW) rfl 7 rfl wF_X10_52 rfl dX10_mark_42 (fun p6 => ?_)
  refine h_top (v := 1) ((h_gi_same (hp1 (o) (by omega))).trans hpr) ?_
  refine h_aal hx hb hK hT1 (by decide) ((on_wm hW).at 1 rfl) (h_inc (by decide)) 1 (by decide) dX10_mark_45 ?_
  refine lv_aload_n hx hb dX10_mark_46 rfl (lv_at hl 0 rfl) ?_
  refine h_getr (C := RX10) (T := TX10) (N := 9) hx hb hts inX10 hown hK hT1 (on_w0 hW) rfl 0 rfl wF_X10_10 rfl dX10_mark_47 ?_
  refine h_callVv (T := TX8) (rest := []) (As := [.ref (o + 1)]) hx hb hml hown hts hK hT1 hZ (fun _ h => h) hS1 (c_X8_copyFrom l G Y P (o + 61 + 27 * 1 + 25) (o + 1) (on_kt hW (j := 1) (by decide)) (on_wt hW)) trivial wd_X8_copyFrom wV_X8_copyFrom wL_X10_293 ((on_kt hW (j := 1) (by decide)).o rfl) rfl rfl hl.1 rfl (Nat.le_of_ble_eq_true rfl) dX10_mark_50 ⟨Nat.le_of_ble_eq_true rfl, Nat.le_of_ble_eq_true rfl⟩ ⟨Nat.zero_le _, Nat.zero_le _⟩ (fun H2 locs hp2 hT2 hS2 hk2 => ?_)
  refine lv_aload_n hx hb dX10_mark_53 rfl (lv_at hl 0 rfl) ?_
  refine lv_dup hx hb dX10_mark_54 rfl ?_
  refine h_geti (C := RX10) (T := TX10) (N := 9) hx hb hts inX10 hown hK hT2 (on_w0 hW) rfl 7 rfl wF_X10_52 rfl dX10_mark_55 (fun p7 => ?_)
  refine h_top (v := 1) ((h_gi_same (hp2 (o) (by omega))).trans ((h_gi_same (hp1 (o) (by omega))).trans hpr)) ?_
  refine lv_iconst (v := 1) hx hb dX10_mark_58 (by decide) ?_
  refine lv_iadd hx hb dX10_mark_59 ?_
  refine h_top (v := 2) (by decide) ?_
  refine h_puti (C := RX10) (T := TX10) (N := 9) hx hb hts inX10 tyX10 tyX10_ok nmX10 hown hK hT2 (fun _ h => h) hS2 (on_w0 hW) rfl 7 rfl wF_X10_52 rfl rfl (hPP _) rfl rfl dX10_mark_60 (fun H3 locs hT3 hS3 hu3 => ?_)
  refine lv_aload_n hx hb dX10_mark_63 rfl (lv_at hl 0 rfl) ?_
  refine lv_aload_n hx hb dX10_mark_64 rfl (lv_at hl 0 rfl) ?_
  refine h_geti (C := RX10) (T := TX10) (N := 9) hx hb hts inX10 hown hK hT3 (on_w0 hW) rfl 7 rfl wF_X10_52 rfl dX10_mark_65 (fun p8 => ?_)
  refine h_top (v := 2) (h_pu hu3) ?_
  refine h_callVi (T := TX10) (rest := []) (As := [.int 2]) hx hb hml hown hts hK hT3 hZ (fun _ h => h) hS3 (c_X10_give l G Y P (o) hW 2) trivial wd_X10_give wV_X10_give wL_X10_95 (on_w0 hW) rfl rfl hl.1 rfl (Nat.le_of_ble_eq_true rfl) dX10_mark_68 ⟨Nat.le_of_ble_eq_true rfl, Nat.le_of_ble_eq_true rfl⟩ ⟨Nat.zero_le _, Nat.zero_le _⟩ (fun r9 H4 locs hp4 hT4 hS4 hk4 => ?_)
  obtain ⟨hq, hp4⟩ := hp4
  have hq : r9 = 2 := hq
  subst hq
  exact hret _ _ _ _ _ hT4 hS4 ⟨rfl, (hp4.trans (h_pu hu3))⟩ dX10_mark_71
set_option maxHeartbeats 4000000 in
set_option maxRecDepth 100000 in
theorem c_mark2 (l : Launch) (G : hG) (Y : hW) (P : Int32 → Prop) (hPP : ∀ x, P x) (o : Nat) (hW : h_On Y o (wldE (tC P) o)) : hMi l yX10_mark cX10_mark 1 (some .int) 3 102 G Y [.ref (o)] (fun H => h_gi G H 10 o 7 = 2) (fun H r H1 => r = 3 ∧ h_gi G H1 10 o 7 = 3) := by
  refine h_ofi (by decide +kernel) (Nat.le_of_ble_eq_true rfl) ?_
  intro p e s m args below meth c H0 ls Q hx hb hts hown hml hK hZ hT0 hpr hS0 hl hret
  have hl : lv_has ls 1 [(0, .ref (o))] := hl
  refine lv_aload_n hx hb dX10_mark_0 rfl (lv_at hl 0 rfl) ?_
  refine h_geti (C := RX10) (T := TX10) (N := 9) hx hb hts inX10 hown hK hT0 (on_w0 hW) rfl 7 rfl wF_X10_52 rfl dX10_mark_1 (fun p1 => ?_)
  refine h_top (v := 2) hpr ?_
  refine lv_if_lt (tgt := 15) hx hb dX10_mark_4 (by decide) (fun h => absurd h (by decide)) (fun _ => ?_)
  refine lv_aload_n hx hb dX10_mark_7 rfl (lv_at hl 0 rfl) ?_
  refine h_geti (C := RX10) (T := TX10) (N := 9) hx hb hts inX10 hown hK hT0 (on_w0 hW) rfl 7 rfl wF_X10_52 rfl dX10_mark_8 (fun p3 => ?_)
  refine h_top (v := 2) hpr ?_
  refine lv_iconst (v := 4) hx hb dX10_mark_11 (by decide) ?_
  refine lv_icmp_lt (tgt := 21) hx hb dX10_mark_12 (by decide) (fun _ => ?_) (fun h => absurd (by decide) h)
  refine lv_aload_n hx hb dX10_mark_21 rfl (lv_at hl 0 rfl) ?_
  refine h_getr (C := RX10) (T := TX10) (N := 9) hx hb hts inX10 hown hK hT0 (on_w0 hW) rfl 5 rfl wF_X10_44 rfl dX10_mark_22 ?_
  refine lv_aload_n hx hb dX10_mark_25 rfl (lv_at hl 0 rfl) ?_
  refine h_geti (C := RX10) (T := TX10) (N := 9) hx hb hts inX10 hown hK hT0 (on_w0 hW) rfl 7 rfl wF_X10_52 rfl dX10_mark_26 (fun p5 => ?_)
  refine h_top (v := 2) hpr ?_
  refine h_aal hx hb hK hT0 (by decide) ((on_wm hW).o rfl) (h_inc (by decide)) 2 (by decide) dX10_mark_29 ?_
  refine lv_aload_n hx hb dX10_mark_30 rfl (lv_at hl 0 rfl) ?_
  refine h_getr (C := RX10) (T := TX10) (N := 9) hx hb hts inX10 hown hK hT0 (on_w0 hW) rfl 1 rfl wF_X10_19 rfl dX10_mark_31 ?_
  refine h_callVv (T := TX5) (rest := []) (As := [.ref (o + 3)]) hx hb hml hown hts hK hT0 hZ (fun _ h => h) hS0 (c_X5_copyFrom l G Y P (o + 61 + 27 * 2) (o + 3) (on_kr hW (j := 2) (by decide)) (on_wr hW)) trivial wd_X5_copyFrom wV_X5_copyFrom wL_X10_82 (on_rg (on_kr hW (j := 2) (by decide))) rfl rfl hl.1 rfl (Nat.le_of_ble_eq_true rfl) dX10_mark_34 ⟨Nat.le_of_ble_eq_true rfl, Nat.le_of_ble_eq_true rfl⟩ ⟨Nat.zero_le _, Nat.zero_le _⟩ (fun H1 locs hp1 hT1 hS1 hk1 => ?_)
  refine lv_aload_n hx hb dX10_mark_37 rfl (lv_at hl 0 rfl) ?_
  refine h_getr (C := RX10) (T := TX10) (N := 9) hx hb hts inX10 hown hK hT1 (on_w0 hW) rfl 6 rfl wF_X10_48 rfl dX10_mark_38 ?_
  refine lv_aload_n hx hb dX10_mark_41 rfl (lv_at hl 0 rfl) ?_
  refine h_geti (C := RX10) (T := TX10) (N := 9) hx hb hts inX10 hown hK hT1 (on_w0 hW) rfl 7 rfl wF_X10_52 rfl dX10_mark_42 (fun p6 => ?_)
  refine h_top (v := 2) ((h_gi_same (hp1 (o) (by omega))).trans hpr) ?_
  refine h_aal hx hb hK hT1 (by decide) ((on_wm hW).at 1 rfl) (h_inc (by decide)) 2 (by decide) dX10_mark_45 ?_
  refine lv_aload_n hx hb dX10_mark_46 rfl (lv_at hl 0 rfl) ?_
  refine h_getr (C := RX10) (T := TX10) (N := 9) hx hb hts inX10 hown hK hT1 (on_w0 hW) rfl 0 rfl wF_X10_10 rfl dX10_mark_47 ?_
  refine h_callVv (T := TX8) (rest := []) (As := [.ref (o + 1)]) hx hb hml hown hts hK hT1 hZ (fun _ h => h) hS1 (c_X8_copyFrom l G Y P (o + 61 + 27 * 2 + 25) (o + 1) (on_kt hW (j := 2) (by decide)) (on_wt hW)) trivial wd_X8_copyFrom wV_X8_copyFrom wL_X10_293 ((on_kt hW (j := 2) (by decide)).o rfl) rfl rfl hl.1 rfl (Nat.le_of_ble_eq_true rfl) dX10_mark_50 ⟨Nat.le_of_ble_eq_true rfl, Nat.le_of_ble_eq_true rfl⟩ ⟨Nat.zero_le _, Nat.zero_le _⟩ (fun H2 locs hp2 hT2 hS2 hk2 => ?_)
  refine lv_aload_n hx hb dX10_mark_53 rfl (lv_at hl 0 rfl) ?_
  refine lv_dup hx hb dX10_mark_54 rfl ?_
  refine h_geti (C := RX10) (T := TX10) (N := 9) hx hb hts inX10 hown hK hT2 (on_w0 hW) rfl 7 rfl wF_X10_52 rfl dX10_mark_55 (fun p7 => ?_)
  refine h_top (v := 2) ((h_gi_same (hp2 (o) (by omega))).trans ((h_gi_same (hp1 (o) (by omega))).trans hpr)) ?_
  refine lv_iconst (v := 1) hx hb dX10_mark_58 (by decide) ?_
  refine lv_iadd hx hb dX10_mark_59 ?_
  refine h_top (v := 3) (by decide) ?_
  refine h_puti (C := RX10) (T := TX10) (N := 9) hx hb hts inX10 tyX10 tyX10_ok nmX10 hown hK hT2 (fun _ h => h) hS2 (on_w0 hW) rfl 7 rfl wF_X10_52 rfl rfl (hPP _) rfl rfl dX10_mark_60 (fun H3 locs hT3 hS3 hu3 => ?_)
  refine lv_aload_n hx hb dX10_mark_63 rfl (lv_at hl 0 rfl) ?_
  refine lv_aload_n hx hb dX10_mark_64 rfl (lv_at hl 0 rfl) ?_
  refine h_geti (C := RX10) (T := TX10) (N := 9) hx hb hts inX10 hown hK hT3 (on_w0 hW) rfl 7 rfl wF_X10_52 rfl dX10_mark_65 (fun p8 => ?_)
  refine h_top (v := 3) (h_pu hu3) ?_
  refine h_callVi (T := TX10) (rest := []) (As := [.int 3]) hx hb hml hown hts hK hT3 hZ (fun _ h => h) hS3 (c_X10_give l G Y P (o) hW 3) trivial wd_X10_give wV_X10_give wL_X10_95 (on_w0 hW) rfl rfl hl.1 rfl (Nat.le_of_ble_eq_true rfl) dX10_mark_68 ⟨Nat.le_of_ble_eq_true rfl, Nat.le_of_ble_eq_true rfl⟩ ⟨Nat.zero_le _, Nat.zero_le _⟩ (fun r9 H4 locs hp4 hT4 hS4 hk4 => ?_)
  obtain ⟨hq, hp4⟩ := hp4
  have hq : r9 = 3 := hq
  subst hq
  exact hret _ _ _ _ _ hT4 hS4 ⟨rfl, (hp4.trans (h_pu hu3))⟩ dX10_mark_71
set_option maxHeartbeats 4000000 in
set_option maxRecDepth 100000 in
theorem c_mark3 (l : Launch) (G : hG) (Y : hW) (P : Int32 → Prop) (hPP : ∀ x, P x) (o : Nat) (hW : h_On Y o (wldE (tC P) o)) : hMi l yX10_mark cX10_mark 1 (some .int) 3 102 G Y [.ref (o)] (fun H => h_gi G H 10 o 7 = 3) (fun H r H1 => r = 4 ∧ h_gi G H1 10 o 7 = 4) := by
  refine h_ofi (by decide +kernel) (Nat.le_of_ble_eq_true rfl) ?_
  intro p e s m args below meth c H0 ls Q hx hb hts hown hml hK hZ hT0 hpr hS0 hl hret
  have hl : lv_has ls 1 [(0, .ref (o))] := hl
  refine lv_aload_n hx hb dX10_mark_0 rfl (lv_at hl 0 rfl) ?_
  refine h_geti (C := RX10) (T := TX10) (N := 9) hx hb hts inX10 hown hK hT0 (on_w0 hW) rfl 7 rfl wF_X10_52 rfl dX10_mark_1 (fun p1 => ?_)
  refine h_top (v := 3) hpr ?_
  refine lv_if_lt (tgt := 15) hx hb dX10_mark_4 (by decide) (fun h => absurd h (by decide)) (fun _ => ?_)
  refine lv_aload_n hx hb dX10_mark_7 rfl (lv_at hl 0 rfl) ?_
  refine h_geti (C := RX10) (T := TX10) (N := 9) hx hb hts inX10 hown hK hT0 (on_w0 hW) rfl 7 rfl wF_X10_52 rfl dX10_mark_8 (fun p3 => ?_)
  refine h_top (v := 3) hpr ?_
  refine lv_iconst (v := 4) hx hb dX10_mark_11 (by decide) ?_
  refine lv_icmp_lt (tgt := 21) hx hb dX10_mark_12 (by decide) (fun _ => ?_) (fun h => absurd (by decide) h)
  refine lv_aload_n hx hb dX10_mark_21 rfl (lv_at hl 0 rfl) ?_
  refine h_getr (C := RX10) (T := TX10) (N := 9) hx hb hts inX10 hown hK hT0 (on_w0 hW) rfl 5 rfl wF_X10_44 rfl dX10_mark_22 ?_
  refine lv_aload_n hx hb dX10_mark_25 rfl (lv_at hl 0 rfl) ?_
  refine h_geti (C := RX10) (T := TX10) (N := 9) hx hb hts inX10 hown hK hT0 (on_w0 hW) rfl 7 rfl wF_X10_52 rfl dX10_mark_26 (fun p5 => ?_)
  refine h_top (v := 3) hpr ?_
  refine h_aal hx hb hK hT0 (by decide) ((on_wm hW).o rfl) (h_inc (by decide)) 3 (by decide) dX10_mark_29 ?_
  refine lv_aload_n hx hb dX10_mark_30 rfl (lv_at hl 0 rfl) ?_
  refine h_getr (C := RX10) (T := TX10) (N := 9) hx hb hts inX10 hown hK hT0 (on_w0 hW) rfl 1 rfl wF_X10_19 rfl dX10_mark_31 ?_
  refine h_callVv (T := TX5) (rest := []) (As := [.ref (o + 3)]) hx hb hml hown hts hK hT0 hZ (fun _ h => h) hS0 (c_X5_copyFrom l G Y P (o + 61 + 27 * 3) (o + 3) (on_kr hW (j := 3) (by decide)) (on_wr hW)) trivial wd_X5_copyFrom wV_X5_copyFrom wL_X10_82 (on_rg (on_kr hW (j := 3) (by decide))) rfl rfl hl.1 rfl (Nat.le_of_ble_eq_true rfl) dX10_mark_34 ⟨Nat.le_of_ble_eq_true rfl, Nat.le_of_ble_eq_true rfl⟩ ⟨Nat.zero_le _, Nat.zero_le _⟩ (fun H1 locs hp1 hT1 hS1 hk1 => ?_)
  refine lv_aload_n hx hb dX10_mark_37 rfl (lv_at hl 0 rfl) ?_
  refine h_getr (C := RX10) (T := TX10) (N := 9) hx hb hts inX10 hown hK hT1 (on_w0 hW) rfl 6 rfl wF_X10_48 rfl dX10_mark_38 ?_
  refine lv_aload_n hx hb dX10_mark_41 rfl (lv_at hl 0 rfl) ?_
  refine h_geti (C := RX10) (T := TX10) (N := 9) hx hb hts inX10 hown hK hT1 (on_w0 hW) rfl 7 rfl wF_X10_52 rfl dX10_mark_42 (fun p6 => ?_)
  refine h_top (v := 3) ((h_gi_same (hp1 (o) (by omega))).trans hpr) ?_
  refine h_aal hx hb hK hT1 (by decide) ((on_wm hW).at 1 rfl) (h_inc (by decide)) 3 (by decide) dX10_mark_45 ?_
  refine lv_aload_n hx hb dX10_mark_46 rfl (lv_at hl 0 rfl) ?_
  refine h_getr (C := RX10) (T := TX10) (N := 9) hx hb hts inX10 hown hK hT1 (on_w0 hW) rfl 0 rfl wF_X10_10 rfl dX10_mark_47 ?_
  refine h_callVv (T := TX8) (rest := []) (As := [.ref (o + 1)]) hx hb hml hown hts hK hT1 hZ (fun _ h => h) hS1 (c_X8_copyFrom l G Y P (o + 61 + 27 * 3 + 25) (o + 1) (on_kt hW (j := 3) (by decide)) (on_wt hW)) trivial wd_X8_copyFrom wV_X8_copyFrom wL_X10_293 ((on_kt hW (j := 3) (by decide)).o rfl) rfl rfl hl.1 rfl (Nat.le_of_ble_eq_true rfl) dX10_mark_50 ⟨Nat.le_of_ble_eq_true rfl, Nat.le_of_ble_eq_true rfl⟩ ⟨Nat.zero_le _, Nat.zero_le _⟩ (fun H2 locs hp2 hT2 hS2 hk2 => ?_)
  refine lv_aload_n hx hb dX10_mark_53 rfl (lv_at hl 0 rfl) ?_
  refine lv_dup hx hb dX10_mark_54 rfl ?_
  refine h_geti (C := RX10) (T := TX10) (N := 9) hx hb hts inX10 hown hK hT2 (on_w0 hW) rfl 7 rfl wF_X10_52 rfl dX10_mark_55 (fun p7 => ?_)
  refine h_top (v := 3) ((h_gi_same (hp2 (o) (by omega))).trans ((h_gi_same (hp1 (o) (by omega))).trans hpr)) ?_
  refine lv_iconst (v := 1) hx hb dX10_mark_58 (by decide) ?_
  refine lv_iadd hx hb dX10_mark_59 ?_
  refine h_top (v := 4) (by decide) ?_
  refine h_puti (C := RX10) (T := TX10) (N := 9) hx hb hts inX10 tyX10 tyX10_ok nmX10 hown hK hT2 (fun _ h => h) hS2 (on_w0 hW) rfl 7 rfl wF_X10_52 rfl rfl (hPP _) rfl rfl dX10_mark_60 (fun H3 locs hT3 hS3 hu3 => ?_)
  refine lv_aload_n hx hb dX10_mark_63 rfl (lv_at hl 0 rfl) ?_
  refine lv_aload_n hx hb dX10_mark_64 rfl (lv_at hl 0 rfl) ?_
  refine h_geti (C := RX10) (T := TX10) (N := 9) hx hb hts inX10 hown hK hT3 (on_w0 hW) rfl 7 rfl wF_X10_52 rfl dX10_mark_65 (fun p8 => ?_)
  refine h_top (v := 4) (h_pu hu3) ?_
  refine h_callVi (T := TX10) (rest := []) (As := [.int 4]) hx hb hml hown hts hK hT3 hZ (fun _ h => h) hS3 (c_X10_give l G Y P (o) hW 4) trivial wd_X10_give wV_X10_give wL_X10_95 (on_w0 hW) rfl rfl hl.1 rfl (Nat.le_of_ble_eq_true rfl) dX10_mark_68 ⟨Nat.le_of_ble_eq_true rfl, Nat.le_of_ble_eq_true rfl⟩ ⟨Nat.zero_le _, Nat.zero_le _⟩ (fun r9 H4 locs hp4 hT4 hS4 hk4 => ?_)
  obtain ⟨hq, hp4⟩ := hp4
  have hq : r9 = 4 := hq
  subst hq
  exact hret _ _ _ _ _ hT4 hS4 ⟨rfl, (hp4.trans (h_pu hu3))⟩ dX10_mark_71
set_option maxHeartbeats 4000000 in
set_option maxRecDepth 100000 in
theorem c_mark4 (l : Launch) (G : hG) (Y : hW) (P : Int32 → Prop) (hPP : ∀ x, P x) (o : Nat) (hW : h_On Y o (wldE (tC P) o)) : hMi l yX10_mark cX10_mark 1 (some .int) 1 21 G Y [.ref (o)] (fun H => h_gi G H 10 o 7 = 4) (fun H r H1 => r = (-1) ∧ h_gi G H1 10 o 7 = 4) := by
  refine h_ofi (by decide +kernel) (Nat.le_of_ble_eq_true rfl) ?_
  intro p e s m args below meth c H0 ls Q hx hb hts hown hml hK hZ hT0 hpr hS0 hl hret
  have hl : lv_has ls 1 [(0, .ref (o))] := hl
  refine lv_aload_n hx hb dX10_mark_0 rfl (lv_at hl 0 rfl) ?_
  refine h_geti (C := RX10) (T := TX10) (N := 9) hx hb hts inX10 hown hK hT0 (on_w0 hW) rfl 7 rfl wF_X10_52 rfl dX10_mark_1 (fun p1 => ?_)
  refine h_top (v := 4) hpr ?_
  refine lv_if_lt (tgt := 15) hx hb dX10_mark_4 (by decide) (fun h => absurd h (by decide)) (fun _ => ?_)
  refine lv_aload_n hx hb dX10_mark_7 rfl (lv_at hl 0 rfl) ?_
  refine h_geti (C := RX10) (T := TX10) (N := 9) hx hb hts inX10 hown hK hT0 (on_w0 hW) rfl 7 rfl wF_X10_52 rfl dX10_mark_8 (fun p3 => ?_)
  refine h_top (v := 4) hpr ?_
  refine lv_iconst (v := 4) hx hb dX10_mark_11 (by decide) ?_
  refine lv_icmp_lt (tgt := 21) hx hb dX10_mark_12 (by decide) (fun h => absurd h (by decide)) (fun _ => ?_)
  refine lv_aload_n hx hb dX10_mark_15 rfl (lv_at hl 0 rfl) ?_
  refine lv_iconst (v := 3) hx hb dX10_mark_16 (by decide) ?_
  refine h_callVi (T := TX10) (rest := []) (As := [.int 3]) hx hb hml hown hts hK hT0 hZ (fun _ h => h) hS0 (c_X10_fail l G Y P (o) hW 3) trivial wd_X10_fail wV_X10_fail wL_X10_66 (on_w0 hW) rfl rfl hl.1 rfl (Nat.le_of_ble_eq_true rfl) dX10_mark_17 ⟨Nat.le_of_ble_eq_true rfl, Nat.le_of_ble_eq_true rfl⟩ ⟨Nat.zero_le _, Nat.zero_le _⟩ (fun r5 H1 locs hp1 hT1 hS1 hk1 => ?_)
  obtain ⟨hq, hp1⟩ := hp1
  have hq : r5 = (-1) := hq
  subst hq
  exact hret _ _ _ _ _ hT1 hS1 ⟨rfl, (hp1.trans hpr)⟩ dX10_mark_20
set_option maxHeartbeats 4000000 in
set_option maxRecDepth 100000 in
theorem c_back0 (l : Launch) (G : hG) (Y : hW) (P : Int32 → Prop) (hPP : ∀ x, P x) (o : Nat) (hW : h_On Y o (wldE (tC P) o)) : hMi l yX10_back cX10_back 1 (some .int) 1 21 G Y [.ref (o)] (fun H => h_gi G H 10 o 7 = 0) (fun H r H1 => r = (-1) ∧ h_gi G H1 10 o 7 = 0) := by
  refine h_ofi (by decide +kernel) (Nat.le_of_ble_eq_true rfl) ?_
  intro p e s m args below meth c H0 ls Q hx hb hts hown hml hK hZ hT0 hpr hS0 hl hret
  have hl : lv_has ls 1 [(0, .ref (o))] := hl
  refine lv_aload_n hx hb dX10_back_0 rfl (lv_at hl 0 rfl) ?_
  refine h_geti (C := RX10) (T := TX10) (N := 9) hx hb hts inX10 hown hK hT0 (on_w0 hW) rfl 7 rfl wF_X10_52 rfl dX10_back_1 (fun p1 => ?_)
  refine h_top (v := 0) hpr ?_
  refine lv_iconst (v := 1) hx hb dX10_back_4 (by decide) ?_
  refine lv_icmp_lt (tgt := 16) hx hb dX10_back_5 (by decide) (fun _ => ?_) (fun h => absurd (by decide) h)
  refine lv_aload_n hx hb dX10_back_16 rfl (lv_at hl 0 rfl) ?_
  refine lv_iconst (v := 5) hx hb dX10_back_17 (by decide) ?_
  refine h_callVi (T := TX10) (rest := []) (As := [.int 5]) hx hb hml hown hts hK hT0 hZ (fun _ h => h) hS0 (c_X10_fail l G Y P (o) hW 5) trivial wd_X10_fail wV_X10_fail wL_X10_66 (on_w0 hW) rfl rfl hl.1 rfl (Nat.le_of_ble_eq_true rfl) dX10_back_18 ⟨Nat.le_of_ble_eq_true rfl, Nat.le_of_ble_eq_true rfl⟩ ⟨Nat.zero_le _, Nat.zero_le _⟩ (fun r3 H1 locs hp1 hT1 hS1 hk1 => ?_)
  obtain ⟨hq, hp1⟩ := hp1
  have hq : r3 = (-1) := hq
  subst hq
  exact hret _ _ _ _ _ hT1 hS1 ⟨rfl, (hp1.trans hpr)⟩ dX10_back_21
set_option maxHeartbeats 4000000 in
set_option maxRecDepth 100000 in
theorem c_back1 (l : Launch) (G : hG) (Y : hW) (P : Int32 → Prop) (hPP : ∀ x, P x) (o : Nat) (hW : h_On Y o (wldE (tC P) o)) : hMi l yX10_back cX10_back 1 (some .int) 3 102 G Y [.ref (o)] (fun H => h_gi G H 10 o 7 = 1) (fun H r H1 => r = 0 ∧ h_gi G H1 10 o 7 = 0) := by
  refine h_ofi (by decide +kernel) (Nat.le_of_ble_eq_true rfl) ?_
  intro p e s m args below meth c H0 ls Q hx hb hts hown hml hK hZ hT0 hpr hS0 hl hret
  have hl : lv_has ls 1 [(0, .ref (o))] := hl
  refine lv_aload_n hx hb dX10_back_0 rfl (lv_at hl 0 rfl) ?_
  refine h_geti (C := RX10) (T := TX10) (N := 9) hx hb hts inX10 hown hK hT0 (on_w0 hW) rfl 7 rfl wF_X10_52 rfl dX10_back_1 (fun p1 => ?_)
  refine h_top (v := 1) hpr ?_
  refine lv_iconst (v := 1) hx hb dX10_back_4 (by decide) ?_
  refine lv_icmp_lt (tgt := 16) hx hb dX10_back_5 (by decide) (fun h => absurd h (by decide)) (fun _ => ?_)
  refine lv_aload_n hx hb dX10_back_8 rfl (lv_at hl 0 rfl) ?_
  refine h_geti (C := RX10) (T := TX10) (N := 9) hx hb hts inX10 hown hK hT0 (on_w0 hW) rfl 7 rfl wF_X10_52 rfl dX10_back_9 (fun p3 => ?_)
  refine h_top (v := 1) hpr ?_
  refine lv_iconst (v := 4) hx hb dX10_back_12 (by decide) ?_
  refine lv_icmp_le (tgt := 22) hx hb dX10_back_13 (by decide) (fun _ => ?_) (fun h => absurd (by decide) h)
  refine lv_aload_n hx hb dX10_back_22 rfl (lv_at hl 0 rfl) ?_
  refine lv_dup hx hb dX10_back_23 rfl ?_
  refine h_geti (C := RX10) (T := TX10) (N := 9) hx hb hts inX10 hown hK hT0 (on_w0 hW) rfl 7 rfl wF_X10_52 rfl dX10_back_24 (fun p5 => ?_)
  refine h_top (v := 1) hpr ?_
  refine lv_iconst (v := 1) hx hb dX10_back_27 (by decide) ?_
  refine lv_isub hx hb dX10_back_28 ?_
  refine h_top (v := 0) (by decide) ?_
  refine h_puti (C := RX10) (T := TX10) (N := 9) hx hb hts inX10 tyX10 tyX10_ok nmX10 hown hK hT0 (fun _ h => h) hS0 (on_w0 hW) rfl 7 rfl wF_X10_52 rfl rfl (hPP _) rfl rfl dX10_back_29 (fun H1 locs hT1 hS1 hu1 => ?_)
  refine lv_aload_n hx hb dX10_back_32 rfl (lv_at hl 0 rfl) ?_
  refine h_getr (C := RX10) (T := TX10) (N := 9) hx hb hts inX10 hown hK hT1 (on_w0 hW) rfl 1 rfl wF_X10_19 rfl dX10_back_33 ?_
  refine lv_aload_n hx hb dX10_back_36 rfl (lv_at hl 0 rfl) ?_
  refine h_getr (C := RX10) (T := TX10) (N := 9) hx hb hts inX10 hown hK hT1 (on_w0 hW) rfl 5 rfl wF_X10_44 rfl dX10_back_37 ?_
  refine lv_aload_n hx hb dX10_back_40 rfl (lv_at hl 0 rfl) ?_
  refine h_geti (C := RX10) (T := TX10) (N := 9) hx hb hts inX10 hown hK hT1 (on_w0 hW) rfl 7 rfl wF_X10_52 rfl dX10_back_41 (fun p6 => ?_)
  refine h_top (v := 0) (h_pu hu1) ?_
  refine h_aal hx hb hK hT1 (by decide) ((on_wm hW).o rfl) (h_inc (by decide)) 0 (by decide) dX10_back_44 ?_
  refine h_callVv (T := TX5) (rest := []) (As := [.ref (o + 61 + 27 * 0)]) hx hb hml hown hts hK hT1 hZ (fun _ h => h) hS1 (c_X5_copyFrom l G Y P (o + 3) (o + 61 + 27 * 0) (on_wr hW) (on_kr hW (j := 0) (by decide))) trivial wd_X5_copyFrom wV_X5_copyFrom wL_X10_82 (on_rg (on_wr hW)) rfl rfl hl.1 rfl (Nat.le_of_ble_eq_true rfl) dX10_back_45 ⟨Nat.le_of_ble_eq_true rfl, Nat.le_of_ble_eq_true rfl⟩ ⟨Nat.zero_le _, Nat.zero_le _⟩ (fun H2 locs hp2 hT2 hS2 hk2 => ?_)
  refine lv_aload_n hx hb dX10_back_48 rfl (lv_at hl 0 rfl) ?_
  refine h_getr (C := RX10) (T := TX10) (N := 9) hx hb hts inX10 hown hK hT2 (on_w0 hW) rfl 0 rfl wF_X10_10 rfl dX10_back_49 ?_
  refine lv_aload_n hx hb dX10_back_52 rfl (lv_at hl 0 rfl) ?_
  refine h_getr (C := RX10) (T := TX10) (N := 9) hx hb hts inX10 hown hK hT2 (on_w0 hW) rfl 6 rfl wF_X10_48 rfl dX10_back_53 ?_
  refine lv_aload_n hx hb dX10_back_56 rfl (lv_at hl 0 rfl) ?_
  refine h_geti (C := RX10) (T := TX10) (N := 9) hx hb hts inX10 hown hK hT2 (on_w0 hW) rfl 7 rfl wF_X10_52 rfl dX10_back_57 (fun p7 => ?_)
  refine h_top (v := 0) ((h_gi_same (hp2 (o) (by omega))).trans (h_pu hu1)) ?_
  refine h_aal hx hb hK hT2 (by decide) ((on_wm hW).at 1 rfl) (h_inc (by decide)) 0 (by decide) dX10_back_60 ?_
  refine h_callVv (T := TX8) (rest := []) (As := [.ref (o + 61 + 27 * 0 + 25)]) hx hb hml hown hts hK hT2 hZ (fun _ h => h) hS2 (c_X8_copyFrom l G Y P (o + 1) (o + 61 + 27 * 0 + 25) (on_wt hW) (on_kt hW (j := 0) (by decide))) trivial wd_X8_copyFrom wV_X8_copyFrom wL_X10_293 ((on_wt hW).o rfl) rfl rfl hl.1 rfl (Nat.le_of_ble_eq_true rfl) dX10_back_61 ⟨Nat.le_of_ble_eq_true rfl, Nat.le_of_ble_eq_true rfl⟩ ⟨Nat.zero_le _, Nat.zero_le _⟩ (fun H3 locs hp3 hT3 hS3 hk3 => ?_)
  refine lv_aload_n hx hb dX10_back_64 rfl (lv_at hl 0 rfl) ?_
  refine lv_aload_n hx hb dX10_back_65 rfl (lv_at hl 0 rfl) ?_
  refine h_geti (C := RX10) (T := TX10) (N := 9) hx hb hts inX10 hown hK hT3 (on_w0 hW) rfl 7 rfl wF_X10_52 rfl dX10_back_66 (fun p8 => ?_)
  refine h_top (v := 0) ((h_gi_same (hp3 (o) (by omega))).trans ((h_gi_same (hp2 (o) (by omega))).trans (h_pu hu1))) ?_
  refine h_callVi (T := TX10) (rest := []) (As := [.int 0]) hx hb hml hown hts hK hT3 hZ (fun _ h => h) hS3 (c_X10_give l G Y P (o) hW 0) trivial wd_X10_give wV_X10_give wL_X10_95 (on_w0 hW) rfl rfl hl.1 rfl (Nat.le_of_ble_eq_true rfl) dX10_back_69 ⟨Nat.le_of_ble_eq_true rfl, Nat.le_of_ble_eq_true rfl⟩ ⟨Nat.zero_le _, Nat.zero_le _⟩ (fun r9 H4 locs hp4 hT4 hS4 hk4 => ?_)
  obtain ⟨hq, hp4⟩ := hp4
  have hq : r9 = 0 := hq
  subst hq
  exact hret _ _ _ _ _ hT4 hS4 ⟨rfl, (hp4.trans ((h_gi_same (hp3 (o) (by omega))).trans ((h_gi_same (hp2 (o) (by omega))).trans (h_pu hu1))))⟩ dX10_back_72
set_option maxHeartbeats 4000000 in
set_option maxRecDepth 100000 in
theorem c_back2 (l : Launch) (G : hG) (Y : hW) (P : Int32 → Prop) (hPP : ∀ x, P x) (o : Nat) (hW : h_On Y o (wldE (tC P) o)) : hMi l yX10_back cX10_back 1 (some .int) 3 102 G Y [.ref (o)] (fun H => h_gi G H 10 o 7 = 2) (fun H r H1 => r = 1 ∧ h_gi G H1 10 o 7 = 1) := by
  refine h_ofi (by decide +kernel) (Nat.le_of_ble_eq_true rfl) ?_
  intro p e s m args below meth c H0 ls Q hx hb hts hown hml hK hZ hT0 hpr hS0 hl hret
  have hl : lv_has ls 1 [(0, .ref (o))] := hl
  refine lv_aload_n hx hb dX10_back_0 rfl (lv_at hl 0 rfl) ?_
  refine h_geti (C := RX10) (T := TX10) (N := 9) hx hb hts inX10 hown hK hT0 (on_w0 hW) rfl 7 rfl wF_X10_52 rfl dX10_back_1 (fun p1 => ?_)
  refine h_top (v := 2) hpr ?_
  refine lv_iconst (v := 1) hx hb dX10_back_4 (by decide) ?_
  refine lv_icmp_lt (tgt := 16) hx hb dX10_back_5 (by decide) (fun h => absurd h (by decide)) (fun _ => ?_)
  refine lv_aload_n hx hb dX10_back_8 rfl (lv_at hl 0 rfl) ?_
  refine h_geti (C := RX10) (T := TX10) (N := 9) hx hb hts inX10 hown hK hT0 (on_w0 hW) rfl 7 rfl wF_X10_52 rfl dX10_back_9 (fun p3 => ?_)
  refine h_top (v := 2) hpr ?_
  refine lv_iconst (v := 4) hx hb dX10_back_12 (by decide) ?_
  refine lv_icmp_le (tgt := 22) hx hb dX10_back_13 (by decide) (fun _ => ?_) (fun h => absurd (by decide) h)
  refine lv_aload_n hx hb dX10_back_22 rfl (lv_at hl 0 rfl) ?_
  refine lv_dup hx hb dX10_back_23 rfl ?_
  refine h_geti (C := RX10) (T := TX10) (N := 9) hx hb hts inX10 hown hK hT0 (on_w0 hW) rfl 7 rfl wF_X10_52 rfl dX10_back_24 (fun p5 => ?_)
  refine h_top (v := 2) hpr ?_
  refine lv_iconst (v := 1) hx hb dX10_back_27 (by decide) ?_
  refine lv_isub hx hb dX10_back_28 ?_
  refine h_top (v := 1) (by decide) ?_
  refine h_puti (C := RX10) (T := TX10) (N := 9) hx hb hts inX10 tyX10 tyX10_ok nmX10 hown hK hT0 (fun _ h => h) hS0 (on_w0 hW) rfl 7 rfl wF_X10_52 rfl rfl (hPP _) rfl rfl dX10_back_29 (fun H1 locs hT1 hS1 hu1 => ?_)
  refine lv_aload_n hx hb dX10_back_32 rfl (lv_at hl 0 rfl) ?_
  refine h_getr (C := RX10) (T := TX10) (N := 9) hx hb hts inX10 hown hK hT1 (on_w0 hW) rfl 1 rfl wF_X10_19 rfl dX10_back_33 ?_
  refine lv_aload_n hx hb dX10_back_36 rfl (lv_at hl 0 rfl) ?_
  refine h_getr (C := RX10) (T := TX10) (N := 9) hx hb hts inX10 hown hK hT1 (on_w0 hW) rfl 5 rfl wF_X10_44 rfl dX10_back_37 ?_
  refine lv_aload_n hx hb dX10_back_40 rfl (lv_at hl 0 rfl) ?_
  refine h_geti (C := RX10) (T := TX10) (N := 9) hx hb hts inX10 hown hK hT1 (on_w0 hW) rfl 7 rfl wF_X10_52 rfl dX10_back_41 (fun p6 => ?_)
  refine h_top (v := 1) (h_pu hu1) ?_
  refine h_aal hx hb hK hT1 (by decide) ((on_wm hW).o rfl) (h_inc (by decide)) 1 (by decide) dX10_back_44 ?_
  refine h_callVv (T := TX5) (rest := []) (As := [.ref (o + 61 + 27 * 1)]) hx hb hml hown hts hK hT1 hZ (fun _ h => h) hS1 (c_X5_copyFrom l G Y P (o + 3) (o + 61 + 27 * 1) (on_wr hW) (on_kr hW (j := 1) (by decide))) trivial wd_X5_copyFrom wV_X5_copyFrom wL_X10_82 (on_rg (on_wr hW)) rfl rfl hl.1 rfl (Nat.le_of_ble_eq_true rfl) dX10_back_45 ⟨Nat.le_of_ble_eq_true rfl, Nat.le_of_ble_eq_true rfl⟩ ⟨Nat.zero_le _, Nat.zero_le _⟩ (fun H2 locs hp2 hT2 hS2 hk2 => ?_)
  refine lv_aload_n hx hb dX10_back_48 rfl (lv_at hl 0 rfl) ?_
  refine h_getr (C := RX10) (T := TX10) (N := 9) hx hb hts inX10 hown hK hT2 (on_w0 hW) rfl 0 rfl wF_X10_10 rfl dX10_back_49 ?_
  refine lv_aload_n hx hb dX10_back_52 rfl (lv_at hl 0 rfl) ?_
  refine h_getr (C := RX10) (T := TX10) (N := 9) hx hb hts inX10 hown hK hT2 (on_w0 hW) rfl 6 rfl wF_X10_48 rfl dX10_back_53 ?_
  refine lv_aload_n hx hb dX10_back_56 rfl (lv_at hl 0 rfl) ?_
  refine h_geti (C := RX10) (T := TX10) (N := 9) hx hb hts inX10 hown hK hT2 (on_w0 hW) rfl 7 rfl wF_X10_52 rfl dX10_back_57 (fun p7 => ?_)
  refine h_top (v := 1) ((h_gi_same (hp2 (o) (by omega))).trans (h_pu hu1)) ?_
  refine h_aal hx hb hK hT2 (by decide) ((on_wm hW).at 1 rfl) (h_inc (by decide)) 1 (by decide) dX10_back_60 ?_
  refine h_callVv (T := TX8) (rest := []) (As := [.ref (o + 61 + 27 * 1 + 25)]) hx hb hml hown hts hK hT2 hZ (fun _ h => h) hS2 (c_X8_copyFrom l G Y P (o + 1) (o + 61 + 27 * 1 + 25) (on_wt hW) (on_kt hW (j := 1) (by decide))) trivial wd_X8_copyFrom wV_X8_copyFrom wL_X10_293 ((on_wt hW).o rfl) rfl rfl hl.1 rfl (Nat.le_of_ble_eq_true rfl) dX10_back_61 ⟨Nat.le_of_ble_eq_true rfl, Nat.le_of_ble_eq_true rfl⟩ ⟨Nat.zero_le _, Nat.zero_le _⟩ (fun H3 locs hp3 hT3 hS3 hk3 => ?_)
  refine lv_aload_n hx hb dX10_back_64 rfl (lv_at hl 0 rfl) ?_
  refine lv_aload_n hx hb dX10_back_65 rfl (lv_at hl 0 rfl) ?_
  refine h_geti (C := RX10) (T := TX10) (N := 9) hx hb hts inX10 hown hK hT3 (on_w0 hW) rfl 7 rfl wF_X10_52 rfl dX10_back_66 (fun p8 => ?_)
  refine h_top (v := 1) ((h_gi_same (hp3 (o) (by omega))).trans ((h_gi_same (hp2 (o) (by omega))).trans (h_pu hu1))) ?_
  refine h_callVi (T := TX10) (rest := []) (As := [.int 1]) hx hb hml hown hts hK hT3 hZ (fun _ h => h) hS3 (c_X10_give l G Y P (o) hW 1) trivial wd_X10_give wV_X10_give wL_X10_95 (on_w0 hW) rfl rfl hl.1 rfl (Nat.le_of_ble_eq_true rfl) dX10_back_69 ⟨Nat.le_of_ble_eq_true rfl, Nat.le_of_ble_eq_true rfl⟩ ⟨Nat.zero_le _, Nat.zero_le _⟩ (fun r9 H4 locs hp4 hT4 hS4 hk4 => ?_)
  obtain ⟨hq, hp4⟩ := hp4
  have hq : r9 = 1 := hq
  subst hq
  exact hret _ _ _ _ _ hT4 hS4 ⟨rfl, (hp4.trans ((h_gi_same (hp3 (o) (by omega))).trans ((h_gi_same (hp2 (o) (by omega))).trans (h_pu hu1))))⟩ dX10_back_72
set_option maxHeartbeats 4000000 in
set_option maxRecDepth 100000 in
theorem c_back3 (l : Launch) (G : hG) (Y : hW) (P : Int32 → Prop) (hPP : ∀ x, P x) (o : Nat) (hW : h_On Y o (wldE (tC P) o)) : hMi l yX10_back cX10_back 1 (some .int) 3 102 G Y [.ref (o)] (fun H => h_gi G H 10 o 7 = 3) (fun H r H1 => r = 2 ∧ h_gi G H1 10 o 7 = 2) := by
  refine h_ofi (by decide +kernel) (Nat.le_of_ble_eq_true rfl) ?_
  intro p e s m args below meth c H0 ls Q hx hb hts hown hml hK hZ hT0 hpr hS0 hl hret
  have hl : lv_has ls 1 [(0, .ref (o))] := hl
  refine lv_aload_n hx hb dX10_back_0 rfl (lv_at hl 0 rfl) ?_
  refine h_geti (C := RX10) (T := TX10) (N := 9) hx hb hts inX10 hown hK hT0 (on_w0 hW) rfl 7 rfl wF_X10_52 rfl dX10_back_1 (fun p1 => ?_)
  refine h_top (v := 3) hpr ?_
  refine lv_iconst (v := 1) hx hb dX10_back_4 (by decide) ?_
  refine lv_icmp_lt (tgt := 16) hx hb dX10_back_5 (by decide) (fun h => absurd h (by decide)) (fun _ => ?_)
  refine lv_aload_n hx hb dX10_back_8 rfl (lv_at hl 0 rfl) ?_
  refine h_geti (C := RX10) (T := TX10) (N := 9) hx hb hts inX10 hown hK hT0 (on_w0 hW) rfl 7 rfl wF_X10_52 rfl dX10_back_9 (fun p3 => ?_)
  refine h_top (v := 3) hpr ?_
  refine lv_iconst (v := 4) hx hb dX10_back_12 (by decide) ?_
  refine lv_icmp_le (tgt := 22) hx hb dX10_back_13 (by decide) (fun _ => ?_) (fun h => absurd (by decide) h)
  refine lv_aload_n hx hb dX10_back_22 rfl (lv_at hl 0 rfl) ?_
  refine lv_dup hx hb dX10_back_23 rfl ?_
  refine h_geti (C := RX10) (T := TX10) (N := 9) hx hb hts inX10 hown hK hT0 (on_w0 hW) rfl 7 rfl wF_X10_52 rfl dX10_back_24 (fun p5 => ?_)
  refine h_top (v := 3) hpr ?_
  refine lv_iconst (v := 1) hx hb dX10_back_27 (by decide) ?_
  refine lv_isub hx hb dX10_back_28 ?_
  refine h_top (v := 2) (by decide) ?_
  refine h_puti (C := RX10) (T := TX10) (N := 9) hx hb hts inX10 tyX10 tyX10_ok nmX10 hown hK hT0 (fun _ h => h) hS0 (on_w0 hW) rfl 7 rfl wF_X10_52 rfl rfl (hPP _) rfl rfl dX10_back_29 (fun H1 locs hT1 hS1 hu1 => ?_)
  refine lv_aload_n hx hb dX10_back_32 rfl (lv_at hl 0 rfl) ?_
  refine h_getr (C := RX10) (T := TX10) (N := 9) hx hb hts inX10 hown hK hT1 (on_w0 hW) rfl 1 rfl wF_X10_19 rfl dX10_back_33 ?_
  refine lv_aload_n hx hb dX10_back_36 rfl (lv_at hl 0 rfl) ?_
  refine h_getr (C := RX10) (T := TX10) (N := 9) hx hb hts inX10 hown hK hT1 (on_w0 hW) rfl 5 rfl wF_X10_44 rfl dX10_back_37 ?_
  refine lv_aload_n hx hb dX10_back_40 rfl (lv_at hl 0 rfl) ?_
  refine h_geti (C := RX10) (T := TX10) (N := 9) hx hb hts inX10 hown hK hT1 (on_w0 hW) rfl 7 rfl wF_X10_52 rfl dX10_back_41 (fun p6 => ?_)
  refine h_top (v := 2) (h_pu hu1) ?_
  refine h_aal hx hb hK hT1 (by decide) ((on_wm hW).o rfl) (h_inc (by decide)) 2 (by decide) dX10_back_44 ?_
  refine h_callVv (T := TX5) (rest := []) (As := [.ref (o + 61 + 27 * 2)]) hx hb hml hown hts hK hT1 hZ (fun _ h => h) hS1 (c_X5_copyFrom l G Y P (o + 3) (o + 61 + 27 * 2) (on_wr hW) (on_kr hW (j := 2) (by decide))) trivial wd_X5_copyFrom wV_X5_copyFrom wL_X10_82 (on_rg (on_wr hW)) rfl rfl hl.1 rfl (Nat.le_of_ble_eq_true rfl) dX10_back_45 ⟨Nat.le_of_ble_eq_true rfl, Nat.le_of_ble_eq_true rfl⟩ ⟨Nat.zero_le _, Nat.zero_le _⟩ (fun H2 locs hp2 hT2 hS2 hk2 => ?_)
  refine lv_aload_n hx hb dX10_back_48 rfl (lv_at hl 0 rfl) ?_
  refine h_getr (C := RX10) (T := TX10) (N := 9) hx hb hts inX10 hown hK hT2 (on_w0 hW) rfl 0 rfl wF_X10_10 rfl dX10_back_49 ?_
  refine lv_aload_n hx hb dX10_back_52 rfl (lv_at hl 0 rfl) ?_
  refine h_getr (C := RX10) (T := TX10) (N := 9) hx hb hts inX10 hown hK hT2 (on_w0 hW) rfl 6 rfl wF_X10_48 rfl dX10_back_53 ?_
  refine lv_aload_n hx hb dX10_back_56 rfl (lv_at hl 0 rfl) ?_
  refine h_geti (C := RX10) (T := TX10) (N := 9) hx hb hts inX10 hown hK hT2 (on_w0 hW) rfl 7 rfl wF_X10_52 rfl dX10_back_57 (fun p7 => ?_)
  refine h_top (v := 2) ((h_gi_same (hp2 (o) (by omega))).trans (h_pu hu1)) ?_
  refine h_aal hx hb hK hT2 (by decide) ((on_wm hW).at 1 rfl) (h_inc (by decide)) 2 (by decide) dX10_back_60 ?_
  refine h_callVv (T := TX8) (rest := []) (As := [.ref (o + 61 + 27 * 2 + 25)]) hx hb hml hown hts hK hT2 hZ (fun _ h => h) hS2 (c_X8_copyFrom l G Y P (o + 1) (o + 61 + 27 * 2 + 25) (on_wt hW) (on_kt hW (j := 2) (by decide))) trivial wd_X8_copyFrom wV_X8_copyFrom wL_X10_293 ((on_wt hW).o rfl) rfl rfl hl.1 rfl (Nat.le_of_ble_eq_true rfl) dX10_back_61 ⟨Nat.le_of_ble_eq_true rfl, Nat.le_of_ble_eq_true rfl⟩ ⟨Nat.zero_le _, Nat.zero_le _⟩ (fun H3 locs hp3 hT3 hS3 hk3 => ?_)
  refine lv_aload_n hx hb dX10_back_64 rfl (lv_at hl 0 rfl) ?_
  refine lv_aload_n hx hb dX10_back_65 rfl (lv_at hl 0 rfl) ?_
  refine h_geti (C := RX10) (T := TX10) (N := 9) hx hb hts inX10 hown hK hT3 (on_w0 hW) rfl 7 rfl wF_X10_52 rfl dX10_back_66 (fun p8 => ?_)
  refine h_top (v := 2) ((h_gi_same (hp3 (o) (by omega))).trans ((h_gi_same (hp2 (o) (by omega))).trans (h_pu hu1))) ?_
  refine h_callVi (T := TX10) (rest := []) (As := [.int 2]) hx hb hml hown hts hK hT3 hZ (fun _ h => h) hS3 (c_X10_give l G Y P (o) hW 2) trivial wd_X10_give wV_X10_give wL_X10_95 (on_w0 hW) rfl rfl hl.1 rfl (Nat.le_of_ble_eq_true rfl) dX10_back_69 ⟨Nat.le_of_ble_eq_true rfl, Nat.le_of_ble_eq_true rfl⟩ ⟨Nat.zero_le _, Nat.zero_le _⟩ (fun r9 H4 locs hp4 hT4 hS4 hk4 => ?_)
  obtain ⟨hq, hp4⟩ := hp4
  have hq : r9 = 2 := hq
  subst hq
  exact hret _ _ _ _ _ hT4 hS4 ⟨rfl, (hp4.trans ((h_gi_same (hp3 (o) (by omega))).trans ((h_gi_same (hp2 (o) (by omega))).trans (h_pu hu1))))⟩ dX10_back_72
set_option maxHeartbeats 4000000 in
set_option maxRecDepth 100000 in
theorem c_back4 (l : Launch) (G : hG) (Y : hW) (P : Int32 → Prop) (hPP : ∀ x, P x) (o : Nat) (hW : h_On Y o (wldE (tC P) o)) : hMi l yX10_back cX10_back 1 (some .int) 3 102 G Y [.ref (o)] (fun H => h_gi G H 10 o 7 = 4) (fun H r H1 => r = 3 ∧ h_gi G H1 10 o 7 = 3) := by
  refine h_ofi (by decide +kernel) (Nat.le_of_ble_eq_true rfl) ?_
  intro p e s m args below meth c H0 ls Q hx hb hts hown hml hK hZ hT0 hpr hS0 hl hret
  have hl : lv_has ls 1 [(0, .ref (o))] := hl
  refine lv_aload_n hx hb dX10_back_0 rfl (lv_at hl 0 rfl) ?_
  refine h_geti (C := RX10) (T := TX10) (N := 9) hx hb hts inX10 hown hK hT0 (on_w0 hW) rfl 7 rfl wF_X10_52 rfl dX10_back_1 (fun p1 => ?_)
  refine h_top (v := 4) hpr ?_
  refine lv_iconst (v := 1) hx hb dX10_back_4 (by decide) ?_
  refine lv_icmp_lt (tgt := 16) hx hb dX10_back_5 (by decide) (fun h => absurd h (by decide)) (fun _ => ?_)
  refine lv_aload_n hx hb dX10_back_8 rfl (lv_at hl 0 rfl) ?_
  refine h_geti (C := RX10) (T := TX10) (N := 9) hx hb hts inX10 hown hK hT0 (on_w0 hW) rfl 7 rfl wF_X10_52 rfl dX10_back_9 (fun p3 => ?_)
  refine h_top (v := 4) hpr ?_
  refine lv_iconst (v := 4) hx hb dX10_back_12 (by decide) ?_
  refine lv_icmp_le (tgt := 22) hx hb dX10_back_13 (by decide) (fun _ => ?_) (fun h => absurd (by decide) h)
  refine lv_aload_n hx hb dX10_back_22 rfl (lv_at hl 0 rfl) ?_
  refine lv_dup hx hb dX10_back_23 rfl ?_
  refine h_geti (C := RX10) (T := TX10) (N := 9) hx hb hts inX10 hown hK hT0 (on_w0 hW) rfl 7 rfl wF_X10_52 rfl dX10_back_24 (fun p5 => ?_)
  refine h_top (v := 4) hpr ?_
  refine lv_iconst (v := 1) hx hb dX10_back_27 (by decide) ?_
  refine lv_isub hx hb dX10_back_28 ?_
  refine h_top (v := 3) (by decide) ?_
  refine h_puti (C := RX10) (T := TX10) (N := 9) hx hb hts inX10 tyX10 tyX10_ok nmX10 hown hK hT0 (fun _ h => h) hS0 (on_w0 hW) rfl 7 rfl wF_X10_52 rfl rfl (hPP _) rfl rfl dX10_back_29 (fun H1 locs hT1 hS1 hu1 => ?_)
  refine lv_aload_n hx hb dX10_back_32 rfl (lv_at hl 0 rfl) ?_
  refine h_getr (C := RX10) (T := TX10) (N := 9) hx hb hts inX10 hown hK hT1 (on_w0 hW) rfl 1 rfl wF_X10_19 rfl dX10_back_33 ?_
  refine lv_aload_n hx hb dX10_back_36 rfl (lv_at hl 0 rfl) ?_
  refine h_getr (C := RX10) (T := TX10) (N := 9) hx hb hts inX10 hown hK hT1 (on_w0 hW) rfl 5 rfl wF_X10_44 rfl dX10_back_37 ?_
  refine lv_aload_n hx hb dX10_back_40 rfl (lv_at hl 0 rfl) ?_
  refine h_geti (C := RX10) (T := TX10) (N := 9) hx hb hts inX10 hown hK hT1 (on_w0 hW) rfl 7 rfl wF_X10_52 rfl dX10_back_41 (fun p6 => ?_)
  refine h_top (v := 3) (h_pu hu1) ?_
  refine h_aal hx hb hK hT1 (by decide) ((on_wm hW).o rfl) (h_inc (by decide)) 3 (by decide) dX10_back_44 ?_
  refine h_callVv (T := TX5) (rest := []) (As := [.ref (o + 61 + 27 * 3)]) hx hb hml hown hts hK hT1 hZ (fun _ h => h) hS1 (c_X5_copyFrom l G Y P (o + 3) (o + 61 + 27 * 3) (on_wr hW) (on_kr hW (j := 3) (by decide))) trivial wd_X5_copyFrom wV_X5_copyFrom wL_X10_82 (on_rg (on_wr hW)) rfl rfl hl.1 rfl (Nat.le_of_ble_eq_true rfl) dX10_back_45 ⟨Nat.le_of_ble_eq_true rfl, Nat.le_of_ble_eq_true rfl⟩ ⟨Nat.zero_le _, Nat.zero_le _⟩ (fun H2 locs hp2 hT2 hS2 hk2 => ?_)
  refine lv_aload_n hx hb dX10_back_48 rfl (lv_at hl 0 rfl) ?_
  refine h_getr (C := RX10) (T := TX10) (N := 9) hx hb hts inX10 hown hK hT2 (on_w0 hW) rfl 0 rfl wF_X10_10 rfl dX10_back_49 ?_
  refine lv_aload_n hx hb dX10_back_52 rfl (lv_at hl 0 rfl) ?_
  refine h_getr (C := RX10) (T := TX10) (N := 9) hx hb hts inX10 hown hK hT2 (on_w0 hW) rfl 6 rfl wF_X10_48 rfl dX10_back_53 ?_
  refine lv_aload_n hx hb dX10_back_56 rfl (lv_at hl 0 rfl) ?_
  refine h_geti (C := RX10) (T := TX10) (N := 9) hx hb hts inX10 hown hK hT2 (on_w0 hW) rfl 7 rfl wF_X10_52 rfl dX10_back_57 (fun p7 => ?_)
  refine h_top (v := 3) ((h_gi_same (hp2 (o) (by omega))).trans (h_pu hu1)) ?_
  refine h_aal hx hb hK hT2 (by decide) ((on_wm hW).at 1 rfl) (h_inc (by decide)) 3 (by decide) dX10_back_60 ?_
  refine h_callVv (T := TX8) (rest := []) (As := [.ref (o + 61 + 27 * 3 + 25)]) hx hb hml hown hts hK hT2 hZ (fun _ h => h) hS2 (c_X8_copyFrom l G Y P (o + 1) (o + 61 + 27 * 3 + 25) (on_wt hW) (on_kt hW (j := 3) (by decide))) trivial wd_X8_copyFrom wV_X8_copyFrom wL_X10_293 ((on_wt hW).o rfl) rfl rfl hl.1 rfl (Nat.le_of_ble_eq_true rfl) dX10_back_61 ⟨Nat.le_of_ble_eq_true rfl, Nat.le_of_ble_eq_true rfl⟩ ⟨Nat.zero_le _, Nat.zero_le _⟩ (fun H3 locs hp3 hT3 hS3 hk3 => ?_)
  refine lv_aload_n hx hb dX10_back_64 rfl (lv_at hl 0 rfl) ?_
  refine lv_aload_n hx hb dX10_back_65 rfl (lv_at hl 0 rfl) ?_
  refine h_geti (C := RX10) (T := TX10) (N := 9) hx hb hts inX10 hown hK hT3 (on_w0 hW) rfl 7 rfl wF_X10_52 rfl dX10_back_66 (fun p8 => ?_)
  refine h_top (v := 3) ((h_gi_same (hp3 (o) (by omega))).trans ((h_gi_same (hp2 (o) (by omega))).trans (h_pu hu1))) ?_
  refine h_callVi (T := TX10) (rest := []) (As := [.int 3]) hx hb hml hown hts hK hT3 hZ (fun _ h => h) hS3 (c_X10_give l G Y P (o) hW 3) trivial wd_X10_give wV_X10_give wL_X10_95 (on_w0 hW) rfl rfl hl.1 rfl (Nat.le_of_ble_eq_true rfl) dX10_back_69 ⟨Nat.le_of_ble_eq_true rfl, Nat.le_of_ble_eq_true rfl⟩ ⟨Nat.zero_le _, Nat.zero_le _⟩ (fun r9 H4 locs hp4 hT4 hS4 hk4 => ?_)
  obtain ⟨hq, hp4⟩ := hp4
  have hq : r9 = 3 := hq
  subst hq
  exact hret _ _ _ _ _ hT4 hS4 ⟨rfl, (hp4.trans ((h_gi_same (hp3 (o) (by omega))).trans ((h_gi_same (hp2 (o) (by omega))).trans (h_pu hu1))))⟩ dX10_back_72
