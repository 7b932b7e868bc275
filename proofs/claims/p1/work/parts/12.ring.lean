set_option maxHeartbeats 4000000 in
set_option maxRecDepth 100000 in
theorem c_X5_forgetLatestTick (l : Launch) (G : hG) (Y : hW) (o : Nat) (hY : h_On Y o (ringE tF o)) (z : Int32) : hMv l yX5_forgetLatestTick cX5_forgetLatestTick 1 none 0 0 G Y [.ref (o)] (fun H => h_gi G H 5 o 6 = z) (fun H H1 => h_gi G H1 5 o 6 = z ∧ ∀ q : Nat, q ≠ o → H1[q]? = H[q]?) := by
  refine h_ofv (by decide +kernel) (Nat.le_of_ble_eq_true rfl) ?_
  intro p e s m args below meth c H0 ls Q hx hb hts hown hml hK hT0 hpr hS0 hl hret
  have hl : lv_has ls 1 [(0, .ref (o))] := hl
  refine lv_aload_n hx hb dX5_forgetLatestTick_0 rfl (lv_at hl 0 rfl) ?_
  refine lv_iconst (v := (-1)) hx hb dX5_forgetLatestTick_1 (by decide) ?_
  refine h_puti (C := RX5) (T := TX5) (N := 11) hx hb hts inX5 tyX5 tyX5_ok nmX5 hown hK hT0 (fun _ h => h) hS0 (on_rg hY) rfl 8 rfl wF_X5_60 rfl rfl rfl rfl rfl dX5_forgetLatestTick_2 (fun H1 locs hT1 hS1 hu1 => ?_)
  refine lv_aload_n hx hb dX5_forgetLatestTick_5 rfl (lv_at hl 0 rfl) ?_
  refine lv_iconst (v := (-1)) hx hb dX5_forgetLatestTick_6 (by decide) ?_
  refine h_puti (C := RX5) (T := TX5) (N := 11) hx hb hts inX5 tyX5 tyX5_ok nmX5 hown hK hT1 (fun _ h => h) hS1 (on_rg hY) rfl 9 rfl wF_X5_63 rfl rfl rfl rfl rfl dX5_forgetLatestTick_7 (fun H2 locs hT2 hS2 hu2 => ?_)
  refine lv_aload_n hx hb dX5_forgetLatestTick_10 rfl (lv_at hl 0 rfl) ?_
  refine lv_iconst (v := 0) hx hb dX5_forgetLatestTick_11 (by decide) ?_
  refine h_puti (C := RX5) (T := TX5) (N := 11) hx hb hts inX5 tyX5 tyX5_ok nmX5 hown hK hT2 (fun _ h => h) hS2 (on_rg hY) rfl 10 rfl wF_X5_66 rfl rfl rfl rfl rfl dX5_forgetLatestTick_12 (fun H3 locs hT3 hS3 hu3 => ?_)
  exact hret _ _ _ _ hT3 hS3 ⟨((h_ps hu3 rfl (by decide) (by decide)).trans ((h_ps hu2 rfl (by decide) (by decide)).trans ((h_ps hu1 rfl (by decide) (by decide)).trans hpr))), (fun q hq => ((hu3.2.1 q hq).trans ((hu2.2.1 q hq).trans (hu1.2.1 q hq))))⟩ dX5_forgetLatestTick_15
set_option maxHeartbeats 4000000 in
set_option maxRecDepth 100000 in
theorem c_X5_copyFrom (l : Launch) (G : hG) (Y : hW) (o o2 : Nat) (hY : h_On Y o (ringE tF o)) (hY2 : h_On Y o2 (ringE tF o2)) : hMv l yX5_copyFrom cX5_copyFrom 2 none 2 81 G Y [.ref (o), .ref (o2)] (fun H => True) (fun H H1 => ∀ q : Nat, (q < o ∨ o + 25 ≤ q) → H1[q]? = H[q]?) := by
  refine h_ofv (by decide +kernel) (Nat.le_of_ble_eq_true rfl) ?_
  intro p e s m args below meth c H0 ls Q hx hb hts hown hml hK hT0 hpr hS0 hl hret
  have hl : lv_has ls 2 [(0, .ref (o)), (1, .ref (o2))] := hl
  refine lv_aload_n hx hb dX5_copyFrom_0 rfl (lv_at hl 0 rfl) ?_
  refine h_getr (C := RX5) (T := TX5) (N := 11) hx hb hts inX5 hown hK hT0 (on_rg hY) rfl 0 rfl wF_X5_12 rfl dX5_copyFrom_1 ?_
  refine lv_aload_n hx hb dX5_copyFrom_4 rfl (lv_at hl 1 rfl) ?_
  refine h_getr (C := RX5) (T := TX5) (N := 11) hx hb hts inX5 hown hK hT0 (on_rg hY2) rfl 0 rfl wF_X5_12 rfl dX5_copyFrom_5 ?_
  refine h_callVv (T := TX7) (rest := []) (As := [.ref (o2 + 1)]) hx hb hml hown hts hK hT0 (fun _ h => h) hS0 (c_X7_copyFrom l G Y (o + 1) (o2 + 1) (on_st hY) (on_st hY2)) trivial wd_X7_copyFrom wV_X7_copyFrom wL_X5_80 ((on_st hY).o rfl) rfl rfl hl.1 rfl (Nat.le_of_ble_eq_true rfl) dX5_copyFrom_8 ⟨Nat.le_of_ble_eq_true rfl, Nat.le_of_ble_eq_true rfl⟩ ⟨Nat.zero_le _, Nat.zero_le _⟩ (fun H1 locs hp1 hT1 hS1 hk1 => ?_)
  refine lv_aload_n hx hb dX5_copyFrom_11 rfl (lv_at hl 0 rfl) ?_
  refine h_getr (C := RX5) (T := TX5) (N := 11) hx hb hts inX5 hown hK hT1 (on_rg hY) rfl 1 rfl wF_X5_21 rfl dX5_copyFrom_12 ?_
  refine lv_aload_n hx hb dX5_copyFrom_15 rfl (lv_at hl 1 rfl) ?_
  refine h_getr (C := RX5) (T := TX5) (N := 11) hx hb hts inX5 hown hK hT1 (on_rg hY2) rfl 1 rfl wF_X5_21 rfl dX5_copyFrom_16 ?_
  refine h_callVv (T := TX2) (rest := []) (As := [.ref (o2 + 7)]) hx hb hml hown hts hK hT1 (fun _ h => h) hS1 (c_X2_copyFrom l G Y (o + 7) (o2 + 7) (on_qu hY) (on_qu hY2)) trivial wd_X2_copyFrom wV_X2_copyFrom wL_X5_84 ((on_qu hY).o rfl) rfl rfl hl.1 rfl (Nat.le_of_ble_eq_true rfl) dX5_copyFrom_19 ⟨Nat.le_of_ble_eq_true rfl, Nat.le_of_ble_eq_true rfl⟩ ⟨Nat.zero_le _, Nat.zero_le _⟩ (fun H2 locs hp2 hT2 hS2 hk2 => ?_)
  refine lv_aload_n hx hb dX5_copyFrom_22 rfl (lv_at hl 0 rfl) ?_
  refine h_getr (C := RX5) (T := TX5) (N := 11) hx hb hts inX5 hown hK hT2 (on_rg hY) rfl 2 rfl wF_X5_28 rfl dX5_copyFrom_23 ?_
  refine lv_aload_n hx hb dX5_copyFrom_26 rfl (lv_at hl 1 rfl) ?_
  refine h_getr (C := RX5) (T := TX5) (N := 11) hx hb hts inX5 hown hK hT2 (on_rg hY2) rfl 2 rfl wF_X5_28 rfl dX5_copyFrom_27 ?_
  refine h_callVv (T := TX3) (rest := []) (As := [.ref (o2 + 13)]) hx hb hml hown hts hK hT2 (fun _ h => h) hS2 (c_X3_copyFrom l G Y (o + 13) (o2 + 13) (on_ra hY) (on_ra hY2)) trivial wd_X3_copyFrom wV_X3_copyFrom wL_X5_87 ((on_ra hY).o rfl) rfl rfl hl.1 rfl (Nat.le_of_ble_eq_true rfl) dX5_copyFrom_30 ⟨Nat.le_of_ble_eq_true rfl, Nat.le_of_ble_eq_true rfl⟩ ⟨Nat.zero_le _, Nat.zero_le _⟩ (fun H3 locs hp3 hT3 hS3 hk3 => ?_)
  refine lv_aload_n hx hb dX5_copyFrom_33 rfl (lv_at hl 0 rfl) ?_
  refine h_getr (C := RX5) (T := TX5) (N := 11) hx hb hts inX5 hown hK hT3 (on_rg hY) rfl 3 rfl wF_X5_35 rfl dX5_copyFrom_34 ?_
  refine lv_aload_n hx hb dX5_copyFrom_37 rfl (lv_at hl 1 rfl) ?_
  refine h_getr (C := RX5) (T := TX5) (N := 11) hx hb hts inX5 hown hK hT3 (on_rg hY2) rfl 3 rfl wF_X5_35 rfl dX5_copyFrom_38 ?_
  refine h_callVv (T := TX9) (rest := []) (As := [.ref (o2 + 17)]) hx hb hml hown hts hK hT3 (fun _ h => h) hS3 (c_X9_copyFrom l G Y (o + 17) (o2 + 17) (on_wa hY) (on_wa hY2)) trivial wd_X9_copyFrom wV_X9_copyFrom wL_X5_90 ((on_wa hY).o rfl) rfl rfl hl.1 rfl (Nat.le_of_ble_eq_true rfl) dX5_copyFrom_41 ⟨Nat.le_of_ble_eq_true rfl, Nat.le_of_ble_eq_true rfl⟩ ⟨Nat.zero_le _, Nat.zero_le _⟩ (fun H4 locs hp4 hT4 hS4 hk4 => ?_)
  refine lv_aload_n hx hb dX5_copyFrom_44 rfl (lv_at hl 0 rfl) ?_
  refine h_getr (C := RX5) (T := TX5) (N := 11) hx hb hts inX5 hown hK hT4 (on_rg hY) rfl 4 rfl wF_X5_42 rfl dX5_copyFrom_45 ?_
  refine lv_aload_n hx hb dX5_copyFrom_48 rfl (lv_at hl 1 rfl) ?_
  refine h_getr (C := RX5) (T := TX5) (N := 11) hx hb hts inX5 hown hK hT4 (on_rg hY2) rfl 4 rfl wF_X5_42 rfl dX5_copyFrom_49 ?_
  refine h_callVv (T := TX6) (rest := []) (As := [.ref (o2 + 18)]) hx hb hml hown hts hK hT4 (fun _ h => h) hS4 (c_X6_copyFrom l G Y (o + 18) (o2 + 18) (on_si hY) (on_si hY2)) trivial wd_X6_copyFrom wV_X6_copyFrom wL_X5_93 ((on_si hY).o rfl) rfl rfl hl.1 rfl (Nat.le_of_ble_eq_true rfl) dX5_copyFrom_52 ⟨Nat.le_of_ble_eq_true rfl, Nat.le_of_ble_eq_true rfl⟩ ⟨Nat.zero_le _, Nat.zero_le _⟩ (fun H5 locs hp5 hT5 hS5 hk5 => ?_)
  refine lv_aload_n hx hb dX5_copyFrom_55 rfl (lv_at hl 0 rfl) ?_
  refine h_getr (C := RX5) (T := TX5) (N := 11) hx hb hts inX5 hown hK hT5 (on_rg hY) rfl 5 rfl wF_X5_49 rfl dX5_copyFrom_56 ?_
  refine lv_aload_n hx hb dX5_copyFrom_59 rfl (lv_at hl 1 rfl) ?_
  refine h_getr (C := RX5) (T := TX5) (N := 11) hx hb hts inX5 hown hK hT5 (on_rg hY2) rfl 5 rfl wF_X5_49 rfl dX5_copyFrom_60 ?_
  refine h_callVv (T := TX0) (rest := []) (As := [.ref (o2 + 19)]) hx hb hml hown hts hK hT5 (fun _ h => h) hS5 (c_X0_copyFrom l G Y (o + 19) (o2 + 19) (on_bo hY) (on_bo hY2)) trivial wd_X0_copyFrom wV_X0_copyFrom wL_X5_96 ((on_bo hY).o rfl) rfl rfl hl.1 rfl (Nat.le_of_ble_eq_true rfl) dX5_copyFrom_63 ⟨Nat.le_of_ble_eq_true rfl, Nat.le_of_ble_eq_true rfl⟩ ⟨Nat.zero_le _, Nat.zero_le _⟩ (fun H6 locs hp6 hT6 hS6 hk6 => ?_)
  refine lv_aload_n hx hb dX5_copyFrom_66 rfl (lv_at hl 0 rfl) ?_
  refine lv_aload_n hx hb dX5_copyFrom_67 rfl (lv_at hl 1 rfl) ?_
  refine h_geti (C := RX5) (T := TX5) (N := 11) hx hb hts inX5 hown hK hT6 (on_rg hY2) rfl 6 rfl wF_X5_53 rfl dX5_copyFrom_68 (fun p1 => ?_)
  refine lv_topi (fun x2 ex2 => ?_)
  refine h_puti (C := RX5) (T := TX5) (N := 11) hx hb hts inX5 tyX5 tyX5_ok nmX5 hown hK hT6 (fun _ h => h) hS6 (on_rg hY) rfl 6 rfl wF_X5_53 rfl rfl trivial rfl rfl dX5_copyFrom_71 (fun H7 locs hT7 hS7 hu7 => ?_)
  refine lv_aload_n hx hb dX5_copyFrom_74 rfl (lv_at hl 0 rfl) ?_
  refine lv_aload_n hx hb dX5_copyFrom_75 rfl (lv_at hl 1 rfl) ?_
  refine h_getc (v := 0) (C := RX5) (T := TX5) (N := 11) hx hb hts inX5 hown hK hT7 (on_rg hY2) rfl 7 rfl wF_X5_57 rfl (fun _ h => h) dX5_copyFrom_76 ?_
  refine h_puti (C := RX5) (T := TX5) (N := 11) hx hb hts inX5 tyX5 tyX5_ok nmX5 hown hK hT7 (fun _ h => h) hS7 (on_rg hY) rfl 7 rfl wF_X5_57 rfl rfl rfl rfl rfl dX5_copyFrom_79 (fun H8 locs hT8 hS8 hu8 => ?_)
  refine lv_aload_n hx hb dX5_copyFrom_82 rfl (lv_at hl 0 rfl) ?_
  refine h_callVv (T := TX5) (rest := []) (As := []) hx hb hml hown hts hK hT8 (fun _ h => h) hS8 (c_X5_forgetLatestTick l G Y (o) hY _) rfl wd_X5_forgetLatestTick wV_X5_forgetLatestTick wL_X5_99 (on_rg hY) rfl rfl hl.1 rfl (Nat.le_of_ble_eq_true rfl) dX5_copyFrom_83 ⟨Nat.le_of_ble_eq_true rfl, Nat.le_of_ble_eq_true rfl⟩ ⟨Nat.zero_le _, Nat.zero_le _⟩ (fun H9 locs hp9 hT9 hS9 hk9 => ?_)
  exact hret _ _ _ _ hT9 hS9 (fun q hq => ((hp9.2 q (by omega)).trans ((hu8.2.1 q (by omega)).trans ((hu7.2.1 q (by omega)).trans ((hp6 q (by omega)).trans ((hp5 q (by omega)).trans ((hp4 q (by omega)).trans ((hp3 q (by omega)).trans ((hp2 q (by omega)).trans (hp1 q (by omega))))))))))) dX5_copyFrom_86
set_option maxHeartbeats 4000000 in
set_option maxRecDepth 100000 in
theorem c_X5_clear (l : Launch) (G : hG) (Y : hW) (o : Nat) (hY : h_On Y o (ringE tF o)) : hMv l yX5_clear cX5_clear 1 none 2 43 G Y [.ref (o)] (fun H => True) (fun H H1 => True) := by
  refine h_ofv (by decide +kernel) (Nat.le_of_ble_eq_true rfl) ?_
  intro p e s m args below meth c H0 ls Q hx hb hts hown hml hK hT0 hpr hS0 hl hret
  have hl : lv_has ls 1 [(0, .ref (o))] := hl
  refine lv_aload_n hx hb dX5_clear_0 rfl (lv_at hl 0 rfl) ?_
  refine h_getr (C := RX5) (T := TX5) (N := 11) hx hb hts inX5 hown hK hT0 (on_rg hY) rfl 0 rfl wF_X5_12 rfl dX5_clear_1 ?_
  refine h_callVv (T := TX7) (rest := []) (As := []) hx hb hml hown hts hK hT0 (fun _ h => h) hS0 (c_X7_clear l G Y (o + 1) (on_st hY)) trivial wd_X7_clear wV_X7_clear wL_X5_70 ((on_st hY).o rfl) rfl rfl hl.1 rfl (Nat.le_of_ble_eq_true rfl) dX5_clear_4 ⟨Nat.le_of_ble_eq_true rfl, Nat.le_of_ble_eq_true rfl⟩ ⟨Nat.zero_le _, Nat.zero_le _⟩ (fun H1 locs hp1 hT1 hS1 hk1 => ?_)
  refine lv_aload_n hx hb dX5_clear_7 rfl (lv_at hl 0 rfl) ?_
  refine h_getr (C := RX5) (T := TX5) (N := 11) hx hb hts inX5 hown hK hT1 (on_rg hY) rfl 1 rfl wF_X5_21 rfl dX5_clear_8 ?_
  refine h_callVv (T := TX2) (rest := []) (As := []) hx hb hml hown hts hK hT1 (fun _ h => h) hS1 (c_X2_clear l G Y (o + 7) (on_qu hY)) trivial wd_X2_clear wV_X2_clear wL_X5_73 ((on_qu hY).o rfl) rfl rfl hl.1 rfl (Nat.le_of_ble_eq_true rfl) dX5_clear_11 ⟨Nat.le_of_ble_eq_true rfl, Nat.le_of_ble_eq_true rfl⟩ ⟨Nat.zero_le _, Nat.zero_le _⟩ (fun H2 locs hp2 hT2 hS2 hk2 => ?_)
  refine lv_aload_n hx hb dX5_clear_14 rfl (lv_at hl 0 rfl) ?_
  refine h_getr (C := RX5) (T := TX5) (N := 11) hx hb hts inX5 hown hK hT2 (on_rg hY) rfl 2 rfl wF_X5_28 rfl dX5_clear_15 ?_
  refine h_callVv (T := TX3) (rest := []) (As := []) hx hb hml hown hts hK hT2 (fun _ h => h) hS2 (c_X3_clear l G Y (o + 13) (on_ra hY)) trivial wd_X3_clear wV_X3_clear wL_X5_74 ((on_ra hY).o rfl) rfl rfl hl.1 rfl (Nat.le_of_ble_eq_true rfl) dX5_clear_18 ⟨Nat.le_of_ble_eq_true rfl, Nat.le_of_ble_eq_true rfl⟩ ⟨Nat.zero_le _, Nat.zero_le _⟩ (fun H3 locs hp3 hT3 hS3 hk3 => ?_)
  refine lv_aload_n hx hb dX5_clear_21 rfl (lv_at hl 0 rfl) ?_
  refine h_getr (C := RX5) (T := TX5) (N := 11) hx hb hts inX5 hown hK hT3 (on_rg hY) rfl 3 rfl wF_X5_35 rfl dX5_clear_22 ?_
  refine h_callVv (T := TX9) (rest := []) (As := []) hx hb hml hown hts hK hT3 (fun _ h => h) hS3 (c_X9_clear l G Y (o + 17) (on_wa hY)) trivial wd_X9_clear wV_X9_clear wL_X5_75 ((on_wa hY).o rfl) rfl rfl hl.1 rfl (Nat.le_of_ble_eq_true rfl) dX5_clear_25 ⟨Nat.le_of_ble_eq_true rfl, Nat.le_of_ble_eq_true rfl⟩ ⟨Nat.zero_le _, Nat.zero_le _⟩ (fun H4 locs hp4 hT4 hS4 hk4 => ?_)
  refine lv_aload_n hx hb dX5_clear_28 rfl (lv_at hl 0 rfl) ?_
  refine h_getr (C := RX5) (T := TX5) (N := 11) hx hb hts inX5 hown hK hT4 (on_rg hY) rfl 4 rfl wF_X5_42 rfl dX5_clear_29 ?_
  refine h_callVv (T := TX6) (rest := []) (As := []) hx hb hml hown hts hK hT4 (fun _ h => h) hS4 (c_X6_restart l G Y (o + 18) (on_si hY)) trivial wd_X6_restart wV_X6_restart wL_X5_76 ((on_si hY).o rfl) rfl rfl hl.1 rfl (Nat.le_of_ble_eq_true rfl) dX5_clear_32 ⟨Nat.le_of_ble_eq_true rfl, Nat.le_of_ble_eq_true rfl⟩ ⟨Nat.zero_le _, Nat.zero_le _⟩ (fun H5 locs hp5 hT5 hS5 hk5 => ?_)
  refine lv_aload_n hx hb dX5_clear_35 rfl (lv_at hl 0 rfl) ?_
  refine h_getr (C := RX5) (T := TX5) (N := 11) hx hb hts inX5 hown hK hT5 (on_rg hY) rfl 5 rfl wF_X5_49 rfl dX5_clear_36 ?_
  refine h_callVv (T := TX0) (rest := []) (As := []) hx hb hml hown hts hK hT5 (fun _ h => h) hS5 (c_X0_clear l G Y (o + 19) (on_bo hY)) trivial wd_X0_clear wV_X0_clear wL_X5_79 ((on_bo hY).o rfl) rfl rfl hl.1 rfl (Nat.le_of_ble_eq_true rfl) dX5_clear_39 ⟨Nat.le_of_ble_eq_true rfl, Nat.le_of_ble_eq_true rfl⟩ ⟨Nat.zero_le _, Nat.zero_le _⟩ (fun H6 locs hp6 hT6 hS6 hk6 => ?_)
  refine lv_aload_n hx hb dX5_clear_42 rfl (lv_at hl 0 rfl) ?_
  refine lv_iconst (v := 0) hx hb dX5_clear_43 (by decide) ?_
  refine h_puti (C := RX5) (T := TX5) (N := 11) hx hb hts inX5 tyX5 tyX5_ok nmX5 hown hK hT6 (fun _ h => h) hS6 (on_rg hY) rfl 6 rfl wF_X5_53 rfl rfl trivial rfl rfl dX5_clear_44 (fun H7 locs hT7 hS7 hu7 => ?_)
  refine lv_aload_n hx hb dX5_clear_47 rfl (lv_at hl 0 rfl) ?_
  refine lv_iconst (v := 0) hx hb dX5_clear_48 (by decide) ?_
  refine h_puti (C := RX5) (T := TX5) (N := 11) hx hb hts inX5 tyX5 tyX5_ok nmX5 hown hK hT7 (fun _ h => h) hS7 (on_rg hY) rfl 7 rfl wF_X5_57 rfl rfl rfl rfl rfl dX5_clear_49 (fun H8 locs hT8 hS8 hu8 => ?_)
  exact hret _ _ _ _ hT8 hS8 trivial dX5_clear_52
set_option maxHeartbeats 4000000 in
set_option maxRecDepth 100000 in
theorem c_X5_hasFrame (l : Launch) (G : hG) (Y : hW) (o : Nat) (hY : h_On Y o (ringE tF o)) (u1 : Int32) : hMi l yX5_hasFrame cX5_hasFrame 2 (some .boolean) 1 23 G Y [.ref (o), .int u1] (fun H => True) (fun H r H1 => r = 0 ∧ H1 = H) := by
  refine h_ofz (by decide +kernel) (Nat.le_of_ble_eq_true rfl) ?_
  intro p e s m args below meth c H0 ls Q hx hb hts hown hml hK hT0 hpr hS0 hl hret
  have hl : lv_has ls 2 [(0, .ref (o)), (1, .int u1)] := hl
  refine lv_aload_n hx hb dX5_hasFrame_0 rfl (lv_at hl 0 rfl) ?_
  refine h_getr (C := RX5) (T := TX5) (N := 11) hx hb hts inX5 hown hK hT0 (on_rg hY) rfl 3 rfl wF_X5_35 rfl dX5_hasFrame_1 ?_
  refine h_getc (v := 0) (C := RX9) (T := TX9) (N := 11) hx hb hts inX9 hown hK hT0 ((on_wa hY).o rfl) rfl 0 rfl wF_X5_142 rfl (fun _ h => h) dX5_hasFrame_4 ?_
  refine lv_iconst (v := 2) hx hb dX5_hasFrame_7 (by decide) ?_
  refine lv_icmp_ne (tgt := 22) hx hb dX5_hasFrame_8 (by decide) (fun _ => ?_) (fun h => absurd h (by decide))
  refine lv_aload_n hx hb dX5_hasFrame_22 rfl (lv_at hl 0 rfl) ?_
  refine h_getr (C := RX5) (T := TX5) (N := 11) hx hb hts inX5 hown hK hT0 (on_rg hY) rfl 1 rfl wF_X5_21 rfl dX5_hasFrame_23 ?_
  refine lv_iload_n hx hb dX5_hasFrame_26 rfl (lv_at hl 1 rfl) ?_
  refine h_callVi (T := TX2) (rest := []) (As := [.int u1]) hx hb hml hown hts hK hT0 (fun _ h => h) hS0 (c_X2_slotOf l G Y (o + 7) (on_qu hY) u1) trivial wd_X2_slotOf wV_X2_slotOf wL_X5_148 ((on_qu hY).o rfl) rfl rfl hl.1 rfl (Nat.le_of_ble_eq_true rfl) dX5_hasFrame_27 ⟨Nat.le_of_ble_eq_true rfl, Nat.le_of_ble_eq_true rfl⟩ ⟨Nat.zero_le _, Nat.zero_le _⟩ (fun r2 H1 locs hp1 hT1 hS1 hk1 => ?_)
  obtain ⟨hp1, he⟩ := hp1
  have he := he.symm
  subst he
  have hp1 : r2 = (-1) := hp1
  subst hp1
  refine lv_iconst (v := (-1)) hx hb dX5_hasFrame_30 (by decide) ?_
  refine lv_icmp_eq (tgt := 38) hx hb dX5_hasFrame_31 (by decide) (fun _ => ?_) (fun h => absurd (by decide) h)
  refine lv_iconst (v := 0) hx hb dX5_hasFrame_38 (by decide) ?_
  exact hret _ _ _ _ _ hT0 hS1 ⟨by decide, rfl, rfl⟩ dX5_hasFrame_39
set_option maxHeartbeats 4000000 in
set_option maxRecDepth 100000 in
theorem c_X5_isQuiet (l : Launch) (G : hG) (Y : hW) (o : Nat) (hY : h_On Y o (ringE tF o)) : hMi l yX5_isQuiet cX5_isQuiet 2 (some .boolean) 0 0 G Y [.ref (o)] (fun H => True) (fun H r H1 => r = 1 ∧ H1 = H) := by
  refine h_ofz (by decide +kernel) (Nat.le_of_ble_eq_true rfl) ?_
  intro p e s m args below meth c H0 ls Q hx hb hts hown hml hK hT0 hpr hS0 hl hret
  have hl : lv_has ls 2 [(0, .ref (o))] := hl
  refine lv_aload_n hx hb dX5_isQuiet_0 rfl (lv_at hl 0 rfl) ?_
  refine h_getr (C := RX5) (T := TX5) (N := 11) hx hb hts inX5 hown hK hT0 (on_rg hY) rfl 3 rfl wF_X5_35 rfl dX5_isQuiet_1 ?_
  refine h_getc (v := 0) (C := RX9) (T := TX9) (N := 11) hx hb hts inX9 hown hK hT0 ((on_wa hY).o rfl) rfl 0 rfl wF_X5_142 rfl (fun _ h => h) dX5_isQuiet_4 ?_
  refine lv_iconst (v := 2) hx hb dX5_isQuiet_7 (by decide) ?_
  refine lv_icmp_ne (tgt := 13) hx hb dX5_isQuiet_8 (by decide) (fun _ => ?_) (fun h => absurd h (by decide))
  refine lv_iconst (v := 0) hx hb dX5_isQuiet_13 (by decide) ?_
  refine lv_istore_n (lv' := [(1, .int 0), (0, .ref (o))]) hx hb dX5_isQuiet_14 rfl hl (by decide) rfl (fun ls hl => ?_)
  refine lv_iload_n hx hb dX5_isQuiet_15 rfl (lv_at hl 0 rfl) ?_
  refine lv_aload_n hx hb dX5_isQuiet_16 rfl (lv_at hl 1 rfl) ?_
  refine h_getr (C := RX5) (T := TX5) (N := 11) hx hb hts inX5 hown hK hT0 (on_rg hY) rfl 0 rfl wF_X5_12 rfl dX5_isQuiet_17 ?_
  refine h_getc (v := 0) (C := RX7) (T := TX7) (N := 9) hx hb hts inX7 hown hK hT0 ((on_st hY).o rfl) rfl 5 rfl wF_X5_151 rfl (fun _ h => h) dX5_isQuiet_20 ?_
  refine lv_icmp_ge (tgt := 56) hx hb dX5_isQuiet_23 (by decide) (fun _ => ?_) (fun h => absurd (by decide) h)
  refine lv_iconst (v := 1) hx hb dX5_isQuiet_56 (by decide) ?_
  exact hret _ _ _ _ _ hT0 hS0 ⟨by decide, rfl, rfl⟩ dX5_isQuiet_57
set_option maxHeartbeats 4000000 in
set_option maxRecDepth 100000 in
theorem c_X5_passSilentTick (l : Launch) (G : hG) (Y : hW) (o : Nat) (hY : h_On Y o (ringE tF o)) (z : Int32) : hMv l yX5_passSilentTick cX5_passSilentTick 2 none 2 42 G Y [.ref (o)] (fun H => h_gi G H 5 o 6 = z) (fun H H1 => h_gi G H1 5 o 6 = z) := by
  refine h_ofv (by decide +kernel) (Nat.le_of_ble_eq_true rfl) ?_
  intro p e s m args below meth c H0 ls Q hx hb hts hown hml hK hT0 hpr hS0 hl hret
  have hl : lv_has ls 2 [(0, .ref (o))] := hl
  refine lv_aload_n hx hb dX5_passSilentTick_0 rfl (lv_at hl 0 rfl) ?_
  refine h_getr (C := RX5) (T := TX5) (N := 11) hx hb hts inX5 hown hK hT0 (on_rg hY) rfl 4 rfl wF_X5_42 rfl dX5_passSilentTick_1 ?_
  refine lv_dup hx hb dX5_passSilentTick_4 rfl ?_
  refine h_geti (C := RX6) (T := TX6) (N := 4) hx hb hts inX6 hown hK hT0 ((on_si hY).o rfl) rfl 0 rfl wF_X5_284 rfl dX5_passSilentTick_5 (fun p1 => ?_)
  refine lv_topi (fun x2 ex2 => ?_)
  refine lv_iconst (v := 1) hx hb dX5_passSilentTick_8 (by decide) ?_
  refine lv_iadd hx hb dX5_passSilentTick_9 ?_
  refine lv_topi (fun x3 ex3 => ?_)
  refine h_puti (C := RX6) (T := TX6) (N := 4) hx hb hts inX6 tyX6 tyX6_ok nmX6 hown hK hT0 (fun _ h => h) hS0 ((on_si hY).o rfl) rfl 0 rfl wF_X5_284 rfl rfl trivial rfl rfl dX5_passSilentTick_10 (fun H1 locs hT1 hS1 hu1 => ?_)
  refine lv_aload_n hx hb dX5_passSilentTick_13 rfl (lv_at hl 0 rfl) ?_
  refine h_getr (C := RX5) (T := TX5) (N := 11) hx hb hts inX5 hown hK hT1 (on_rg hY) rfl 0 rfl wF_X5_12 rfl dX5_passSilentTick_14 ?_
  refine h_callVi (T := TX7) (rest := []) (As := []) hx hb hml hown hts hK hT1 (fun _ h => h) hS1 (c_X7_onCount l G Y (o + 1) (on_st hY)) trivial wd_X7_onCount wV_X7_onCount wL_X5_285 ((on_st hY).o rfl) rfl rfl hl.1 rfl (Nat.le_of_ble_eq_true rfl) dX5_passSilentTick_17 ⟨Nat.le_of_ble_eq_true rfl, Nat.le_of_ble_eq_true rfl⟩ ⟨Nat.zero_le _, Nat.zero_le _⟩ (fun r4 H2 locs hp2 hT2 hS2 hk2 => ?_)
  obtain ⟨hp2, he⟩ := hp2
  have he := he.symm
  subst he
  have hp2 : r4 = 0 := hp2
  subst hp2
  refine lv_istore_n (lv' := [(1, .int 0), (0, .ref (o))]) hx hb dX5_passSilentTick_20 rfl hl (by decide) rfl (fun ls hl => ?_)
  refine lv_iload_n hx hb dX5_passSilentTick_21 rfl (lv_at hl 0 rfl) ?_
  refine lv_if_ne (tgt := 26) hx hb dX5_passSilentTick_22 (by decide) (fun h => absurd (by decide) h) (fun _ => ?_)
  exact hret _ _ _ _ hT1 hS2 ((h_po hu1 (by omega)).trans hpr) dX5_passSilentTick_25
set_option maxHeartbeats 4000000 in
set_option maxRecDepth 100000 in
theorem c_X5_passTick (l : Launch) (G : hG) (Y : hW) (o : Nat) (hY : h_On Y o (ringE tF o)) (u1 z : Int32) : hMv l yX5_passTick cX5_passTick 2 none 3 63 G Y [.ref (o), .int u1] (fun H => h_gi G H 5 o 6 = z) (fun H H1 => h_gi G H1 5 o 6 = z + 1) := by
  refine h_ofv (by decide +kernel) (Nat.le_of_ble_eq_true rfl) ?_
  intro p e s m args below meth c H0 ls Q hx hb hts hown hml hK hT0 hpr hS0 hl hret
  have hl : lv_has ls 2 [(0, .ref (o)), (1, .int u1)] := hl
  refine lv_aload_n hx hb dX5_passTick_0 rfl (lv_at hl 0 rfl) ?_
  refine lv_dup hx hb dX5_passTick_1 rfl ?_
  refine h_geti (C := RX5) (T := TX5) (N := 11) hx hb hts inX5 hown hK hT0 (on_rg hY) rfl 6 rfl wF_X5_53 rfl dX5_passTick_2 (fun p1 => ?_)
  refine h_top (v := z) hpr ?_
  refine lv_iconst (v := 1) hx hb dX5_passTick_5 (by decide) ?_
  refine lv_iadd hx hb dX5_passTick_6 ?_
  refine lv_topi (fun x2 ex2 => ?_)
  refine h_puti (C := RX5) (T := TX5) (N := 11) hx hb hts inX5 tyX5 tyX5_ok nmX5 hown hK hT0 (fun _ h => h) hS0 (on_rg hY) rfl 6 rfl wF_X5_53 rfl rfl trivial rfl rfl dX5_passTick_7 (fun H1 locs hT1 hS1 hu1 => ?_)
  refine lv_aload_n hx hb dX5_passTick_10 rfl (lv_at hl 0 rfl) ?_
  refine h_callVv (T := TX5) (rest := []) (As := []) hx hb hml hown hts hK hT1 (fun _ h => h) hS1 (c_X5_forgetLatestTick l G Y (o) hY x2) (h_pu hu1) wd_X5_forgetLatestTick wV_X5_forgetLatestTick wL_X5_99 (on_rg hY) rfl rfl hl.1 rfl (Nat.le_of_ble_eq_true rfl) dX5_passTick_11 ⟨Nat.le_of_ble_eq_true rfl, Nat.le_of_ble_eq_true rfl⟩ ⟨Nat.zero_le _, Nat.zero_le _⟩ (fun H2 locs hp2 hT2 hS2 hk2 => ?_)
  refine lv_aload_n hx hb dX5_passTick_14 rfl (lv_at hl 0 rfl) ?_
  refine h_getr (C := RX5) (T := TX5) (N := 11) hx hb hts inX5 hown hK hT2 (on_rg hY) rfl 3 rfl wF_X5_35 rfl dX5_passTick_15 ?_
  refine h_getc (v := 0) (C := RX9) (T := TX9) (N := 11) hx hb hts inX9 hown hK hT2 ((on_wa hY).o rfl) rfl 0 rfl wF_X5_142 rfl (fun _ h => h) dX5_passTick_18 ?_
  refine lv_if_ne (tgt := 31) hx hb dX5_passTick_21 (by decide) (fun h => absurd (by decide) h) (fun _ => ?_)
  refine lv_aload_n hx hb dX5_passTick_24 rfl (lv_at hl 0 rfl) ?_
  refine h_callVv (T := TX5) (rest := []) (As := []) hx hb hml hown hts hK hT2 (fun _ h => h) hS2 (c_X5_passSilentTick l G Y (o) hY x2) hp2.1 wd_X5_passSilentTick wV_X5_passSilentTick wL_X5_195 (on_rg hY) rfl rfl hl.1 rfl (Nat.le_of_ble_eq_true rfl) dX5_passTick_25 ⟨Nat.le_of_ble_eq_true rfl, Nat.le_of_ble_eq_true rfl⟩ ⟨Nat.zero_le _, Nat.zero_le _⟩ (fun H3 locs hp3 hT3 hS3 hk3 => ?_)
  refine lv_goto (tgt := 36) hx hb dX5_passTick_28 (by decide) ?_
  exact hret _ _ _ _ hT3 hS3 (hp3.trans ex2) dX5_passTick_36
set_option maxHeartbeats 4000000 in
set_option maxRecDepth 100000 in
theorem c_X5_nextDraw (l : Launch) (G : hG) (Y : hW) (o : Nat) (hY : h_On Y o (ringE tF o)) (u1 : Int32) : hMi l yX5_nextDraw cX5_nextDraw 2 (some .int) 0 0 G Y [.ref (o), .int u1] (fun H => True) (fun H r H1 => True ∧ H1 = H) := by
  refine h_ofi (by decide +kernel) (Nat.le_of_ble_eq_true rfl) ?_
  intro p e s m args below meth c H0 ls Q hx hb hts hown hml hK hT0 hpr hS0 hl hret
  have hl : lv_has ls 2 [(0, .ref (o)), (1, .int u1)] := hl
  refine lv_iload_n hx hb dX5_nextDraw_0 rfl (lv_at hl 1 rfl) ?_
  refine lv_sipush (v := 3877) hx hb dX5_nextDraw_1 (by decide) ?_
  refine lv_imul hx hb dX5_nextDraw_4 ?_
  refine lv_topi (fun x1 ex1 => ?_)
  refine lv_sipush (v := 29573) hx hb dX5_nextDraw_5 (by decide) ?_
  refine lv_iadd hx hb dX5_nextDraw_8 ?_
  refine lv_topi (fun x2 ex2 => ?_)
  refine lv_ldc (v := 139968) hx hb hown (hts _ wC_X5_165) dX5_nextDraw_9 ?_
  refine lv_irem hx hb dX5_nextDraw_11 (by decide) ?_
  refine lv_topi (fun x3 ex3 => ?_)
  exact hret _ _ _ _ _ hT0 hS0 ⟨trivial, rfl⟩ dX5_nextDraw_12
set_option maxHeartbeats 4000000 in
set_option maxRecDepth 100000 in
theorem c_X5_drawn (l : Launch) (G : hG) (Y : hW) (o : Nat) (hY : h_On Y o (ringE tF o)) (u1 u2 : Int32) : hMi l yX5_drawn cX5_drawn 3 (some .int) 0 0 G Y [.ref (o), .int u1, .int u2] (fun H => True) (fun H r H1 => True ∧ H1 = H) := by
  refine h_ofi (by decide +kernel) (Nat.le_of_ble_eq_true rfl) ?_
  intro p e s m args below meth c H0 ls Q hx hb hts hown hml hK hT0 hpr hS0 hl hret
  have hl : lv_has ls 3 [(0, .ref (o)), (1, .int u1), (2, .int u2)] := hl
  refine lv_iload_n hx hb dX5_drawn_0 rfl (lv_at hl 1 rfl) ?_
  refine lv_iload_n hx hb dX5_drawn_1 rfl (lv_at hl 2 rfl) ?_
  refine lv_imul hx hb dX5_drawn_2 ?_
  refine lv_topi (fun x1 ex1 => ?_)
  refine lv_ldc (v := 139968) hx hb hown (hts _ wC_X5_165) dX5_drawn_3 ?_
  refine lv_idiv hx hb dX5_drawn_5 (by decide) ?_
  refine lv_topi (fun x2 ex2 => ?_)
  exact hret _ _ _ _ _ hT0 hS0 ⟨trivial, rfl⟩ dX5_drawn_6
set_option maxHeartbeats 4000000 in
set_option maxRecDepth 100000 in
theorem c_X5_drawFrame (l : Launch) (G : hG) (Y : hW) (o : Nat) (hY : h_On Y o (ringE tF o)) (u1 u2 : Int32) : hMi l yX5_drawFrame cX5_drawFrame 7 (some .int) 1 22 G Y [.ref (o), .int u1, .int u2] (fun H => True) (fun H r H1 => True) := by
  refine h_ofi (by decide +kernel) (Nat.le_of_ble_eq_true rfl) ?_
  intro p e s m args below meth c H0 ls Q hx hb hts hown hml hK hT0 hpr hS0 hl hret
  have hl : lv_has ls 7 [(0, .ref (o)), (1, .int u1), (2, .int u2)] := hl
  refine lv_aload_n hx hb dX5_drawFrame_0 rfl (lv_at hl 0 rfl) ?_
  refine lv_iload_n hx hb dX5_drawFrame_1 rfl (lv_at hl 1 rfl) ?_
  refine h_callVi (T := TX5) (rest := []) (As := [.int u1]) hx hb hml hown hts hK hT0 (fun _ h => h) hS0 (c_X5_nextDraw l G Y (o) hY u1) trivial wd_X5_nextDraw wV_X5_nextDraw wL_X5_166 (on_rg hY) rfl rfl hl.1 rfl (Nat.le_of_ble_eq_true rfl) dX5_drawFrame_2 ⟨Nat.le_of_ble_eq_true rfl, Nat.le_of_ble_eq_true rfl⟩ ⟨Nat.zero_le _, Nat.zero_le _⟩ (fun r1 H1 locs hp1 hT1 hS1 hk1 => ?_)
  obtain ⟨hp1, he⟩ := hp1
  have he := he.symm
  subst he
  refine lv_istore_n (lv' := [(3, .int r1), (0, .ref (o)), (1, .int u1), (2, .int u2)]) hx hb dX5_drawFrame_5 rfl hl (by decide) rfl (fun ls hl => ?_)
  refine lv_aload_n hx hb dX5_drawFrame_6 rfl (lv_at hl 1 rfl) ?_
  refine lv_iload_n hx hb dX5_drawFrame_7 rfl (lv_at hl 0 rfl) ?_
  refine lv_bipush (v := 16) hx hb dX5_drawFrame_8 (by decide) ?_
  refine h_callVi (T := TX5) (rest := []) (As := [.int r1, .int 16]) hx hb hml hown hts hK hT0 (fun _ h => h) hS1 (c_X5_drawn l G Y (o) hY r1 16) trivial wd_X5_drawn wV_X5_drawn wL_X5_169 (on_rg hY) rfl rfl hl.1 rfl (Nat.le_of_ble_eq_true rfl) dX5_drawFrame_10 ⟨Nat.le_of_ble_eq_true rfl, Nat.le_of_ble_eq_true rfl⟩ ⟨Nat.zero_le _, Nat.zero_le _⟩ (fun r2 H2 locs hp2 hT2 hS2 hk2 => ?_)
  obtain ⟨hp2, he⟩ := hp2
  have he := he.symm
  subst he
  refine lv_iload_n hx hb dX5_drawFrame_13 rfl (lv_at hl 3 rfl) ?_
  refine lv_icmp_ge (tgt := 27) hx hb dX5_drawFrame_14 (by decide) (fun c3 => ?_) (fun c3 => ?_)
  · skip
    refine lv_iload_n hx hb dX5_drawFrame_27 rfl (lv_at hl 0 rfl) ?_
    exact hret _ _ _ _ _ hT0 hS2 trivial dX5_drawFrame_28
  · skip
    refine lv_aload_n hx hb dX5_drawFrame_17 rfl (lv_at hl 1 rfl) ?_
    refine h_getr (C := RX5) (T := TX5) (N := 11) hx hb hts inX5 hown hK hT0 (on_rg hY) rfl 0 rfl wF_X5_12 rfl dX5_drawFrame_18 ?_
    refine h_getc (v := 0) (C := RX7) (T := TX7) (N := 9) hx hb hts inX7 hown hK hT0 ((on_st hY).o rfl) rfl 5 rfl wF_X5_151 rfl (fun _ h => h) dX5_drawFrame_21 ?_
    refine lv_if_ne (tgt := 29) hx hb dX5_drawFrame_24 (by decide) (fun h => absurd (by decide) h) (fun _ => ?_)
    refine lv_iload_n hx hb dX5_drawFrame_27 rfl (lv_at hl 0 rfl) ?_
    exact hret _ _ _ _ _ hT0 hS2 trivial dX5_drawFrame_28
set_option maxHeartbeats 4000000 in
set_option maxRecDepth 100000 in
theorem c_X5_startSilence (l : Launch) (G : hG) (Y : hW) (o : Nat) (hY : h_On Y o (ringE tF o)) : hMv l yX5_startSilence cX5_startSilence 1 none 1 20 G Y [.ref (o)] (fun H => True) (fun H H1 => True) := by
  refine h_ofv (by decide +kernel) (Nat.le_of_ble_eq_true rfl) ?_
  intro p e s m args below meth c H0 ls Q hx hb hts hown hml hK hT0 hpr hS0 hl hret
  have hl : lv_has ls 1 [(0, .ref (o))] := hl
  refine lv_aload_n hx hb dX5_startSilence_0 rfl (lv_at hl 0 rfl) ?_
  refine h_getr (C := RX5) (T := TX5) (N := 11) hx hb hts inX5 hown hK hT0 (on_rg hY) rfl 3 rfl wF_X5_35 rfl dX5_startSilence_1 ?_
  refine h_getc (v := 0) (C := RX9) (T := TX9) (N := 11) hx hb hts inX9 hown hK hT0 ((on_wa hY).o rfl) rfl 0 rfl wF_X5_142 rfl (fun _ h => h) dX5_startSilence_4 ?_
  refine lv_if_ne (tgt := 17) hx hb dX5_startSilence_7 (by decide) (fun h => absurd (by decide) h) (fun _ => ?_)
  refine lv_aload_n hx hb dX5_startSilence_10 rfl (lv_at hl 0 rfl) ?_
  refine h_getr (C := RX5) (T := TX5) (N := 11) hx hb hts inX5 hown hK hT0 (on_rg hY) rfl 4 rfl wF_X5_42 rfl dX5_startSilence_11 ?_
  refine h_callVv (T := TX6) (rest := []) (As := []) hx hb hml hown hts hK hT0 (fun _ h => h) hS0 (c_X6_restart l G Y (o + 18) (on_si hY)) trivial wd_X6_restart wV_X6_restart wL_X5_76 ((on_si hY).o rfl) rfl rfl hl.1 rfl (Nat.le_of_ble_eq_true rfl) dX5_startSilence_14 ⟨Nat.le_of_ble_eq_true rfl, Nat.le_of_ble_eq_true rfl⟩ ⟨Nat.zero_le _, Nat.zero_le _⟩ (fun H1 locs hp1 hT1 hS1 hk1 => ?_)
  exact hret _ _ _ _ hT1 hS1 trivial dX5_startSilence_17
