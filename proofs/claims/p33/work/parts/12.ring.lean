set_option maxHeartbeats 4000000 in
set_option maxRecDepth 100000 in
theorem c_X5_forgetLatestTick (l : Launch) (G : hG) (Y : hW) (P : Int32 → Prop) (o : Nat) (hY : h_On Y o (ringE (tC P) o)) : hMv l yX5_forgetLatestTick cX5_forgetLatestTick 1 none 0 0 G Y [.ref (o)] (fun H => True) (fun H H1 => ∀ q : Nat, q ≠ o → H1[q]? = H[q]?) := by
  refine h_ofv (by decide +kernel) (Nat.le_of_ble_eq_true rfl) ?_
  intro p e s m args below meth c H0 ls Q hx hb hts hown hml hK hZ hT0 hpr hS0 hl hret
  have hl : lv_has ls 1 [(0, .ref (o))] := hl
  refine lv_aload_n hx hb dX5_forgetLatestTick_0 rfl (lv_at hl 0 rfl) ?_
  refine lv_iconst (v := (-1)) hx hb dX5_forgetLatestTick_1 (by decide) ?_
  refine h_puti (C := RX5) (T := TX5) (N := 11) hx hb hts inX5 tyX5 tyX5_ok nmX5 hown hK hT0 (fun _ h => h) hS0 (on_rg hY) rfl 8 rfl wF_X5_60 rfl rfl trivial rfl rfl dX5_forgetLatestTick_2 (fun H1 locs hT1 hS1 hu1 => ?_)
  refine lv_aload_n hx hb dX5_forgetLatestTick_5 rfl (lv_at hl 0 rfl) ?_
  refine lv_iconst (v := (-1)) hx hb dX5_forgetLatestTick_6 (by decide) ?_
  refine h_puti (C := RX5) (T := TX5) (N := 11) hx hb hts inX5 tyX5 tyX5_ok nmX5 hown hK hT1 (fun _ h => h) hS1 (on_rg hY) rfl 9 rfl wF_X5_63 rfl rfl trivial rfl rfl dX5_forgetLatestTick_7 (fun H2 locs hT2 hS2 hu2 => ?_)
  refine lv_aload_n hx hb dX5_forgetLatestTick_10 rfl (lv_at hl 0 rfl) ?_
  refine lv_iconst (v := 0) hx hb dX5_forgetLatestTick_11 (by decide) ?_
  refine h_puti (C := RX5) (T := TX5) (N := 11) hx hb hts inX5 tyX5 tyX5_ok nmX5 hown hK hT2 (fun _ h => h) hS2 (on_rg hY) rfl 10 rfl wF_X5_66 rfl rfl (Or.inl rfl) rfl rfl dX5_forgetLatestTick_12 (fun H3 locs hT3 hS3 hu3 => ?_)
  exact hret _ _ _ _ hT3 hS3 (fun q hq => ((hu3.2.1 q hq).trans ((hu2.2.1 q hq).trans (hu1.2.1 q hq)))) dX5_forgetLatestTick_15
set_option maxHeartbeats 4000000 in
set_option maxRecDepth 100000 in
theorem c_X5_copyFrom (l : Launch) (G : hG) (Y : hW) (P : Int32 → Prop) (o o2 : Nat) (hY : h_On Y o (ringE (tC P) o)) (hY2 : h_On Y o2 (ringE (tC P) o2)) : hMv l yX5_copyFrom cX5_copyFrom 2 none 2 81 G Y [.ref (o), .ref (o2)] (fun H => True) (fun H H1 => ∀ q : Nat, (q < o ∨ o + 25 ≤ q) → H1[q]? = H[q]?) := by
  refine h_ofv (by decide +kernel) (Nat.le_of_ble_eq_true rfl) ?_
  intro p e s m args below meth c H0 ls Q hx hb hts hown hml hK hZ hT0 hpr hS0 hl hret
  have hl : lv_has ls 2 [(0, .ref (o)), (1, .ref (o2))] := hl
  refine lv_aload_n hx hb dX5_copyFrom_0 rfl (lv_at hl 0 rfl) ?_
  refine h_getr (C := RX5) (T := TX5) (N := 11) hx hb hts inX5 hown hK hT0 (on_rg hY) rfl 0 rfl wF_X5_12 rfl dX5_copyFrom_1 ?_
  refine lv_aload_n hx hb dX5_copyFrom_4 rfl (lv_at hl 1 rfl) ?_
  refine h_getr (C := RX5) (T := TX5) (N := 11) hx hb hts inX5 hown hK hT0 (on_rg hY2) rfl 0 rfl wF_X5_12 rfl dX5_copyFrom_5 ?_
  refine h_callVv (T := TX7) (rest := []) (As := [.ref (o2 + 1)]) hx hb hml hown hts hK hT0 hZ (fun _ h => h) hS0 (c_X7_copyFrom l G Y P (o + 1) (o2 + 1) (on_st hY) (on_st hY2)) trivial wd_X7_copyFrom wV_X7_copyFrom wL_X5_80 ((on_st hY).o rfl) rfl rfl hl.1 rfl (Nat.le_of_ble_eq_true rfl) dX5_copyFrom_8 ⟨Nat.le_of_ble_eq_true rfl, Nat.le_of_ble_eq_true rfl⟩ ⟨Nat.zero_le _, Nat.zero_le _⟩ (fun H1 locs hp1 hT1 hS1 hk1 => ?_)
  refine lv_aload_n hx hb dX5_copyFrom_11 rfl (lv_at hl 0 rfl) ?_
  refine h_getr (C := RX5) (T := TX5) (N := 11) hx hb hts inX5 hown hK hT1 (on_rg hY) rfl 1 rfl wF_X5_21 rfl dX5_copyFrom_12 ?_
  refine lv_aload_n hx hb dX5_copyFrom_15 rfl (lv_at hl 1 rfl) ?_
  refine h_getr (C := RX5) (T := TX5) (N := 11) hx hb hts inX5 hown hK hT1 (on_rg hY2) rfl 1 rfl wF_X5_21 rfl dX5_copyFrom_16 ?_
  refine h_callVv (T := TX2) (rest := []) (As := [.ref (o2 + 7)]) hx hb hml hown hts hK hT1 hZ (fun _ h => h) hS1 (c_X2_copyFrom l G Y P (o + 7) (o2 + 7) (on_qu hY) (on_qu hY2)) trivial wd_X2_copyFrom wV_X2_copyFrom wL_X5_84 ((on_qu hY).o rfl) rfl rfl hl.1 rfl (Nat.le_of_ble_eq_true rfl) dX5_copyFrom_19 ⟨Nat.le_of_ble_eq_true rfl, Nat.le_of_ble_eq_true rfl⟩ ⟨Nat.zero_le _, Nat.zero_le _⟩ (fun H2 locs hp2 hT2 hS2 hk2 => ?_)
  refine lv_aload_n hx hb dX5_copyFrom_22 rfl (lv_at hl 0 rfl) ?_
  refine h_getr (C := RX5) (T := TX5) (N := 11) hx hb hts inX5 hown hK hT2 (on_rg hY) rfl 2 rfl wF_X5_28 rfl dX5_copyFrom_23 ?_
  refine lv_aload_n hx hb dX5_copyFrom_26 rfl (lv_at hl 1 rfl) ?_
  refine h_getr (C := RX5) (T := TX5) (N := 11) hx hb hts inX5 hown hK hT2 (on_rg hY2) rfl 2 rfl wF_X5_28 rfl dX5_copyFrom_27 ?_
  refine h_callVv (T := TX3) (rest := []) (As := [.ref (o2 + 13)]) hx hb hml hown hts hK hT2 hZ (fun _ h => h) hS2 (c_X3_copyFrom l G Y P (o + 13) (o2 + 13) (on_ra hY) (on_ra hY2)) trivial wd_X3_copyFrom wV_X3_copyFrom wL_X5_87 ((on_ra hY).o rfl) rfl rfl hl.1 rfl (Nat.le_of_ble_eq_true rfl) dX5_copyFrom_30 ⟨Nat.le_of_ble_eq_true rfl, Nat.le_of_ble_eq_true rfl⟩ ⟨Nat.zero_le _, Nat.zero_le _⟩ (fun H3 locs hp3 hT3 hS3 hk3 => ?_)
  refine lv_aload_n hx hb dX5_copyFrom_33 rfl (lv_at hl 0 rfl) ?_
  refine h_getr (C := RX5) (T := TX5) (N := 11) hx hb hts inX5 hown hK hT3 (on_rg hY) rfl 3 rfl wF_X5_35 rfl dX5_copyFrom_34 ?_
  refine lv_aload_n hx hb dX5_copyFrom_37 rfl (lv_at hl 1 rfl) ?_
  refine h_getr (C := RX5) (T := TX5) (N := 11) hx hb hts inX5 hown hK hT3 (on_rg hY2) rfl 3 rfl wF_X5_35 rfl dX5_copyFrom_38 ?_
  refine h_callVv (T := TX9) (rest := []) (As := [.ref (o2 + 17)]) hx hb hml hown hts hK hT3 hZ (fun _ h => h) hS3 (c_X9_copyFrom l G Y P (o + 17) (o2 + 17) (on_wa hY) (on_wa hY2)) trivial wd_X9_copyFrom wV_X9_copyFrom wL_X5_90 ((on_wa hY).o rfl) rfl rfl hl.1 rfl (Nat.le_of_ble_eq_true rfl) dX5_copyFrom_41 ⟨Nat.le_of_ble_eq_true rfl, Nat.le_of_ble_eq_true rfl⟩ ⟨Nat.zero_le _, Nat.zero_le _⟩ (fun H4 locs hp4 hT4 hS4 hk4 => ?_)
  refine lv_aload_n hx hb dX5_copyFrom_44 rfl (lv_at hl 0 rfl) ?_
  refine h_getr (C := RX5) (T := TX5) (N := 11) hx hb hts inX5 hown hK hT4 (on_rg hY) rfl 4 rfl wF_X5_42 rfl dX5_copyFrom_45 ?_
  refine lv_aload_n hx hb dX5_copyFrom_48 rfl (lv_at hl 1 rfl) ?_
  refine h_getr (C := RX5) (T := TX5) (N := 11) hx hb hts inX5 hown hK hT4 (on_rg hY2) rfl 4 rfl wF_X5_42 rfl dX5_copyFrom_49 ?_
  refine h_callVv (T := TX6) (rest := []) (As := [.ref (o2 + 18)]) hx hb hml hown hts hK hT4 hZ (fun _ h => h) hS4 (c_X6_copyFrom l G Y P (o + 18) (o2 + 18) (on_si hY) (on_si hY2)) trivial wd_X6_copyFrom wV_X6_copyFrom wL_X5_93 ((on_si hY).o rfl) rfl rfl hl.1 rfl (Nat.le_of_ble_eq_true rfl) dX5_copyFrom_52 ⟨Nat.le_of_ble_eq_true rfl, Nat.le_of_ble_eq_true rfl⟩ ⟨Nat.zero_le _, Nat.zero_le _⟩ (fun H5 locs hp5 hT5 hS5 hk5 => ?_)
  refine lv_aload_n hx hb dX5_copyFrom_55 rfl (lv_at hl 0 rfl) ?_
  refine h_getr (C := RX5) (T := TX5) (N := 11) hx hb hts inX5 hown hK hT5 (on_rg hY) rfl 5 rfl wF_X5_49 rfl dX5_copyFrom_56 ?_
  refine lv_aload_n hx hb dX5_copyFrom_59 rfl (lv_at hl 1 rfl) ?_
  refine h_getr (C := RX5) (T := TX5) (N := 11) hx hb hts inX5 hown hK hT5 (on_rg hY2) rfl 5 rfl wF_X5_49 rfl dX5_copyFrom_60 ?_
  refine h_callVv (T := TX0) (rest := []) (As := [.ref (o2 + 19)]) hx hb hml hown hts hK hT5 hZ (fun _ h => h) hS5 (c_X0_copyFrom l G Y P (o + 19) (o2 + 19) (on_bo hY) (on_bo hY2)) trivial wd_X0_copyFrom wV_X0_copyFrom wL_X5_96 ((on_bo hY).o rfl) rfl rfl hl.1 rfl (Nat.le_of_ble_eq_true rfl) dX5_copyFrom_63 ⟨Nat.le_of_ble_eq_true rfl, Nat.le_of_ble_eq_true rfl⟩ ⟨Nat.zero_le _, Nat.zero_le _⟩ (fun H6 locs hp6 hT6 hS6 hk6 => ?_)
  refine lv_aload_n hx hb dX5_copyFrom_66 rfl (lv_at hl 0 rfl) ?_
  refine lv_aload_n hx hb dX5_copyFrom_67 rfl (lv_at hl 1 rfl) ?_
  refine h_geti (C := RX5) (T := TX5) (N := 11) hx hb hts inX5 hown hK hT6 (on_rg hY2) rfl 6 rfl wF_X5_53 rfl dX5_copyFrom_68 (fun p1 => ?_)
  refine lv_topi (fun x2 ex2 => ?_)
  refine h_puti (C := RX5) (T := TX5) (N := 11) hx hb hts inX5 tyX5 tyX5_ok nmX5 hown hK hT6 (fun _ h => h) hS6 (on_rg hY) rfl 6 rfl wF_X5_53 rfl rfl trivial rfl rfl dX5_copyFrom_71 (fun H7 locs hT7 hS7 hu7 => ?_)
  refine lv_aload_n hx hb dX5_copyFrom_74 rfl (lv_at hl 0 rfl) ?_
  refine lv_aload_n hx hb dX5_copyFrom_75 rfl (lv_at hl 1 rfl) ?_
  refine h_geti (C := RX5) (T := TX5) (N := 11) hx hb hts inX5 hown hK hT7 (on_rg hY2) rfl 7 rfl wF_X5_57 rfl dX5_copyFrom_76 (fun p3 => ?_)
  refine lv_topi (fun x4 ex4 => ?_)
  refine h_puti (C := RX5) (T := TX5) (N := 11) hx hb hts inX5 tyX5 tyX5_ok nmX5 hown hK hT7 (fun _ h => h) hS7 (on_rg hY) rfl 7 rfl wF_X5_57 rfl rfl trivial rfl rfl dX5_copyFrom_79 (fun H8 locs hT8 hS8 hu8 => ?_)
  refine lv_aload_n hx hb dX5_copyFrom_82 rfl (lv_at hl 0 rfl) ?_
  refine h_callVv (T := TX5) (rest := []) (As := []) hx hb hml hown hts hK hT8 hZ (fun _ h => h) hS8 (c_X5_forgetLatestTick l G Y P (o) hY) trivial wd_X5_forgetLatestTick wV_X5_forgetLatestTick wL_X5_99 (on_rg hY) rfl rfl hl.1 rfl (Nat.le_of_ble_eq_true rfl) dX5_copyFrom_83 ⟨Nat.le_of_ble_eq_true rfl, Nat.le_of_ble_eq_true rfl⟩ ⟨Nat.zero_le _, Nat.zero_le _⟩ (fun H9 locs hp9 hT9 hS9 hk9 => ?_)
  exact hret _ _ _ _ hT9 hS9 (fun q hq => ((hp9 q (by omega)).trans ((hu8.2.1 q (by omega)).trans ((hu7.2.1 q (by omega)).trans ((hp6 q (by omega)).trans ((hp5 q (by omega)).trans ((hp4 q (by omega)).trans ((hp3 q (by omega)).trans ((hp2 q (by omega)).trans (hp1 q (by omega))))))))))) dX5_copyFrom_86
set_option maxHeartbeats 4000000 in
set_option maxRecDepth 100000 in
theorem c_X5_clear (l : Launch) (G : hG) (Y : hW) (P : Int32 → Prop) (o : Nat) (hY : h_On Y o (ringE (tC P) o)) : hMv l yX5_clear cX5_clear 1 none 2 43 G Y [.ref (o)] (fun H => True) (fun H H1 => True) := by
  refine h_ofv (by decide +kernel) (Nat.le_of_ble_eq_true rfl) ?_
  intro p e s m args below meth c H0 ls Q hx hb hts hown hml hK hZ hT0 hpr hS0 hl hret
  have hl : lv_has ls 1 [(0, .ref (o))] := hl
  refine lv_aload_n hx hb dX5_clear_0 rfl (lv_at hl 0 rfl) ?_
  refine h_getr (C := RX5) (T := TX5) (N := 11) hx hb hts inX5 hown hK hT0 (on_rg hY) rfl 0 rfl wF_X5_12 rfl dX5_clear_1 ?_
  refine h_callVv (T := TX7) (rest := []) (As := []) hx hb hml hown hts hK hT0 hZ (fun _ h => h) hS0 (c_X7_clear l G Y P (o + 1) (on_st hY)) trivial wd_X7_clear wV_X7_clear wL_X5_70 ((on_st hY).o rfl) rfl rfl hl.1 rfl (Nat.le_of_ble_eq_true rfl) dX5_clear_4 ⟨Nat.le_of_ble_eq_true rfl, Nat.le_of_ble_eq_true rfl⟩ ⟨Nat.zero_le _, Nat.zero_le _⟩ (fun H1 locs hp1 hT1 hS1 hk1 => ?_)
  refine lv_aload_n hx hb dX5_clear_7 rfl (lv_at hl 0 rfl) ?_
  refine h_getr (C := RX5) (T := TX5) (N := 11) hx hb hts inX5 hown hK hT1 (on_rg hY) rfl 1 rfl wF_X5_21 rfl dX5_clear_8 ?_
  refine h_callVv (T := TX2) (rest := []) (As := []) hx hb hml hown hts hK hT1 hZ (fun _ h => h) hS1 (c_X2_clear l G Y P (o + 7) (on_qu hY)) trivial wd_X2_clear wV_X2_clear wL_X5_73 ((on_qu hY).o rfl) rfl rfl hl.1 rfl (Nat.le_of_ble_eq_true rfl) dX5_clear_11 ⟨Nat.le_of_ble_eq_true rfl, Nat.le_of_ble_eq_true rfl⟩ ⟨Nat.zero_le _, Nat.zero_le _⟩ (fun H2 locs hp2 hT2 hS2 hk2 => ?_)
  refine lv_aload_n hx hb dX5_clear_14 rfl (lv_at hl 0 rfl) ?_
  refine h_getr (C := RX5) (T := TX5) (N := 11) hx hb hts inX5 hown hK hT2 (on_rg hY) rfl 2 rfl wF_X5_28 rfl dX5_clear_15 ?_
  refine h_callVv (T := TX3) (rest := []) (As := []) hx hb hml hown hts hK hT2 hZ (fun _ h => h) hS2 (c_X3_clear l G Y P (o + 13) (on_ra hY)) trivial wd_X3_clear wV_X3_clear wL_X5_74 ((on_ra hY).o rfl) rfl rfl hl.1 rfl (Nat.le_of_ble_eq_true rfl) dX5_clear_18 ⟨Nat.le_of_ble_eq_true rfl, Nat.le_of_ble_eq_true rfl⟩ ⟨Nat.zero_le _, Nat.zero_le _⟩ (fun H3 locs hp3 hT3 hS3 hk3 => ?_)
  refine lv_aload_n hx hb dX5_clear_21 rfl (lv_at hl 0 rfl) ?_
  refine h_getr (C := RX5) (T := TX5) (N := 11) hx hb hts inX5 hown hK hT3 (on_rg hY) rfl 3 rfl wF_X5_35 rfl dX5_clear_22 ?_
  refine h_callVv (T := TX9) (rest := []) (As := []) hx hb hml hown hts hK hT3 hZ (fun _ h => h) hS3 (c_X9_clear l G Y P (o + 17) (on_wa hY)) trivial wd_X9_clear wV_X9_clear wL_X5_75 ((on_wa hY).o rfl) rfl rfl hl.1 rfl (Nat.le_of_ble_eq_true rfl) dX5_clear_25 ⟨Nat.le_of_ble_eq_true rfl, Nat.le_of_ble_eq_true rfl⟩ ⟨Nat.zero_le _, Nat.zero_le _⟩ (fun H4 locs hp4 hT4 hS4 hk4 => ?_)
  refine lv_aload_n hx hb dX5_clear_28 rfl (lv_at hl 0 rfl) ?_
  refine h_getr (C := RX5) (T := TX5) (N := 11) hx hb hts inX5 hown hK hT4 (on_rg hY) rfl 4 rfl wF_X5_42 rfl dX5_clear_29 ?_
  refine h_callVv (T := TX6) (rest := []) (As := []) hx hb hml hown hts hK hT4 hZ (fun _ h => h) hS4 (c_X6_restart l G Y P (o + 18) (on_si hY)) trivial wd_X6_restart wV_X6_restart wL_X5_76 ((on_si hY).o rfl) rfl rfl hl.1 rfl (Nat.le_of_ble_eq_true rfl) dX5_clear_32 ⟨Nat.le_of_ble_eq_true rfl, Nat.le_of_ble_eq_true rfl⟩ ⟨Nat.zero_le _, Nat.zero_le _⟩ (fun H5 locs hp5 hT5 hS5 hk5 => ?_)
  refine lv_aload_n hx hb dX5_clear_35 rfl (lv_at hl 0 rfl) ?_
  refine h_getr (C := RX5) (T := TX5) (N := 11) hx hb hts inX5 hown hK hT5 (on_rg hY) rfl 5 rfl wF_X5_49 rfl dX5_clear_36 ?_
  refine h_callVv (T := TX0) (rest := []) (As := []) hx hb hml hown hts hK hT5 hZ (fun _ h => h) hS5 (c_X0_clear l G Y P (o + 19) (on_bo hY)) trivial wd_X0_clear wV_X0_clear wL_X5_79 ((on_bo hY).o rfl) rfl rfl hl.1 rfl (Nat.le_of_ble_eq_true rfl) dX5_clear_39 ⟨Nat.le_of_ble_eq_true rfl, Nat.le_of_ble_eq_true rfl⟩ ⟨Nat.zero_le _, Nat.zero_le _⟩ (fun H6 locs hp6 hT6 hS6 hk6 => ?_)
  refine lv_aload_n hx hb dX5_clear_42 rfl (lv_at hl 0 rfl) ?_
  refine lv_iconst (v := 0) hx hb dX5_clear_43 (by decide) ?_
  refine h_puti (C := RX5) (T := TX5) (N := 11) hx hb hts inX5 tyX5 tyX5_ok nmX5 hown hK hT6 (fun _ h => h) hS6 (on_rg hY) rfl 6 rfl wF_X5_53 rfl rfl trivial rfl rfl dX5_clear_44 (fun H7 locs hT7 hS7 hu7 => ?_)
  refine lv_aload_n hx hb dX5_clear_47 rfl (lv_at hl 0 rfl) ?_
  refine lv_iconst (v := 0) hx hb dX5_clear_48 (by decide) ?_
  refine h_puti (C := RX5) (T := TX5) (N := 11) hx hb hts inX5 tyX5 tyX5_ok nmX5 hown hK hT7 (fun _ h => h) hS7 (on_rg hY) rfl 7 rfl wF_X5_57 rfl rfl trivial rfl rfl dX5_clear_49 (fun H8 locs hT8 hS8 hu8 => ?_)
  exact hret _ _ _ _ hT8 hS8 trivial dX5_clear_52
set_option maxHeartbeats 4000000 in
set_option maxRecDepth 100000 in
theorem c_X5_tellOf (l : Launch) (G : hG) (Y : hW) (P : Int32 → Prop) (o : Nat) (hY : h_On Y o (ringE (tC P) o)) (u1 u2 : Int32) : hMi l yX5_tellOf cX5_tellOf 3 (some .int) 2 47 G Y [.ref (o), .int u1, .int u2] (fun H => True) (fun H r H1 => (True) ∧ H1 = H) := by
  refine h_ofi (by decide +kernel) (Nat.le_of_ble_eq_true rfl) ?_
  intro p e s m args below meth c H0 ls Q hx hb hts hown hml hK hZ hT0 hpr hS0 hl hret
  have hl : lv_has ls 3 [(0, .ref (o)), (1, .int u1), (2, .int u2)] := hl
  refine lv_aload_n hx hb dX5_tellOf_0 rfl (lv_at hl 0 rfl) ?_
  refine h_getr (C := RX5) (T := TX5) (N := 11) hx hb hts inX5 hown hK hT0 (on_rg hY) rfl 0 rfl wF_X5_12 rfl dX5_tellOf_1 ?_
  refine lv_iload_n hx hb dX5_tellOf_4 rfl (lv_at hl 1 rfl) ?_
  refine h_callVi (T := TX7) (rest := []) (As := [.int u1]) hx hb hml hown hts hK hT0 hZ (fun _ h => h) hS0 (c_X7_exists l G Y P (o + 1) (on_st hY) u1) trivial wd_X7_exists wV_X7_exists wL_X5_102 ((on_st hY).o rfl) rfl rfl hl.1 rfl (Nat.le_of_ble_eq_true rfl) dX5_tellOf_5 ⟨Nat.le_of_ble_eq_true rfl, Nat.le_of_ble_eq_true rfl⟩ ⟨Nat.zero_le _, Nat.zero_le _⟩ (fun r1 H1 locs hp1 hT1 hS1 hk1 => ?_)
  obtain ⟨hp1, he⟩ := hp1
  have he := he.symm
  subst he
  refine lv_if_ne (tgt := 13) hx hb dX5_tellOf_8 (by decide) (fun c2 => ?_) (fun c2 => ?_)
  · skip
    obtain ⟨g3a, g3b⟩ := hp1.2 c2
    refine lv_iload_n hx hb dX5_tellOf_13 rfl (lv_at hl 2 rfl) ?_
    rcases h_sw10 u2 with c4 | c4 | c4 | c4 | c4 | c4 | c4 | c4 | c4 | c4 | c4
    · skip
      refine lv_tableOut (tgt := 179) hx hb dX5_tellOf_14 c4 (by decide) ?_
      refine lv_iconst (v := (-1)) hx hb dX5_tellOf_179 (by decide) ?_
      exact hret _ _ _ _ _ hT0 hS1 ⟨trivial, rfl⟩ dX5_tellOf_180
    · subst c4
      refine lv_tableIn (tgt := 68) hx hb dX5_tellOf_14 (by decide) (by decide) rfl (by decide) ?_
      refine lv_aload_n hx hb dX5_tellOf_68 rfl (lv_at hl 0 rfl) ?_
      refine h_getr (C := RX5) (T := TX5) (N := 11) hx hb hts inX5 hown hK hT0 (on_rg hY) rfl 0 rfl wF_X5_12 rfl dX5_tellOf_69 ?_
      refine h_getr (C := RX7) (T := TX7) (N := 9) hx hb hts inX7 hown hK hT0 ((on_st hY).o rfl) rfl 0 rfl wF_X5_106 rfl dX5_tellOf_72 ?_
      refine lv_iload_n hx hb dX5_tellOf_75 rfl (lv_at hl 1 rfl) ?_
      refine h_iald hx hb hK hT0 ((on_st hY).at 1 rfl) (vp_in_iff.mpr (by (try simp only [Int32.lt_iff_toInt_lt, Int32.le_iff_toInt_le, ← Int32.toInt_inj, Int32.reduceToInt, (show (-1 : Int32).toInt = -1 from rfl)] at g3a g3b ⊢); omega)) dX5_tellOf_76 (fun p5 => ?_)
      refine lv_topi (fun x6 ex6 => ?_)
      exact hret _ _ _ _ _ hT0 hS1 ⟨trivial, rfl⟩ dX5_tellOf_77
    · subst c4
      refine lv_tableIn (tgt := 78) hx hb dX5_tellOf_14 (by decide) (by decide) rfl (by decide) ?_
      refine lv_aload_n hx hb dX5_tellOf_78 rfl (lv_at hl 0 rfl) ?_
      refine h_getr (C := RX5) (T := TX5) (N := 11) hx hb hts inX5 hown hK hT0 (on_rg hY) rfl 0 rfl wF_X5_12 rfl dX5_tellOf_79 ?_
      refine lv_iload_n hx hb dX5_tellOf_82 rfl (lv_at hl 1 rfl) ?_
      refine h_callVi (T := TX7) (rest := []) (As := [.int u1]) hx hb hml hown hts hK hT0 hZ (fun _ h => h) hS1 (c_X7_isOn l G Y P (o + 1) (on_st hY) u1) trivial wd_X7_isOn wV_X7_isOn wL_X5_110 ((on_st hY).o rfl) rfl rfl hl.1 rfl (Nat.le_of_ble_eq_true rfl) dX5_tellOf_83 ⟨Nat.le_of_ble_eq_true rfl, Nat.le_of_ble_eq_true rfl⟩ ⟨Nat.zero_le _, Nat.zero_le _⟩ (fun r7 H2 locs hp2 hT2 hS2 hk2 => ?_)
      obtain ⟨hp2, he⟩ := hp2
      have he := he.symm
      subst he
      refine lv_if_eq (tgt := 93) hx hb dX5_tellOf_86 (by decide) (fun c8 => ?_) (fun c8 => ?_)
      · skip
        refine lv_iconst (v := 0) hx hb dX5_tellOf_93 (by decide) ?_
        exact hret _ _ _ _ _ hT0 hS2 ⟨trivial, rfl⟩ dX5_tellOf_94
      · skip
        obtain ⟨g9a, g9b⟩ := hp2.2 c8
        refine lv_iconst (v := 1) hx hb dX5_tellOf_89 (by decide) ?_
        refine lv_goto (tgt := 94) hx hb dX5_tellOf_90 (by decide) ?_
        exact hret _ _ _ _ _ hT0 hS2 ⟨trivial, rfl⟩ dX5_tellOf_94
    · subst c4
      refine lv_tableIn (tgt := 95) hx hb dX5_tellOf_14 (by decide) (by decide) rfl (by decide) ?_
      refine lv_aload_n hx hb dX5_tellOf_95 rfl (lv_at hl 0 rfl) ?_
      refine h_getr (C := RX5) (T := TX5) (N := 11) hx hb hts inX5 hown hK hT0 (on_rg hY) rfl 1 rfl wF_X5_21 rfl dX5_tellOf_96 ?_
      refine lv_iload_n hx hb dX5_tellOf_99 rfl (lv_at hl 1 rfl) ?_
      refine h_callVi (T := TX2) (rest := []) (As := [.int u1]) hx hb hml hown hts hK hT0 hZ (fun _ h => h) hS1 (c_X2_sizeOf l G Y P (o + 7) (on_qu hY) u1) trivial wd_X2_sizeOf wV_X2_sizeOf wL_X5_113 ((on_qu hY).o rfl) rfl rfl hl.1 rfl (Nat.le_of_ble_eq_true rfl) dX5_tellOf_100 ⟨Nat.le_of_ble_eq_true rfl, Nat.le_of_ble_eq_true rfl⟩ ⟨Nat.zero_le _, Nat.zero_le _⟩ (fun r10 H3 locs hp3 hT3 hS3 hk3 => ?_)
      obtain ⟨hp3, he⟩ := hp3
      have he := he.symm
      subst he
      exact hret _ _ _ _ _ hT0 hS3 ⟨trivial, rfl⟩ dX5_tellOf_103
    · subst c4
      refine lv_tableIn (tgt := 104) hx hb dX5_tellOf_14 (by decide) (by decide) rfl (by decide) ?_
      refine lv_aload_n hx hb dX5_tellOf_104 rfl (lv_at hl 0 rfl) ?_
      refine h_getr (C := RX5) (T := TX5) (N := 11) hx hb hts inX5 hown hK hT0 (on_rg hY) rfl 1 rfl wF_X5_21 rfl dX5_tellOf_105 ?_
      refine lv_aload_n hx hb dX5_tellOf_108 rfl (lv_at hl 0 rfl) ?_
      refine h_getr (C := RX5) (T := TX5) (N := 11) hx hb hts inX5 hown hK hT0 (on_rg hY) rfl 1 rfl wF_X5_21 rfl dX5_tellOf_109 ?_
      refine lv_iload_n hx hb dX5_tellOf_112 rfl (lv_at hl 1 rfl) ?_
      refine h_callVi (T := TX2) (rest := [.ref (o + 7)]) (As := [.int u1]) hx hb hml hown hts hK hT0 hZ (fun _ h => h) hS1 (c_X2_firstSlot l G Y P (o + 7) (on_qu hY) u1) trivial wd_X2_firstSlot wV_X2_firstSlot wL_X5_117 ((on_qu hY).o rfl) rfl rfl hl.1 rfl (Nat.le_of_ble_eq_true rfl) dX5_tellOf_113 ⟨Nat.le_of_ble_eq_true rfl, Nat.le_of_ble_eq_true rfl⟩ ⟨Nat.zero_le _, Nat.zero_le _⟩ (fun r11 H4 locs hp4 hT4 hS4 hk4 => ?_)
      obtain ⟨hp4, he⟩ := hp4
      have he := he.symm
      subst he
      refine h_callVi (T := TX2) (rest := []) (As := [.int r11]) hx hb hml hown hts hK hT0 hZ (fun _ h => h) hS4 (c_X2_numberIn l G Y P (o + 7) (on_qu hY) r11) trivial wd_X2_numberIn wV_X2_numberIn wL_X5_120 ((on_qu hY).o rfl) rfl rfl hl.1 rfl (Nat.le_of_ble_eq_true rfl) dX5_tellOf_116 ⟨Nat.le_of_ble_eq_true rfl, Nat.le_of_ble_eq_true rfl⟩ ⟨Nat.zero_le _, Nat.zero_le _⟩ (fun r12 H5 locs hp5 hT5 hS5 hk5 => ?_)
      obtain ⟨hp5, he⟩ := hp5
      have he := he.symm
      subst he
      exact hret _ _ _ _ _ hT0 hS5 ⟨trivial, rfl⟩ dX5_tellOf_119
    · subst c4
      refine lv_tableIn (tgt := 120) hx hb dX5_tellOf_14 (by decide) (by decide) rfl (by decide) ?_
      refine lv_aload_n hx hb dX5_tellOf_120 rfl (lv_at hl 0 rfl) ?_
      refine h_getr (C := RX5) (T := TX5) (N := 11) hx hb hts inX5 hown hK hT0 (on_rg hY) rfl 2 rfl wF_X5_28 rfl dX5_tellOf_121 ?_
      refine lv_iload_n hx hb dX5_tellOf_124 rfl (lv_at hl 1 rfl) ?_
      refine h_callVi (T := TX3) (rest := []) (As := [.int u1]) hx hb hml hown hts hK hT0 hZ (fun _ h => h) hS1 (c_X3_depthOf l G Y P (o + 13) (on_ra hY) u1) trivial wd_X3_depthOf wV_X3_depthOf wL_X5_123 ((on_ra hY).o rfl) rfl rfl hl.1 rfl (Nat.le_of_ble_eq_true rfl) dX5_tellOf_125 ⟨Nat.le_of_ble_eq_true rfl, Nat.le_of_ble_eq_true rfl⟩ ⟨Nat.zero_le _, Nat.zero_le _⟩ (fun r13 H6 locs hp6 hT6 hS6 hk6 => ?_)
      obtain ⟨hp6, he⟩ := hp6
      have he := he.symm
      subst he
      exact hret _ _ _ _ _ hT0 hS6 ⟨trivial, rfl⟩ dX5_tellOf_128
    · subst c4
      refine lv_tableIn (tgt := 129) hx hb dX5_tellOf_14 (by decide) (by decide) rfl (by decide) ?_
      refine lv_aload_n hx hb dX5_tellOf_129 rfl (lv_at hl 0 rfl) ?_
      refine h_getr (C := RX5) (T := TX5) (N := 11) hx hb hts inX5 hown hK hT0 (on_rg hY) rfl 2 rfl wF_X5_28 rfl dX5_tellOf_130 ?_
      refine lv_iload_n hx hb dX5_tellOf_133 rfl (lv_at hl 1 rfl) ?_
      refine lv_iconst (v := 0) hx hb dX5_tellOf_134 (by decide) ?_
      refine h_callVi (T := TX3) (rest := []) (As := [.int u1, .int 0]) hx hb hml hown hts hK hT0 hZ (fun _ h => h) hS1 (c_X3_oldAt l G Y P (o + 13) (on_ra hY) u1 0) trivial wd_X3_oldAt wV_X3_oldAt wL_X5_126 ((on_ra hY).o rfl) rfl rfl hl.1 rfl (Nat.le_of_ble_eq_true rfl) dX5_tellOf_135 ⟨Nat.le_of_ble_eq_true rfl, Nat.le_of_ble_eq_true rfl⟩ ⟨Nat.zero_le _, Nat.zero_le _⟩ (fun r14 H7 locs hp7 hT7 hS7 hk7 => ?_)
      obtain ⟨hp7, he⟩ := hp7
      have he := he.symm
      subst he
      exact hret _ _ _ _ _ hT0 hS7 ⟨trivial, rfl⟩ dX5_tellOf_138
    · subst c4
      refine lv_tableIn (tgt := 139) hx hb dX5_tellOf_14 (by decide) (by decide) rfl (by decide) ?_
      refine lv_aload_n hx hb dX5_tellOf_139 rfl (lv_at hl 0 rfl) ?_
      refine h_getr (C := RX5) (T := TX5) (N := 11) hx hb hts inX5 hown hK hT0 (on_rg hY) rfl 2 rfl wF_X5_28 rfl dX5_tellOf_140 ?_
      refine lv_iload_n hx hb dX5_tellOf_143 rfl (lv_at hl 1 rfl) ?_
      refine lv_iconst (v := 0) hx hb dX5_tellOf_144 (by decide) ?_
      refine h_callVi (T := TX3) (rest := []) (As := [.int u1, .int 0]) hx hb hml hown hts hK hT0 hZ (fun _ h => h) hS1 (c_X3_newAt l G Y P (o + 13) (on_ra hY) u1 0) trivial wd_X3_newAt wV_X3_newAt wL_X5_130 ((on_ra hY).o rfl) rfl rfl hl.1 rfl (Nat.le_of_ble_eq_true rfl) dX5_tellOf_145 ⟨Nat.le_of_ble_eq_true rfl, Nat.le_of_ble_eq_true rfl⟩ ⟨Nat.zero_le _, Nat.zero_le _⟩ (fun r15 H8 locs hp8 hT8 hS8 hk8 => ?_)
      obtain ⟨hp8, he⟩ := hp8
      have he := he.symm
      subst he
      exact hret _ _ _ _ _ hT0 hS8 ⟨trivial, rfl⟩ dX5_tellOf_148
    · subst c4
      refine lv_tableIn (tgt := 149) hx hb dX5_tellOf_14 (by decide) (by decide) rfl (by decide) ?_
      refine lv_aload_n hx hb dX5_tellOf_149 rfl (lv_at hl 0 rfl) ?_
      refine h_getr (C := RX5) (T := TX5) (N := 11) hx hb hts inX5 hown hK hT0 (on_rg hY) rfl 0 rfl wF_X5_12 rfl dX5_tellOf_150 ?_
      refine h_getr (C := RX7) (T := TX7) (N := 9) hx hb hts inX7 hown hK hT0 ((on_st hY).o rfl) rfl 2 rfl wF_X5_133 rfl dX5_tellOf_153 ?_
      refine lv_iload_n hx hb dX5_tellOf_156 rfl (lv_at hl 1 rfl) ?_
      refine h_iald hx hb hK hT0 ((on_st hY).at 3 rfl) (vp_in_iff.mpr (by (try simp only [Int32.lt_iff_toInt_lt, Int32.le_iff_toInt_le, ← Int32.toInt_inj, Int32.reduceToInt, (show (-1 : Int32).toInt = -1 from rfl)] at g3a g3b ⊢); omega)) dX5_tellOf_157 (fun p16 => ?_)
      refine lv_topi (fun x17 ex17 => ?_)
      exact hret _ _ _ _ _ hT0 hS1 ⟨trivial, rfl⟩ dX5_tellOf_158
    · subst c4
      refine lv_tableIn (tgt := 159) hx hb dX5_tellOf_14 (by decide) (by decide) rfl (by decide) ?_
      refine lv_aload_n hx hb dX5_tellOf_159 rfl (lv_at hl 0 rfl) ?_
      refine h_getr (C := RX5) (T := TX5) (N := 11) hx hb hts inX5 hown hK hT0 (on_rg hY) rfl 0 rfl wF_X5_12 rfl dX5_tellOf_160 ?_
      refine h_getr (C := RX7) (T := TX7) (N := 9) hx hb hts inX7 hown hK hT0 ((on_st hY).o rfl) rfl 3 rfl wF_X5_136 rfl dX5_tellOf_163 ?_
      refine lv_iload_n hx hb dX5_tellOf_166 rfl (lv_at hl 1 rfl) ?_
      refine h_iald hx hb hK hT0 ((on_st hY).at 4 rfl) (vp_in_iff.mpr (by (try simp only [Int32.lt_iff_toInt_lt, Int32.le_iff_toInt_le, ← Int32.toInt_inj, Int32.reduceToInt, (show (-1 : Int32).toInt = -1 from rfl)] at g3a g3b ⊢); omega)) dX5_tellOf_167 (fun p18 => ?_)
      refine lv_topi (fun x19 ex19 => ?_)
      exact hret _ _ _ _ _ hT0 hS1 ⟨trivial, rfl⟩ dX5_tellOf_168
    · subst c4
      refine lv_tableIn (tgt := 169) hx hb dX5_tellOf_14 (by decide) (by decide) rfl (by decide) ?_
      refine lv_aload_n hx hb dX5_tellOf_169 rfl (lv_at hl 0 rfl) ?_
      refine h_getr (C := RX5) (T := TX5) (N := 11) hx hb hts inX5 hown hK hT0 (on_rg hY) rfl 0 rfl wF_X5_12 rfl dX5_tellOf_170 ?_
      refine h_getr (C := RX7) (T := TX7) (N := 9) hx hb hts inX7 hown hK hT0 ((on_st hY).o rfl) rfl 4 rfl wF_X5_139 rfl dX5_tellOf_173 ?_
      refine lv_iload_n hx hb dX5_tellOf_176 rfl (lv_at hl 1 rfl) ?_
      refine h_iald hx hb hK hT0 ((on_st hY).at 5 rfl) (vp_in_iff.mpr (by (try simp only [Int32.lt_iff_toInt_lt, Int32.le_iff_toInt_le, ← Int32.toInt_inj, Int32.reduceToInt, (show (-1 : Int32).toInt = -1 from rfl)] at g3a g3b ⊢); omega)) dX5_tellOf_177 (fun p20 => ?_)
      refine lv_topi (fun x21 ex21 => ?_)
      exact hret _ _ _ _ _ hT0 hS1 ⟨trivial, rfl⟩ dX5_tellOf_178
  · skip
    refine lv_iconst (v := (-1)) hx hb dX5_tellOf_11 (by decide) ?_
    exact hret _ _ _ _ _ hT0 hS1 ⟨trivial, rfl⟩ dX5_tellOf_12
set_option maxHeartbeats 4000000 in
set_option maxRecDepth 100000 in
theorem c_X5_hasFrame (l : Launch) (G : hG) (Y : hW) (P : Int32 → Prop) (o : Nat) (hY : h_On Y o (ringE (tC P) o)) (u1 : Int32) : hMi l yX5_hasFrame cX5_hasFrame 2 (some .boolean) 2 45 G Y [.ref (o), .int u1] (fun H => True) (fun H r H1 => ((r = 0 ∨ r = 1) ∧ True) ∧ H1 = H) := by
  refine h_ofz (by decide +kernel) (Nat.le_of_ble_eq_true rfl) ?_
  intro p e s m args below meth c H0 ls Q hx hb hts hown hml hK hZ hT0 hpr hS0 hl hret
  have hl : lv_has ls 2 [(0, .ref (o)), (1, .int u1)] := hl
  refine lv_aload_n hx hb dX5_hasFrame_0 rfl (lv_at hl 0 rfl) ?_
  refine h_getr (C := RX5) (T := TX5) (N := 11) hx hb hts inX5 hown hK hT0 (on_rg hY) rfl 3 rfl wF_X5_35 rfl dX5_hasFrame_1 ?_
  refine h_geti (C := RX9) (T := TX9) (N := 11) hx hb hts inX9 hown hK hT0 ((on_wa hY).o rfl) rfl 0 rfl wF_X5_142 rfl dX5_hasFrame_4 (fun p1 => ?_)
  refine lv_topi (fun x2 ex2 => ?_)
  refine lv_iconst (v := 2) hx hb dX5_hasFrame_7 (by decide) ?_
  refine lv_icmp_ne (tgt := 22) hx hb dX5_hasFrame_8 (by decide) (fun c3 => ?_) (fun c3 => ?_)
  · skip
    refine lv_aload_n hx hb dX5_hasFrame_22 rfl (lv_at hl 0 rfl) ?_
    refine h_getr (C := RX5) (T := TX5) (N := 11) hx hb hts inX5 hown hK hT0 (on_rg hY) rfl 1 rfl wF_X5_21 rfl dX5_hasFrame_23 ?_
    refine lv_iload_n hx hb dX5_hasFrame_26 rfl (lv_at hl 1 rfl) ?_
    refine h_callVi (T := TX2) (rest := []) (As := [.int u1]) hx hb hml hown hts hK hT0 hZ (fun _ h => h) hS0 (c_X2_slotOf l G Y P (o + 7) (on_qu hY) u1) trivial wd_X2_slotOf wV_X2_slotOf wL_X5_148 ((on_qu hY).o rfl) rfl rfl hl.1 rfl (Nat.le_of_ble_eq_true rfl) dX5_hasFrame_27 ⟨Nat.le_of_ble_eq_true rfl, Nat.le_of_ble_eq_true rfl⟩ ⟨Nat.zero_le _, Nat.zero_le _⟩ (fun r4 H1 locs hp1 hT1 hS1 hk1 => ?_)
    obtain ⟨hp1, he⟩ := hp1
    have he := he.symm
    subst he
    refine lv_iconst (v := (-1)) hx hb dX5_hasFrame_30 (by decide) ?_
    refine lv_icmp_eq (tgt := 38) hx hb dX5_hasFrame_31 (by decide) (fun c5 => ?_) (fun c5 => ?_)
    · skip
      refine lv_iconst (v := 0) hx hb dX5_hasFrame_38 (by decide) ?_
      exact hret _ _ _ _ _ hT0 hS1 ⟨(by decide), ⟨(by decide), trivial⟩, rfl⟩ dX5_hasFrame_39
    · skip
      refine lv_iconst (v := 1) hx hb dX5_hasFrame_34 (by decide) ?_
      refine lv_goto (tgt := 39) hx hb dX5_hasFrame_35 (by decide) ?_
      exact hret _ _ _ _ _ hT0 hS1 ⟨(by decide), ⟨(by decide), trivial⟩, rfl⟩ dX5_hasFrame_39
  · skip
    refine lv_aload_n hx hb dX5_hasFrame_11 rfl (lv_at hl 0 rfl) ?_
    refine h_getr (C := RX5) (T := TX5) (N := 11) hx hb hts inX5 hown hK hT0 (on_rg hY) rfl 3 rfl wF_X5_35 rfl dX5_hasFrame_12 ?_
    refine h_geti (C := RX9) (T := TX9) (N := 11) hx hb hts inX9 hown hK hT0 ((on_wa hY).o rfl) rfl 9 rfl wF_X5_145 rfl dX5_hasFrame_15 (fun p6 => ?_)
    refine lv_topi (fun x7 ex7 => ?_)
    refine lv_iload_n hx hb dX5_hasFrame_18 rfl (lv_at hl 1 rfl) ?_
    refine lv_icmp_eq (tgt := 34) hx hb dX5_hasFrame_19 (by decide) (fun c8 => ?_) (fun c8 => ?_)
    · skip
      refine lv_iconst (v := 1) hx hb dX5_hasFrame_34 (by decide) ?_
      refine lv_goto (tgt := 39) hx hb dX5_hasFrame_35 (by decide) ?_
      exact hret _ _ _ _ _ hT0 hS0 ⟨(by decide), ⟨(by decide), trivial⟩, rfl⟩ dX5_hasFrame_39
    · skip
      refine lv_aload_n hx hb dX5_hasFrame_22 rfl (lv_at hl 0 rfl) ?_
      refine h_getr (C := RX5) (T := TX5) (N := 11) hx hb hts inX5 hown hK hT0 (on_rg hY) rfl 1 rfl wF_X5_21 rfl dX5_hasFrame_23 ?_
      refine lv_iload_n hx hb dX5_hasFrame_26 rfl (lv_at hl 1 rfl) ?_
      refine h_callVi (T := TX2) (rest := []) (As := [.int u1]) hx hb hml hown hts hK hT0 hZ (fun _ h => h) hS0 (c_X2_slotOf l G Y P (o + 7) (on_qu hY) u1) trivial wd_X2_slotOf wV_X2_slotOf wL_X5_148 ((on_qu hY).o rfl) rfl rfl hl.1 rfl (Nat.le_of_ble_eq_true rfl) dX5_hasFrame_27 ⟨Nat.le_of_ble_eq_true rfl, Nat.le_of_ble_eq_true rfl⟩ ⟨Nat.zero_le _, Nat.zero_le _⟩ (fun r9 H2 locs hp2 hT2 hS2 hk2 => ?_)
      obtain ⟨hp2, he⟩ := hp2
      have he := he.symm
      subst he
      refine lv_iconst (v := (-1)) hx hb dX5_hasFrame_30 (by decide) ?_
      refine lv_icmp_eq (tgt := 38) hx hb dX5_hasFrame_31 (by decide) (fun c10 => ?_) (fun c10 => ?_)
      · skip
        refine lv_iconst (v := 0) hx hb dX5_hasFrame_38 (by decide) ?_
        exact hret _ _ _ _ _ hT0 hS2 ⟨(by decide), ⟨(by decide), trivial⟩, rfl⟩ dX5_hasFrame_39
      · skip
        refine lv_iconst (v := 1) hx hb dX5_hasFrame_34 (by decide) ?_
        refine lv_goto (tgt := 39) hx hb dX5_hasFrame_35 (by decide) ?_
        exact hret _ _ _ _ _ hT0 hS2 ⟨(by decide), ⟨(by decide), trivial⟩, rfl⟩ dX5_hasFrame_39
set_option maxHeartbeats 4000000 in
set_option maxRecDepth 100000 in
theorem c_X5_isQuiet (l : Launch) (G : hG) (Y : hW) (P : Int32 → Prop) (o : Nat) (hY : h_On Y o (ringE (tC P) o)) : hMi l yX5_isQuiet cX5_isQuiet 2 (some .boolean) 1 21 G Y [.ref (o)] (fun H => True) (fun H r H1 => ((r = 0 ∨ r = 1) ∧ True) ∧ H1 = H) := by
  refine h_ofz (by decide +kernel) (Nat.le_of_ble_eq_true rfl) ?_
  intro p e s m args below meth c H0 ls Q hx hb hts hown hml hK hZ hT0 hpr hS0 hl hret
  have hl : lv_has ls 2 [(0, .ref (o))] := hl
  refine lv_aload_n hx hb dX5_isQuiet_0 rfl (lv_at hl 0 rfl) ?_
  refine h_getr (C := RX5) (T := TX5) (N := 11) hx hb hts inX5 hown hK hT0 (on_rg hY) rfl 3 rfl wF_X5_35 rfl dX5_isQuiet_1 ?_
  refine h_geti (C := RX9) (T := TX9) (N := 11) hx hb hts inX9 hown hK hT0 ((on_wa hY).o rfl) rfl 0 rfl wF_X5_142 rfl dX5_isQuiet_4 (fun p1 => ?_)
  refine lv_topi (fun x2 ex2 => ?_)
  refine lv_iconst (v := 2) hx hb dX5_isQuiet_7 (by decide) ?_
  refine lv_icmp_ne (tgt := 13) hx hb dX5_isQuiet_8 (by decide) (fun c3 => ?_) (fun c3 => ?_)
  · skip
    refine lv_iconst (v := 0) hx hb dX5_isQuiet_13 (by decide) ?_
    refine lv_istore_n (lv' := [(1, .int 0), (0, .ref (o))]) hx hb dX5_isQuiet_14 rfl hl (by decide) rfl (fun ls hl => ?_)
    have LP1 : ∀ (n1 : Nat) (w1_1 : Int32), 2147483647 - w1_1.toInt < (n1 : Int) → 0 ≤ w1_1.toInt → ∀ (locs : List Loc) (ls : Array Slot), va_S (h_A Y) s.heap H0 locs → lv_has ls 2 [(1, .int w1_1), (0, .ref (o))] → W p l e (h_rm 1 21) s m args below meth c H0 locs 0 0 Q (F0 m 15 ls []) := by
      intro n1
      induction n1 with
      | zero =>
        intro w1_1 hm
        exact absurd hm (by have := Int32.toInt_lt w1_1; have := Int32.le_toInt w1_1; omega)
      | succ n1 ih1 =>
        intro w1_1 hm1 hz1 locs ls hS1 hl
        refine lv_iload_n hx hb dX5_isQuiet_15 rfl (lv_at hl 0 rfl) ?_
        refine lv_aload_n hx hb dX5_isQuiet_16 rfl (lv_at hl 1 rfl) ?_
        refine h_getr (C := RX5) (T := TX5) (N := 11) hx hb hts inX5 hown hK hT0 (on_rg hY) rfl 0 rfl wF_X5_12 rfl dX5_isQuiet_17 ?_
        refine h_geti (C := RX7) (T := TX7) (N := 9) hx hb hts inX7 hown hK hT0 ((on_st hY).o rfl) rfl 5 rfl wF_X5_151 rfl dX5_isQuiet_20 (fun p4 => ?_)
        refine lv_topi (fun x5 ex5 => ?_)
        refine lv_icmp_ge (tgt := 56) hx hb dX5_isQuiet_23 (by decide) (fun c6 => ?_) (fun c6 => ?_)
        · skip
          refine lv_iconst (v := 1) hx hb dX5_isQuiet_56 (by decide) ?_
          exact hret _ _ _ _ _ hT0 hS1 ⟨(by decide), ⟨(by decide), trivial⟩, rfl⟩ dX5_isQuiet_57
        · skip
          refine lv_aload_n hx hb dX5_isQuiet_26 rfl (lv_at hl 1 rfl) ?_
          refine h_getr (C := RX5) (T := TX5) (N := 11) hx hb hts inX5 hown hK hT0 (on_rg hY) rfl 0 rfl wF_X5_12 rfl dX5_isQuiet_27 ?_
          refine lv_iload_n hx hb dX5_isQuiet_30 rfl (lv_at hl 0 rfl) ?_
          refine h_callVi (T := TX7) (rest := []) (As := [.int w1_1]) hx hb hml hown hts hK hT0 hZ (fun _ h => h) hS1 (c_X7_isOn l G Y P (o + 1) (on_st hY) w1_1) trivial wd_X7_isOn wV_X7_isOn wL_X5_110 ((on_st hY).o rfl) rfl rfl hl.1 rfl (Nat.le_of_ble_eq_true rfl) dX5_isQuiet_31 ⟨Nat.le_of_ble_eq_true rfl, Nat.le_of_ble_eq_true rfl⟩ ⟨Nat.zero_le _, Nat.zero_le _⟩ (fun r7 H2 locs hp2 hT2 hS2 hk2 => ?_)
          obtain ⟨hp2, he⟩ := hp2
          have he := he.symm
          subst he
          refine lv_if_eq (tgt := 50) hx hb dX5_isQuiet_34 (by decide) (fun c8 => ?_) (fun c8 => ?_)
          · skip
            obtain ⟨x9, ex9⟩ : ∃ y : Int32, y = w1_1 + 1 := ⟨_, rfl⟩
            refine lv_iinc (v := x9) (lv' := [(1, .int x9), (0, .ref (o))]) hx hb dX5_isQuiet_50 hl (k := 0) rfl (by rw [ex9]; rfl) (by decide) rfl (fun ls hl => ?_)
            refine lv_goto (tgt := 15) hx hb dX5_isQuiet_53 (by decide) ?_
            exact ih1 x9 (h_dn hm1 ex9 (by first | exact h_lu c6 | exact h_lu2 c6 | ((try simp only [Int32.lt_iff_toInt_lt, Int32.le_iff_toInt_le, ← Int32.toInt_inj, Int32.reduceToInt, (show (-1 : Int32).toInt = -1 from rfl)] at c6 ⊢); omega))) (h_nn hz1 ex9 (by first | exact h_lu c6 | exact h_lu2 c6 | ((try simp only [Int32.lt_iff_toInt_lt, Int32.le_iff_toInt_le, ← Int32.toInt_inj, Int32.reduceToInt, (show (-1 : Int32).toInt = -1 from rfl)] at c6 ⊢); omega))) _ _ hS2 (lv_sub hl [0, 1] rfl)
          · skip
            obtain ⟨g10a, g10b⟩ := hp2.2 c8
            refine lv_aload_n hx hb dX5_isQuiet_37 rfl (lv_at hl 1 rfl) ?_
            refine h_getr (C := RX5) (T := TX5) (N := 11) hx hb hts inX5 hown hK hT0 (on_rg hY) rfl 1 rfl wF_X5_21 rfl dX5_isQuiet_38 ?_
            refine lv_iload_n hx hb dX5_isQuiet_41 rfl (lv_at hl 0 rfl) ?_
            refine h_callVi (T := TX2) (rest := []) (As := [.int w1_1]) hx hb hml hown hts hK hT0 hZ (fun _ h => h) hS2 (c_X2_sizeOf l G Y P (o + 7) (on_qu hY) w1_1) trivial wd_X2_sizeOf wV_X2_sizeOf wL_X5_113 ((on_qu hY).o rfl) rfl rfl hl.1 rfl (Nat.le_of_ble_eq_true rfl) dX5_isQuiet_42 ⟨Nat.le_of_ble_eq_true rfl, Nat.le_of_ble_eq_true rfl⟩ ⟨Nat.zero_le _, Nat.zero_le _⟩ (fun r11 H3 locs hp3 hT3 hS3 hk3 => ?_)
            obtain ⟨hp3, he⟩ := hp3
            have he := he.symm
            subst he
            refine lv_if_le (tgt := 50) hx hb dX5_isQuiet_45 (by decide) (fun c12 => ?_) (fun c12 => ?_)
            · skip
              obtain ⟨x13, ex13⟩ : ∃ y : Int32, y = w1_1 + 1 := ⟨_, rfl⟩
              refine lv_iinc (v := x13) (lv' := [(1, .int x13), (0, .ref (o))]) hx hb dX5_isQuiet_50 hl (k := 0) rfl (by rw [ex13]; rfl) (by decide) rfl (fun ls hl => ?_)
              refine lv_goto (tgt := 15) hx hb dX5_isQuiet_53 (by decide) ?_
              exact ih1 x13 (h_dn hm1 ex13 (by first | exact h_lu g10b | exact h_lu2 g10b | ((try simp only [Int32.lt_iff_toInt_lt, Int32.le_iff_toInt_le, ← Int32.toInt_inj, Int32.reduceToInt, (show (-1 : Int32).toInt = -1 from rfl)] at g10b ⊢); omega))) (h_nn hz1 ex13 (by first | exact h_lu g10b | exact h_lu2 g10b | ((try simp only [Int32.lt_iff_toInt_lt, Int32.le_iff_toInt_le, ← Int32.toInt_inj, Int32.reduceToInt, (show (-1 : Int32).toInt = -1 from rfl)] at g10b ⊢); omega))) _ _ hS3 (lv_sub hl [0, 1] rfl)
            · skip
              refine lv_iconst (v := 0) hx hb dX5_isQuiet_48 (by decide) ?_
              exact hret _ _ _ _ _ hT0 hS3 ⟨(by decide), ⟨(by decide), trivial⟩, rfl⟩ dX5_isQuiet_49
    exact LP1 4294967296 0 (h_m0 _) (by decide) _ _ hS0 (lv_sub hl [0, 1] rfl)
  · skip
    refine lv_iconst (v := 0) hx hb dX5_isQuiet_11 (by decide) ?_
    exact hret _ _ _ _ _ hT0 hS0 ⟨(by decide), ⟨(by decide), trivial⟩, rfl⟩ dX5_isQuiet_12
set_option maxHeartbeats 4000000 in
set_option maxRecDepth 100000 in
theorem c_X5_newFrame (l : Launch) (G : hG) (Y : hW) (P : Int32 → Prop) (o : Nat) (hY : h_On Y o (ringE (tC P) o)) (u1 u2 u3 : Int32) : hMi l yX5_newFrame cX5_newFrame 5 (some .int) 3 68 G Y [.ref (o), .int u1, .int u2, .int u3] (fun H => True) (fun H r H1 => True) := by
  refine h_ofi (by decide +kernel) (Nat.le_of_ble_eq_true rfl) ?_
  intro p e s m args below meth c H0 ls Q hx hb hts hown hml hK hZ hT0 hpr hS0 hl hret
  have hl : lv_has ls 5 [(0, .ref (o)), (1, .int u1), (2, .int u2), (3, .int u3)] := hl
  refine lv_aload_n hx hb dX5_newFrame_0 rfl (lv_at hl 0 rfl) ?_
  refine h_geti (C := RX5) (T := TX5) (N := 11) hx hb hts inX5 hown hK hT0 (on_rg hY) rfl 7 rfl wF_X5_57 rfl dX5_newFrame_1 (fun p1 => ?_)
  refine lv_topi (fun x2 ex2 => ?_)
  refine lv_istore (lv' := [(4, .int x2), (0, .ref (o)), (1, .int u1), (2, .int u2), (3, .int u3)]) hx hb dX5_newFrame_4 hl (by decide) rfl (fun ls hl => ?_)
  refine lv_aload_n hx hb dX5_newFrame_6 rfl (lv_at hl 1 rfl) ?_
  refine h_getr (C := RX5) (T := TX5) (N := 11) hx hb hts inX5 hown hK hT0 (on_rg hY) rfl 1 rfl wF_X5_21 rfl dX5_newFrame_7 ?_
  refine lv_iload_n hx hb dX5_newFrame_10 rfl (lv_at hl 2 rfl) ?_
  refine lv_iload hx hb dX5_newFrame_11 (lv_at hl 0 rfl) ?_
  refine lv_iload_n hx hb dX5_newFrame_13 rfl (lv_at hl 3 rfl) ?_
  refine lv_iload_n hx hb dX5_newFrame_14 rfl (lv_at hl 4 rfl) ?_
  refine lv_aload_n hx hb dX5_newFrame_15 rfl (lv_at hl 1 rfl) ?_
  refine h_geti (C := RX5) (T := TX5) (N := 11) hx hb hts inX5 hown hK hT0 (on_rg hY) rfl 6 rfl wF_X5_53 rfl dX5_newFrame_16 (fun p3 => ?_)
  refine lv_topi (fun x4 ex4 => ?_)
  refine h_callVv (T := TX2) (rest := []) (As := [.int u1, .int x2, .int u2, .int u3, .int x4]) hx hb hml hown hts hK hT0 hZ (fun _ h => h) hS0 (c_X2_append l G Y P (o + 7) (on_qu hY) u1 x2 u2 u3 x4) trivial wd_X2_append wV_X2_append wL_X5_154 ((on_qu hY).o rfl) rfl rfl hl.1 rfl (Nat.le_of_ble_eq_true rfl) dX5_newFrame_19 ⟨Nat.le_of_ble_eq_true rfl, Nat.le_of_ble_eq_true rfl⟩ ⟨Nat.zero_le _, Nat.zero_le _⟩ (fun H1 locs hp1 hT1 hS1 hk1 => ?_)
  refine lv_aload_n hx hb dX5_newFrame_22 rfl (lv_at hl 1 rfl) ?_
  refine lv_dup hx hb dX5_newFrame_23 rfl ?_
  refine h_geti (C := RX5) (T := TX5) (N := 11) hx hb hts inX5 hown hK hT1 (on_rg hY) rfl 7 rfl wF_X5_57 rfl dX5_newFrame_24 (fun p5 => ?_)
  refine lv_topi (fun x6 ex6 => ?_)
  refine lv_iconst (v := 1) hx hb dX5_newFrame_27 (by decide) ?_
  refine lv_iadd hx hb dX5_newFrame_28 ?_
  refine lv_topi (fun x7 ex7 => ?_)
  refine h_puti (C := RX5) (T := TX5) (N := 11) hx hb hts inX5 tyX5 tyX5_ok nmX5 hown hK hT1 (fun _ h => h) hS1 (on_rg hY) rfl 7 rfl wF_X5_57 rfl rfl trivial rfl rfl dX5_newFrame_29 (fun H2 locs hT2 hS2 hu2 => ?_)
  refine lv_iload hx hb dX5_newFrame_32 (lv_at hl 0 rfl) ?_
  exact hret _ _ _ _ _ hT2 hS2 trivial dX5_newFrame_34
set_option maxHeartbeats 4000000 in
set_option maxRecDepth 100000 in
theorem c_X5_switchOff (l : Launch) (G : hG) (Y : hW) (P : Int32 → Prop) (o : Nat) (hY : h_On Y o (ringE (tC P) o)) (u1 : Int32) : hMv l yX5_switchOff cX5_switchOff 2 none 2 42 G Y [.ref (o), .int u1] (fun H => True) (fun H H1 => True) := by
  refine h_ofv (by decide +kernel) (Nat.le_of_ble_eq_true rfl) ?_
  intro p e s m args below meth c H0 ls Q hx hb hts hown hml hK hZ hT0 hpr hS0 hl hret
  have hl : lv_has ls 2 [(0, .ref (o)), (1, .int u1)] := hl
  refine lv_aload_n hx hb dX5_switchOff_0 rfl (lv_at hl 0 rfl) ?_
  refine h_getr (C := RX5) (T := TX5) (N := 11) hx hb hts inX5 hown hK hT0 (on_rg hY) rfl 0 rfl wF_X5_12 rfl dX5_switchOff_1 ?_
  refine lv_iload_n hx hb dX5_switchOff_4 rfl (lv_at hl 1 rfl) ?_
  refine h_callVv (T := TX7) (rest := []) (As := [.int u1]) hx hb hml hown hts hK hT0 hZ (fun _ h => h) hS0 (c_X7_switchOff l G Y P (o + 1) (on_st hY) u1) trivial wd_X7_switchOff wV_X7_switchOff wL_X5_158 ((on_st hY).o rfl) rfl rfl hl.1 rfl (Nat.le_of_ble_eq_true rfl) dX5_switchOff_5 ⟨Nat.le_of_ble_eq_true rfl, Nat.le_of_ble_eq_true rfl⟩ ⟨Nat.zero_le _, Nat.zero_le _⟩ (fun H1 locs hp1 hT1 hS1 hk1 => ?_)
  refine lv_aload_n hx hb dX5_switchOff_8 rfl (lv_at hl 0 rfl) ?_
  refine h_getr (C := RX5) (T := TX5) (N := 11) hx hb hts inX5 hown hK hT1 (on_rg hY) rfl 2 rfl wF_X5_28 rfl dX5_switchOff_9 ?_
  refine lv_iload_n hx hb dX5_switchOff_12 rfl (lv_at hl 1 rfl) ?_
  refine h_callVv (T := TX3) (rest := []) (As := [.int u1]) hx hb hml hown hts hK hT1 hZ (fun _ h => h) hS1 (c_X3_clearOf l G Y P (o + 13) (on_ra hY) u1) trivial wd_X3_clearOf wV_X3_clearOf wL_X5_162 ((on_ra hY).o rfl) rfl rfl hl.1 rfl (Nat.le_of_ble_eq_true rfl) dX5_switchOff_13 ⟨Nat.le_of_ble_eq_true rfl, Nat.le_of_ble_eq_true rfl⟩ ⟨Nat.zero_le _, Nat.zero_le _⟩ (fun H2 locs hp2 hT2 hS2 hk2 => ?_)
  exact hret _ _ _ _ hT2 hS2 trivial dX5_switchOff_16
set_option maxHeartbeats 4000000 in
set_option maxRecDepth 100000 in
theorem c_X5_startSilence (l : Launch) (G : hG) (Y : hW) (P : Int32 → Prop) (o : Nat) (hY : h_On Y o (ringE (tC P) o)) : hMv l yX5_startSilence cX5_startSilence 1 none 1 20 G Y [.ref (o)] (fun H => True) (fun H H1 => True) := by
  refine h_ofv (by decide +kernel) (Nat.le_of_ble_eq_true rfl) ?_
  intro p e s m args below meth c H0 ls Q hx hb hts hown hml hK hZ hT0 hpr hS0 hl hret
  have hl : lv_has ls 1 [(0, .ref (o))] := hl
  refine lv_aload_n hx hb dX5_startSilence_0 rfl (lv_at hl 0 rfl) ?_
  refine h_getr (C := RX5) (T := TX5) (N := 11) hx hb hts inX5 hown hK hT0 (on_rg hY) rfl 3 rfl wF_X5_35 rfl dX5_startSilence_1 ?_
  refine h_geti (C := RX9) (T := TX9) (N := 11) hx hb hts inX9 hown hK hT0 ((on_wa hY).o rfl) rfl 0 rfl wF_X5_142 rfl dX5_startSilence_4 (fun p1 => ?_)
  refine lv_topi (fun x2 ex2 => ?_)
  refine lv_if_ne (tgt := 17) hx hb dX5_startSilence_7 (by decide) (fun c3 => ?_) (fun c3 => ?_)
  · skip
    exact hret _ _ _ _ hT0 hS0 trivial dX5_startSilence_17
  · skip
    refine lv_aload_n hx hb dX5_startSilence_10 rfl (lv_at hl 0 rfl) ?_
    refine h_getr (C := RX5) (T := TX5) (N := 11) hx hb hts inX5 hown hK hT0 (on_rg hY) rfl 4 rfl wF_X5_42 rfl dX5_startSilence_11 ?_
    refine h_callVv (T := TX6) (rest := []) (As := []) hx hb hml hown hts hK hT0 hZ (fun _ h => h) hS0 (c_X6_restart l G Y P (o + 18) (on_si hY)) trivial wd_X6_restart wV_X6_restart wL_X5_76 ((on_si hY).o rfl) rfl rfl hl.1 rfl (Nat.le_of_ble_eq_true rfl) dX5_startSilence_14 ⟨Nat.le_of_ble_eq_true rfl, Nat.le_of_ble_eq_true rfl⟩ ⟨Nat.zero_le _, Nat.zero_le _⟩ (fun H1 locs hp1 hT1 hS1 hk1 => ?_)
    exact hret _ _ _ _ hT1 hS1 trivial dX5_startSilence_17
set_option maxHeartbeats 4000000 in
set_option maxRecDepth 100000 in
theorem c_X5_drawn (l : Launch) (G : hG) (Y : hW) (P : Int32 → Prop) (o : Nat) (hY : h_On Y o (ringE (tC P) o)) (u1 u2 : Int32) : hMi l yX5_drawn cX5_drawn 3 (some .int) 0 0 G Y [.ref (o), .int u1, .int u2] (fun H => True) (fun H r H1 => (True) ∧ H1 = H) := by
  refine h_ofi (by decide +kernel) (Nat.le_of_ble_eq_true rfl) ?_
  intro p e s m args below meth c H0 ls Q hx hb hts hown hml hK hZ hT0 hpr hS0 hl hret
  have hl : lv_has ls 3 [(0, .ref (o)), (1, .int u1), (2, .int u2)] := hl
  refine lv_iload_n hx hb dX5_drawn_0 rfl (lv_at hl 1 rfl) ?_
  refine lv_iload_n hx hb dX5_drawn_1 rfl (lv_at hl 2 rfl) ?_
  refine lv_imul hx hb dX5_drawn_2 ?_
  refine lv_topi (fun x1 ex1 => ?_)
  refine lv_ldc (v := 139968) hx hb hown (hts _ wC_X5_165) dX5_drawn_3 ?_
  refine lv_idiv hx hb dX5_drawn_5 (by decide) ?_
  refine lv_topi (fun x2 ex2 => ?_)
  exact hret _ _ _ _ _ hT0 hS0 ⟨trivial, rfl⟩ dX5_drawn_6
set_option maxHeartbeats 4000000 in
set_option maxRecDepth 100000 in
theorem c_X5_nextDraw (l : Launch) (G : hG) (Y : hW) (P : Int32 → Prop) (o : Nat) (hY : h_On Y o (ringE (tC P) o)) (u1 : Int32) : hMi l yX5_nextDraw cX5_nextDraw 2 (some .int) 0 0 G Y [.ref (o), .int u1] (fun H => True) (fun H r H1 => (True) ∧ H1 = H) := by
  refine h_ofi (by decide +kernel) (Nat.le_of_ble_eq_true rfl) ?_
  intro p e s m args below meth c H0 ls Q hx hb hts hown hml hK hZ hT0 hpr hS0 hl hret
  have hl : lv_has ls 2 [(0, .ref (o)), (1, .int u1)] := hl
  refine lv_iload_n hx hb dX5_nextDraw_0 rfl (lv_at hl 1 rfl) ?_
  refine lv_sipush (v := 3877) hx hb dX5_nextDraw_1 (by decide) ?_
  refine lv_imul hx hb dX5_nextDraw_4 ?_
  refine lv_topi (fun x1 ex1 => ?_)
  refine lv_sipush (v := 29573) hx hb dX5_nextDraw_5 (by decide) ?_
  refine lv_iadd hx hb dX5_nextDraw_8 ?_
  refine lv_topi (fun x2 ex2 => ?_)
  refine lv_ldc (v := 139968) hx hb hown (hts _ wC_X5_165) dX5_nextDraw_9 ?_
  refine lv_irem hx hb dX5_nextDraw_11 (by decide) ?_
  refine lv_topi (fun x3 ex3 => ?_)
  exact hret _ _ _ _ _ hT0 hS0 ⟨trivial, rfl⟩ dX5_nextDraw_12
set_option maxHeartbeats 4000000 in
set_option maxRecDepth 100000 in
theorem c_X5_drawFrame (l : Launch) (G : hG) (Y : hW) (P : Int32 → Prop) (o : Nat) (hY : h_On Y o (ringE (tC P) o)) (u1 u2 : Int32) : hMi l yX5_drawFrame cX5_drawFrame 7 (some .int) 4 92 G Y [.ref (o), .int u1, .int u2] (fun H => True) (fun H r H1 => True) := by
  refine h_ofi (by decide +kernel) (Nat.le_of_ble_eq_true rfl) ?_
  intro p e s m args below meth c H0 ls Q hx hb hts hown hml hK hZ hT0 hpr hS0 hl hret
  have hl : lv_has ls 7 [(0, .ref (o)), (1, .int u1), (2, .int u2)] := hl
  refine lv_aload_n hx hb dX5_drawFrame_0 rfl (lv_at hl 0 rfl) ?_
  refine lv_iload_n hx hb dX5_drawFrame_1 rfl (lv_at hl 1 rfl) ?_
  refine h_callVi (T := TX5) (rest := []) (As := [.int u1]) hx hb hml hown hts hK hT0 hZ (fun _ h => h) hS0 (c_X5_nextDraw l G Y P (o) hY u1) trivial wd_X5_nextDraw wV_X5_nextDraw wL_X5_166 (on_rg hY) rfl rfl hl.1 rfl (Nat.le_of_ble_eq_true rfl) dX5_drawFrame_2 ⟨Nat.le_of_ble_eq_true rfl, Nat.le_of_ble_eq_true rfl⟩ ⟨Nat.zero_le _, Nat.zero_le _⟩ (fun r1 H1 locs hp1 hT1 hS1 hk1 => ?_)
  obtain ⟨hp1, he⟩ := hp1
  have he := he.symm
  subst he
  refine lv_istore_n (lv' := [(3, .int r1), (0, .ref (o)), (1, .int u1), (2, .int u2)]) hx hb dX5_drawFrame_5 rfl hl (by decide) rfl (fun ls hl => ?_)
  refine lv_aload_n hx hb dX5_drawFrame_6 rfl (lv_at hl 1 rfl) ?_
  refine lv_iload_n hx hb dX5_drawFrame_7 rfl (lv_at hl 0 rfl) ?_
  refine lv_bipush (v := 16) hx hb dX5_drawFrame_8 (by decide) ?_
  refine h_callVi (T := TX5) (rest := []) (As := [.int r1, .int 16]) hx hb hml hown hts hK hT0 hZ (fun _ h => h) hS1 (c_X5_drawn l G Y P (o) hY r1 16) trivial wd_X5_drawn wV_X5_drawn wL_X5_169 (on_rg hY) rfl rfl hl.1 rfl (Nat.le_of_ble_eq_true rfl) dX5_drawFrame_10 ⟨Nat.le_of_ble_eq_true rfl, Nat.le_of_ble_eq_true rfl⟩ ⟨Nat.zero_le _, Nat.zero_le _⟩ (fun r2 H2 locs hp2 hT2 hS2 hk2 => ?_)
  obtain ⟨hp2, he⟩ := hp2
  have he := he.symm
  subst he
  refine lv_iload_n hx hb dX5_drawFrame_13 rfl (lv_at hl 3 rfl) ?_
  refine lv_icmp_ge (tgt := 27) hx hb dX5_drawFrame_14 (by decide) (fun c3 => ?_) (fun c3 => ?_)
  · skip
    refine lv_iload_n hx hb dX5_drawFrame_27 rfl (lv_at hl 0 rfl) ?_
    exact hret _ _ _ _ _ hT0 hS2 trivial dX5_drawFrame_28
  · skip
    refine lv_aload_n hx hb dX5_drawFrame_17 rfl (lv_at hl 1 rfl) ?_
    refine h_getr (C := RX5) (T := TX5) (N := 11) hx hb hts inX5 hown hK hT0 (on_rg hY) rfl 0 rfl wF_X5_12 rfl dX5_drawFrame_18 ?_
    refine h_geti (C := RX7) (T := TX7) (N := 9) hx hb hts inX7 hown hK hT0 ((on_st hY).o rfl) rfl 5 rfl wF_X5_151 rfl dX5_drawFrame_21 (fun p4 => ?_)
    refine lv_topi (fun x5 ex5 => ?_)
    refine lv_if_ne (tgt := 29) hx hb dX5_drawFrame_24 (by decide) (fun c6 => ?_) (fun c6 => ?_)
    · skip
      refine lv_aload_n hx hb dX5_drawFrame_29 rfl (lv_at hl 1 rfl) ?_
      refine lv_iload_n hx hb dX5_drawFrame_30 rfl (lv_at hl 0 rfl) ?_
      refine h_callVi (T := TX5) (rest := []) (As := [.int r1]) hx hb hml hown hts hK hT0 hZ (fun _ h => h) hS2 (c_X5_nextDraw l G Y P (o) hY r1) trivial wd_X5_nextDraw wV_X5_nextDraw wL_X5_166 (on_rg hY) rfl rfl hl.1 rfl (Nat.le_of_ble_eq_true rfl) dX5_drawFrame_31 ⟨Nat.le_of_ble_eq_true rfl, Nat.le_of_ble_eq_true rfl⟩ ⟨Nat.zero_le _, Nat.zero_le _⟩ (fun r7 H3 locs hp3 hT3 hS3 hk3 => ?_)
      obtain ⟨hp3, he⟩ := hp3
      have he := he.symm
      subst he
      refine lv_istore_n (lv' := [(3, .int r7), (0, .ref (o)), (1, .int u1), (2, .int u2)]) hx hb dX5_drawFrame_34 rfl hl (by decide) rfl (fun ls hl => ?_)
      refine lv_aload_n hx hb dX5_drawFrame_35 rfl (lv_at hl 1 rfl) ?_
      refine lv_iload_n hx hb dX5_drawFrame_36 rfl (lv_at hl 0 rfl) ?_
      refine lv_aload_n hx hb dX5_drawFrame_37 rfl (lv_at hl 1 rfl) ?_
      refine h_getr (C := RX5) (T := TX5) (N := 11) hx hb hts inX5 hown hK hT0 (on_rg hY) rfl 0 rfl wF_X5_12 rfl dX5_drawFrame_38 ?_
      refine h_geti (C := RX7) (T := TX7) (N := 9) hx hb hts inX7 hown hK hT0 ((on_st hY).o rfl) rfl 5 rfl wF_X5_151 rfl dX5_drawFrame_41 (fun p8 => ?_)
      refine h_top (v := x5) ex5.symm ?_
      refine h_callVi (T := TX5) (rest := []) (As := [.int r7, .int x5]) hx hb hml hown hts hK hT0 hZ (fun _ h => h) hS3 (c_X5_drawn l G Y P (o) hY r7 x5) trivial wd_X5_drawn wV_X5_drawn wL_X5_169 (on_rg hY) rfl rfl hl.1 rfl (Nat.le_of_ble_eq_true rfl) dX5_drawFrame_44 ⟨Nat.le_of_ble_eq_true rfl, Nat.le_of_ble_eq_true rfl⟩ ⟨Nat.zero_le _, Nat.zero_le _⟩ (fun r9 H4 locs hp4 hT4 hS4 hk4 => ?_)
      obtain ⟨hp4, he⟩ := hp4
      have he := he.symm
      subst he
      refine lv_istore (lv' := [(4, .int r9), (3, .int r7), (0, .ref (o)), (1, .int u1), (2, .int u2)]) hx hb dX5_drawFrame_47 hl (by decide) rfl (fun ls hl => ?_)
      refine lv_aload_n hx hb dX5_drawFrame_49 rfl (lv_at hl 2 rfl) ?_
      refine lv_iload_n hx hb dX5_drawFrame_50 rfl (lv_at hl 1 rfl) ?_
      refine h_callVi (T := TX5) (rest := []) (As := [.int r7]) hx hb hml hown hts hK hT0 hZ (fun _ h => h) hS4 (c_X5_nextDraw l G Y P (o) hY r7) trivial wd_X5_nextDraw wV_X5_nextDraw wL_X5_166 (on_rg hY) rfl rfl hl.1 rfl (Nat.le_of_ble_eq_true rfl) dX5_drawFrame_51 ⟨Nat.le_of_ble_eq_true rfl, Nat.le_of_ble_eq_true rfl⟩ ⟨Nat.zero_le _, Nat.zero_le _⟩ (fun r10 H5 locs hp5 hT5 hS5 hk5 => ?_)
      obtain ⟨hp5, he⟩ := hp5
      have he := he.symm
      subst he
      refine lv_istore_n (lv' := [(3, .int r10), (4, .int r9), (0, .ref (o)), (1, .int u1), (2, .int u2)]) hx hb dX5_drawFrame_54 rfl hl (by decide) rfl (fun ls hl => ?_)
      refine lv_aload_n hx hb dX5_drawFrame_55 rfl (lv_at hl 2 rfl) ?_
      refine lv_iload_n hx hb dX5_drawFrame_56 rfl (lv_at hl 0 rfl) ?_
      refine lv_aload_n hx hb dX5_drawFrame_57 rfl (lv_at hl 2 rfl) ?_
      refine h_getr (C := RX5) (T := TX5) (N := 11) hx hb hts inX5 hown hK hT0 (on_rg hY) rfl 0 rfl wF_X5_12 rfl dX5_drawFrame_58 ?_
      refine h_geti (C := RX7) (T := TX7) (N := 9) hx hb hts inX7 hown hK hT0 ((on_st hY).o rfl) rfl 5 rfl wF_X5_151 rfl dX5_drawFrame_61 (fun p11 => ?_)
      refine h_top (v := x5) ex5.symm ?_
      refine h_callVi (T := TX5) (rest := []) (As := [.int r10, .int x5]) hx hb hml hown hts hK hT0 hZ (fun _ h => h) hS5 (c_X5_drawn l G Y P (o) hY r10 x5) trivial wd_X5_drawn wV_X5_drawn wL_X5_169 (on_rg hY) rfl rfl hl.1 rfl (Nat.le_of_ble_eq_true rfl) dX5_drawFrame_64 ⟨Nat.le_of_ble_eq_true rfl, Nat.le_of_ble_eq_true rfl⟩ ⟨Nat.zero_le _, Nat.zero_le _⟩ (fun r12 H6 locs hp6 hT6 hS6 hk6 => ?_)
      obtain ⟨hp6, he⟩ := hp6
      have he := he.symm
      subst he
      refine lv_istore (lv' := [(5, .int r12), (3, .int r10), (4, .int r9), (0, .ref (o)), (1, .int u1), (2, .int u2)]) hx hb dX5_drawFrame_67 hl (by decide) rfl (fun ls hl => ?_)
      refine lv_aload_n hx hb dX5_drawFrame_69 rfl (lv_at hl 3 rfl) ?_
      refine lv_iload_n hx hb dX5_drawFrame_70 rfl (lv_at hl 1 rfl) ?_
      refine h_callVi (T := TX5) (rest := []) (As := [.int r10]) hx hb hml hown hts hK hT0 hZ (fun _ h => h) hS6 (c_X5_nextDraw l G Y P (o) hY r10) trivial wd_X5_nextDraw wV_X5_nextDraw wL_X5_166 (on_rg hY) rfl rfl hl.1 rfl (Nat.le_of_ble_eq_true rfl) dX5_drawFrame_71 ⟨Nat.le_of_ble_eq_true rfl, Nat.le_of_ble_eq_true rfl⟩ ⟨Nat.zero_le _, Nat.zero_le _⟩ (fun r13 H7 locs hp7 hT7 hS7 hk7 => ?_)
      obtain ⟨hp7, he⟩ := hp7
      have he := he.symm
      subst he
      refine lv_istore_n (lv' := [(3, .int r13), (5, .int r12), (4, .int r9), (0, .ref (o)), (1, .int u1), (2, .int u2)]) hx hb dX5_drawFrame_74 rfl hl (by decide) rfl (fun ls hl => ?_)
      refine lv_aload_n hx hb dX5_drawFrame_75 rfl (lv_at hl 3 rfl) ?_
      refine lv_iload_n hx hb dX5_drawFrame_76 rfl (lv_at hl 0 rfl) ?_
      refine lv_bipush (v := 8) hx hb dX5_drawFrame_77 (by decide) ?_
      refine h_callVi (T := TX5) (rest := []) (As := [.int r13, .int 8]) hx hb hml hown hts hK hT0 hZ (fun _ h => h) hS7 (c_X5_drawn l G Y P (o) hY r13 8) trivial wd_X5_drawn wV_X5_drawn wL_X5_169 (on_rg hY) rfl rfl hl.1 rfl (Nat.le_of_ble_eq_true rfl) dX5_drawFrame_79 ⟨Nat.le_of_ble_eq_true rfl, Nat.le_of_ble_eq_true rfl⟩ ⟨Nat.zero_le _, Nat.zero_le _⟩ (fun r14 H8 locs hp8 hT8 hS8 hk8 => ?_)
      obtain ⟨hp8, he⟩ := hp8
      have he := he.symm
      subst he
      refine lv_istore (lv' := [(6, .int r14), (3, .int r13), (5, .int r12), (4, .int r9), (0, .ref (o)), (1, .int u1), (2, .int u2)]) hx hb dX5_drawFrame_82 hl (by decide) rfl (fun ls hl => ?_)
      refine lv_aload_n hx hb dX5_drawFrame_84 rfl (lv_at hl 4 rfl) ?_
      refine h_getr (C := RX5) (T := TX5) (N := 11) hx hb hts inX5 hown hK hT0 (on_rg hY) rfl 0 rfl wF_X5_12 rfl dX5_drawFrame_85 ?_
      refine lv_iload hx hb dX5_drawFrame_88 (lv_at hl 3 rfl) ?_
      refine h_callVi (T := TX7) (rest := []) (As := [.int r9]) hx hb hml hown hts hK hT0 hZ (fun _ h => h) hS8 (c_X7_isOn l G Y P (o + 1) (on_st hY) r9) trivial wd_X7_isOn wV_X7_isOn wL_X5_110 ((on_st hY).o rfl) rfl rfl hl.1 rfl (Nat.le_of_ble_eq_true rfl) dX5_drawFrame_90 ⟨Nat.le_of_ble_eq_true rfl, Nat.le_of_ble_eq_true rfl⟩ ⟨Nat.zero_le _, Nat.zero_le _⟩ (fun r15 H9 locs hp9 hT9 hS9 hk9 => ?_)
      obtain ⟨hp9, he⟩ := hp9
      have he := he.symm
      subst he
      refine lv_if_eq (tgt := 129) hx hb dX5_drawFrame_93 (by decide) (fun c16 => ?_) (fun c16 => ?_)
      · skip
        refine lv_aload_n hx hb dX5_drawFrame_129 rfl (lv_at hl 4 rfl) ?_
        refine h_getr (C := RX5) (T := TX5) (N := 11) hx hb hts inX5 hown hK hT0 (on_rg hY) rfl 5 rfl wF_X5_49 rfl dX5_drawFrame_130 ?_
        refine h_callVv (T := TX0) (rest := []) (As := []) hx hb hml hown hts hK hT0 hZ (fun _ h => h) hS9 (c_X0_countRefused l G Y P (o + 19) (on_bo hY)) trivial wd_X0_countRefused wV_X0_countRefused wL_X5_179 ((on_bo hY).o rfl) rfl rfl hl.1 rfl (Nat.le_of_ble_eq_true rfl) dX5_drawFrame_133 ⟨Nat.le_of_ble_eq_true rfl, Nat.le_of_ble_eq_true rfl⟩ ⟨Nat.zero_le _, Nat.zero_le _⟩ (fun H10 locs hp10 hT10 hS10 hk10 => ?_)
        refine lv_iload_n hx hb dX5_drawFrame_136 rfl (lv_at hl 1 rfl) ?_
        exact hret _ _ _ _ _ hT10 hS10 trivial dX5_drawFrame_137
      · skip
        obtain ⟨g17a, g17b⟩ := hp9.2 c16
        refine lv_iload hx hb dX5_drawFrame_96 (lv_at hl 3 rfl) ?_
        refine lv_iload hx hb dX5_drawFrame_98 (lv_at hl 2 rfl) ?_
        refine lv_icmp_eq (tgt := 129) hx hb dX5_drawFrame_100 (by decide) (fun c18 => ?_) (fun c18 => ?_)
        · skip
          refine lv_aload_n hx hb dX5_drawFrame_129 rfl (lv_at hl 4 rfl) ?_
          refine h_getr (C := RX5) (T := TX5) (N := 11) hx hb hts inX5 hown hK hT0 (on_rg hY) rfl 5 rfl wF_X5_49 rfl dX5_drawFrame_130 ?_
          refine h_callVv (T := TX0) (rest := []) (As := []) hx hb hml hown hts hK hT0 hZ (fun _ h => h) hS9 (c_X0_countRefused l G Y P (o + 19) (on_bo hY)) trivial wd_X0_countRefused wV_X0_countRefused wL_X5_179 ((on_bo hY).o rfl) rfl rfl hl.1 rfl (Nat.le_of_ble_eq_true rfl) dX5_drawFrame_133 ⟨Nat.le_of_ble_eq_true rfl, Nat.le_of_ble_eq_true rfl⟩ ⟨Nat.zero_le _, Nat.zero_le _⟩ (fun H11 locs hp11 hT11 hS11 hk11 => ?_)
          refine lv_iload_n hx hb dX5_drawFrame_136 rfl (lv_at hl 1 rfl) ?_
          exact hret _ _ _ _ _ hT11 hS11 trivial dX5_drawFrame_137
        · skip
          refine lv_aload_n hx hb dX5_drawFrame_103 rfl (lv_at hl 4 rfl) ?_
          refine h_getr (C := RX5) (T := TX5) (N := 11) hx hb hts inX5 hown hK hT0 (on_rg hY) rfl 1 rfl wF_X5_21 rfl dX5_drawFrame_104 ?_
          refine lv_iload hx hb dX5_drawFrame_107 (lv_at hl 3 rfl) ?_
          refine h_callVi (T := TX2) (rest := []) (As := [.int r9]) hx hb hml hown hts hK hT0 hZ (fun _ h => h) hS9 (c_X2_isFull l G Y P (o + 7) (on_qu hY) r9) trivial wd_X2_isFull wV_X2_isFull wL_X5_172 ((on_qu hY).o rfl) rfl rfl hl.1 rfl (Nat.le_of_ble_eq_true rfl) dX5_drawFrame_109 ⟨Nat.le_of_ble_eq_true rfl, Nat.le_of_ble_eq_true rfl⟩ ⟨Nat.zero_le _, Nat.zero_le _⟩ (fun r19 H12 locs hp12 hT12 hS12 hk12 => ?_)
          obtain ⟨hp12, he⟩ := hp12
          have he := he.symm
          subst he
          refine lv_if_ne (tgt := 129) hx hb dX5_drawFrame_112 (by decide) (fun c20 => ?_) (fun c20 => ?_)
          · skip
            refine lv_aload_n hx hb dX5_drawFrame_129 rfl (lv_at hl 4 rfl) ?_
            refine h_getr (C := RX5) (T := TX5) (N := 11) hx hb hts inX5 hown hK hT0 (on_rg hY) rfl 5 rfl wF_X5_49 rfl dX5_drawFrame_130 ?_
            refine h_callVv (T := TX0) (rest := []) (As := []) hx hb hml hown hts hK hT0 hZ (fun _ h => h) hS12 (c_X0_countRefused l G Y P (o + 19) (on_bo hY)) trivial wd_X0_countRefused wV_X0_countRefused wL_X5_179 ((on_bo hY).o rfl) rfl rfl hl.1 rfl (Nat.le_of_ble_eq_true rfl) dX5_drawFrame_133 ⟨Nat.le_of_ble_eq_true rfl, Nat.le_of_ble_eq_true rfl⟩ ⟨Nat.zero_le _, Nat.zero_le _⟩ (fun H13 locs hp13 hT13 hS13 hk13 => ?_)
            refine lv_iload_n hx hb dX5_drawFrame_136 rfl (lv_at hl 1 rfl) ?_
            exact hret _ _ _ _ _ hT13 hS13 trivial dX5_drawFrame_137
          · skip
            refine lv_aload_n hx hb dX5_drawFrame_115 rfl (lv_at hl 4 rfl) ?_
            refine lv_iload hx hb dX5_drawFrame_116 (lv_at hl 3 rfl) ?_
            refine lv_iload hx hb dX5_drawFrame_118 (lv_at hl 2 rfl) ?_
            refine lv_iload hx hb dX5_drawFrame_120 (lv_at hl 0 rfl) ?_
            refine h_callVi (T := TX5) (rest := []) (As := [.int r9, .int r12, .int r14]) hx hb hml hown hts hK hT0 hZ (fun _ h => h) hS12 (c_X5_newFrame l G Y P (o) hY r9 r12 r14) trivial wd_X5_newFrame wV_X5_newFrame wL_X5_175 (on_rg hY) rfl rfl hl.1 rfl (Nat.le_of_ble_eq_true rfl) dX5_drawFrame_122 ⟨Nat.le_of_ble_eq_true rfl, Nat.le_of_ble_eq_true rfl⟩ ⟨Nat.zero_le _, Nat.zero_le _⟩ (fun r21 H14 locs hp14 hT14 hS14 hk14 => ?_)
            refine lv_pop hx hb dX5_drawFrame_125 rfl ?_
            refine lv_goto (tgt := 136) hx hb dX5_drawFrame_126 (by decide) ?_
            refine lv_iload_n hx hb dX5_drawFrame_136 rfl (lv_at hl 1 rfl) ?_
            exact hret _ _ _ _ _ hT14 hS14 trivial dX5_drawFrame_137
    · skip
      refine lv_iload_n hx hb dX5_drawFrame_27 rfl (lv_at hl 0 rfl) ?_
      exact hret _ _ _ _ _ hT0 hS2 trivial dX5_drawFrame_28
set_option maxHeartbeats 4000000 in
set_option maxRecDepth 100000 in
theorem c_X5_dropIt (l : Launch) (G : hG) (Y : hW) (P : Int32 → Prop) (o : Nat) (hY : h_On Y o (ringE (tC P) o)) : hMv l yX5_dropIt cX5_dropIt 1 none 2 46 G Y [.ref (o)] (fun H => True) (fun H H1 => True) := by
  refine h_ofv (by decide +kernel) (Nat.le_of_ble_eq_true rfl) ?_
  intro p e s m args below meth c H0 ls Q hx hb hts hown hml hK hZ hT0 hpr hS0 hl hret
  have hl : lv_has ls 1 [(0, .ref (o))] := hl
  refine lv_aload_n hx hb dX5_dropIt_0 rfl (lv_at hl 0 rfl) ?_
  refine h_getr (C := RX5) (T := TX5) (N := 11) hx hb hts inX5 hown hK hT0 (on_rg hY) rfl 5 rfl wF_X5_49 rfl dX5_dropIt_1 ?_
  refine lv_iconst (v := 2) hx hb dX5_dropIt_4 (by decide) ?_
  refine lv_aload_n hx hb dX5_dropIt_5 rfl (lv_at hl 0 rfl) ?_
  refine h_geti (C := RX5) (T := TX5) (N := 11) hx hb hts inX5 hown hK hT0 (on_rg hY) rfl 6 rfl wF_X5_53 rfl dX5_dropIt_6 (fun p1 => ?_)
  refine lv_topi (fun x2 ex2 => ?_)
  refine lv_aload_n hx hb dX5_dropIt_9 rfl (lv_at hl 0 rfl) ?_
  refine h_getr (C := RX5) (T := TX5) (N := 11) hx hb hts inX5 hown hK hT0 (on_rg hY) rfl 3 rfl wF_X5_35 rfl dX5_dropIt_10 ?_
  refine h_geti (C := RX9) (T := TX9) (N := 11) hx hb hts inX9 hown hK hT0 ((on_wa hY).o rfl) rfl 1 rfl wF_X5_182 rfl dX5_dropIt_13 (fun p3 => ?_)
  refine lv_topi (fun x4 ex4 => ?_)
  refine h_callVv (T := TX0) (rest := []) (As := [.int 2, .int x2, .int x4]) hx hb hml hown hts hK hT0 hZ (fun _ h => h) hS0 (c_X0_enter l G Y P (o + 19) (on_bo hY) 2 x2 x4) trivial wd_X0_enter wV_X0_enter wL_X5_185 ((on_bo hY).o rfl) rfl rfl hl.1 rfl (Nat.le_of_ble_eq_true rfl) dX5_dropIt_16 ⟨Nat.le_of_ble_eq_true rfl, Nat.le_of_ble_eq_true rfl⟩ ⟨Nat.zero_le _, Nat.zero_le _⟩ (fun H1 locs hp1 hT1 hS1 hk1 => ?_)
  refine lv_aload_n hx hb dX5_dropIt_19 rfl (lv_at hl 0 rfl) ?_
  refine h_getr (C := RX5) (T := TX5) (N := 11) hx hb hts inX5 hown hK hT1 (on_rg hY) rfl 3 rfl wF_X5_35 rfl dX5_dropIt_20 ?_
  refine h_callVv (T := TX9) (rest := []) (As := []) hx hb hml hown hts hK hT1 hZ (fun _ h => h) hS1 (c_X9_clear l G Y P (o + 17) (on_wa hY)) trivial wd_X9_clear wV_X9_clear wL_X5_75 ((on_wa hY).o rfl) rfl rfl hl.1 rfl (Nat.le_of_ble_eq_true rfl) dX5_dropIt_23 ⟨Nat.le_of_ble_eq_true rfl, Nat.le_of_ble_eq_true rfl⟩ ⟨Nat.zero_le _, Nat.zero_le _⟩ (fun H2 locs hp2 hT2 hS2 hk2 => ?_)
  refine lv_aload_n hx hb dX5_dropIt_26 rfl (lv_at hl 0 rfl) ?_
  refine h_getr (C := RX5) (T := TX5) (N := 11) hx hb hts inX5 hown hK hT2 (on_rg hY) rfl 4 rfl wF_X5_42 rfl dX5_dropIt_27 ?_
  refine h_callVv (T := TX6) (rest := []) (As := []) hx hb hml hown hts hK hT2 hZ (fun _ h => h) hS2 (c_X6_restart l G Y P (o + 18) (on_si hY)) trivial wd_X6_restart wV_X6_restart wL_X5_76 ((on_si hY).o rfl) rfl rfl hl.1 rfl (Nat.le_of_ble_eq_true rfl) dX5_dropIt_30 ⟨Nat.le_of_ble_eq_true rfl, Nat.le_of_ble_eq_true rfl⟩ ⟨Nat.zero_le _, Nat.zero_le _⟩ (fun H3 locs hp3 hT3 hS3 hk3 => ?_)
  exact hret _ _ _ _ hT3 hS3 trivial dX5_dropIt_33
set_option maxHeartbeats 4000000 in
set_option maxRecDepth 100000 in
theorem c_X5_purge (l : Launch) (G : hG) (Y : hW) (P : Int32 → Prop) (o : Nat) (hY : h_On Y o (ringE (tC P) o)) : hMv l yX5_purge cX5_purge 1 none 2 46 G Y [.ref (o)] (fun H => True) (fun H H1 => True) := by
  refine h_ofv (by decide +kernel) (Nat.le_of_ble_eq_true rfl) ?_
  intro p e s m args below meth c H0 ls Q hx hb hts hown hml hK hZ hT0 hpr hS0 hl hret
  have hl : lv_has ls 1 [(0, .ref (o))] := hl
  refine lv_aload_n hx hb dX5_purge_0 rfl (lv_at hl 0 rfl) ?_
  refine h_getr (C := RX5) (T := TX5) (N := 11) hx hb hts inX5 hown hK hT0 (on_rg hY) rfl 2 rfl wF_X5_28 rfl dX5_purge_1 ?_
  refine h_callVv (T := TX3) (rest := []) (As := []) hx hb hml hown hts hK hT0 hZ (fun _ h => h) hS0 (c_X3_clear l G Y P (o + 13) (on_ra hY)) trivial wd_X3_clear wV_X3_clear wL_X5_74 ((on_ra hY).o rfl) rfl rfl hl.1 rfl (Nat.le_of_ble_eq_true rfl) dX5_purge_4 ⟨Nat.le_of_ble_eq_true rfl, Nat.le_of_ble_eq_true rfl⟩ ⟨Nat.zero_le _, Nat.zero_le _⟩ (fun H1 locs hp1 hT1 hS1 hk1 => ?_)
  refine lv_aload_n hx hb dX5_purge_7 rfl (lv_at hl 0 rfl) ?_
  refine h_getr (C := RX5) (T := TX5) (N := 11) hx hb hts inX5 hown hK hT1 (on_rg hY) rfl 3 rfl wF_X5_35 rfl dX5_purge_8 ?_
  refine h_geti (C := RX9) (T := TX9) (N := 11) hx hb hts inX9 hown hK hT1 ((on_wa hY).o rfl) rfl 0 rfl wF_X5_142 rfl dX5_purge_11 (fun p1 => ?_)
  refine lv_topi (fun x2 ex2 => ?_)
  refine lv_iconst (v := 2) hx hb dX5_purge_14 (by decide) ?_
  refine lv_icmp_ne (tgt := 37) hx hb dX5_purge_15 (by decide) (fun c3 => ?_) (fun c3 => ?_)
  · skip
    refine lv_aload_n hx hb dX5_purge_37 rfl (lv_at hl 0 rfl) ?_
    refine h_getr (C := RX5) (T := TX5) (N := 11) hx hb hts inX5 hown hK hT1 (on_rg hY) rfl 3 rfl wF_X5_35 rfl dX5_purge_38 ?_
    refine lv_aload_n hx hb dX5_purge_41 rfl (lv_at hl 0 rfl) ?_
    refine h_getr (C := RX5) (T := TX5) (N := 11) hx hb hts inX5 hown hK hT1 (on_rg hY) rfl 0 rfl wF_X5_12 rfl dX5_purge_42 ?_
    refine h_geti (C := RX7) (T := TX7) (N := 9) hx hb hts inX7 hown hK hT1 ((on_st hY).o rfl) rfl 6 rfl wF_X5_189 rfl dX5_purge_45 (fun p4 => ?_)
    refine lv_topi (fun x5 ex5 => ?_)
    refine lv_iconst (v := 0) hx hb dX5_purge_48 (by decide) ?_
    refine lv_iconst (v := 0) hx hb dX5_purge_49 (by decide) ?_
    refine h_callVv (T := TX9) (rest := []) (As := [.int x5, .int 0, .int 0]) hx hb hml hown hts hK hT1 hZ (fun _ h => h) hS1 (c_X9_becomeToken l G Y P (o + 17) (on_wa hY) x5 0 0) trivial wd_X9_becomeToken wV_X9_becomeToken wL_X5_192 ((on_wa hY).o rfl) rfl rfl hl.1 rfl (Nat.le_of_ble_eq_true rfl) dX5_purge_50 ⟨Nat.le_of_ble_eq_true rfl, Nat.le_of_ble_eq_true rfl⟩ ⟨Nat.zero_le _, Nat.zero_le _⟩ (fun H2 locs hp2 hT2 hS2 hk2 => ?_)
    refine lv_aload_n hx hb dX5_purge_53 rfl (lv_at hl 0 rfl) ?_
    refine h_getr (C := RX5) (T := TX5) (N := 11) hx hb hts inX5 hown hK hT2 (on_rg hY) rfl 4 rfl wF_X5_42 rfl dX5_purge_54 ?_
    refine h_callVv (T := TX6) (rest := []) (As := []) hx hb hml hown hts hK hT2 hZ (fun _ h => h) hS2 (c_X6_restart l G Y P (o + 18) (on_si hY)) trivial wd_X6_restart wV_X6_restart wL_X5_76 ((on_si hY).o rfl) rfl rfl hl.1 rfl (Nat.le_of_ble_eq_true rfl) dX5_purge_57 ⟨Nat.le_of_ble_eq_true rfl, Nat.le_of_ble_eq_true rfl⟩ ⟨Nat.zero_le _, Nat.zero_le _⟩ (fun H3 locs hp3 hT3 hS3 hk3 => ?_)
    refine lv_aload_n hx hb dX5_purge_60 rfl (lv_at hl 0 rfl) ?_
    refine h_getr (C := RX5) (T := TX5) (N := 11) hx hb hts inX5 hown hK hT3 (on_rg hY) rfl 5 rfl wF_X5_49 rfl dX5_purge_61 ?_
    refine lv_iconst (v := 3) hx hb dX5_purge_64 (by decide) ?_
    refine lv_aload_n hx hb dX5_purge_65 rfl (lv_at hl 0 rfl) ?_
    refine h_geti (C := RX5) (T := TX5) (N := 11) hx hb hts inX5 hown hK hT3 (on_rg hY) rfl 6 rfl wF_X5_53 rfl dX5_purge_66 (fun p6 => ?_)
    refine lv_topi (fun x7 ex7 => ?_)
    refine lv_aload_n hx hb dX5_purge_69 rfl (lv_at hl 0 rfl) ?_
    refine h_getr (C := RX5) (T := TX5) (N := 11) hx hb hts inX5 hown hK hT3 (on_rg hY) rfl 0 rfl wF_X5_12 rfl dX5_purge_70 ?_
    refine h_geti (C := RX7) (T := TX7) (N := 9) hx hb hts inX7 hown hK hT3 ((on_st hY).o rfl) rfl 6 rfl wF_X5_189 rfl dX5_purge_73 (fun p8 => ?_)
    refine lv_topi (fun x9 ex9 => ?_)
    refine h_callVv (T := TX0) (rest := []) (As := [.int 3, .int x7, .int x9]) hx hb hml hown hts hK hT3 hZ (fun _ h => h) hS3 (c_X0_enter l G Y P (o + 19) (on_bo hY) 3 x7 x9) trivial wd_X0_enter wV_X0_enter wL_X5_185 ((on_bo hY).o rfl) rfl rfl hl.1 rfl (Nat.le_of_ble_eq_true rfl) dX5_purge_76 ⟨Nat.le_of_ble_eq_true rfl, Nat.le_of_ble_eq_true rfl⟩ ⟨Nat.zero_le _, Nat.zero_le _⟩ (fun H4 locs hp4 hT4 hS4 hk4 => ?_)
    refine lv_aload_n hx hb dX5_purge_79 rfl (lv_at hl 0 rfl) ?_
    refine lv_iconst (v := 1) hx hb dX5_purge_80 (by decide) ?_
    refine h_puti (C := RX5) (T := TX5) (N := 11) hx hb hts inX5 tyX5 tyX5_ok nmX5 hown hK hT4 (fun _ h => h) hS4 (on_rg hY) rfl 10 rfl wF_X5_66 rfl rfl (Or.inr rfl) rfl rfl dX5_purge_81 (fun H5 locs hT5 hS5 hu5 => ?_)
    exact hret _ _ _ _ hT5 hS5 trivial dX5_purge_84
  · skip
    refine lv_aload_n hx hb dX5_purge_18 rfl (lv_at hl 0 rfl) ?_
    refine h_getr (C := RX5) (T := TX5) (N := 11) hx hb hts inX5 hown hK hT1 (on_rg hY) rfl 5 rfl wF_X5_49 rfl dX5_purge_19 ?_
    refine lv_iconst (v := 2) hx hb dX5_purge_22 (by decide) ?_
    refine lv_aload_n hx hb dX5_purge_23 rfl (lv_at hl 0 rfl) ?_
    refine h_geti (C := RX5) (T := TX5) (N := 11) hx hb hts inX5 hown hK hT1 (on_rg hY) rfl 6 rfl wF_X5_53 rfl dX5_purge_24 (fun p10 => ?_)
    refine lv_topi (fun x11 ex11 => ?_)
    refine lv_aload_n hx hb dX5_purge_27 rfl (lv_at hl 0 rfl) ?_
    refine h_getr (C := RX5) (T := TX5) (N := 11) hx hb hts inX5 hown hK hT1 (on_rg hY) rfl 3 rfl wF_X5_35 rfl dX5_purge_28 ?_
    refine h_geti (C := RX9) (T := TX9) (N := 11) hx hb hts inX9 hown hK hT1 ((on_wa hY).o rfl) rfl 1 rfl wF_X5_182 rfl dX5_purge_31 (fun p12 => ?_)
    refine lv_topi (fun x13 ex13 => ?_)
    refine h_callVv (T := TX0) (rest := []) (As := [.int 2, .int x11, .int x13]) hx hb hml hown hts hK hT1 hZ (fun _ h => h) hS1 (c_X0_enter l G Y P (o + 19) (on_bo hY) 2 x11 x13) trivial wd_X0_enter wV_X0_enter wL_X5_185 ((on_bo hY).o rfl) rfl rfl hl.1 rfl (Nat.le_of_ble_eq_true rfl) dX5_purge_34 ⟨Nat.le_of_ble_eq_true rfl, Nat.le_of_ble_eq_true rfl⟩ ⟨Nat.zero_le _, Nat.zero_le _⟩ (fun H6 locs hp6 hT6 hS6 hk6 => ?_)
    refine lv_aload_n hx hb dX5_purge_37 rfl (lv_at hl 0 rfl) ?_
    refine h_getr (C := RX5) (T := TX5) (N := 11) hx hb hts inX5 hown hK hT6 (on_rg hY) rfl 3 rfl wF_X5_35 rfl dX5_purge_38 ?_
    refine lv_aload_n hx hb dX5_purge_41 rfl (lv_at hl 0 rfl) ?_
    refine h_getr (C := RX5) (T := TX5) (N := 11) hx hb hts inX5 hown hK hT6 (on_rg hY) rfl 0 rfl wF_X5_12 rfl dX5_purge_42 ?_
    refine h_geti (C := RX7) (T := TX7) (N := 9) hx hb hts inX7 hown hK hT6 ((on_st hY).o rfl) rfl 6 rfl wF_X5_189 rfl dX5_purge_45 (fun p14 => ?_)
    refine lv_topi (fun x15 ex15 => ?_)
    refine lv_iconst (v := 0) hx hb dX5_purge_48 (by decide) ?_
    refine lv_iconst (v := 0) hx hb dX5_purge_49 (by decide) ?_
    refine h_callVv (T := TX9) (rest := []) (As := [.int x15, .int 0, .int 0]) hx hb hml hown hts hK hT6 hZ (fun _ h => h) hS6 (c_X9_becomeToken l G Y P (o + 17) (on_wa hY) x15 0 0) trivial wd_X9_becomeToken wV_X9_becomeToken wL_X5_192 ((on_wa hY).o rfl) rfl rfl hl.1 rfl (Nat.le_of_ble_eq_true rfl) dX5_purge_50 ⟨Nat.le_of_ble_eq_true rfl, Nat.le_of_ble_eq_true rfl⟩ ⟨Nat.zero_le _, Nat.zero_le _⟩ (fun H7 locs hp7 hT7 hS7 hk7 => ?_)
    refine lv_aload_n hx hb dX5_purge_53 rfl (lv_at hl 0 rfl) ?_
    refine h_getr (C := RX5) (T := TX5) (N := 11) hx hb hts inX5 hown hK hT7 (on_rg hY) rfl 4 rfl wF_X5_42 rfl dX5_purge_54 ?_
    refine h_callVv (T := TX6) (rest := []) (As := []) hx hb hml hown hts hK hT7 hZ (fun _ h => h) hS7 (c_X6_restart l G Y P (o + 18) (on_si hY)) trivial wd_X6_restart wV_X6_restart wL_X5_76 ((on_si hY).o rfl) rfl rfl hl.1 rfl (Nat.le_of_ble_eq_true rfl) dX5_purge_57 ⟨Nat.le_of_ble_eq_true rfl, Nat.le_of_ble_eq_true rfl⟩ ⟨Nat.zero_le _, Nat.zero_le _⟩ (fun H8 locs hp8 hT8 hS8 hk8 => ?_)
    refine lv_aload_n hx hb dX5_purge_60 rfl (lv_at hl 0 rfl) ?_
    refine h_getr (C := RX5) (T := TX5) (N := 11) hx hb hts inX5 hown hK hT8 (on_rg hY) rfl 5 rfl wF_X5_49 rfl dX5_purge_61 ?_
    refine lv_iconst (v := 3) hx hb dX5_purge_64 (by decide) ?_
    refine lv_aload_n hx hb dX5_purge_65 rfl (lv_at hl 0 rfl) ?_
    refine h_geti (C := RX5) (T := TX5) (N := 11) hx hb hts inX5 hown hK hT8 (on_rg hY) rfl 6 rfl wF_X5_53 rfl dX5_purge_66 (fun p16 => ?_)
    refine lv_topi (fun x17 ex17 => ?_)
    refine lv_aload_n hx hb dX5_purge_69 rfl (lv_at hl 0 rfl) ?_
    refine h_getr (C := RX5) (T := TX5) (N := 11) hx hb hts inX5 hown hK hT8 (on_rg hY) rfl 0 rfl wF_X5_12 rfl dX5_purge_70 ?_
    refine h_geti (C := RX7) (T := TX7) (N := 9) hx hb hts inX7 hown hK hT8 ((on_st hY).o rfl) rfl 6 rfl wF_X5_189 rfl dX5_purge_73 (fun p18 => ?_)
    refine lv_topi (fun x19 ex19 => ?_)
    refine h_callVv (T := TX0) (rest := []) (As := [.int 3, .int x17, .int x19]) hx hb hml hown hts hK hT8 hZ (fun _ h => h) hS8 (c_X0_enter l G Y P (o + 19) (on_bo hY) 3 x17 x19) trivial wd_X0_enter wV_X0_enter wL_X5_185 ((on_bo hY).o rfl) rfl rfl hl.1 rfl (Nat.le_of_ble_eq_true rfl) dX5_purge_76 ⟨Nat.le_of_ble_eq_true rfl, Nat.le_of_ble_eq_true rfl⟩ ⟨Nat.zero_le _, Nat.zero_le _⟩ (fun H9 locs hp9 hT9 hS9 hk9 => ?_)
    refine lv_aload_n hx hb dX5_purge_79 rfl (lv_at hl 0 rfl) ?_
    refine lv_iconst (v := 1) hx hb dX5_purge_80 (by decide) ?_
    refine h_puti (C := RX5) (T := TX5) (N := 11) hx hb hts inX5 tyX5 tyX5_ok nmX5 hown hK hT9 (fun _ h => h) hS9 (on_rg hY) rfl 10 rfl wF_X5_66 rfl rfl (Or.inr rfl) rfl rfl dX5_purge_81 (fun H10 locs hT10 hS10 hu10 => ?_)
    exact hret _ _ _ _ hT10 hS10 trivial dX5_purge_84
set_option maxHeartbeats 4000000 in
set_option maxRecDepth 100000 in
theorem c_X5_lowerToken (l : Launch) (G : hG) (Y : hW) (P : Int32 → Prop) (o : Nat) (hY : h_On Y o (ringE (tC P) o)) (u1 : Int32) : hMv l yX5_lowerToken cX5_lowerToken 3 none 2 45 G Y [.ref (o), .int u1] (fun H => True) (fun H H1 => True) := by
  refine h_ofv (by decide +kernel) (Nat.le_of_ble_eq_true rfl) ?_
  intro p e s m args below meth c H0 ls Q hx hb hts hown hml hK hZ hT0 hpr hS0 hl hret
  have hl : lv_has ls 3 [(0, .ref (o)), (1, .int u1)] := hl
  refine lv_aload_n hx hb dX5_lowerToken_0 rfl (lv_at hl 0 rfl) ?_
  refine h_getr (C := RX5) (T := TX5) (N := 11) hx hb hts inX5 hown hK hT0 (on_rg hY) rfl 2 rfl wF_X5_28 rfl dX5_lowerToken_1 ?_
  refine lv_iload_n hx hb dX5_lowerToken_4 rfl (lv_at hl 1 rfl) ?_
  refine lv_iconst (v := 0) hx hb dX5_lowerToken_5 (by decide) ?_
  refine h_callVi (T := TX3) (rest := []) (As := [.int u1, .int 0]) hx hb hml hown hts hK hT0 hZ (fun _ h => h) hS0 (c_X3_oldAt l G Y P (o + 13) (on_ra hY) u1 0) trivial wd_X3_oldAt wV_X3_oldAt wL_X5_126 ((on_ra hY).o rfl) rfl rfl hl.1 rfl (Nat.le_of_ble_eq_true rfl) dX5_lowerToken_6 ⟨Nat.le_of_ble_eq_true rfl, Nat.le_of_ble_eq_true rfl⟩ ⟨Nat.zero_le _, Nat.zero_le _⟩ (fun r1 H1 locs hp1 hT1 hS1 hk1 => ?_)
  obtain ⟨hp1, he⟩ := hp1
  have he := he.symm
  subst he
  refine lv_istore_n (lv' := [(2, .int r1), (0, .ref (o)), (1, .int u1)]) hx hb dX5_lowerToken_9 rfl hl (by decide) rfl (fun ls hl => ?_)
  refine lv_aload_n hx hb dX5_lowerToken_10 rfl (lv_at hl 1 rfl) ?_
  refine h_getr (C := RX5) (T := TX5) (N := 11) hx hb hts inX5 hown hK hT0 (on_rg hY) rfl 3 rfl wF_X5_35 rfl dX5_lowerToken_11 ?_
  refine h_geti (C := RX9) (T := TX9) (N := 11) hx hb hts inX9 hown hK hT0 ((on_wa hY).o rfl) rfl 3 rfl wF_X5_250 rfl dX5_lowerToken_14 (fun p2 => ?_)
  refine lv_topi (fun x3 ex3 => ?_)
  refine lv_iload_n hx hb dX5_lowerToken_17 rfl (lv_at hl 0 rfl) ?_
  refine lv_icmp_le (tgt := 61) hx hb dX5_lowerToken_18 (by decide) (fun c4 => ?_) (fun c4 => ?_)
  · skip
    refine lv_aload_n hx hb dX5_lowerToken_61 rfl (lv_at hl 1 rfl) ?_
    refine h_getr (C := RX5) (T := TX5) (N := 11) hx hb hts inX5 hown hK hT0 (on_rg hY) rfl 3 rfl wF_X5_35 rfl dX5_lowerToken_62 ?_
    refine lv_iload_n hx hb dX5_lowerToken_65 rfl (lv_at hl 0 rfl) ?_
    refine h_puti (C := RX9) (T := TX9) (N := 11) hx hb hts inX9 tyX9 tyX9_ok nmX9 hown hK hT0 (fun _ h => h) hS1 ((on_wa hY).o rfl) rfl 2 rfl wF_X5_212 rfl rfl trivial rfl rfl dX5_lowerToken_66 (fun H2 locs hT2 hS2 hu2 => ?_)
    refine lv_aload_n hx hb dX5_lowerToken_69 rfl (lv_at hl 1 rfl) ?_
    refine h_getr (C := RX5) (T := TX5) (N := 11) hx hb hts inX5 hown hK hT2 (on_rg hY) rfl 2 rfl wF_X5_28 rfl dX5_lowerToken_70 ?_
    refine lv_iload_n hx hb dX5_lowerToken_73 rfl (lv_at hl 2 rfl) ?_
    refine h_callVv (T := TX3) (rest := []) (As := [.int u1]) hx hb hml hown hts hK hT2 hZ (fun _ h => h) hS2 (c_X3_drop l G Y P (o + 13) (on_ra hY) u1) trivial wd_X3_drop wV_X3_drop wL_X5_262 ((on_ra hY).o rfl) rfl rfl hl.1 rfl (Nat.le_of_ble_eq_true rfl) dX5_lowerToken_74 ⟨Nat.le_of_ble_eq_true rfl, Nat.le_of_ble_eq_true rfl⟩ ⟨Nat.zero_le _, Nat.zero_le _⟩ (fun H3 locs hp3 hT3 hS3 hk3 => ?_)
    refine lv_aload_n hx hb dX5_lowerToken_77 rfl (lv_at hl 1 rfl) ?_
    refine h_getr (C := RX5) (T := TX5) (N := 11) hx hb hts inX5 hown hK hT3 (on_rg hY) rfl 3 rfl wF_X5_35 rfl dX5_lowerToken_78 ?_
    refine lv_iconst (v := 0) hx hb dX5_lowerToken_81 (by decide) ?_
    refine h_puti (C := RX9) (T := TX9) (N := 11) hx hb hts inX9 tyX9 tyX9_ok nmX9 hown hK hT3 (fun _ h => h) hS3 ((on_wa hY).o rfl) rfl 4 rfl wF_X5_215 rfl rfl (Or.inl rfl) rfl rfl dX5_lowerToken_82 (fun H4 locs hT4 hS4 hu4 => ?_)
    exact hret _ _ _ _ hT4 hS4 trivial dX5_lowerToken_85
  · skip
    refine lv_aload_n hx hb dX5_lowerToken_21 rfl (lv_at hl 1 rfl) ?_
    refine h_getr (C := RX5) (T := TX5) (N := 11) hx hb hts inX5 hown hK hT0 (on_rg hY) rfl 3 rfl wF_X5_35 rfl dX5_lowerToken_22 ?_
    refine lv_aload_n hx hb dX5_lowerToken_25 rfl (lv_at hl 1 rfl) ?_
    refine h_getr (C := RX5) (T := TX5) (N := 11) hx hb hts inX5 hown hK hT0 (on_rg hY) rfl 3 rfl wF_X5_35 rfl dX5_lowerToken_26 ?_
    refine h_geti (C := RX9) (T := TX9) (N := 11) hx hb hts inX9 hown hK hT0 ((on_wa hY).o rfl) rfl 3 rfl wF_X5_250 rfl dX5_lowerToken_29 (fun p5 => ?_)
    refine h_top (v := x3) ex3.symm ?_
    refine h_puti (C := RX9) (T := TX9) (N := 11) hx hb hts inX9 tyX9 tyX9_ok nmX9 hown hK hT0 (fun _ h => h) hS1 ((on_wa hY).o rfl) rfl 2 rfl wF_X5_212 rfl rfl trivial rfl rfl dX5_lowerToken_32 (fun H5 locs hT5 hS5 hu5 => ?_)
    refine lv_aload_n hx hb dX5_lowerToken_35 rfl (lv_at hl 1 rfl) ?_
    refine h_getr (C := RX5) (T := TX5) (N := 11) hx hb hts inX5 hown hK hT5 (on_rg hY) rfl 2 rfl wF_X5_28 rfl dX5_lowerToken_36 ?_
    refine lv_iload_n hx hb dX5_lowerToken_39 rfl (lv_at hl 2 rfl) ?_
    refine lv_aload_n hx hb dX5_lowerToken_40 rfl (lv_at hl 1 rfl) ?_
    refine h_getr (C := RX5) (T := TX5) (N := 11) hx hb hts inX5 hown hK hT5 (on_rg hY) rfl 3 rfl wF_X5_35 rfl dX5_lowerToken_41 ?_
    refine h_geti (C := RX9) (T := TX9) (N := 11) hx hb hts inX9 hown hK hT5 ((on_wa hY).o rfl) rfl 3 rfl wF_X5_250 rfl dX5_lowerToken_44 (fun p6 => ?_)
    refine h_top (v := x3) ((h_ps hu5 rfl (by decide) (by decide)).trans ex3.symm) ?_
    refine h_callVv (T := TX3) (rest := []) (As := [.int u1, .int x3]) hx hb hml hown hts hK hT5 hZ (fun _ h => h) hS5 (c_X3_setTopNew l G Y P (o + 13) (on_ra hY) u1 x3) trivial wd_X3_setTopNew wV_X3_setTopNew wL_X5_258 ((on_ra hY).o rfl) rfl rfl hl.1 rfl (Nat.le_of_ble_eq_true rfl) dX5_lowerToken_47 ⟨Nat.le_of_ble_eq_true rfl, Nat.le_of_ble_eq_true rfl⟩ ⟨Nat.zero_le _, Nat.zero_le _⟩ (fun H6 locs hp6 hT6 hS6 hk6 => ?_)
    refine lv_aload_n hx hb dX5_lowerToken_50 rfl (lv_at hl 1 rfl) ?_
    refine h_getr (C := RX5) (T := TX5) (N := 11) hx hb hts inX5 hown hK hT6 (on_rg hY) rfl 3 rfl wF_X5_35 rfl dX5_lowerToken_51 ?_
    refine lv_iconst (v := 0) hx hb dX5_lowerToken_54 (by decide) ?_
    refine h_puti (C := RX9) (T := TX9) (N := 11) hx hb hts inX9 tyX9 tyX9_ok nmX9 hown hK hT6 (fun _ h => h) hS6 ((on_wa hY).o rfl) rfl 3 rfl wF_X5_250 rfl rfl trivial rfl rfl dX5_lowerToken_55 (fun H7 locs hT7 hS7 hu7 => ?_)
    refine lv_goto (tgt := 77) hx hb dX5_lowerToken_58 (by decide) ?_
    refine lv_aload_n hx hb dX5_lowerToken_77 rfl (lv_at hl 1 rfl) ?_
    refine h_getr (C := RX5) (T := TX5) (N := 11) hx hb hts inX5 hown hK hT7 (on_rg hY) rfl 3 rfl wF_X5_35 rfl dX5_lowerToken_78 ?_
    refine lv_iconst (v := 0) hx hb dX5_lowerToken_81 (by decide) ?_
    refine h_puti (C := RX9) (T := TX9) (N := 11) hx hb hts inX9 tyX9 tyX9_ok nmX9 hown hK hT7 (fun _ h => h) hS7 ((on_wa hY).o rfl) rfl 4 rfl wF_X5_215 rfl rfl (Or.inl rfl) rfl rfl dX5_lowerToken_82 (fun H8 locs hT8 hS8 hu8 => ?_)
    exact hret _ _ _ _ hT8 hS8 trivial dX5_lowerToken_85
set_option maxHeartbeats 4000000 in
set_option maxRecDepth 100000 in
theorem c_X5_tokenComes (l : Launch) (G : hG) (Y : hW) (P : Int32 → Prop) (o : Nat) (hY : h_On Y o (ringE (tC P) o)) (u1 u2 : Int32) : hMv l yX5_tokenComes cX5_tokenComes 4 none 3 67 G Y [.ref (o), .int u1, .int u2] (fun H => True) (fun H H1 => True) := by
  refine h_ofv (by decide +kernel) (Nat.le_of_ble_eq_true rfl) ?_
  intro p e s m args below meth c H0 ls Q hx hb hts hown hml hK hZ hT0 hpr hS0 hl hret
  have hl : lv_has ls 4 [(0, .ref (o)), (1, .int u1), (2, .int u2)] := hl
  refine lv_aload_n hx hb dX5_tokenComes_0 rfl (lv_at hl 0 rfl) ?_
  refine h_getr (C := RX5) (T := TX5) (N := 11) hx hb hts inX5 hown hK hT0 (on_rg hY) rfl 2 rfl wF_X5_28 rfl dX5_tokenComes_1 ?_
  refine lv_iload_n hx hb dX5_tokenComes_4 rfl (lv_at hl 1 rfl) ?_
  refine lv_iconst (v := 0) hx hb dX5_tokenComes_5 (by decide) ?_
  refine h_callVi (T := TX3) (rest := []) (As := [.int u1, .int 0]) hx hb hml hown hts hK hT0 hZ (fun _ h => h) hS0 (c_X3_newAt l G Y P (o + 13) (on_ra hY) u1 0) trivial wd_X3_newAt wV_X3_newAt wL_X5_130 ((on_ra hY).o rfl) rfl rfl hl.1 rfl (Nat.le_of_ble_eq_true rfl) dX5_tokenComes_6 ⟨Nat.le_of_ble_eq_true rfl, Nat.le_of_ble_eq_true rfl⟩ ⟨Nat.zero_le _, Nat.zero_le _⟩ (fun r1 H1 locs hp1 hT1 hS1 hk1 => ?_)
  obtain ⟨hp1, he⟩ := hp1
  have he := he.symm
  subst he
  refine lv_aload_n hx hb dX5_tokenComes_9 rfl (lv_at hl 0 rfl) ?_
  refine h_getr (C := RX5) (T := TX5) (N := 11) hx hb hts inX5 hown hK hT0 (on_rg hY) rfl 3 rfl wF_X5_35 rfl dX5_tokenComes_10 ?_
  refine h_geti (C := RX9) (T := TX9) (N := 11) hx hb hts inX9 hown hK hT0 ((on_wa hY).o rfl) rfl 2 rfl wF_X5_212 rfl dX5_tokenComes_13 (fun p2 => ?_)
  refine lv_topi (fun x3 ex3 => ?_)
  refine lv_icmp_ne (tgt := 24) hx hb dX5_tokenComes_16 (by decide) (fun c4 => ?_) (fun c4 => ?_)
  · skip
    refine lv_aload_n hx hb dX5_tokenComes_24 rfl (lv_at hl 0 rfl) ?_
    refine h_getr (C := RX5) (T := TX5) (N := 11) hx hb hts inX5 hown hK hT0 (on_rg hY) rfl 1 rfl wF_X5_21 rfl dX5_tokenComes_25 ?_
    refine lv_iload_n hx hb dX5_tokenComes_28 rfl (lv_at hl 1 rfl) ?_
    refine h_callVi (T := TX2) (rest := []) (As := [.int u1]) hx hb hml hown hts hK hT0 hZ (fun _ h => h) hS1 (c_X2_firstSlot l G Y P (o + 7) (on_qu hY) u1) trivial wd_X2_firstSlot wV_X2_firstSlot wL_X5_117 ((on_qu hY).o rfl) rfl rfl hl.1 rfl (Nat.le_of_ble_eq_true rfl) dX5_tokenComes_29 ⟨Nat.le_of_ble_eq_true rfl, Nat.le_of_ble_eq_true rfl⟩ ⟨Nat.zero_le _, Nat.zero_le _⟩ (fun r5 H2 locs hp2 hT2 hS2 hk2 => ?_)
    obtain ⟨hp2, he⟩ := hp2
    have he := he.symm
    subst he
    refine lv_istore_n (lv' := [(3, .int r5), (0, .ref (o)), (1, .int u1), (2, .int u2)]) hx hb dX5_tokenComes_32 rfl hl (by decide) rfl (fun ls hl => ?_)
    refine lv_iload_n hx hb dX5_tokenComes_33 rfl (lv_at hl 0 rfl) ?_
    refine lv_iconst (v := (-1)) hx hb dX5_tokenComes_34 (by decide) ?_
    refine lv_icmp_ne (tgt := 39) hx hb dX5_tokenComes_35 (by decide) (fun c6 => ?_) (fun c6 => ?_)
    · skip
      refine lv_aload_n hx hb dX5_tokenComes_39 rfl (lv_at hl 1 rfl) ?_
      refine h_getr (C := RX5) (T := TX5) (N := 11) hx hb hts inX5 hown hK hT0 (on_rg hY) rfl 1 rfl wF_X5_21 rfl dX5_tokenComes_40 ?_
      refine lv_iload_n hx hb dX5_tokenComes_43 rfl (lv_at hl 0 rfl) ?_
      refine h_callVi (T := TX2) (rest := []) (As := [.int r5]) hx hb hml hown hts hK hT0 hZ (fun _ h => h) hS2 (c_X2_rankIn l G Y P (o + 7) (on_qu hY) r5) trivial wd_X2_rankIn wV_X2_rankIn wL_X5_240 ((on_qu hY).o rfl) rfl rfl hl.1 rfl (Nat.le_of_ble_eq_true rfl) dX5_tokenComes_44 ⟨Nat.le_of_ble_eq_true rfl, Nat.le_of_ble_eq_true rfl⟩ ⟨Nat.zero_le _, Nat.zero_le _⟩ (fun r7 H3 locs hp3 hT3 hS3 hk3 => ?_)
      obtain ⟨hp3, he⟩ := hp3
      have he := he.symm
      subst he
      refine lv_aload_n hx hb dX5_tokenComes_47 rfl (lv_at hl 1 rfl) ?_
      refine h_getr (C := RX5) (T := TX5) (N := 11) hx hb hts inX5 hown hK hT0 (on_rg hY) rfl 3 rfl wF_X5_35 rfl dX5_tokenComes_48 ?_
      refine h_geti (C := RX9) (T := TX9) (N := 11) hx hb hts inX9 hown hK hT0 ((on_wa hY).o rfl) rfl 2 rfl wF_X5_212 rfl dX5_tokenComes_51 (fun p8 => ?_)
      refine h_top (v := x3) ex3.symm ?_
      refine lv_icmp_lt (tgt := 81) hx hb dX5_tokenComes_54 (by decide) (fun c9 => ?_) (fun c9 => ?_)
      · skip
        refine lv_iload_n hx hb dX5_tokenComes_81 rfl (lv_at hl 3 rfl) ?_
        refine lv_if_ne (tgt := 110) hx hb dX5_tokenComes_82 (by decide) (fun c10 => ?_) (fun c10 => ?_)
        · skip
          exact hret _ _ _ _ hT0 hS3 trivial dX5_tokenComes_110
        · skip
          refine lv_aload_n hx hb dX5_tokenComes_85 rfl (lv_at hl 1 rfl) ?_
          refine h_getr (C := RX5) (T := TX5) (N := 11) hx hb hts inX5 hown hK hT0 (on_rg hY) rfl 3 rfl wF_X5_35 rfl dX5_tokenComes_86 ?_
          refine lv_aload_n hx hb dX5_tokenComes_89 rfl (lv_at hl 1 rfl) ?_
          refine h_getr (C := RX5) (T := TX5) (N := 11) hx hb hts inX5 hown hK hT0 (on_rg hY) rfl 3 rfl wF_X5_35 rfl dX5_tokenComes_90 ?_
          refine h_geti (C := RX9) (T := TX9) (N := 11) hx hb hts inX9 hown hK hT0 ((on_wa hY).o rfl) rfl 3 rfl wF_X5_250 rfl dX5_tokenComes_93 (fun p11 => ?_)
          refine lv_topi (fun x12 ex12 => ?_)
          refine lv_aload_n hx hb dX5_tokenComes_96 rfl (lv_at hl 1 rfl) ?_
          refine h_getr (C := RX5) (T := TX5) (N := 11) hx hb hts inX5 hown hK hT0 (on_rg hY) rfl 1 rfl wF_X5_21 rfl dX5_tokenComes_97 ?_
          refine lv_iload_n hx hb dX5_tokenComes_100 rfl (lv_at hl 0 rfl) ?_
          refine h_callVi (T := TX2) (rest := [.int x12, .ref (o + 17)]) (As := [.int r5]) hx hb hml hown hts hK hT0 hZ (fun _ h => h) hS3 (c_X2_rankIn l G Y P (o + 7) (on_qu hY) r5) trivial wd_X2_rankIn wV_X2_rankIn wL_X5_240 ((on_qu hY).o rfl) rfl rfl hl.1 rfl (Nat.le_of_ble_eq_true rfl) dX5_tokenComes_101 ⟨Nat.le_of_ble_eq_true rfl, Nat.le_of_ble_eq_true rfl⟩ ⟨Nat.zero_le _, Nat.zero_le _⟩ (fun r13 H4 locs hp4 hT4 hS4 hk4 => ?_)
          obtain ⟨hp4, he⟩ := hp4
          have he := he.symm
          subst he
          refine h_callSi (rest := [.ref (o + 17)]) (As := [.int x12, .int r13]) hx hb hml hown hts hK hT0 hZ (fun _ h => h) hS4 (c_max l G Y x12 r13) trivial wd_J9_max_7cf53 wS_J9_max_7cf53 wL_X5_253 rfl hl.1 rfl (Nat.le_of_ble_eq_true rfl) dX5_tokenComes_104 ⟨Nat.le_of_ble_eq_true rfl, Nat.le_of_ble_eq_true rfl⟩ ⟨Nat.zero_le _, Nat.zero_le _⟩ (fun r14 H5 locs hp5 hT5 hS5 hk5 => ?_)
          obtain ⟨hp5, he⟩ := hp5
          have he := he.symm
          subst he
          refine h_puti (C := RX9) (T := TX9) (N := 11) hx hb hts inX9 tyX9 tyX9_ok nmX9 hown hK hT0 (fun _ h => h) hS5 ((on_wa hY).o rfl) rfl 3 rfl wF_X5_250 rfl rfl trivial rfl rfl dX5_tokenComes_107 (fun H6 locs hT6 hS6 hu6 => ?_)
          exact hret _ _ _ _ hT6 hS6 trivial dX5_tokenComes_110
      · skip
        refine lv_aload_n hx hb dX5_tokenComes_57 rfl (lv_at hl 1 rfl) ?_
        refine h_getr (C := RX5) (T := TX5) (N := 11) hx hb hts inX5 hown hK hT0 (on_rg hY) rfl 3 rfl wF_X5_35 rfl dX5_tokenComes_58 ?_
        refine lv_iload_n hx hb dX5_tokenComes_61 rfl (lv_at hl 2 rfl) ?_
        refine lv_aload_n hx hb dX5_tokenComes_62 rfl (lv_at hl 1 rfl) ?_
        refine h_getr (C := RX5) (T := TX5) (N := 11) hx hb hts inX5 hown hK hT0 (on_rg hY) rfl 1 rfl wF_X5_21 rfl dX5_tokenComes_63 ?_
        refine lv_iload_n hx hb dX5_tokenComes_66 rfl (lv_at hl 0 rfl) ?_
        refine h_callVv (T := TX9) (rest := []) (As := [.int u1, .ref (o + 7), .int r5]) hx hb hml hown hts hK hT0 hZ (fun _ h => h) hS3 (c_X9_becomeFrame l G Y P (o + 17) (o + 7) (on_wa hY) (on_qu hY) u1 r5) trivial wd_X9_becomeFrame wV_X9_becomeFrame wL_X5_243 ((on_wa hY).o rfl) rfl rfl hl.1 rfl (Nat.le_of_ble_eq_true rfl) dX5_tokenComes_67 ⟨Nat.le_of_ble_eq_true rfl, Nat.le_of_ble_eq_true rfl⟩ ⟨Nat.zero_le _, Nat.zero_le _⟩ (fun H7 locs hp7 hT7 hS7 hk7 => ?_)
        refine lv_aload_n hx hb dX5_tokenComes_70 rfl (lv_at hl 1 rfl) ?_
        refine h_getr (C := RX5) (T := TX5) (N := 11) hx hb hts inX5 hown hK hT7 (on_rg hY) rfl 1 rfl wF_X5_21 rfl dX5_tokenComes_71 ?_
        refine lv_iload_n hx hb dX5_tokenComes_74 rfl (lv_at hl 0 rfl) ?_
        refine h_callVv (T := TX2) (rest := []) (As := [.int r5]) hx hb hml hown hts hK hT7 hZ (fun _ h => h) hS7 (c_X2_removeSlot l G Y P (o + 7) (on_qu hY) r5) trivial wd_X2_removeSlot wV_X2_removeSlot wL_X5_247 ((on_qu hY).o rfl) rfl rfl hl.1 rfl (Nat.le_of_ble_eq_true rfl) dX5_tokenComes_75 ⟨Nat.le_of_ble_eq_true rfl, Nat.le_of_ble_eq_true rfl⟩ ⟨Nat.zero_le _, Nat.zero_le _⟩ (fun H8 locs hp8 hT8 hS8 hk8 => ?_)
        refine lv_goto (tgt := 110) hx hb dX5_tokenComes_78 (by decide) ?_
        exact hret _ _ _ _ hT8 hS8 trivial dX5_tokenComes_110
    · skip
      exact hret _ _ _ _ hT0 hS2 trivial dX5_tokenComes_38
  · skip
    refine lv_aload_n hx hb dX5_tokenComes_19 rfl (lv_at hl 0 rfl) ?_
    refine lv_iload_n hx hb dX5_tokenComes_20 rfl (lv_at hl 1 rfl) ?_
    refine h_callVv (T := TX5) (rest := []) (As := [.int u1]) hx hb hml hown hts hK hT0 hZ (fun _ h => h) hS1 (c_X5_lowerToken l G Y P (o) hY u1) trivial wd_X5_lowerToken wV_X5_lowerToken wL_X5_237 (on_rg hY) rfl rfl hl.1 rfl (Nat.le_of_ble_eq_true rfl) dX5_tokenComes_21 ⟨Nat.le_of_ble_eq_true rfl, Nat.le_of_ble_eq_true rfl⟩ ⟨Nat.zero_le _, Nat.zero_le _⟩ (fun H9 locs hp9 hT9 hS9 hk9 => ?_)
    refine lv_aload_n hx hb dX5_tokenComes_24 rfl (lv_at hl 0 rfl) ?_
    refine h_getr (C := RX5) (T := TX5) (N := 11) hx hb hts inX5 hown hK hT9 (on_rg hY) rfl 1 rfl wF_X5_21 rfl dX5_tokenComes_25 ?_
    refine lv_iload_n hx hb dX5_tokenComes_28 rfl (lv_at hl 1 rfl) ?_
    refine h_callVi (T := TX2) (rest := []) (As := [.int u1]) hx hb hml hown hts hK hT9 hZ (fun _ h => h) hS9 (c_X2_firstSlot l G Y P (o + 7) (on_qu hY) u1) trivial wd_X2_firstSlot wV_X2_firstSlot wL_X5_117 ((on_qu hY).o rfl) rfl rfl hl.1 rfl (Nat.le_of_ble_eq_true rfl) dX5_tokenComes_29 ⟨Nat.le_of_ble_eq_true rfl, Nat.le_of_ble_eq_true rfl⟩ ⟨Nat.zero_le _, Nat.zero_le _⟩ (fun r15 H10 locs hp10 hT10 hS10 hk10 => ?_)
    obtain ⟨hp10, he⟩ := hp10
    have he := he.symm
    subst he
    refine lv_istore_n (lv' := [(3, .int r15), (0, .ref (o)), (1, .int u1), (2, .int u2)]) hx hb dX5_tokenComes_32 rfl hl (by decide) rfl (fun ls hl => ?_)
    refine lv_iload_n hx hb dX5_tokenComes_33 rfl (lv_at hl 0 rfl) ?_
    refine lv_iconst (v := (-1)) hx hb dX5_tokenComes_34 (by decide) ?_
    refine lv_icmp_ne (tgt := 39) hx hb dX5_tokenComes_35 (by decide) (fun c16 => ?_) (fun c16 => ?_)
    · skip
      refine lv_aload_n hx hb dX5_tokenComes_39 rfl (lv_at hl 1 rfl) ?_
      refine h_getr (C := RX5) (T := TX5) (N := 11) hx hb hts inX5 hown hK hT9 (on_rg hY) rfl 1 rfl wF_X5_21 rfl dX5_tokenComes_40 ?_
      refine lv_iload_n hx hb dX5_tokenComes_43 rfl (lv_at hl 0 rfl) ?_
      refine h_callVi (T := TX2) (rest := []) (As := [.int r15]) hx hb hml hown hts hK hT9 hZ (fun _ h => h) hS10 (c_X2_rankIn l G Y P (o + 7) (on_qu hY) r15) trivial wd_X2_rankIn wV_X2_rankIn wL_X5_240 ((on_qu hY).o rfl) rfl rfl hl.1 rfl (Nat.le_of_ble_eq_true rfl) dX5_tokenComes_44 ⟨Nat.le_of_ble_eq_true rfl, Nat.le_of_ble_eq_true rfl⟩ ⟨Nat.zero_le _, Nat.zero_le _⟩ (fun r17 H11 locs hp11 hT11 hS11 hk11 => ?_)
      obtain ⟨hp11, he⟩ := hp11
      have he := he.symm
      subst he
      refine lv_aload_n hx hb dX5_tokenComes_47 rfl (lv_at hl 1 rfl) ?_
      refine h_getr (C := RX5) (T := TX5) (N := 11) hx hb hts inX5 hown hK hT9 (on_rg hY) rfl 3 rfl wF_X5_35 rfl dX5_tokenComes_48 ?_
      refine h_geti (C := RX9) (T := TX9) (N := 11) hx hb hts inX9 hown hK hT9 ((on_wa hY).o rfl) rfl 2 rfl wF_X5_212 rfl dX5_tokenComes_51 (fun p18 => ?_)
      refine lv_topi (fun x19 ex19 => ?_)
      refine lv_icmp_lt (tgt := 81) hx hb dX5_tokenComes_54 (by decide) (fun c20 => ?_) (fun c20 => ?_)
      · skip
        refine lv_iload_n hx hb dX5_tokenComes_81 rfl (lv_at hl 3 rfl) ?_
        refine lv_if_ne (tgt := 110) hx hb dX5_tokenComes_82 (by decide) (fun c21 => ?_) (fun c21 => ?_)
        · skip
          exact hret _ _ _ _ hT9 hS11 trivial dX5_tokenComes_110
        · skip
          refine lv_aload_n hx hb dX5_tokenComes_85 rfl (lv_at hl 1 rfl) ?_
          refine h_getr (C := RX5) (T := TX5) (N := 11) hx hb hts inX5 hown hK hT9 (on_rg hY) rfl 3 rfl wF_X5_35 rfl dX5_tokenComes_86 ?_
          refine lv_aload_n hx hb dX5_tokenComes_89 rfl (lv_at hl 1 rfl) ?_
          refine h_getr (C := RX5) (T := TX5) (N := 11) hx hb hts inX5 hown hK hT9 (on_rg hY) rfl 3 rfl wF_X5_35 rfl dX5_tokenComes_90 ?_
          refine h_geti (C := RX9) (T := TX9) (N := 11) hx hb hts inX9 hown hK hT9 ((on_wa hY).o rfl) rfl 3 rfl wF_X5_250 rfl dX5_tokenComes_93 (fun p22 => ?_)
          refine lv_topi (fun x23 ex23 => ?_)
          refine lv_aload_n hx hb dX5_tokenComes_96 rfl (lv_at hl 1 rfl) ?_
          refine h_getr (C := RX5) (T := TX5) (N := 11) hx hb hts inX5 hown hK hT9 (on_rg hY) rfl 1 rfl wF_X5_21 rfl dX5_tokenComes_97 ?_
          refine lv_iload_n hx hb dX5_tokenComes_100 rfl (lv_at hl 0 rfl) ?_
          refine h_callVi (T := TX2) (rest := [.int x23, .ref (o + 17)]) (As := [.int r15]) hx hb hml hown hts hK hT9 hZ (fun _ h => h) hS11 (c_X2_rankIn l G Y P (o + 7) (on_qu hY) r15) trivial wd_X2_rankIn wV_X2_rankIn wL_X5_240 ((on_qu hY).o rfl) rfl rfl hl.1 rfl (Nat.le_of_ble_eq_true rfl) dX5_tokenComes_101 ⟨Nat.le_of_ble_eq_true rfl, Nat.le_of_ble_eq_true rfl⟩ ⟨Nat.zero_le _, Nat.zero_le _⟩ (fun r24 H12 locs hp12 hT12 hS12 hk12 => ?_)
          obtain ⟨hp12, he⟩ := hp12
          have he := he.symm
          subst he
          refine h_callSi (rest := [.ref (o + 17)]) (As := [.int x23, .int r24]) hx hb hml hown hts hK hT9 hZ (fun _ h => h) hS12 (c_max l G Y x23 r24) trivial wd_J9_max_7cf53 wS_J9_max_7cf53 wL_X5_253 rfl hl.1 rfl (Nat.le_of_ble_eq_true rfl) dX5_tokenComes_104 ⟨Nat.le_of_ble_eq_true rfl, Nat.le_of_ble_eq_true rfl⟩ ⟨Nat.zero_le _, Nat.zero_le _⟩ (fun r25 H13 locs hp13 hT13 hS13 hk13 => ?_)
          obtain ⟨hp13, he⟩ := hp13
          have he := he.symm
          subst he
          refine h_puti (C := RX9) (T := TX9) (N := 11) hx hb hts inX9 tyX9 tyX9_ok nmX9 hown hK hT9 (fun _ h => h) hS13 ((on_wa hY).o rfl) rfl 3 rfl wF_X5_250 rfl rfl trivial rfl rfl dX5_tokenComes_107 (fun H14 locs hT14 hS14 hu14 => ?_)
          exact hret _ _ _ _ hT14 hS14 trivial dX5_tokenComes_110
      · skip
        refine lv_aload_n hx hb dX5_tokenComes_57 rfl (lv_at hl 1 rfl) ?_
        refine h_getr (C := RX5) (T := TX5) (N := 11) hx hb hts inX5 hown hK hT9 (on_rg hY) rfl 3 rfl wF_X5_35 rfl dX5_tokenComes_58 ?_
        refine lv_iload_n hx hb dX5_tokenComes_61 rfl (lv_at hl 2 rfl) ?_
        refine lv_aload_n hx hb dX5_tokenComes_62 rfl (lv_at hl 1 rfl) ?_
        refine h_getr (C := RX5) (T := TX5) (N := 11) hx hb hts inX5 hown hK hT9 (on_rg hY) rfl 1 rfl wF_X5_21 rfl dX5_tokenComes_63 ?_
        refine lv_iload_n hx hb dX5_tokenComes_66 rfl (lv_at hl 0 rfl) ?_
        refine h_callVv (T := TX9) (rest := []) (As := [.int u1, .ref (o + 7), .int r15]) hx hb hml hown hts hK hT9 hZ (fun _ h => h) hS11 (c_X9_becomeFrame l G Y P (o + 17) (o + 7) (on_wa hY) (on_qu hY) u1 r15) trivial wd_X9_becomeFrame wV_X9_becomeFrame wL_X5_243 ((on_wa hY).o rfl) rfl rfl hl.1 rfl (Nat.le_of_ble_eq_true rfl) dX5_tokenComes_67 ⟨Nat.le_of_ble_eq_true rfl, Nat.le_of_ble_eq_true rfl⟩ ⟨Nat.zero_le _, Nat.zero_le _⟩ (fun H15 locs hp15 hT15 hS15 hk15 => ?_)
        refine lv_aload_n hx hb dX5_tokenComes_70 rfl (lv_at hl 1 rfl) ?_
        refine h_getr (C := RX5) (T := TX5) (N := 11) hx hb hts inX5 hown hK hT15 (on_rg hY) rfl 1 rfl wF_X5_21 rfl dX5_tokenComes_71 ?_
        refine lv_iload_n hx hb dX5_tokenComes_74 rfl (lv_at hl 0 rfl) ?_
        refine h_callVv (T := TX2) (rest := []) (As := [.int r15]) hx hb hml hown hts hK hT15 hZ (fun _ h => h) hS15 (c_X2_removeSlot l G Y P (o + 7) (on_qu hY) r15) trivial wd_X2_removeSlot wV_X2_removeSlot wL_X5_247 ((on_qu hY).o rfl) rfl rfl hl.1 rfl (Nat.le_of_ble_eq_true rfl) dX5_tokenComes_75 ⟨Nat.le_of_ble_eq_true rfl, Nat.le_of_ble_eq_true rfl⟩ ⟨Nat.zero_le _, Nat.zero_le _⟩ (fun H16 locs hp16 hT16 hS16 hk16 => ?_)
        refine lv_goto (tgt := 110) hx hb dX5_tokenComes_78 (by decide) ?_
        exact hret _ _ _ _ hT16 hS16 trivial dX5_tokenComes_110
    · skip
      exact hret _ _ _ _ hT9 hS10 trivial dX5_tokenComes_38
set_option maxHeartbeats 4000000 in
set_option maxRecDepth 100000 in
theorem c_X5_frameComes (l : Launch) (G : hG) (Y : hW) (P : Int32 → Prop) (o : Nat) (hY : h_On Y o (ringE (tC P) o)) (u1 u2 : Int32) : hMv l yX5_frameComes cX5_frameComes 3 none 3 68 G Y [.ref (o), .int u1, .int u2] (fun H => True) (fun H H1 => True) := by
  refine h_ofv (by decide +kernel) (Nat.le_of_ble_eq_true rfl) ?_
  intro p e s m args below meth c H0 ls Q hx hb hts hown hml hK hZ hT0 hpr hS0 hl hret
  have hl : lv_has ls 3 [(0, .ref (o)), (1, .int u1), (2, .int u2)] := hl
  refine lv_aload_n hx hb dX5_frameComes_0 rfl (lv_at hl 0 rfl) ?_
  refine h_getr (C := RX5) (T := TX5) (N := 11) hx hb hts inX5 hown hK hT0 (on_rg hY) rfl 3 rfl wF_X5_35 rfl dX5_frameComes_1 ?_
  refine h_geti (C := RX9) (T := TX9) (N := 11) hx hb hts inX9 hown hK hT0 ((on_wa hY).o rfl) rfl 6 rfl wF_X5_265 rfl dX5_frameComes_4 (fun p1 => ?_)
  refine lv_topi (fun x2 ex2 => ?_)
  refine lv_iload_n hx hb dX5_frameComes_7 rfl (lv_at hl 1 rfl) ?_
  refine lv_icmp_ne (tgt := 19) hx hb dX5_frameComes_8 (by decide) (fun c3 => ?_) (fun c3 => ?_)
  · skip
    refine lv_iload_n hx hb dX5_frameComes_19 rfl (lv_at hl 2 rfl) ?_
    refine lv_if_ne (tgt := 48) hx hb dX5_frameComes_20 (by decide) (fun c4 => ?_) (fun c4 => ?_)
    · skip
      exact hret _ _ _ _ hT0 hS0 trivial dX5_frameComes_48
    · skip
      refine lv_aload_n hx hb dX5_frameComes_23 rfl (lv_at hl 0 rfl) ?_
      refine h_getr (C := RX5) (T := TX5) (N := 11) hx hb hts inX5 hown hK hT0 (on_rg hY) rfl 3 rfl wF_X5_35 rfl dX5_frameComes_24 ?_
      refine lv_aload_n hx hb dX5_frameComes_27 rfl (lv_at hl 0 rfl) ?_
      refine h_getr (C := RX5) (T := TX5) (N := 11) hx hb hts inX5 hown hK hT0 (on_rg hY) rfl 3 rfl wF_X5_35 rfl dX5_frameComes_28 ?_
      refine h_geti (C := RX9) (T := TX9) (N := 11) hx hb hts inX9 hown hK hT0 ((on_wa hY).o rfl) rfl 3 rfl wF_X5_250 rfl dX5_frameComes_31 (fun p5 => ?_)
      refine lv_topi (fun x6 ex6 => ?_)
      refine lv_aload_n hx hb dX5_frameComes_34 rfl (lv_at hl 0 rfl) ?_
      refine h_getr (C := RX5) (T := TX5) (N := 11) hx hb hts inX5 hown hK hT0 (on_rg hY) rfl 1 rfl wF_X5_21 rfl dX5_frameComes_35 ?_
      refine lv_iload_n hx hb dX5_frameComes_38 rfl (lv_at hl 1 rfl) ?_
      refine h_callVi (T := TX2) (rest := [.int x6, .ref (o + 17)]) (As := [.int u1]) hx hb hml hown hts hK hT0 hZ (fun _ h => h) hS0 (c_X2_firstRank l G Y P (o + 7) (on_qu hY) u1) trivial wd_X2_firstRank wV_X2_firstRank wL_X5_271 ((on_qu hY).o rfl) rfl rfl hl.1 rfl (Nat.le_of_ble_eq_true rfl) dX5_frameComes_39 ⟨Nat.le_of_ble_eq_true rfl, Nat.le_of_ble_eq_true rfl⟩ ⟨Nat.zero_le _, Nat.zero_le _⟩ (fun r7 H1 locs hp1 hT1 hS1 hk1 => ?_)
      obtain ⟨hp1, he⟩ := hp1
      have he := he.symm
      subst he
      refine h_callSi (rest := [.ref (o + 17)]) (As := [.int x6, .int r7]) hx hb hml hown hts hK hT0 hZ (fun _ h => h) hS1 (c_max l G Y x6 r7) trivial wd_J9_max_7cf53 wS_J9_max_7cf53 wL_X5_253 rfl hl.1 rfl (Nat.le_of_ble_eq_true rfl) dX5_frameComes_42 ⟨Nat.le_of_ble_eq_true rfl, Nat.le_of_ble_eq_true rfl⟩ ⟨Nat.zero_le _, Nat.zero_le _⟩ (fun r8 H2 locs hp2 hT2 hS2 hk2 => ?_)
      obtain ⟨hp2, he⟩ := hp2
      have he := he.symm
      subst he
      refine h_puti (C := RX9) (T := TX9) (N := 11) hx hb hts inX9 tyX9 tyX9_ok nmX9 hown hK hT0 (fun _ h => h) hS2 ((on_wa hY).o rfl) rfl 3 rfl wF_X5_250 rfl rfl trivial rfl rfl dX5_frameComes_45 (fun H3 locs hT3 hS3 hu3 => ?_)
      exact hret _ _ _ _ hT3 hS3 trivial dX5_frameComes_48
  · skip
    refine lv_aload_n hx hb dX5_frameComes_11 rfl (lv_at hl 0 rfl) ?_
    refine h_getr (C := RX5) (T := TX5) (N := 11) hx hb hts inX5 hown hK hT0 (on_rg hY) rfl 3 rfl wF_X5_35 rfl dX5_frameComes_12 ?_
    refine lv_iconst (v := 1) hx hb dX5_frameComes_15 (by decide) ?_
    refine h_puti (C := RX9) (T := TX9) (N := 11) hx hb hts inX9 tyX9 tyX9_ok nmX9 hown hK hT0 (fun _ h => h) hS0 ((on_wa hY).o rfl) rfl 8 rfl wF_X5_268 rfl rfl (Or.inr rfl) rfl rfl dX5_frameComes_16 (fun H4 locs hT4 hS4 hu4 => ?_)
    refine lv_iload_n hx hb dX5_frameComes_19 rfl (lv_at hl 2 rfl) ?_
    refine lv_if_ne (tgt := 48) hx hb dX5_frameComes_20 (by decide) (fun c9 => ?_) (fun c9 => ?_)
    · skip
      exact hret _ _ _ _ hT4 hS4 trivial dX5_frameComes_48
    · skip
      refine lv_aload_n hx hb dX5_frameComes_23 rfl (lv_at hl 0 rfl) ?_
      refine h_getr (C := RX5) (T := TX5) (N := 11) hx hb hts inX5 hown hK hT4 (on_rg hY) rfl 3 rfl wF_X5_35 rfl dX5_frameComes_24 ?_
      refine lv_aload_n hx hb dX5_frameComes_27 rfl (lv_at hl 0 rfl) ?_
      refine h_getr (C := RX5) (T := TX5) (N := 11) hx hb hts inX5 hown hK hT4 (on_rg hY) rfl 3 rfl wF_X5_35 rfl dX5_frameComes_28 ?_
      refine h_geti (C := RX9) (T := TX9) (N := 11) hx hb hts inX9 hown hK hT4 ((on_wa hY).o rfl) rfl 3 rfl wF_X5_250 rfl dX5_frameComes_31 (fun p10 => ?_)
      refine lv_topi (fun x11 ex11 => ?_)
      refine lv_aload_n hx hb dX5_frameComes_34 rfl (lv_at hl 0 rfl) ?_
      refine h_getr (C := RX5) (T := TX5) (N := 11) hx hb hts inX5 hown hK hT4 (on_rg hY) rfl 1 rfl wF_X5_21 rfl dX5_frameComes_35 ?_
      refine lv_iload_n hx hb dX5_frameComes_38 rfl (lv_at hl 1 rfl) ?_
      refine h_callVi (T := TX2) (rest := [.int x11, .ref (o + 17)]) (As := [.int u1]) hx hb hml hown hts hK hT4 hZ (fun _ h => h) hS4 (c_X2_firstRank l G Y P (o + 7) (on_qu hY) u1) trivial wd_X2_firstRank wV_X2_firstRank wL_X5_271 ((on_qu hY).o rfl) rfl rfl hl.1 rfl (Nat.le_of_ble_eq_true rfl) dX5_frameComes_39 ⟨Nat.le_of_ble_eq_true rfl, Nat.le_of_ble_eq_true rfl⟩ ⟨Nat.zero_le _, Nat.zero_le _⟩ (fun r12 H5 locs hp5 hT5 hS5 hk5 => ?_)
      obtain ⟨hp5, he⟩ := hp5
      have he := he.symm
      subst he
      refine h_callSi (rest := [.ref (o + 17)]) (As := [.int x11, .int r12]) hx hb hml hown hts hK hT4 hZ (fun _ h => h) hS5 (c_max l G Y x11 r12) trivial wd_J9_max_7cf53 wS_J9_max_7cf53 wL_X5_253 rfl hl.1 rfl (Nat.le_of_ble_eq_true rfl) dX5_frameComes_42 ⟨Nat.le_of_ble_eq_true rfl, Nat.le_of_ble_eq_true rfl⟩ ⟨Nat.zero_le _, Nat.zero_le _⟩ (fun r13 H6 locs hp6 hT6 hS6 hk6 => ?_)
      obtain ⟨hp6, he⟩ := hp6
      have he := he.symm
      subst he
      refine h_puti (C := RX9) (T := TX9) (N := 11) hx hb hts inX9 tyX9 tyX9_ok nmX9 hown hK hT4 (fun _ h => h) hS6 ((on_wa hY).o rfl) rfl 3 rfl wF_X5_250 rfl rfl trivial rfl rfl dX5_frameComes_45 (fun H7 locs hT7 hS7 hu7 => ?_)
      exact hret _ _ _ _ hT7 hS7 trivial dX5_frameComes_48
set_option maxHeartbeats 4000000 in
set_option maxRecDepth 100000 in
theorem c_X5_endFrame (l : Launch) (G : hG) (Y : hW) (P : Int32 → Prop) (o : Nat) (hY : h_On Y o (ringE (tC P) o)) (u1 u2 : Int32) : hMv l yX5_endFrame cX5_endFrame 5 none 3 68 G Y [.ref (o), .int u1, .int u2] (fun H => True) (fun H H1 => True) := by
  refine h_ofv (by decide +kernel) (Nat.le_of_ble_eq_true rfl) ?_
  intro p e s m args below meth c H0 ls Q hx hb hts hown hml hK hZ hT0 hpr hS0 hl hret
  have hl : lv_has ls 5 [(0, .ref (o)), (1, .int u1), (2, .int u2)] := hl
  refine lv_aload_n hx hb dX5_endFrame_0 rfl (lv_at hl 0 rfl) ?_
  refine h_getr (C := RX5) (T := TX5) (N := 11) hx hb hts inX5 hown hK hT0 (on_rg hY) rfl 3 rfl wF_X5_35 rfl dX5_endFrame_1 ?_
  refine h_geti (C := RX9) (T := TX9) (N := 11) hx hb hts inX9 hown hK hT0 ((on_wa hY).o rfl) rfl 8 rfl wF_X5_268 rfl dX5_endFrame_4 (fun p1 => ?_)
  refine lv_topi (fun x2 ex2 => ?_)
  refine lv_if_eq (tgt := 73) hx hb dX5_endFrame_7 (by decide) (fun c3 => ?_) (fun c3 => ?_)
  · skip
    refine lv_aload_n hx hb dX5_endFrame_73 rfl (lv_at hl 0 rfl) ?_
    refine h_getr (C := RX5) (T := TX5) (N := 11) hx hb hts inX5 hown hK hT0 (on_rg hY) rfl 5 rfl wF_X5_49 rfl dX5_endFrame_74 ?_
    refine lv_iconst (v := 1) hx hb dX5_endFrame_77 (by decide) ?_
    refine lv_aload_n hx hb dX5_endFrame_78 rfl (lv_at hl 0 rfl) ?_
    refine h_geti (C := RX5) (T := TX5) (N := 11) hx hb hts inX5 hown hK hT0 (on_rg hY) rfl 6 rfl wF_X5_53 rfl dX5_endFrame_79 (fun p4 => ?_)
    refine lv_topi (fun x5 ex5 => ?_)
    refine lv_iload_n hx hb dX5_endFrame_82 rfl (lv_at hl 1 rfl) ?_
    refine h_callVv (T := TX0) (rest := []) (As := [.int 1, .int x5, .int u1]) hx hb hml hown hts hK hT0 hZ (fun _ h => h) hS0 (c_X0_enter l G Y P (o + 19) (on_bo hY) 1 x5 u1) trivial wd_X0_enter wV_X0_enter wL_X5_185 ((on_bo hY).o rfl) rfl rfl hl.1 rfl (Nat.le_of_ble_eq_true rfl) dX5_endFrame_83 ⟨Nat.le_of_ble_eq_true rfl, Nat.le_of_ble_eq_true rfl⟩ ⟨Nat.zero_le _, Nat.zero_le _⟩ (fun H1 locs hp1 hT1 hS1 hk1 => ?_)
    refine lv_aload_n hx hb dX5_endFrame_86 rfl (lv_at hl 0 rfl) ?_
    refine h_getr (C := RX5) (T := TX5) (N := 11) hx hb hts inX5 hown hK hT1 (on_rg hY) rfl 3 rfl wF_X5_35 rfl dX5_endFrame_87 ?_
    refine h_geti (C := RX9) (T := TX9) (N := 11) hx hb hts inX9 hown hK hT1 ((on_wa hY).o rfl) rfl 2 rfl wF_X5_212 rfl dX5_endFrame_90 (fun p6 => ?_)
    refine lv_topi (fun x7 ex7 => ?_)
    refine lv_istore_n (lv' := [(3, .int x7), (0, .ref (o)), (1, .int u1), (2, .int u2)]) hx hb dX5_endFrame_93 rfl hl (by decide) rfl (fun ls hl => ?_)
    refine lv_iload_n hx hb dX5_endFrame_94 rfl (lv_at hl 3 rfl) ?_
    refine lv_if_eq (tgt := 108) hx hb dX5_endFrame_95 (by decide) (fun c8 => ?_) (fun c8 => ?_)
    · skip
      refine lv_aload_n hx hb dX5_endFrame_108 rfl (lv_at hl 1 rfl) ?_
      refine h_getr (C := RX5) (T := TX5) (N := 11) hx hb hts inX5 hown hK hT1 (on_rg hY) rfl 3 rfl wF_X5_35 rfl dX5_endFrame_109 ?_
      refine h_geti (C := RX9) (T := TX9) (N := 11) hx hb hts inX9 hown hK hT1 ((on_wa hY).o rfl) rfl 3 rfl wF_X5_250 rfl dX5_endFrame_112 (fun p9 => ?_)
      refine lv_topi (fun x10 ex10 => ?_)
      refine lv_aload_n hx hb dX5_endFrame_115 rfl (lv_at hl 1 rfl) ?_
      refine h_getr (C := RX5) (T := TX5) (N := 11) hx hb hts inX5 hown hK hT1 (on_rg hY) rfl 1 rfl wF_X5_21 rfl dX5_endFrame_116 ?_
      refine lv_iload_n hx hb dX5_endFrame_119 rfl (lv_at hl 2 rfl) ?_
      refine h_callVi (T := TX2) (rest := [.int x10]) (As := [.int u1]) hx hb hml hown hts hK hT1 hZ (fun _ h => h) hS1 (c_X2_firstRank l G Y P (o + 7) (on_qu hY) u1) trivial wd_X2_firstRank wV_X2_firstRank wL_X5_271 ((on_qu hY).o rfl) rfl rfl hl.1 rfl (Nat.le_of_ble_eq_true rfl) dX5_endFrame_120 ⟨Nat.le_of_ble_eq_true rfl, Nat.le_of_ble_eq_true rfl⟩ ⟨Nat.zero_le _, Nat.zero_le _⟩ (fun r11 H2 locs hp2 hT2 hS2 hk2 => ?_)
      obtain ⟨hp2, he⟩ := hp2
      have he := he.symm
      subst he
      refine h_callSi (rest := []) (As := [.int x10, .int r11]) hx hb hml hown hts hK hT1 hZ (fun _ h => h) hS2 (c_max l G Y x10 r11) trivial wd_J9_max_7cf53 wS_J9_max_7cf53 wL_X5_253 rfl hl.1 rfl (Nat.le_of_ble_eq_true rfl) dX5_endFrame_123 ⟨Nat.le_of_ble_eq_true rfl, Nat.le_of_ble_eq_true rfl⟩ ⟨Nat.zero_le _, Nat.zero_le _⟩ (fun r12 H3 locs hp3 hT3 hS3 hk3 => ?_)
      obtain ⟨hp3, he⟩ := hp3
      have he := he.symm
      subst he
      refine lv_istore (lv' := [(4, .int r12), (3, .int x7), (0, .ref (o)), (1, .int u1), (2, .int u2)]) hx hb dX5_endFrame_126 hl (by decide) rfl (fun ls hl => ?_)
      refine lv_iload hx hb dX5_endFrame_128 (lv_at hl 0 rfl) ?_
      refine lv_iload_n hx hb dX5_endFrame_130 rfl (lv_at hl 1 rfl) ?_
      refine lv_icmp_gt (tgt := 146) hx hb dX5_endFrame_131 (by decide) (fun c13 => ?_) (fun c13 => ?_)
      · skip
        refine lv_aload_n hx hb dX5_endFrame_146 rfl (lv_at hl 2 rfl) ?_
        refine h_getr (C := RX5) (T := TX5) (N := 11) hx hb hts inX5 hown hK hT1 (on_rg hY) rfl 3 rfl wF_X5_35 rfl dX5_endFrame_147 ?_
        refine lv_iload_n hx hb dX5_endFrame_150 rfl (lv_at hl 3 rfl) ?_
        refine lv_iload hx hb dX5_endFrame_151 (lv_at hl 0 rfl) ?_
        refine lv_iconst (v := 0) hx hb dX5_endFrame_153 (by decide) ?_
        refine h_callVv (T := TX9) (rest := []) (As := [.int u1, .int r12, .int 0]) hx hb hml hown hts hK hT1 hZ (fun _ h => h) hS3 (c_X9_becomeToken l G Y P (o + 17) (on_wa hY) u1 r12 0) trivial wd_X9_becomeToken wV_X9_becomeToken wL_X5_192 ((on_wa hY).o rfl) rfl rfl hl.1 rfl (Nat.le_of_ble_eq_true rfl) dX5_endFrame_154 ⟨Nat.le_of_ble_eq_true rfl, Nat.le_of_ble_eq_true rfl⟩ ⟨Nat.zero_le _, Nat.zero_le _⟩ (fun H4 locs hp4 hT4 hS4 hk4 => ?_)
        refine lv_aload_n hx hb dX5_endFrame_157 rfl (lv_at hl 2 rfl) ?_
        refine h_getr (C := RX5) (T := TX5) (N := 11) hx hb hts inX5 hown hK hT4 (on_rg hY) rfl 2 rfl wF_X5_28 rfl dX5_endFrame_158 ?_
        refine lv_iload_n hx hb dX5_endFrame_161 rfl (lv_at hl 3 rfl) ?_
        refine lv_iconst (v := 0) hx hb dX5_endFrame_162 (by decide) ?_
        refine h_callVi (T := TX3) (rest := []) (As := [.int u1, .int 0]) hx hb hml hown hts hK hT4 hZ (fun _ h => h) hS4 (c_X3_newAt l G Y P (o + 13) (on_ra hY) u1 0) trivial wd_X3_newAt wV_X3_newAt wL_X5_130 ((on_ra hY).o rfl) rfl rfl hl.1 rfl (Nat.le_of_ble_eq_true rfl) dX5_endFrame_163 ⟨Nat.le_of_ble_eq_true rfl, Nat.le_of_ble_eq_true rfl⟩ ⟨Nat.zero_le _, Nat.zero_le _⟩ (fun r14 H5 locs hp5 hT5 hS5 hk5 => ?_)
        obtain ⟨hp5, he⟩ := hp5
        have he := he.symm
        subst he
        refine lv_iload_n hx hb dX5_endFrame_166 rfl (lv_at hl 1 rfl) ?_
        refine lv_icmp_ne (tgt := 183) hx hb dX5_endFrame_167 (by decide) (fun c15 => ?_) (fun c15 => ?_)
        · skip
          refine lv_aload_n hx hb dX5_endFrame_183 rfl (lv_at hl 2 rfl) ?_
          refine h_getr (C := RX5) (T := TX5) (N := 11) hx hb hts inX5 hown hK hT4 (on_rg hY) rfl 2 rfl wF_X5_28 rfl dX5_endFrame_184 ?_
          refine lv_iload_n hx hb dX5_endFrame_187 rfl (lv_at hl 3 rfl) ?_
          refine lv_iload_n hx hb dX5_endFrame_188 rfl (lv_at hl 1 rfl) ?_
          refine lv_iload hx hb dX5_endFrame_189 (lv_at hl 0 rfl) ?_
          refine h_callVv (T := TX3) (rest := []) (As := [.int u1, .int x7, .int r12]) hx hb hml hown hts hK hT4 hZ (fun _ h => h) hS5 (c_X3_push l G Y P (o + 13) (on_ra hY) u1 x7 r12) trivial wd_X3_push wV_X3_push wL_X5_281 ((on_ra hY).o rfl) rfl rfl hl.1 rfl (Nat.le_of_ble_eq_true rfl) dX5_endFrame_191 ⟨Nat.le_of_ble_eq_true rfl, Nat.le_of_ble_eq_true rfl⟩ ⟨Nat.zero_le _, Nat.zero_le _⟩ (fun H6 locs hp6 hT6 hS6 hk6 => ?_)
          exact hret _ _ _ _ hT6 hS6 trivial dX5_endFrame_194
        · skip
          refine lv_aload_n hx hb dX5_endFrame_170 rfl (lv_at hl 2 rfl) ?_
          refine h_getr (C := RX5) (T := TX5) (N := 11) hx hb hts inX5 hown hK hT4 (on_rg hY) rfl 2 rfl wF_X5_28 rfl dX5_endFrame_171 ?_
          refine lv_iload_n hx hb dX5_endFrame_174 rfl (lv_at hl 3 rfl) ?_
          refine lv_iload hx hb dX5_endFrame_175 (lv_at hl 0 rfl) ?_
          refine h_callVv (T := TX3) (rest := []) (As := [.int u1, .int r12]) hx hb hml hown hts hK hT4 hZ (fun _ h => h) hS5 (c_X3_setTopNew l G Y P (o + 13) (on_ra hY) u1 r12) trivial wd_X3_setTopNew wV_X3_setTopNew wL_X5_258 ((on_ra hY).o rfl) rfl rfl hl.1 rfl (Nat.le_of_ble_eq_true rfl) dX5_endFrame_177 ⟨Nat.le_of_ble_eq_true rfl, Nat.le_of_ble_eq_true rfl⟩ ⟨Nat.zero_le _, Nat.zero_le _⟩ (fun H7 locs hp7 hT7 hS7 hk7 => ?_)
          refine lv_goto (tgt := 194) hx hb dX5_endFrame_180 (by decide) ?_
          exact hret _ _ _ _ hT7 hS7 trivial dX5_endFrame_194
      · skip
        refine lv_aload_n hx hb dX5_endFrame_134 rfl (lv_at hl 2 rfl) ?_
        refine h_getr (C := RX5) (T := TX5) (N := 11) hx hb hts inX5 hown hK hT1 (on_rg hY) rfl 3 rfl wF_X5_35 rfl dX5_endFrame_135 ?_
        refine lv_iload_n hx hb dX5_endFrame_138 rfl (lv_at hl 3 rfl) ?_
        refine lv_iload_n hx hb dX5_endFrame_139 rfl (lv_at hl 1 rfl) ?_
        refine lv_iload hx hb dX5_endFrame_140 (lv_at hl 0 rfl) ?_
        refine h_callVv (T := TX9) (rest := []) (As := [.int u1, .int x7, .int r12]) hx hb hml hown hts hK hT1 hZ (fun _ h => h) hS3 (c_X9_becomeToken l G Y P (o + 17) (on_wa hY) u1 x7 r12) trivial wd_X9_becomeToken wV_X9_becomeToken wL_X5_192 ((on_wa hY).o rfl) rfl rfl hl.1 rfl (Nat.le_of_ble_eq_true rfl) dX5_endFrame_142 ⟨Nat.le_of_ble_eq_true rfl, Nat.le_of_ble_eq_true rfl⟩ ⟨Nat.zero_le _, Nat.zero_le _⟩ (fun H8 locs hp8 hT8 hS8 hk8 => ?_)
        exact hret _ _ _ _ hT8 hS8 trivial dX5_endFrame_145
    · skip
      refine lv_aload_n hx hb dX5_endFrame_98 rfl (lv_at hl 1 rfl) ?_
      refine h_getr (C := RX5) (T := TX5) (N := 11) hx hb hts inX5 hown hK hT1 (on_rg hY) rfl 3 rfl wF_X5_35 rfl dX5_endFrame_99 ?_
      refine h_geti (C := RX9) (T := TX9) (N := 11) hx hb hts inX9 hown hK hT1 ((on_wa hY).o rfl) rfl 3 rfl wF_X5_250 rfl dX5_endFrame_102 (fun p16 => ?_)
      refine lv_topi (fun x17 ex17 => ?_)
      refine lv_goto (tgt := 126) hx hb dX5_endFrame_105 (by decide) ?_
      refine lv_istore (lv' := [(4, .int x17), (3, .int x7), (0, .ref (o)), (1, .int u1), (2, .int u2)]) hx hb dX5_endFrame_126 hl (by decide) rfl (fun ls hl => ?_)
      refine lv_iload hx hb dX5_endFrame_128 (lv_at hl 0 rfl) ?_
      refine lv_iload_n hx hb dX5_endFrame_130 rfl (lv_at hl 1 rfl) ?_
      refine lv_icmp_gt (tgt := 146) hx hb dX5_endFrame_131 (by decide) (fun c18 => ?_) (fun c18 => ?_)
      · skip
        refine lv_aload_n hx hb dX5_endFrame_146 rfl (lv_at hl 2 rfl) ?_
        refine h_getr (C := RX5) (T := TX5) (N := 11) hx hb hts inX5 hown hK hT1 (on_rg hY) rfl 3 rfl wF_X5_35 rfl dX5_endFrame_147 ?_
        refine lv_iload_n hx hb dX5_endFrame_150 rfl (lv_at hl 3 rfl) ?_
        refine lv_iload hx hb dX5_endFrame_151 (lv_at hl 0 rfl) ?_
        refine lv_iconst (v := 0) hx hb dX5_endFrame_153 (by decide) ?_
        refine h_callVv (T := TX9) (rest := []) (As := [.int u1, .int x17, .int 0]) hx hb hml hown hts hK hT1 hZ (fun _ h => h) hS1 (c_X9_becomeToken l G Y P (o + 17) (on_wa hY) u1 x17 0) trivial wd_X9_becomeToken wV_X9_becomeToken wL_X5_192 ((on_wa hY).o rfl) rfl rfl hl.1 rfl (Nat.le_of_ble_eq_true rfl) dX5_endFrame_154 ⟨Nat.le_of_ble_eq_true rfl, Nat.le_of_ble_eq_true rfl⟩ ⟨Nat.zero_le _, Nat.zero_le _⟩ (fun H9 locs hp9 hT9 hS9 hk9 => ?_)
        refine lv_aload_n hx hb dX5_endFrame_157 rfl (lv_at hl 2 rfl) ?_
        refine h_getr (C := RX5) (T := TX5) (N := 11) hx hb hts inX5 hown hK hT9 (on_rg hY) rfl 2 rfl wF_X5_28 rfl dX5_endFrame_158 ?_
        refine lv_iload_n hx hb dX5_endFrame_161 rfl (lv_at hl 3 rfl) ?_
        refine lv_iconst (v := 0) hx hb dX5_endFrame_162 (by decide) ?_
        refine h_callVi (T := TX3) (rest := []) (As := [.int u1, .int 0]) hx hb hml hown hts hK hT9 hZ (fun _ h => h) hS9 (c_X3_newAt l G Y P (o + 13) (on_ra hY) u1 0) trivial wd_X3_newAt wV_X3_newAt wL_X5_130 ((on_ra hY).o rfl) rfl rfl hl.1 rfl (Nat.le_of_ble_eq_true rfl) dX5_endFrame_163 ⟨Nat.le_of_ble_eq_true rfl, Nat.le_of_ble_eq_true rfl⟩ ⟨Nat.zero_le _, Nat.zero_le _⟩ (fun r19 H10 locs hp10 hT10 hS10 hk10 => ?_)
        obtain ⟨hp10, he⟩ := hp10
        have he := he.symm
        subst he
        refine lv_iload_n hx hb dX5_endFrame_166 rfl (lv_at hl 1 rfl) ?_
        refine lv_icmp_ne (tgt := 183) hx hb dX5_endFrame_167 (by decide) (fun c20 => ?_) (fun c20 => ?_)
        · skip
          refine lv_aload_n hx hb dX5_endFrame_183 rfl (lv_at hl 2 rfl) ?_
          refine h_getr (C := RX5) (T := TX5) (N := 11) hx hb hts inX5 hown hK hT9 (on_rg hY) rfl 2 rfl wF_X5_28 rfl dX5_endFrame_184 ?_
          refine lv_iload_n hx hb dX5_endFrame_187 rfl (lv_at hl 3 rfl) ?_
          refine lv_iload_n hx hb dX5_endFrame_188 rfl (lv_at hl 1 rfl) ?_
          refine lv_iload hx hb dX5_endFrame_189 (lv_at hl 0 rfl) ?_
          refine h_callVv (T := TX3) (rest := []) (As := [.int u1, .int x7, .int x17]) hx hb hml hown hts hK hT9 hZ (fun _ h => h) hS10 (c_X3_push l G Y P (o + 13) (on_ra hY) u1 x7 x17) trivial wd_X3_push wV_X3_push wL_X5_281 ((on_ra hY).o rfl) rfl rfl hl.1 rfl (Nat.le_of_ble_eq_true rfl) dX5_endFrame_191 ⟨Nat.le_of_ble_eq_true rfl, Nat.le_of_ble_eq_true rfl⟩ ⟨Nat.zero_le _, Nat.zero_le _⟩ (fun H11 locs hp11 hT11 hS11 hk11 => ?_)
          exact hret _ _ _ _ hT11 hS11 trivial dX5_endFrame_194
        · skip
          refine lv_aload_n hx hb dX5_endFrame_170 rfl (lv_at hl 2 rfl) ?_
          refine h_getr (C := RX5) (T := TX5) (N := 11) hx hb hts inX5 hown hK hT9 (on_rg hY) rfl 2 rfl wF_X5_28 rfl dX5_endFrame_171 ?_
          refine lv_iload_n hx hb dX5_endFrame_174 rfl (lv_at hl 3 rfl) ?_
          refine lv_iload hx hb dX5_endFrame_175 (lv_at hl 0 rfl) ?_
          refine h_callVv (T := TX3) (rest := []) (As := [.int u1, .int x17]) hx hb hml hown hts hK hT9 hZ (fun _ h => h) hS10 (c_X3_setTopNew l G Y P (o + 13) (on_ra hY) u1 x17) trivial wd_X3_setTopNew wV_X3_setTopNew wL_X5_258 ((on_ra hY).o rfl) rfl rfl hl.1 rfl (Nat.le_of_ble_eq_true rfl) dX5_endFrame_177 ⟨Nat.le_of_ble_eq_true rfl, Nat.le_of_ble_eq_true rfl⟩ ⟨Nat.zero_le _, Nat.zero_le _⟩ (fun H12 locs hp12 hT12 hS12 hk12 => ?_)
          refine lv_goto (tgt := 194) hx hb dX5_endFrame_180 (by decide) ?_
          exact hret _ _ _ _ hT12 hS12 trivial dX5_endFrame_194
      · skip
        refine lv_aload_n hx hb dX5_endFrame_134 rfl (lv_at hl 2 rfl) ?_
        refine h_getr (C := RX5) (T := TX5) (N := 11) hx hb hts inX5 hown hK hT1 (on_rg hY) rfl 3 rfl wF_X5_35 rfl dX5_endFrame_135 ?_
        refine lv_iload_n hx hb dX5_endFrame_138 rfl (lv_at hl 3 rfl) ?_
        refine lv_iload_n hx hb dX5_endFrame_139 rfl (lv_at hl 1 rfl) ?_
        refine lv_iload hx hb dX5_endFrame_140 (lv_at hl 0 rfl) ?_
        refine h_callVv (T := TX9) (rest := []) (As := [.int u1, .int x7, .int x17]) hx hb hml hown hts hK hT1 hZ (fun _ h => h) hS1 (c_X9_becomeToken l G Y P (o + 17) (on_wa hY) u1 x7 x17) trivial wd_X9_becomeToken wV_X9_becomeToken wL_X5_192 ((on_wa hY).o rfl) rfl rfl hl.1 rfl (Nat.le_of_ble_eq_true rfl) dX5_endFrame_142 ⟨Nat.le_of_ble_eq_true rfl, Nat.le_of_ble_eq_true rfl⟩ ⟨Nat.zero_le _, Nat.zero_le _⟩ (fun H13 locs hp13 hT13 hS13 hk13 => ?_)
        exact hret _ _ _ _ hT13 hS13 trivial dX5_endFrame_145
  · skip
    refine lv_aload_n hx hb dX5_endFrame_10 rfl (lv_at hl 0 rfl) ?_
    refine h_getr (C := RX5) (T := TX5) (N := 11) hx hb hts inX5 hown hK hT0 (on_rg hY) rfl 5 rfl wF_X5_49 rfl dX5_endFrame_11 ?_
    refine lv_aload_n hx hb dX5_endFrame_14 rfl (lv_at hl 0 rfl) ?_
    refine h_getr (C := RX5) (T := TX5) (N := 11) hx hb hts inX5 hown hK hT0 (on_rg hY) rfl 3 rfl wF_X5_35 rfl dX5_endFrame_15 ?_
    refine lv_aload_n hx hb dX5_endFrame_18 rfl (lv_at hl 0 rfl) ?_
    refine h_geti (C := RX5) (T := TX5) (N := 11) hx hb hts inX5 hown hK hT0 (on_rg hY) rfl 6 rfl wF_X5_53 rfl dX5_endFrame_19 (fun p21 => ?_)
    refine lv_topi (fun x22 ex22 => ?_)
    refine h_callVv (T := TX0) (rest := []) (As := [.ref (o + 17), .int x22]) hx hb hml hown hts hK hT0 hZ (fun _ h => h) hS0 (c_X0_keepGot l G Y P (o + 19) (o + 17) (on_bo hY) (on_wa hY) (by omega) x22) trivial wd_X0_keepGot wV_X0_keepGot wL_X5_274 ((on_bo hY).o rfl) rfl rfl hl.1 rfl (Nat.le_of_ble_eq_true rfl) dX5_endFrame_22 ⟨Nat.le_of_ble_eq_true rfl, Nat.le_of_ble_eq_true rfl⟩ ⟨Nat.zero_le _, Nat.zero_le _⟩ (fun H14 locs hp14 hT14 hS14 hk14 => ?_)
    refine lv_aload_n hx hb dX5_endFrame_25 rfl (lv_at hl 0 rfl) ?_
    refine h_getr (C := RX5) (T := TX5) (N := 11) hx hb hts inX5 hown hK hT14 (on_rg hY) rfl 0 rfl wF_X5_12 rfl dX5_endFrame_26 ?_
    refine lv_aload_n hx hb dX5_endFrame_29 rfl (lv_at hl 0 rfl) ?_
    refine h_getr (C := RX5) (T := TX5) (N := 11) hx hb hts inX5 hown hK hT14 (on_rg hY) rfl 3 rfl wF_X5_35 rfl dX5_endFrame_30 ?_
    refine h_geti (C := RX9) (T := TX9) (N := 11) hx hb hts inX9 hown hK hT14 ((on_wa hY).o rfl) rfl 5 rfl wF_X5_225 rfl dX5_endFrame_33 (fun p23 => ?_)
    refine lv_topi (fun x24 ex24 => ?_)
    refine lv_aload_n hx hb dX5_endFrame_36 rfl (lv_at hl 0 rfl) ?_
    refine h_getr (C := RX5) (T := TX5) (N := 11) hx hb hts inX5 hown hK hT14 (on_rg hY) rfl 3 rfl wF_X5_35 rfl dX5_endFrame_37 ?_
    refine h_geti (C := RX9) (T := TX9) (N := 11) hx hb hts inX9 hown hK hT14 ((on_wa hY).o rfl) rfl 6 rfl wF_X5_265 rfl dX5_endFrame_40 (fun p25 => ?_)
    refine lv_topi (fun x26 ex26 => ?_)
    refine h_callVv (T := TX7) (rest := []) (As := [.int x24, .int x26]) hx hb hml hown hts hK hT14 hZ (fun _ h => h) hS14 (c_X7_countGot l G Y P (o + 1) (on_st hY) x24 x26) trivial wd_X7_countGot wV_X7_countGot wL_X5_278 ((on_st hY).o rfl) rfl rfl hl.1 rfl (Nat.le_of_ble_eq_true rfl) dX5_endFrame_43 ⟨Nat.le_of_ble_eq_true rfl, Nat.le_of_ble_eq_true rfl⟩ ⟨Nat.zero_le _, Nat.zero_le _⟩ (fun H15 locs hp15 hT15 hS15 hk15 => ?_)
    refine lv_aload_n hx hb dX5_endFrame_46 rfl (lv_at hl 0 rfl) ?_
    refine h_getr (C := RX5) (T := TX5) (N := 11) hx hb hts inX5 hown hK hT15 (on_rg hY) rfl 5 rfl wF_X5_49 rfl dX5_endFrame_47 ?_
    refine lv_iconst (v := 0) hx hb dX5_endFrame_50 (by decide) ?_
    refine lv_aload_n hx hb dX5_endFrame_51 rfl (lv_at hl 0 rfl) ?_
    refine h_geti (C := RX5) (T := TX5) (N := 11) hx hb hts inX5 hown hK hT15 (on_rg hY) rfl 6 rfl wF_X5_53 rfl dX5_endFrame_52 (fun p27 => ?_)
    refine lv_topi (fun x28 ex28 => ?_)
    refine lv_iload_n hx hb dX5_endFrame_55 rfl (lv_at hl 1 rfl) ?_
    refine h_callVv (T := TX0) (rest := []) (As := [.int 0, .int x28, .int u1]) hx hb hml hown hts hK hT15 hZ (fun _ h => h) hS15 (c_X0_enter l G Y P (o + 19) (on_bo hY) 0 x28 u1) trivial wd_X0_enter wV_X0_enter wL_X5_185 ((on_bo hY).o rfl) rfl rfl hl.1 rfl (Nat.le_of_ble_eq_true rfl) dX5_endFrame_56 ⟨Nat.le_of_ble_eq_true rfl, Nat.le_of_ble_eq_true rfl⟩ ⟨Nat.zero_le _, Nat.zero_le _⟩ (fun H16 locs hp16 hT16 hS16 hk16 => ?_)
    refine lv_aload_n hx hb dX5_endFrame_59 rfl (lv_at hl 0 rfl) ?_
    refine lv_aload_n hx hb dX5_endFrame_60 rfl (lv_at hl 0 rfl) ?_
    refine h_getr (C := RX5) (T := TX5) (N := 11) hx hb hts inX5 hown hK hT16 (on_rg hY) rfl 3 rfl wF_X5_35 rfl dX5_endFrame_61 ?_
    refine h_geti (C := RX9) (T := TX9) (N := 11) hx hb hts inX9 hown hK hT16 ((on_wa hY).o rfl) rfl 9 rfl wF_X5_145 rfl dX5_endFrame_64 (fun p29 => ?_)
    refine lv_topi (fun x30 ex30 => ?_)
    refine h_puti (C := RX5) (T := TX5) (N := 11) hx hb hts inX5 tyX5 tyX5_ok nmX5 hown hK hT16 (fun _ h => h) hS16 (on_rg hY) rfl 8 rfl wF_X5_60 rfl rfl trivial rfl rfl dX5_endFrame_67 (fun H17 locs hT17 hS17 hu17 => ?_)
    refine lv_goto (tgt := 86) hx hb dX5_endFrame_70 (by decide) ?_
    refine lv_aload_n hx hb dX5_endFrame_86 rfl (lv_at hl 0 rfl) ?_
    refine h_getr (C := RX5) (T := TX5) (N := 11) hx hb hts inX5 hown hK hT17 (on_rg hY) rfl 3 rfl wF_X5_35 rfl dX5_endFrame_87 ?_
    refine h_geti (C := RX9) (T := TX9) (N := 11) hx hb hts inX9 hown hK hT17 ((on_wa hY).o rfl) rfl 2 rfl wF_X5_212 rfl dX5_endFrame_90 (fun p31 => ?_)
    refine lv_topi (fun x32 ex32 => ?_)
    refine lv_istore_n (lv' := [(3, .int x32), (0, .ref (o)), (1, .int u1), (2, .int u2)]) hx hb dX5_endFrame_93 rfl hl (by decide) rfl (fun ls hl => ?_)
    refine lv_iload_n hx hb dX5_endFrame_94 rfl (lv_at hl 3 rfl) ?_
    refine lv_if_eq (tgt := 108) hx hb dX5_endFrame_95 (by decide) (fun c33 => ?_) (fun c33 => ?_)
    · skip
      refine lv_aload_n hx hb dX5_endFrame_108 rfl (lv_at hl 1 rfl) ?_
      refine h_getr (C := RX5) (T := TX5) (N := 11) hx hb hts inX5 hown hK hT17 (on_rg hY) rfl 3 rfl wF_X5_35 rfl dX5_endFrame_109 ?_
      refine h_geti (C := RX9) (T := TX9) (N := 11) hx hb hts inX9 hown hK hT17 ((on_wa hY).o rfl) rfl 3 rfl wF_X5_250 rfl dX5_endFrame_112 (fun p34 => ?_)
      refine lv_topi (fun x35 ex35 => ?_)
      refine lv_aload_n hx hb dX5_endFrame_115 rfl (lv_at hl 1 rfl) ?_
      refine h_getr (C := RX5) (T := TX5) (N := 11) hx hb hts inX5 hown hK hT17 (on_rg hY) rfl 1 rfl wF_X5_21 rfl dX5_endFrame_116 ?_
      refine lv_iload_n hx hb dX5_endFrame_119 rfl (lv_at hl 2 rfl) ?_
      refine h_callVi (T := TX2) (rest := [.int x35]) (As := [.int u1]) hx hb hml hown hts hK hT17 hZ (fun _ h => h) hS17 (c_X2_firstRank l G Y P (o + 7) (on_qu hY) u1) trivial wd_X2_firstRank wV_X2_firstRank wL_X5_271 ((on_qu hY).o rfl) rfl rfl hl.1 rfl (Nat.le_of_ble_eq_true rfl) dX5_endFrame_120 ⟨Nat.le_of_ble_eq_true rfl, Nat.le_of_ble_eq_true rfl⟩ ⟨Nat.zero_le _, Nat.zero_le _⟩ (fun r36 H18 locs hp18 hT18 hS18 hk18 => ?_)
      obtain ⟨hp18, he⟩ := hp18
      have he := he.symm
      subst he
      refine h_callSi (rest := []) (As := [.int x35, .int r36]) hx hb hml hown hts hK hT17 hZ (fun _ h => h) hS18 (c_max l G Y x35 r36) trivial wd_J9_max_7cf53 wS_J9_max_7cf53 wL_X5_253 rfl hl.1 rfl (Nat.le_of_ble_eq_true rfl) dX5_endFrame_123 ⟨Nat.le_of_ble_eq_true rfl, Nat.le_of_ble_eq_true rfl⟩ ⟨Nat.zero_le _, Nat.zero_le _⟩ (fun r37 H19 locs hp19 hT19 hS19 hk19 => ?_)
      obtain ⟨hp19, he⟩ := hp19
      have he := he.symm
      subst he
      refine lv_istore (lv' := [(4, .int r37), (3, .int x32), (0, .ref (o)), (1, .int u1), (2, .int u2)]) hx hb dX5_endFrame_126 hl (by decide) rfl (fun ls hl => ?_)
      refine lv_iload hx hb dX5_endFrame_128 (lv_at hl 0 rfl) ?_
      refine lv_iload_n hx hb dX5_endFrame_130 rfl (lv_at hl 1 rfl) ?_
      refine lv_icmp_gt (tgt := 146) hx hb dX5_endFrame_131 (by decide) (fun c38 => ?_) (fun c38 => ?_)
      · skip
        refine lv_aload_n hx hb dX5_endFrame_146 rfl (lv_at hl 2 rfl) ?_
        refine h_getr (C := RX5) (T := TX5) (N := 11) hx hb hts inX5 hown hK hT17 (on_rg hY) rfl 3 rfl wF_X5_35 rfl dX5_endFrame_147 ?_
        refine lv_iload_n hx hb dX5_endFrame_150 rfl (lv_at hl 3 rfl) ?_
        refine lv_iload hx hb dX5_endFrame_151 (lv_at hl 0 rfl) ?_
        refine lv_iconst (v := 0) hx hb dX5_endFrame_153 (by decide) ?_
        refine h_callVv (T := TX9) (rest := []) (As := [.int u1, .int r37, .int 0]) hx hb hml hown hts hK hT17 hZ (fun _ h => h) hS19 (c_X9_becomeToken l G Y P (o + 17) (on_wa hY) u1 r37 0) trivial wd_X9_becomeToken wV_X9_becomeToken wL_X5_192 ((on_wa hY).o rfl) rfl rfl hl.1 rfl (Nat.le_of_ble_eq_true rfl) dX5_endFrame_154 ⟨Nat.le_of_ble_eq_true rfl, Nat.le_of_ble_eq_true rfl⟩ ⟨Nat.zero_le _, Nat.zero_le _⟩ (fun H20 locs hp20 hT20 hS20 hk20 => ?_)
        refine lv_aload_n hx hb dX5_endFrame_157 rfl (lv_at hl 2 rfl) ?_
        refine h_getr (C := RX5) (T := TX5) (N := 11) hx hb hts inX5 hown hK hT20 (on_rg hY) rfl 2 rfl wF_X5_28 rfl dX5_endFrame_158 ?_
        refine lv_iload_n hx hb dX5_endFrame_161 rfl (lv_at hl 3 rfl) ?_
        refine lv_iconst (v := 0) hx hb dX5_endFrame_162 (by decide) ?_
        refine h_callVi (T := TX3) (rest := []) (As := [.int u1, .int 0]) hx hb hml hown hts hK hT20 hZ (fun _ h => h) hS20 (c_X3_newAt l G Y P (o + 13) (on_ra hY) u1 0) trivial wd_X3_newAt wV_X3_newAt wL_X5_130 ((on_ra hY).o rfl) rfl rfl hl.1 rfl (Nat.le_of_ble_eq_true rfl) dX5_endFrame_163 ⟨Nat.le_of_ble_eq_true rfl, Nat.le_of_ble_eq_true rfl⟩ ⟨Nat.zero_le _, Nat.zero_le _⟩ (fun r39 H21 locs hp21 hT21 hS21 hk21 => ?_)
        obtain ⟨hp21, he⟩ := hp21
        have he := he.symm
        subst he
        refine lv_iload_n hx hb dX5_endFrame_166 rfl (lv_at hl 1 rfl) ?_
        refine lv_icmp_ne (tgt := 183) hx hb dX5_endFrame_167 (by decide) (fun c40 => ?_) (fun c40 => ?_)
        · skip
          refine lv_aload_n hx hb dX5_endFrame_183 rfl (lv_at hl 2 rfl) ?_
          refine h_getr (C := RX5) (T := TX5) (N := 11) hx hb hts inX5 hown hK hT20 (on_rg hY) rfl 2 rfl wF_X5_28 rfl dX5_endFrame_184 ?_
          refine lv_iload_n hx hb dX5_endFrame_187 rfl (lv_at hl 3 rfl) ?_
          refine lv_iload_n hx hb dX5_endFrame_188 rfl (lv_at hl 1 rfl) ?_
          refine lv_iload hx hb dX5_endFrame_189 (lv_at hl 0 rfl) ?_
          refine h_callVv (T := TX3) (rest := []) (As := [.int u1, .int x32, .int r37]) hx hb hml hown hts hK hT20 hZ (fun _ h => h) hS21 (c_X3_push l G Y P (o + 13) (on_ra hY) u1 x32 r37) trivial wd_X3_push wV_X3_push wL_X5_281 ((on_ra hY).o rfl) rfl rfl hl.1 rfl (Nat.le_of_ble_eq_true rfl) dX5_endFrame_191 ⟨Nat.le_of_ble_eq_true rfl, Nat.le_of_ble_eq_true rfl⟩ ⟨Nat.zero_le _, Nat.zero_le _⟩ (fun H22 locs hp22 hT22 hS22 hk22 => ?_)
          exact hret _ _ _ _ hT22 hS22 trivial dX5_endFrame_194
        · skip
          refine lv_aload_n hx hb dX5_endFrame_170 rfl (lv_at hl 2 rfl) ?_
          refine h_getr (C := RX5) (T := TX5) (N := 11) hx hb hts inX5 hown hK hT20 (on_rg hY) rfl 2 rfl wF_X5_28 rfl dX5_endFrame_171 ?_
          refine lv_iload_n hx hb dX5_endFrame_174 rfl (lv_at hl 3 rfl) ?_
          refine lv_iload hx hb dX5_endFrame_175 (lv_at hl 0 rfl) ?_
          refine h_callVv (T := TX3) (rest := []) (As := [.int u1, .int r37]) hx hb hml hown hts hK hT20 hZ (fun _ h => h) hS21 (c_X3_setTopNew l G Y P (o + 13) (on_ra hY) u1 r37) trivial wd_X3_setTopNew wV_X3_setTopNew wL_X5_258 ((on_ra hY).o rfl) rfl rfl hl.1 rfl (Nat.le_of_ble_eq_true rfl) dX5_endFrame_177 ⟨Nat.le_of_ble_eq_true rfl, Nat.le_of_ble_eq_true rfl⟩ ⟨Nat.zero_le _, Nat.zero_le _⟩ (fun H23 locs hp23 hT23 hS23 hk23 => ?_)
          refine lv_goto (tgt := 194) hx hb dX5_endFrame_180 (by decide) ?_
          exact hret _ _ _ _ hT23 hS23 trivial dX5_endFrame_194
      · skip
        refine lv_aload_n hx hb dX5_endFrame_134 rfl (lv_at hl 2 rfl) ?_
        refine h_getr (C := RX5) (T := TX5) (N := 11) hx hb hts inX5 hown hK hT17 (on_rg hY) rfl 3 rfl wF_X5_35 rfl dX5_endFrame_135 ?_
        refine lv_iload_n hx hb dX5_endFrame_138 rfl (lv_at hl 3 rfl) ?_
        refine lv_iload_n hx hb dX5_endFrame_139 rfl (lv_at hl 1 rfl) ?_
        refine lv_iload hx hb dX5_endFrame_140 (lv_at hl 0 rfl) ?_
        refine h_callVv (T := TX9) (rest := []) (As := [.int u1, .int x32, .int r37]) hx hb hml hown hts hK hT17 hZ (fun _ h => h) hS19 (c_X9_becomeToken l G Y P (o + 17) (on_wa hY) u1 x32 r37) trivial wd_X9_becomeToken wV_X9_becomeToken wL_X5_192 ((on_wa hY).o rfl) rfl rfl hl.1 rfl (Nat.le_of_ble_eq_true rfl) dX5_endFrame_142 ⟨Nat.le_of_ble_eq_true rfl, Nat.le_of_ble_eq_true rfl⟩ ⟨Nat.zero_le _, Nat.zero_le _⟩ (fun H24 locs hp24 hT24 hS24 hk24 => ?_)
        exact hret _ _ _ _ hT24 hS24 trivial dX5_endFrame_145
    · skip
      refine lv_aload_n hx hb dX5_endFrame_98 rfl (lv_at hl 1 rfl) ?_
      refine h_getr (C := RX5) (T := TX5) (N := 11) hx hb hts inX5 hown hK hT17 (on_rg hY) rfl 3 rfl wF_X5_35 rfl dX5_endFrame_99 ?_
      refine h_geti (C := RX9) (T := TX9) (N := 11) hx hb hts inX9 hown hK hT17 ((on_wa hY).o rfl) rfl 3 rfl wF_X5_250 rfl dX5_endFrame_102 (fun p41 => ?_)
      refine lv_topi (fun x42 ex42 => ?_)
      refine lv_goto (tgt := 126) hx hb dX5_endFrame_105 (by decide) ?_
      refine lv_istore (lv' := [(4, .int x42), (3, .int x32), (0, .ref (o)), (1, .int u1), (2, .int u2)]) hx hb dX5_endFrame_126 hl (by decide) rfl (fun ls hl => ?_)
      refine lv_iload hx hb dX5_endFrame_128 (lv_at hl 0 rfl) ?_
      refine lv_iload_n hx hb dX5_endFrame_130 rfl (lv_at hl 1 rfl) ?_
      refine lv_icmp_gt (tgt := 146) hx hb dX5_endFrame_131 (by decide) (fun c43 => ?_) (fun c43 => ?_)
      · skip
        refine lv_aload_n hx hb dX5_endFrame_146 rfl (lv_at hl 2 rfl) ?_
        refine h_getr (C := RX5) (T := TX5) (N := 11) hx hb hts inX5 hown hK hT17 (on_rg hY) rfl 3 rfl wF_X5_35 rfl dX5_endFrame_147 ?_
        refine lv_iload_n hx hb dX5_endFrame_150 rfl (lv_at hl 3 rfl) ?_
        refine lv_iload hx hb dX5_endFrame_151 (lv_at hl 0 rfl) ?_
        refine lv_iconst (v := 0) hx hb dX5_endFrame_153 (by decide) ?_
        refine h_callVv (T := TX9) (rest := []) (As := [.int u1, .int x42, .int 0]) hx hb hml hown hts hK hT17 hZ (fun _ h => h) hS17 (c_X9_becomeToken l G Y P (o + 17) (on_wa hY) u1 x42 0) trivial wd_X9_becomeToken wV_X9_becomeToken wL_X5_192 ((on_wa hY).o rfl) rfl rfl hl.1 rfl (Nat.le_of_ble_eq_true rfl) dX5_endFrame_154 ⟨Nat.le_of_ble_eq_true rfl, Nat.le_of_ble_eq_true rfl⟩ ⟨Nat.zero_le _, Nat.zero_le _⟩ (fun H25 locs hp25 hT25 hS25 hk25 => ?_)
        refine lv_aload_n hx hb dX5_endFrame_157 rfl (lv_at hl 2 rfl) ?_
        refine h_getr (C := RX5) (T := TX5) (N := 11) hx hb hts inX5 hown hK hT25 (on_rg hY) rfl 2 rfl wF_X5_28 rfl dX5_endFrame_158 ?_
        refine lv_iload_n hx hb dX5_endFrame_161 rfl (lv_at hl 3 rfl) ?_
        refine lv_iconst (v := 0) hx hb dX5_endFrame_162 (by decide) ?_
        refine h_callVi (T := TX3) (rest := []) (As := [.int u1, .int 0]) hx hb hml hown hts hK hT25 hZ (fun _ h => h) hS25 (c_X3_newAt l G Y P (o + 13) (on_ra hY) u1 0) trivial wd_X3_newAt wV_X3_newAt wL_X5_130 ((on_ra hY).o rfl) rfl rfl hl.1 rfl (Nat.le_of_ble_eq_true rfl) dX5_endFrame_163 ⟨Nat.le_of_ble_eq_true rfl, Nat.le_of_ble_eq_true rfl⟩ ⟨Nat.zero_le _, Nat.zero_le _⟩ (fun r44 H26 locs hp26 hT26 hS26 hk26 => ?_)
        obtain ⟨hp26, he⟩ := hp26
        have he := he.symm
        subst he
        refine lv_iload_n hx hb dX5_endFrame_166 rfl (lv_at hl 1 rfl) ?_
        refine lv_icmp_ne (tgt := 183) hx hb dX5_endFrame_167 (by decide) (fun c45 => ?_) (fun c45 => ?_)
        · skip
          refine lv_aload_n hx hb dX5_endFrame_183 rfl (lv_at hl 2 rfl) ?_
          refine h_getr (C := RX5) (T := TX5) (N := 11) hx hb hts inX5 hown hK hT25 (on_rg hY) rfl 2 rfl wF_X5_28 rfl dX5_endFrame_184 ?_
          refine lv_iload_n hx hb dX5_endFrame_187 rfl (lv_at hl 3 rfl) ?_
          refine lv_iload_n hx hb dX5_endFrame_188 rfl (lv_at hl 1 rfl) ?_
          refine lv_iload hx hb dX5_endFrame_189 (lv_at hl 0 rfl) ?_
          refine h_callVv (T := TX3) (rest := []) (As := [.int u1, .int x32, .int x42]) hx hb hml hown hts hK hT25 hZ (fun _ h => h) hS26 (c_X3_push l G Y P (o + 13) (on_ra hY) u1 x32 x42) trivial wd_X3_push wV_X3_push wL_X5_281 ((on_ra hY).o rfl) rfl rfl hl.1 rfl (Nat.le_of_ble_eq_true rfl) dX5_endFrame_191 ⟨Nat.le_of_ble_eq_true rfl, Nat.le_of_ble_eq_true rfl⟩ ⟨Nat.zero_le _, Nat.zero_le _⟩ (fun H27 locs hp27 hT27 hS27 hk27 => ?_)
          exact hret _ _ _ _ hT27 hS27 trivial dX5_endFrame_194
        · skip
          refine lv_aload_n hx hb dX5_endFrame_170 rfl (lv_at hl 2 rfl) ?_
          refine h_getr (C := RX5) (T := TX5) (N := 11) hx hb hts inX5 hown hK hT25 (on_rg hY) rfl 2 rfl wF_X5_28 rfl dX5_endFrame_171 ?_
          refine lv_iload_n hx hb dX5_endFrame_174 rfl (lv_at hl 3 rfl) ?_
          refine lv_iload hx hb dX5_endFrame_175 (lv_at hl 0 rfl) ?_
          refine h_callVv (T := TX3) (rest := []) (As := [.int u1, .int x42]) hx hb hml hown hts hK hT25 hZ (fun _ h => h) hS26 (c_X3_setTopNew l G Y P (o + 13) (on_ra hY) u1 x42) trivial wd_X3_setTopNew wV_X3_setTopNew wL_X5_258 ((on_ra hY).o rfl) rfl rfl hl.1 rfl (Nat.le_of_ble_eq_true rfl) dX5_endFrame_177 ⟨Nat.le_of_ble_eq_true rfl, Nat.le_of_ble_eq_true rfl⟩ ⟨Nat.zero_le _, Nat.zero_le _⟩ (fun H28 locs hp28 hT28 hS28 hk28 => ?_)
          refine lv_goto (tgt := 194) hx hb dX5_endFrame_180 (by decide) ?_
          exact hret _ _ _ _ hT28 hS28 trivial dX5_endFrame_194
      · skip
        refine lv_aload_n hx hb dX5_endFrame_134 rfl (lv_at hl 2 rfl) ?_
        refine h_getr (C := RX5) (T := TX5) (N := 11) hx hb hts inX5 hown hK hT17 (on_rg hY) rfl 3 rfl wF_X5_35 rfl dX5_endFrame_135 ?_
        refine lv_iload_n hx hb dX5_endFrame_138 rfl (lv_at hl 3 rfl) ?_
        refine lv_iload_n hx hb dX5_endFrame_139 rfl (lv_at hl 1 rfl) ?_
        refine lv_iload hx hb dX5_endFrame_140 (lv_at hl 0 rfl) ?_
        refine h_callVv (T := TX9) (rest := []) (As := [.int u1, .int x32, .int x42]) hx hb hml hown hts hK hT17 hZ (fun _ h => h) hS17 (c_X9_becomeToken l G Y P (o + 17) (on_wa hY) u1 x32 x42) trivial wd_X9_becomeToken wV_X9_becomeToken wL_X5_192 ((on_wa hY).o rfl) rfl rfl hl.1 rfl (Nat.le_of_ble_eq_true rfl) dX5_endFrame_142 ⟨Nat.le_of_ble_eq_true rfl, Nat.le_of_ble_eq_true rfl⟩ ⟨Nat.zero_le _, Nat.zero_le _⟩ (fun H29 locs hp29 hT29 hS29 hk29 => ?_)
        exact hret _ _ _ _ hT29 hS29 trivial dX5_endFrame_145
set_option maxHeartbeats 4000000 in
set_option maxRecDepth 100000 in
theorem c_X5_moveOn (l : Launch) (G : hG) (Y : hW) (P : Int32 → Prop) (o : Nat) (hY : h_On Y o (ringE (tC P) o)) (u1 : Int32) : hMv l yX5_moveOn cX5_moveOn 3 none 4 92 G Y [.ref (o), .int u1] (fun H => True) (fun H H1 => True) := by
  refine h_ofv (by decide +kernel) (Nat.le_of_ble_eq_true rfl) ?_
  intro p e s m args below meth c H0 ls Q hx hb hts hown hml hK hZ hT0 hpr hS0 hl hret
  have hl : lv_has ls 3 [(0, .ref (o)), (1, .int u1)] := hl
  refine lv_aload_n hx hb dX5_moveOn_0 rfl (lv_at hl 0 rfl) ?_
  refine h_getr (C := RX5) (T := TX5) (N := 11) hx hb hts inX5 hown hK hT0 (on_rg hY) rfl 0 rfl wF_X5_12 rfl dX5_moveOn_1 ?_
  refine lv_aload_n hx hb dX5_moveOn_4 rfl (lv_at hl 0 rfl) ?_
  refine h_getr (C := RX5) (T := TX5) (N := 11) hx hb hts inX5 hown hK hT0 (on_rg hY) rfl 3 rfl wF_X5_35 rfl dX5_moveOn_5 ?_
  refine h_geti (C := RX9) (T := TX9) (N := 11) hx hb hts inX9 hown hK hT0 ((on_wa hY).o rfl) rfl 1 rfl wF_X5_182 rfl dX5_moveOn_8 (fun p1 => ?_)
  refine lv_topi (fun x2 ex2 => ?_)
  refine h_callVi (T := TX7) (rest := []) (As := [.int x2]) hx hb hml hown hts hK hT0 hZ (fun _ h => h) hS0 (c_X7_nextOn l G Y P (o + 1) (on_st hY) x2) trivial wd_X7_nextOn wV_X7_nextOn wL_X5_202 ((on_st hY).o rfl) rfl rfl hl.1 rfl (Nat.le_of_ble_eq_true rfl) dX5_moveOn_11 ⟨Nat.le_of_ble_eq_true rfl, Nat.le_of_ble_eq_true rfl⟩ ⟨Nat.zero_le _, Nat.zero_le _⟩ (fun r3 H1 locs hp1 hT1 hS1 hk1 => ?_)
  obtain ⟨hp1, he⟩ := hp1
  have he := he.symm
  subst he
  refine lv_istore_n (lv' := [(2, .int r3), (0, .ref (o)), (1, .int u1)]) hx hb dX5_moveOn_14 rfl hl (by decide) rfl (fun ls hl => ?_)
  refine lv_iload_n hx hb dX5_moveOn_15 rfl (lv_at hl 0 rfl) ?_
  refine lv_iconst (v := (-1)) hx hb dX5_moveOn_16 (by decide) ?_
  refine lv_icmp_eq (tgt := 38) hx hb dX5_moveOn_17 (by decide) (fun c4 => ?_) (fun c4 => ?_)
  · skip
    refine lv_aload_n hx hb dX5_moveOn_38 rfl (lv_at hl 1 rfl) ?_
    refine h_callVv (T := TX5) (rest := []) (As := []) hx hb hml hown hts hK hT0 hZ (fun _ h => h) hS1 (c_X5_dropIt l G Y P (o) hY) trivial wd_X5_dropIt wV_X5_dropIt wL_X5_209 (on_rg hY) rfl rfl hl.1 rfl (Nat.le_of_ble_eq_true rfl) dX5_moveOn_39 ⟨Nat.le_of_ble_eq_true rfl, Nat.le_of_ble_eq_true rfl⟩ ⟨Nat.zero_le _, Nat.zero_le _⟩ (fun H2 locs hp2 hT2 hS2 hk2 => ?_)
    exact hret _ _ _ _ hT2 hS2 trivial dX5_moveOn_42
  · skip
    refine lv_aload_n hx hb dX5_moveOn_20 rfl (lv_at hl 1 rfl) ?_
    refine h_getr (C := RX5) (T := TX5) (N := 11) hx hb hts inX5 hown hK hT0 (on_rg hY) rfl 0 rfl wF_X5_12 rfl dX5_moveOn_21 ?_
    refine lv_aload_n hx hb dX5_moveOn_24 rfl (lv_at hl 1 rfl) ?_
    refine h_getr (C := RX5) (T := TX5) (N := 11) hx hb hts inX5 hown hK hT0 (on_rg hY) rfl 3 rfl wF_X5_35 rfl dX5_moveOn_25 ?_
    refine h_geti (C := RX9) (T := TX9) (N := 11) hx hb hts inX9 hown hK hT0 ((on_wa hY).o rfl) rfl 1 rfl wF_X5_182 rfl dX5_moveOn_28 (fun p5 => ?_)
    refine h_top (v := x2) ex2.symm ?_
    refine lv_iload_n hx hb dX5_moveOn_31 rfl (lv_at hl 0 rfl) ?_
    refine h_callVi (T := TX7) (rest := []) (As := [.int x2, .int r3]) hx hb hml hown hts hK hT0 hZ (fun _ h => h) hS1 (c_X7_breakBetween l G Y P (o + 1) (on_st hY) x2 r3) trivial wd_X7_breakBetween wV_X7_breakBetween wL_X5_205 ((on_st hY).o rfl) rfl rfl hl.1 rfl (Nat.le_of_ble_eq_true rfl) dX5_moveOn_32 ⟨Nat.le_of_ble_eq_true rfl, Nat.le_of_ble_eq_true rfl⟩ ⟨Nat.zero_le _, Nat.zero_le _⟩ (fun r6 H3 locs hp3 hT3 hS3 hk3 => ?_)
    obtain ⟨hp3, he⟩ := hp3
    have he := he.symm
    subst he
    refine lv_if_eq (tgt := 43) hx hb dX5_moveOn_35 (by decide) (fun c7 => ?_) (fun c7 => ?_)
    · skip
      refine lv_aload_n hx hb dX5_moveOn_43 rfl (lv_at hl 1 rfl) ?_
      refine h_getr (C := RX5) (T := TX5) (N := 11) hx hb hts inX5 hown hK hT0 (on_rg hY) rfl 3 rfl wF_X5_35 rfl dX5_moveOn_44 ?_
      refine lv_iload_n hx hb dX5_moveOn_47 rfl (lv_at hl 0 rfl) ?_
      refine h_puti (C := RX9) (T := TX9) (N := 11) hx hb hts inX9 tyX9 tyX9_ok nmX9 hown hK hT0 (fun _ h => h) hS3 ((on_wa hY).o rfl) rfl 1 rfl wF_X5_182 rfl rfl trivial rfl rfl dX5_moveOn_48 (fun H4 locs hT4 hS4 hu4 => ?_)
      refine lv_iload_n hx hb dX5_moveOn_51 rfl (lv_at hl 0 rfl) ?_
      refine lv_aload_n hx hb dX5_moveOn_52 rfl (lv_at hl 1 rfl) ?_
      refine h_getr (C := RX5) (T := TX5) (N := 11) hx hb hts inX5 hown hK hT4 (on_rg hY) rfl 0 rfl wF_X5_12 rfl dX5_moveOn_53 ?_
      refine h_geti (C := RX7) (T := TX7) (N := 9) hx hb hts inX7 hown hK hT4 ((on_st hY).o rfl) rfl 6 rfl wF_X5_189 rfl dX5_moveOn_56 (fun p8 => ?_)
      refine lv_topi (fun x9 ex9 => ?_)
      refine lv_icmp_ne (tgt := 106) hx hb dX5_moveOn_59 (by decide) (fun c10 => ?_) (fun c10 => ?_)
      · skip
        refine lv_aload_n hx hb dX5_moveOn_106 rfl (lv_at hl 1 rfl) ?_
        refine h_getr (C := RX5) (T := TX5) (N := 11) hx hb hts inX5 hown hK hT4 (on_rg hY) rfl 3 rfl wF_X5_35 rfl dX5_moveOn_107 ?_
        refine h_geti (C := RX9) (T := TX9) (N := 11) hx hb hts inX9 hown hK hT4 ((on_wa hY).o rfl) rfl 0 rfl wF_X5_142 rfl dX5_moveOn_110 (fun p11 => ?_)
        refine lv_topi (fun x12 ex12 => ?_)
        refine lv_iconst (v := 1) hx hb dX5_moveOn_113 (by decide) ?_
        refine lv_icmp_ne (tgt := 126) hx hb dX5_moveOn_114 (by decide) (fun c13 => ?_) (fun c13 => ?_)
        · skip
          refine lv_aload_n hx hb dX5_moveOn_126 rfl (lv_at hl 1 rfl) ?_
          refine h_getr (C := RX5) (T := TX5) (N := 11) hx hb hts inX5 hown hK hT4 (on_rg hY) rfl 3 rfl wF_X5_35 rfl dX5_moveOn_127 ?_
          refine h_geti (C := RX9) (T := TX9) (N := 11) hx hb hts inX9 hown hK hT4 ((on_wa hY).o rfl) rfl 5 rfl wF_X5_225 rfl dX5_moveOn_130 (fun p14 => ?_)
          refine lv_topi (fun x15 ex15 => ?_)
          refine lv_iload_n hx hb dX5_moveOn_133 rfl (lv_at hl 0 rfl) ?_
          refine lv_icmp_ne (tgt := 146) hx hb dX5_moveOn_134 (by decide) (fun c16 => ?_) (fun c16 => ?_)
          · skip
            refine lv_aload_n hx hb dX5_moveOn_146 rfl (lv_at hl 1 rfl) ?_
            refine lv_iload_n hx hb dX5_moveOn_147 rfl (lv_at hl 0 rfl) ?_
            refine lv_iload_n hx hb dX5_moveOn_148 rfl (lv_at hl 2 rfl) ?_
            refine h_callVv (T := TX5) (rest := []) (As := [.int r3, .int u1]) hx hb hml hown hts hK hT4 hZ (fun _ h => h) hS4 (c_X5_frameComes l G Y P (o) hY r3 u1) trivial wd_X5_frameComes wV_X5_frameComes wL_X5_231 (on_rg hY) rfl rfl hl.1 rfl (Nat.le_of_ble_eq_true rfl) dX5_moveOn_149 ⟨Nat.le_of_ble_eq_true rfl, Nat.le_of_ble_eq_true rfl⟩ ⟨Nat.zero_le _, Nat.zero_le _⟩ (fun H5 locs hp5 hT5 hS5 hk5 => ?_)
            refine lv_aload_n hx hb dX5_moveOn_152 rfl (lv_at hl 1 rfl) ?_
            refine h_getr (C := RX5) (T := TX5) (N := 11) hx hb hts inX5 hown hK hT5 (on_rg hY) rfl 5 rfl wF_X5_49 rfl dX5_moveOn_153 ?_
            refine lv_aload_n hx hb dX5_moveOn_156 rfl (lv_at hl 1 rfl) ?_
            refine h_getr (C := RX5) (T := TX5) (N := 11) hx hb hts inX5 hown hK hT5 (on_rg hY) rfl 3 rfl wF_X5_35 rfl dX5_moveOn_157 ?_
            refine h_geti (C := RX9) (T := TX9) (N := 11) hx hb hts inX9 hown hK hT5 ((on_wa hY).o rfl) rfl 2 rfl wF_X5_212 rfl dX5_moveOn_160 (fun p17 => ?_)
            refine lv_topi (fun x18 ex18 => ?_)
            refine h_callVv (T := TX0) (rest := []) (As := [.int x18]) hx hb hml hown hts hK hT5 hZ (fun _ h => h) hS5 (c_X0_countLevel l G Y P (o + 19) (on_bo hY) x18) trivial wd_X0_countLevel wV_X0_countLevel wL_X5_234 ((on_bo hY).o rfl) rfl rfl hl.1 rfl (Nat.le_of_ble_eq_true rfl) dX5_moveOn_163 ⟨Nat.le_of_ble_eq_true rfl, Nat.le_of_ble_eq_true rfl⟩ ⟨Nat.zero_le _, Nat.zero_le _⟩ (fun H6 locs hp6 hT6 hS6 hk6 => ?_)
            exact hret _ _ _ _ hT6 hS6 trivial dX5_moveOn_166
          · skip
            refine lv_aload_n hx hb dX5_moveOn_137 rfl (lv_at hl 1 rfl) ?_
            refine lv_iload_n hx hb dX5_moveOn_138 rfl (lv_at hl 0 rfl) ?_
            refine lv_iload_n hx hb dX5_moveOn_139 rfl (lv_at hl 2 rfl) ?_
            refine h_callVv (T := TX5) (rest := []) (As := [.int r3, .int u1]) hx hb hml hown hts hK hT4 hZ (fun _ h => h) hS4 (c_X5_endFrame l G Y P (o) hY r3 u1) trivial wd_X5_endFrame wV_X5_endFrame wL_X5_228 (on_rg hY) rfl rfl hl.1 rfl (Nat.le_of_ble_eq_true rfl) dX5_moveOn_140 ⟨Nat.le_of_ble_eq_true rfl, Nat.le_of_ble_eq_true rfl⟩ ⟨Nat.zero_le _, Nat.zero_le _⟩ (fun H7 locs hp7 hT7 hS7 hk7 => ?_)
            refine lv_goto (tgt := 152) hx hb dX5_moveOn_143 (by decide) ?_
            refine lv_aload_n hx hb dX5_moveOn_152 rfl (lv_at hl 1 rfl) ?_
            refine h_getr (C := RX5) (T := TX5) (N := 11) hx hb hts inX5 hown hK hT7 (on_rg hY) rfl 5 rfl wF_X5_49 rfl dX5_moveOn_153 ?_
            refine lv_aload_n hx hb dX5_moveOn_156 rfl (lv_at hl 1 rfl) ?_
            refine h_getr (C := RX5) (T := TX5) (N := 11) hx hb hts inX5 hown hK hT7 (on_rg hY) rfl 3 rfl wF_X5_35 rfl dX5_moveOn_157 ?_
            refine h_geti (C := RX9) (T := TX9) (N := 11) hx hb hts inX9 hown hK hT7 ((on_wa hY).o rfl) rfl 2 rfl wF_X5_212 rfl dX5_moveOn_160 (fun p19 => ?_)
            refine lv_topi (fun x20 ex20 => ?_)
            refine h_callVv (T := TX0) (rest := []) (As := [.int x20]) hx hb hml hown hts hK hT7 hZ (fun _ h => h) hS7 (c_X0_countLevel l G Y P (o + 19) (on_bo hY) x20) trivial wd_X0_countLevel wV_X0_countLevel wL_X5_234 ((on_bo hY).o rfl) rfl rfl hl.1 rfl (Nat.le_of_ble_eq_true rfl) dX5_moveOn_163 ⟨Nat.le_of_ble_eq_true rfl, Nat.le_of_ble_eq_true rfl⟩ ⟨Nat.zero_le _, Nat.zero_le _⟩ (fun H8 locs hp8 hT8 hS8 hk8 => ?_)
            exact hret _ _ _ _ hT8 hS8 trivial dX5_moveOn_166
        · skip
          refine lv_aload_n hx hb dX5_moveOn_117 rfl (lv_at hl 1 rfl) ?_
          refine lv_iload_n hx hb dX5_moveOn_118 rfl (lv_at hl 0 rfl) ?_
          refine lv_iload_n hx hb dX5_moveOn_119 rfl (lv_at hl 2 rfl) ?_
          refine h_callVv (T := TX5) (rest := []) (As := [.int r3, .int u1]) hx hb hml hown hts hK hT4 hZ (fun _ h => h) hS4 (c_X5_tokenComes l G Y P (o) hY r3 u1) trivial wd_X5_tokenComes wV_X5_tokenComes wL_X5_221 (on_rg hY) rfl rfl hl.1 rfl (Nat.le_of_ble_eq_true rfl) dX5_moveOn_120 ⟨Nat.le_of_ble_eq_true rfl, Nat.le_of_ble_eq_true rfl⟩ ⟨Nat.zero_le _, Nat.zero_le _⟩ (fun H9 locs hp9 hT9 hS9 hk9 => ?_)
          refine lv_goto (tgt := 152) hx hb dX5_moveOn_123 (by decide) ?_
          refine lv_aload_n hx hb dX5_moveOn_152 rfl (lv_at hl 1 rfl) ?_
          refine h_getr (C := RX5) (T := TX5) (N := 11) hx hb hts inX5 hown hK hT9 (on_rg hY) rfl 5 rfl wF_X5_49 rfl dX5_moveOn_153 ?_
          refine lv_aload_n hx hb dX5_moveOn_156 rfl (lv_at hl 1 rfl) ?_
          refine h_getr (C := RX5) (T := TX5) (N := 11) hx hb hts inX5 hown hK hT9 (on_rg hY) rfl 3 rfl wF_X5_35 rfl dX5_moveOn_157 ?_
          refine h_geti (C := RX9) (T := TX9) (N := 11) hx hb hts inX9 hown hK hT9 ((on_wa hY).o rfl) rfl 2 rfl wF_X5_212 rfl dX5_moveOn_160 (fun p21 => ?_)
          refine lv_topi (fun x22 ex22 => ?_)
          refine h_callVv (T := TX0) (rest := []) (As := [.int x22]) hx hb hml hown hts hK hT9 hZ (fun _ h => h) hS9 (c_X0_countLevel l G Y P (o + 19) (on_bo hY) x22) trivial wd_X0_countLevel wV_X0_countLevel wL_X5_234 ((on_bo hY).o rfl) rfl rfl hl.1 rfl (Nat.le_of_ble_eq_true rfl) dX5_moveOn_163 ⟨Nat.le_of_ble_eq_true rfl, Nat.le_of_ble_eq_true rfl⟩ ⟨Nat.zero_le _, Nat.zero_le _⟩ (fun H10 locs hp10 hT10 hS10 hk10 => ?_)
          exact hret _ _ _ _ hT10 hS10 trivial dX5_moveOn_166
      · skip
        refine lv_aload_n hx hb dX5_moveOn_62 rfl (lv_at hl 1 rfl) ?_
        refine h_getr (C := RX5) (T := TX5) (N := 11) hx hb hts inX5 hown hK hT4 (on_rg hY) rfl 3 rfl wF_X5_35 rfl dX5_moveOn_63 ?_
        refine h_geti (C := RX9) (T := TX9) (N := 11) hx hb hts inX9 hown hK hT4 ((on_wa hY).o rfl) rfl 0 rfl wF_X5_142 rfl dX5_moveOn_66 (fun p23 => ?_)
        refine lv_topi (fun x24 ex24 => ?_)
        refine lv_iconst (v := 2) hx hb dX5_moveOn_69 (by decide) ?_
        refine lv_icmp_eq (tgt := 83) hx hb dX5_moveOn_70 (by decide) (fun c25 => ?_) (fun c25 => ?_)
        · skip
          refine lv_aload_n hx hb dX5_moveOn_83 rfl (lv_at hl 1 rfl) ?_
          refine h_getr (C := RX5) (T := TX5) (N := 11) hx hb hts inX5 hown hK hT4 (on_rg hY) rfl 3 rfl wF_X5_35 rfl dX5_moveOn_84 ?_
          refine h_geti (C := RX9) (T := TX9) (N := 11) hx hb hts inX9 hown hK hT4 ((on_wa hY).o rfl) rfl 4 rfl wF_X5_215 rfl dX5_moveOn_87 (fun p26 => ?_)
          refine lv_topi (fun x27 ex27 => ?_)
          refine lv_if_eq (tgt := 98) hx hb dX5_moveOn_90 (by decide) (fun c28 => ?_) (fun c28 => ?_)
          · skip
            refine lv_aload_n hx hb dX5_moveOn_98 rfl (lv_at hl 1 rfl) ?_
            refine h_getr (C := RX5) (T := TX5) (N := 11) hx hb hts inX5 hown hK hT4 (on_rg hY) rfl 3 rfl wF_X5_35 rfl dX5_moveOn_99 ?_
            refine lv_iconst (v := 1) hx hb dX5_moveOn_102 (by decide) ?_
            refine h_puti (C := RX9) (T := TX9) (N := 11) hx hb hts inX9 tyX9 tyX9_ok nmX9 hown hK hT4 (fun _ h => h) hS4 ((on_wa hY).o rfl) rfl 4 rfl wF_X5_215 rfl rfl (Or.inr rfl) rfl rfl dX5_moveOn_103 (fun H11 locs hT11 hS11 hu11 => ?_)
            refine lv_aload_n hx hb dX5_moveOn_106 rfl (lv_at hl 1 rfl) ?_
            refine h_getr (C := RX5) (T := TX5) (N := 11) hx hb hts inX5 hown hK hT11 (on_rg hY) rfl 3 rfl wF_X5_35 rfl dX5_moveOn_107 ?_
            refine h_geti (C := RX9) (T := TX9) (N := 11) hx hb hts inX9 hown hK hT11 ((on_wa hY).o rfl) rfl 0 rfl wF_X5_142 rfl dX5_moveOn_110 (fun p29 => ?_)
            refine h_top (v := x24) ((h_ps hu11 rfl (by decide) (by decide)).trans ex24.symm) ?_
            refine lv_iconst (v := 1) hx hb dX5_moveOn_113 (by decide) ?_
            refine lv_icmp_ne (tgt := 126) hx hb dX5_moveOn_114 (by decide) (fun _ => ?_) (fun h => absurd h (by (try simp only [Int32.lt_iff_toInt_lt, Int32.le_iff_toInt_le, ← Int32.toInt_inj, Int32.reduceToInt, (show (-1 : Int32).toInt = -1 from rfl)] at c25 ⊢); omega))
            refine lv_aload_n hx hb dX5_moveOn_126 rfl (lv_at hl 1 rfl) ?_
            refine h_getr (C := RX5) (T := TX5) (N := 11) hx hb hts inX5 hown hK hT11 (on_rg hY) rfl 3 rfl wF_X5_35 rfl dX5_moveOn_127 ?_
            refine h_geti (C := RX9) (T := TX9) (N := 11) hx hb hts inX9 hown hK hT11 ((on_wa hY).o rfl) rfl 5 rfl wF_X5_225 rfl dX5_moveOn_130 (fun p30 => ?_)
            refine lv_topi (fun x31 ex31 => ?_)
            refine lv_iload_n hx hb dX5_moveOn_133 rfl (lv_at hl 0 rfl) ?_
            refine lv_icmp_ne (tgt := 146) hx hb dX5_moveOn_134 (by decide) (fun c32 => ?_) (fun c32 => ?_)
            · skip
              refine lv_aload_n hx hb dX5_moveOn_146 rfl (lv_at hl 1 rfl) ?_
              refine lv_iload_n hx hb dX5_moveOn_147 rfl (lv_at hl 0 rfl) ?_
              refine lv_iload_n hx hb dX5_moveOn_148 rfl (lv_at hl 2 rfl) ?_
              refine h_callVv (T := TX5) (rest := []) (As := [.int r3, .int u1]) hx hb hml hown hts hK hT11 hZ (fun _ h => h) hS11 (c_X5_frameComes l G Y P (o) hY r3 u1) trivial wd_X5_frameComes wV_X5_frameComes wL_X5_231 (on_rg hY) rfl rfl hl.1 rfl (Nat.le_of_ble_eq_true rfl) dX5_moveOn_149 ⟨Nat.le_of_ble_eq_true rfl, Nat.le_of_ble_eq_true rfl⟩ ⟨Nat.zero_le _, Nat.zero_le _⟩ (fun H12 locs hp12 hT12 hS12 hk12 => ?_)
              refine lv_aload_n hx hb dX5_moveOn_152 rfl (lv_at hl 1 rfl) ?_
              refine h_getr (C := RX5) (T := TX5) (N := 11) hx hb hts inX5 hown hK hT12 (on_rg hY) rfl 5 rfl wF_X5_49 rfl dX5_moveOn_153 ?_
              refine lv_aload_n hx hb dX5_moveOn_156 rfl (lv_at hl 1 rfl) ?_
              refine h_getr (C := RX5) (T := TX5) (N := 11) hx hb hts inX5 hown hK hT12 (on_rg hY) rfl 3 rfl wF_X5_35 rfl dX5_moveOn_157 ?_
              refine h_geti (C := RX9) (T := TX9) (N := 11) hx hb hts inX9 hown hK hT12 ((on_wa hY).o rfl) rfl 2 rfl wF_X5_212 rfl dX5_moveOn_160 (fun p33 => ?_)
              refine lv_topi (fun x34 ex34 => ?_)
              refine h_callVv (T := TX0) (rest := []) (As := [.int x34]) hx hb hml hown hts hK hT12 hZ (fun _ h => h) hS12 (c_X0_countLevel l G Y P (o + 19) (on_bo hY) x34) trivial wd_X0_countLevel wV_X0_countLevel wL_X5_234 ((on_bo hY).o rfl) rfl rfl hl.1 rfl (Nat.le_of_ble_eq_true rfl) dX5_moveOn_163 ⟨Nat.le_of_ble_eq_true rfl, Nat.le_of_ble_eq_true rfl⟩ ⟨Nat.zero_le _, Nat.zero_le _⟩ (fun H13 locs hp13 hT13 hS13 hk13 => ?_)
              exact hret _ _ _ _ hT13 hS13 trivial dX5_moveOn_166
            · skip
              refine lv_aload_n hx hb dX5_moveOn_137 rfl (lv_at hl 1 rfl) ?_
              refine lv_iload_n hx hb dX5_moveOn_138 rfl (lv_at hl 0 rfl) ?_
              refine lv_iload_n hx hb dX5_moveOn_139 rfl (lv_at hl 2 rfl) ?_
              refine h_callVv (T := TX5) (rest := []) (As := [.int r3, .int u1]) hx hb hml hown hts hK hT11 hZ (fun _ h => h) hS11 (c_X5_endFrame l G Y P (o) hY r3 u1) trivial wd_X5_endFrame wV_X5_endFrame wL_X5_228 (on_rg hY) rfl rfl hl.1 rfl (Nat.le_of_ble_eq_true rfl) dX5_moveOn_140 ⟨Nat.le_of_ble_eq_true rfl, Nat.le_of_ble_eq_true rfl⟩ ⟨Nat.zero_le _, Nat.zero_le _⟩ (fun H14 locs hp14 hT14 hS14 hk14 => ?_)
              refine lv_goto (tgt := 152) hx hb dX5_moveOn_143 (by decide) ?_
              refine lv_aload_n hx hb dX5_moveOn_152 rfl (lv_at hl 1 rfl) ?_
              refine h_getr (C := RX5) (T := TX5) (N := 11) hx hb hts inX5 hown hK hT14 (on_rg hY) rfl 5 rfl wF_X5_49 rfl dX5_moveOn_153 ?_
              refine lv_aload_n hx hb dX5_moveOn_156 rfl (lv_at hl 1 rfl) ?_
              refine h_getr (C := RX5) (T := TX5) (N := 11) hx hb hts inX5 hown hK hT14 (on_rg hY) rfl 3 rfl wF_X5_35 rfl dX5_moveOn_157 ?_
              refine h_geti (C := RX9) (T := TX9) (N := 11) hx hb hts inX9 hown hK hT14 ((on_wa hY).o rfl) rfl 2 rfl wF_X5_212 rfl dX5_moveOn_160 (fun p35 => ?_)
              refine lv_topi (fun x36 ex36 => ?_)
              refine h_callVv (T := TX0) (rest := []) (As := [.int x36]) hx hb hml hown hts hK hT14 hZ (fun _ h => h) hS14 (c_X0_countLevel l G Y P (o + 19) (on_bo hY) x36) trivial wd_X0_countLevel wV_X0_countLevel wL_X5_234 ((on_bo hY).o rfl) rfl rfl hl.1 rfl (Nat.le_of_ble_eq_true rfl) dX5_moveOn_163 ⟨Nat.le_of_ble_eq_true rfl, Nat.le_of_ble_eq_true rfl⟩ ⟨Nat.zero_le _, Nat.zero_le _⟩ (fun H15 locs hp15 hT15 hS15 hk15 => ?_)
              exact hret _ _ _ _ hT15 hS15 trivial dX5_moveOn_166
          · skip
            refine lv_aload_n hx hb dX5_moveOn_93 rfl (lv_at hl 1 rfl) ?_
            refine h_callVv (T := TX5) (rest := []) (As := []) hx hb hml hown hts hK hT4 hZ (fun _ h => h) hS4 (c_X5_purge l G Y P (o) hY) trivial wd_X5_purge wV_X5_purge wL_X5_218 (on_rg hY) rfl rfl hl.1 rfl (Nat.le_of_ble_eq_true rfl) dX5_moveOn_94 ⟨Nat.le_of_ble_eq_true rfl, Nat.le_of_ble_eq_true rfl⟩ ⟨Nat.zero_le _, Nat.zero_le _⟩ (fun H16 locs hp16 hT16 hS16 hk16 => ?_)
            exact hret _ _ _ _ hT16 hS16 trivial dX5_moveOn_97
        · skip
          refine lv_aload_n hx hb dX5_moveOn_73 rfl (lv_at hl 1 rfl) ?_
          refine h_getr (C := RX5) (T := TX5) (N := 11) hx hb hts inX5 hown hK hT4 (on_rg hY) rfl 3 rfl wF_X5_35 rfl dX5_moveOn_74 ?_
          refine h_geti (C := RX9) (T := TX9) (N := 11) hx hb hts inX9 hown hK hT4 ((on_wa hY).o rfl) rfl 2 rfl wF_X5_212 rfl dX5_moveOn_77 (fun p37 => ?_)
          refine lv_topi (fun x38 ex38 => ?_)
          refine lv_if_le (tgt := 106) hx hb dX5_moveOn_80 (by decide) (fun c39 => ?_) (fun c39 => ?_)
          · skip
            refine lv_aload_n hx hb dX5_moveOn_106 rfl (lv_at hl 1 rfl) ?_
            refine h_getr (C := RX5) (T := TX5) (N := 11) hx hb hts inX5 hown hK hT4 (on_rg hY) rfl 3 rfl wF_X5_35 rfl dX5_moveOn_107 ?_
            refine h_geti (C := RX9) (T := TX9) (N := 11) hx hb hts inX9 hown hK hT4 ((on_wa hY).o rfl) rfl 0 rfl wF_X5_142 rfl dX5_moveOn_110 (fun p40 => ?_)
            refine h_top (v := x24) ex24.symm ?_
            refine lv_iconst (v := 1) hx hb dX5_moveOn_113 (by decide) ?_
            refine lv_icmp_ne (tgt := 126) hx hb dX5_moveOn_114 (by decide) (fun c41 => ?_) (fun c41 => ?_)
            · skip
              refine lv_aload_n hx hb dX5_moveOn_126 rfl (lv_at hl 1 rfl) ?_
              refine h_getr (C := RX5) (T := TX5) (N := 11) hx hb hts inX5 hown hK hT4 (on_rg hY) rfl 3 rfl wF_X5_35 rfl dX5_moveOn_127 ?_
              refine h_geti (C := RX9) (T := TX9) (N := 11) hx hb hts inX9 hown hK hT4 ((on_wa hY).o rfl) rfl 5 rfl wF_X5_225 rfl dX5_moveOn_130 (fun p42 => ?_)
              refine lv_topi (fun x43 ex43 => ?_)
              refine lv_iload_n hx hb dX5_moveOn_133 rfl (lv_at hl 0 rfl) ?_
              refine lv_icmp_ne (tgt := 146) hx hb dX5_moveOn_134 (by decide) (fun c44 => ?_) (fun c44 => ?_)
              · skip
                refine lv_aload_n hx hb dX5_moveOn_146 rfl (lv_at hl 1 rfl) ?_
                refine lv_iload_n hx hb dX5_moveOn_147 rfl (lv_at hl 0 rfl) ?_
                refine lv_iload_n hx hb dX5_moveOn_148 rfl (lv_at hl 2 rfl) ?_
                refine h_callVv (T := TX5) (rest := []) (As := [.int r3, .int u1]) hx hb hml hown hts hK hT4 hZ (fun _ h => h) hS4 (c_X5_frameComes l G Y P (o) hY r3 u1) trivial wd_X5_frameComes wV_X5_frameComes wL_X5_231 (on_rg hY) rfl rfl hl.1 rfl (Nat.le_of_ble_eq_true rfl) dX5_moveOn_149 ⟨Nat.le_of_ble_eq_true rfl, Nat.le_of_ble_eq_true rfl⟩ ⟨Nat.zero_le _, Nat.zero_le _⟩ (fun H17 locs hp17 hT17 hS17 hk17 => ?_)
                refine lv_aload_n hx hb dX5_moveOn_152 rfl (lv_at hl 1 rfl) ?_
                refine h_getr (C := RX5) (T := TX5) (N := 11) hx hb hts inX5 hown hK hT17 (on_rg hY) rfl 5 rfl wF_X5_49 rfl dX5_moveOn_153 ?_
                refine lv_aload_n hx hb dX5_moveOn_156 rfl (lv_at hl 1 rfl) ?_
                refine h_getr (C := RX5) (T := TX5) (N := 11) hx hb hts inX5 hown hK hT17 (on_rg hY) rfl 3 rfl wF_X5_35 rfl dX5_moveOn_157 ?_
                refine h_geti (C := RX9) (T := TX9) (N := 11) hx hb hts inX9 hown hK hT17 ((on_wa hY).o rfl) rfl 2 rfl wF_X5_212 rfl dX5_moveOn_160 (fun p45 => ?_)
                refine lv_topi (fun x46 ex46 => ?_)
                refine h_callVv (T := TX0) (rest := []) (As := [.int x46]) hx hb hml hown hts hK hT17 hZ (fun _ h => h) hS17 (c_X0_countLevel l G Y P (o + 19) (on_bo hY) x46) trivial wd_X0_countLevel wV_X0_countLevel wL_X5_234 ((on_bo hY).o rfl) rfl rfl hl.1 rfl (Nat.le_of_ble_eq_true rfl) dX5_moveOn_163 ⟨Nat.le_of_ble_eq_true rfl, Nat.le_of_ble_eq_true rfl⟩ ⟨Nat.zero_le _, Nat.zero_le _⟩ (fun H18 locs hp18 hT18 hS18 hk18 => ?_)
                exact hret _ _ _ _ hT18 hS18 trivial dX5_moveOn_166
              · skip
                refine lv_aload_n hx hb dX5_moveOn_137 rfl (lv_at hl 1 rfl) ?_
                refine lv_iload_n hx hb dX5_moveOn_138 rfl (lv_at hl 0 rfl) ?_
                refine lv_iload_n hx hb dX5_moveOn_139 rfl (lv_at hl 2 rfl) ?_
                refine h_callVv (T := TX5) (rest := []) (As := [.int r3, .int u1]) hx hb hml hown hts hK hT4 hZ (fun _ h => h) hS4 (c_X5_endFrame l G Y P (o) hY r3 u1) trivial wd_X5_endFrame wV_X5_endFrame wL_X5_228 (on_rg hY) rfl rfl hl.1 rfl (Nat.le_of_ble_eq_true rfl) dX5_moveOn_140 ⟨Nat.le_of_ble_eq_true rfl, Nat.le_of_ble_eq_true rfl⟩ ⟨Nat.zero_le _, Nat.zero_le _⟩ (fun H19 locs hp19 hT19 hS19 hk19 => ?_)
                refine lv_goto (tgt := 152) hx hb dX5_moveOn_143 (by decide) ?_
                refine lv_aload_n hx hb dX5_moveOn_152 rfl (lv_at hl 1 rfl) ?_
                refine h_getr (C := RX5) (T := TX5) (N := 11) hx hb hts inX5 hown hK hT19 (on_rg hY) rfl 5 rfl wF_X5_49 rfl dX5_moveOn_153 ?_
                refine lv_aload_n hx hb dX5_moveOn_156 rfl (lv_at hl 1 rfl) ?_
                refine h_getr (C := RX5) (T := TX5) (N := 11) hx hb hts inX5 hown hK hT19 (on_rg hY) rfl 3 rfl wF_X5_35 rfl dX5_moveOn_157 ?_
                refine h_geti (C := RX9) (T := TX9) (N := 11) hx hb hts inX9 hown hK hT19 ((on_wa hY).o rfl) rfl 2 rfl wF_X5_212 rfl dX5_moveOn_160 (fun p47 => ?_)
                refine lv_topi (fun x48 ex48 => ?_)
                refine h_callVv (T := TX0) (rest := []) (As := [.int x48]) hx hb hml hown hts hK hT19 hZ (fun _ h => h) hS19 (c_X0_countLevel l G Y P (o + 19) (on_bo hY) x48) trivial wd_X0_countLevel wV_X0_countLevel wL_X5_234 ((on_bo hY).o rfl) rfl rfl hl.1 rfl (Nat.le_of_ble_eq_true rfl) dX5_moveOn_163 ⟨Nat.le_of_ble_eq_true rfl, Nat.le_of_ble_eq_true rfl⟩ ⟨Nat.zero_le _, Nat.zero_le _⟩ (fun H20 locs hp20 hT20 hS20 hk20 => ?_)
                exact hret _ _ _ _ hT20 hS20 trivial dX5_moveOn_166
            · skip
              refine lv_aload_n hx hb dX5_moveOn_117 rfl (lv_at hl 1 rfl) ?_
              refine lv_iload_n hx hb dX5_moveOn_118 rfl (lv_at hl 0 rfl) ?_
              refine lv_iload_n hx hb dX5_moveOn_119 rfl (lv_at hl 2 rfl) ?_
              refine h_callVv (T := TX5) (rest := []) (As := [.int r3, .int u1]) hx hb hml hown hts hK hT4 hZ (fun _ h => h) hS4 (c_X5_tokenComes l G Y P (o) hY r3 u1) trivial wd_X5_tokenComes wV_X5_tokenComes wL_X5_221 (on_rg hY) rfl rfl hl.1 rfl (Nat.le_of_ble_eq_true rfl) dX5_moveOn_120 ⟨Nat.le_of_ble_eq_true rfl, Nat.le_of_ble_eq_true rfl⟩ ⟨Nat.zero_le _, Nat.zero_le _⟩ (fun H21 locs hp21 hT21 hS21 hk21 => ?_)
              refine lv_goto (tgt := 152) hx hb dX5_moveOn_123 (by decide) ?_
              refine lv_aload_n hx hb dX5_moveOn_152 rfl (lv_at hl 1 rfl) ?_
              refine h_getr (C := RX5) (T := TX5) (N := 11) hx hb hts inX5 hown hK hT21 (on_rg hY) rfl 5 rfl wF_X5_49 rfl dX5_moveOn_153 ?_
              refine lv_aload_n hx hb dX5_moveOn_156 rfl (lv_at hl 1 rfl) ?_
              refine h_getr (C := RX5) (T := TX5) (N := 11) hx hb hts inX5 hown hK hT21 (on_rg hY) rfl 3 rfl wF_X5_35 rfl dX5_moveOn_157 ?_
              refine h_geti (C := RX9) (T := TX9) (N := 11) hx hb hts inX9 hown hK hT21 ((on_wa hY).o rfl) rfl 2 rfl wF_X5_212 rfl dX5_moveOn_160 (fun p49 => ?_)
              refine lv_topi (fun x50 ex50 => ?_)
              refine h_callVv (T := TX0) (rest := []) (As := [.int x50]) hx hb hml hown hts hK hT21 hZ (fun _ h => h) hS21 (c_X0_countLevel l G Y P (o + 19) (on_bo hY) x50) trivial wd_X0_countLevel wV_X0_countLevel wL_X5_234 ((on_bo hY).o rfl) rfl rfl hl.1 rfl (Nat.le_of_ble_eq_true rfl) dX5_moveOn_163 ⟨Nat.le_of_ble_eq_true rfl, Nat.le_of_ble_eq_true rfl⟩ ⟨Nat.zero_le _, Nat.zero_le _⟩ (fun H22 locs hp22 hT22 hS22 hk22 => ?_)
              exact hret _ _ _ _ hT22 hS22 trivial dX5_moveOn_166
          · skip
            refine lv_aload_n hx hb dX5_moveOn_83 rfl (lv_at hl 1 rfl) ?_
            refine h_getr (C := RX5) (T := TX5) (N := 11) hx hb hts inX5 hown hK hT4 (on_rg hY) rfl 3 rfl wF_X5_35 rfl dX5_moveOn_84 ?_
            refine h_geti (C := RX9) (T := TX9) (N := 11) hx hb hts inX9 hown hK hT4 ((on_wa hY).o rfl) rfl 4 rfl wF_X5_215 rfl dX5_moveOn_87 (fun p51 => ?_)
            refine lv_topi (fun x52 ex52 => ?_)
            refine lv_if_eq (tgt := 98) hx hb dX5_moveOn_90 (by decide) (fun c53 => ?_) (fun c53 => ?_)
            · skip
              refine lv_aload_n hx hb dX5_moveOn_98 rfl (lv_at hl 1 rfl) ?_
              refine h_getr (C := RX5) (T := TX5) (N := 11) hx hb hts inX5 hown hK hT4 (on_rg hY) rfl 3 rfl wF_X5_35 rfl dX5_moveOn_99 ?_
              refine lv_iconst (v := 1) hx hb dX5_moveOn_102 (by decide) ?_
              refine h_puti (C := RX9) (T := TX9) (N := 11) hx hb hts inX9 tyX9 tyX9_ok nmX9 hown hK hT4 (fun _ h => h) hS4 ((on_wa hY).o rfl) rfl 4 rfl wF_X5_215 rfl rfl (Or.inr rfl) rfl rfl dX5_moveOn_103 (fun H23 locs hT23 hS23 hu23 => ?_)
              refine lv_aload_n hx hb dX5_moveOn_106 rfl (lv_at hl 1 rfl) ?_
              refine h_getr (C := RX5) (T := TX5) (N := 11) hx hb hts inX5 hown hK hT23 (on_rg hY) rfl 3 rfl wF_X5_35 rfl dX5_moveOn_107 ?_
              refine h_geti (C := RX9) (T := TX9) (N := 11) hx hb hts inX9 hown hK hT23 ((on_wa hY).o rfl) rfl 0 rfl wF_X5_142 rfl dX5_moveOn_110 (fun p54 => ?_)
              refine h_top (v := x24) ((h_ps hu23 rfl (by decide) (by decide)).trans ex24.symm) ?_
              refine lv_iconst (v := 1) hx hb dX5_moveOn_113 (by decide) ?_
              refine lv_icmp_ne (tgt := 126) hx hb dX5_moveOn_114 (by decide) (fun c55 => ?_) (fun c55 => ?_)
              · skip
                refine lv_aload_n hx hb dX5_moveOn_126 rfl (lv_at hl 1 rfl) ?_
                refine h_getr (C := RX5) (T := TX5) (N := 11) hx hb hts inX5 hown hK hT23 (on_rg hY) rfl 3 rfl wF_X5_35 rfl dX5_moveOn_127 ?_
                refine h_geti (C := RX9) (T := TX9) (N := 11) hx hb hts inX9 hown hK hT23 ((on_wa hY).o rfl) rfl 5 rfl wF_X5_225 rfl dX5_moveOn_130 (fun p56 => ?_)
                refine lv_topi (fun x57 ex57 => ?_)
                refine lv_iload_n hx hb dX5_moveOn_133 rfl (lv_at hl 0 rfl) ?_
                refine lv_icmp_ne (tgt := 146) hx hb dX5_moveOn_134 (by decide) (fun c58 => ?_) (fun c58 => ?_)
                · skip
                  refine lv_aload_n hx hb dX5_moveOn_146 rfl (lv_at hl 1 rfl) ?_
                  refine lv_iload_n hx hb dX5_moveOn_147 rfl (lv_at hl 0 rfl) ?_
                  refine lv_iload_n hx hb dX5_moveOn_148 rfl (lv_at hl 2 rfl) ?_
                  refine h_callVv (T := TX5) (rest := []) (As := [.int r3, .int u1]) hx hb hml hown hts hK hT23 hZ (fun _ h => h) hS23 (c_X5_frameComes l G Y P (o) hY r3 u1) trivial wd_X5_frameComes wV_X5_frameComes wL_X5_231 (on_rg hY) rfl rfl hl.1 rfl (Nat.le_of_ble_eq_true rfl) dX5_moveOn_149 ⟨Nat.le_of_ble_eq_true rfl, Nat.le_of_ble_eq_true rfl⟩ ⟨Nat.zero_le _, Nat.zero_le _⟩ (fun H24 locs hp24 hT24 hS24 hk24 => ?_)
                  refine lv_aload_n hx hb dX5_moveOn_152 rfl (lv_at hl 1 rfl) ?_
                  refine h_getr (C := RX5) (T := TX5) (N := 11) hx hb hts inX5 hown hK hT24 (on_rg hY) rfl 5 rfl wF_X5_49 rfl dX5_moveOn_153 ?_
                  refine lv_aload_n hx hb dX5_moveOn_156 rfl (lv_at hl 1 rfl) ?_
                  refine h_getr (C := RX5) (T := TX5) (N := 11) hx hb hts inX5 hown hK hT24 (on_rg hY) rfl 3 rfl wF_X5_35 rfl dX5_moveOn_157 ?_
                  refine h_geti (C := RX9) (T := TX9) (N := 11) hx hb hts inX9 hown hK hT24 ((on_wa hY).o rfl) rfl 2 rfl wF_X5_212 rfl dX5_moveOn_160 (fun p59 => ?_)
                  refine lv_topi (fun x60 ex60 => ?_)
                  refine h_callVv (T := TX0) (rest := []) (As := [.int x60]) hx hb hml hown hts hK hT24 hZ (fun _ h => h) hS24 (c_X0_countLevel l G Y P (o + 19) (on_bo hY) x60) trivial wd_X0_countLevel wV_X0_countLevel wL_X5_234 ((on_bo hY).o rfl) rfl rfl hl.1 rfl (Nat.le_of_ble_eq_true rfl) dX5_moveOn_163 ⟨Nat.le_of_ble_eq_true rfl, Nat.le_of_ble_eq_true rfl⟩ ⟨Nat.zero_le _, Nat.zero_le _⟩ (fun H25 locs hp25 hT25 hS25 hk25 => ?_)
                  exact hret _ _ _ _ hT25 hS25 trivial dX5_moveOn_166
                · skip
                  refine lv_aload_n hx hb dX5_moveOn_137 rfl (lv_at hl 1 rfl) ?_
                  refine lv_iload_n hx hb dX5_moveOn_138 rfl (lv_at hl 0 rfl) ?_
                  refine lv_iload_n hx hb dX5_moveOn_139 rfl (lv_at hl 2 rfl) ?_
                  refine h_callVv (T := TX5) (rest := []) (As := [.int r3, .int u1]) hx hb hml hown hts hK hT23 hZ (fun _ h => h) hS23 (c_X5_endFrame l G Y P (o) hY r3 u1) trivial wd_X5_endFrame wV_X5_endFrame wL_X5_228 (on_rg hY) rfl rfl hl.1 rfl (Nat.le_of_ble_eq_true rfl) dX5_moveOn_140 ⟨Nat.le_of_ble_eq_true rfl, Nat.le_of_ble_eq_true rfl⟩ ⟨Nat.zero_le _, Nat.zero_le _⟩ (fun H26 locs hp26 hT26 hS26 hk26 => ?_)
                  refine lv_goto (tgt := 152) hx hb dX5_moveOn_143 (by decide) ?_
                  refine lv_aload_n hx hb dX5_moveOn_152 rfl (lv_at hl 1 rfl) ?_
                  refine h_getr (C := RX5) (T := TX5) (N := 11) hx hb hts inX5 hown hK hT26 (on_rg hY) rfl 5 rfl wF_X5_49 rfl dX5_moveOn_153 ?_
                  refine lv_aload_n hx hb dX5_moveOn_156 rfl (lv_at hl 1 rfl) ?_
                  refine h_getr (C := RX5) (T := TX5) (N := 11) hx hb hts inX5 hown hK hT26 (on_rg hY) rfl 3 rfl wF_X5_35 rfl dX5_moveOn_157 ?_
                  refine h_geti (C := RX9) (T := TX9) (N := 11) hx hb hts inX9 hown hK hT26 ((on_wa hY).o rfl) rfl 2 rfl wF_X5_212 rfl dX5_moveOn_160 (fun p61 => ?_)
                  refine lv_topi (fun x62 ex62 => ?_)
                  refine h_callVv (T := TX0) (rest := []) (As := [.int x62]) hx hb hml hown hts hK hT26 hZ (fun _ h => h) hS26 (c_X0_countLevel l G Y P (o + 19) (on_bo hY) x62) trivial wd_X0_countLevel wV_X0_countLevel wL_X5_234 ((on_bo hY).o rfl) rfl rfl hl.1 rfl (Nat.le_of_ble_eq_true rfl) dX5_moveOn_163 ⟨Nat.le_of_ble_eq_true rfl, Nat.le_of_ble_eq_true rfl⟩ ⟨Nat.zero_le _, Nat.zero_le _⟩ (fun H27 locs hp27 hT27 hS27 hk27 => ?_)
                  exact hret _ _ _ _ hT27 hS27 trivial dX5_moveOn_166
              · skip
                refine lv_aload_n hx hb dX5_moveOn_117 rfl (lv_at hl 1 rfl) ?_
                refine lv_iload_n hx hb dX5_moveOn_118 rfl (lv_at hl 0 rfl) ?_
                refine lv_iload_n hx hb dX5_moveOn_119 rfl (lv_at hl 2 rfl) ?_
                refine h_callVv (T := TX5) (rest := []) (As := [.int r3, .int u1]) hx hb hml hown hts hK hT23 hZ (fun _ h => h) hS23 (c_X5_tokenComes l G Y P (o) hY r3 u1) trivial wd_X5_tokenComes wV_X5_tokenComes wL_X5_221 (on_rg hY) rfl rfl hl.1 rfl (Nat.le_of_ble_eq_true rfl) dX5_moveOn_120 ⟨Nat.le_of_ble_eq_true rfl, Nat.le_of_ble_eq_true rfl⟩ ⟨Nat.zero_le _, Nat.zero_le _⟩ (fun H28 locs hp28 hT28 hS28 hk28 => ?_)
                refine lv_goto (tgt := 152) hx hb dX5_moveOn_123 (by decide) ?_
                refine lv_aload_n hx hb dX5_moveOn_152 rfl (lv_at hl 1 rfl) ?_
                refine h_getr (C := RX5) (T := TX5) (N := 11) hx hb hts inX5 hown hK hT28 (on_rg hY) rfl 5 rfl wF_X5_49 rfl dX5_moveOn_153 ?_
                refine lv_aload_n hx hb dX5_moveOn_156 rfl (lv_at hl 1 rfl) ?_
                refine h_getr (C := RX5) (T := TX5) (N := 11) hx hb hts inX5 hown hK hT28 (on_rg hY) rfl 3 rfl wF_X5_35 rfl dX5_moveOn_157 ?_
                refine h_geti (C := RX9) (T := TX9) (N := 11) hx hb hts inX9 hown hK hT28 ((on_wa hY).o rfl) rfl 2 rfl wF_X5_212 rfl dX5_moveOn_160 (fun p63 => ?_)
                refine lv_topi (fun x64 ex64 => ?_)
                refine h_callVv (T := TX0) (rest := []) (As := [.int x64]) hx hb hml hown hts hK hT28 hZ (fun _ h => h) hS28 (c_X0_countLevel l G Y P (o + 19) (on_bo hY) x64) trivial wd_X0_countLevel wV_X0_countLevel wL_X5_234 ((on_bo hY).o rfl) rfl rfl hl.1 rfl (Nat.le_of_ble_eq_true rfl) dX5_moveOn_163 ⟨Nat.le_of_ble_eq_true rfl, Nat.le_of_ble_eq_true rfl⟩ ⟨Nat.zero_le _, Nat.zero_le _⟩ (fun H29 locs hp29 hT29 hS29 hk29 => ?_)
                exact hret _ _ _ _ hT29 hS29 trivial dX5_moveOn_166
            · skip
              refine lv_aload_n hx hb dX5_moveOn_93 rfl (lv_at hl 1 rfl) ?_
              refine h_callVv (T := TX5) (rest := []) (As := []) hx hb hml hown hts hK hT4 hZ (fun _ h => h) hS4 (c_X5_purge l G Y P (o) hY) trivial wd_X5_purge wV_X5_purge wL_X5_218 (on_rg hY) rfl rfl hl.1 rfl (Nat.le_of_ble_eq_true rfl) dX5_moveOn_94 ⟨Nat.le_of_ble_eq_true rfl, Nat.le_of_ble_eq_true rfl⟩ ⟨Nat.zero_le _, Nat.zero_le _⟩ (fun H30 locs hp30 hT30 hS30 hk30 => ?_)
              exact hret _ _ _ _ hT30 hS30 trivial dX5_moveOn_97
    · skip
      refine lv_aload_n hx hb dX5_moveOn_38 rfl (lv_at hl 1 rfl) ?_
      refine h_callVv (T := TX5) (rest := []) (As := []) hx hb hml hown hts hK hT0 hZ (fun _ h => h) hS3 (c_X5_dropIt l G Y P (o) hY) trivial wd_X5_dropIt wV_X5_dropIt wL_X5_209 (on_rg hY) rfl rfl hl.1 rfl (Nat.le_of_ble_eq_true rfl) dX5_moveOn_39 ⟨Nat.le_of_ble_eq_true rfl, Nat.le_of_ble_eq_true rfl⟩ ⟨Nat.zero_le _, Nat.zero_le _⟩ (fun H31 locs hp31 hT31 hS31 hk31 => ?_)
      exact hret _ _ _ _ hT31 hS31 trivial dX5_moveOn_42
set_option maxHeartbeats 4000000 in
set_option maxRecDepth 100000 in
theorem c_X5_crownGreatest (l : Launch) (G : hG) (Y : hW) (P : Int32 → Prop) (o : Nat) (hY : h_On Y o (ringE (tC P) o)) : hMv l yX5_crownGreatest cX5_crownGreatest 1 none 3 66 G Y [.ref (o)] (fun H => True) (fun H H1 => True) := by
  refine h_ofv (by decide +kernel) (Nat.le_of_ble_eq_true rfl) ?_
  intro p e s m args below meth c H0 ls Q hx hb hts hown hml hK hZ hT0 hpr hS0 hl hret
  have hl : lv_has ls 1 [(0, .ref (o))] := hl
  refine lv_aload_n hx hb dX5_crownGreatest_0 rfl (lv_at hl 0 rfl) ?_
  refine h_getr (C := RX5) (T := TX5) (N := 11) hx hb hts inX5 hown hK hT0 (on_rg hY) rfl 0 rfl wF_X5_12 rfl dX5_crownGreatest_1 ?_
  refine lv_aload_n hx hb dX5_crownGreatest_4 rfl (lv_at hl 0 rfl) ?_
  refine h_getr (C := RX5) (T := TX5) (N := 11) hx hb hts inX5 hown hK hT0 (on_rg hY) rfl 0 rfl wF_X5_12 rfl dX5_crownGreatest_5 ?_
  refine h_callVi (T := TX7) (rest := [.ref (o + 1)]) (As := []) hx hb hml hown hts hK hT0 hZ (fun _ h => h) hS0 (c_X7_greatestOn l G Y P (o + 1) (on_st hY)) trivial wd_X7_greatestOn wV_X7_greatestOn wL_X5_323 ((on_st hY).o rfl) rfl rfl hl.1 rfl (Nat.le_of_ble_eq_true rfl) dX5_crownGreatest_8 ⟨Nat.le_of_ble_eq_true rfl, Nat.le_of_ble_eq_true rfl⟩ ⟨Nat.zero_le _, Nat.zero_le _⟩ (fun r1 H1 locs hp1 hT1 hS1 hk1 => ?_)
  obtain ⟨hp1, he⟩ := hp1
  have he := he.symm
  subst he
  refine h_puti (C := RX7) (T := TX7) (N := 9) hx hb hts inX7 tyX7 tyX7_ok nmX7 hown hK hT0 (fun _ h => h) hS1 ((on_st hY).o rfl) rfl 6 rfl wF_X5_189 rfl rfl trivial rfl rfl dX5_crownGreatest_11 (fun H2 locs hT2 hS2 hu2 => ?_)
  refine lv_aload_n hx hb dX5_crownGreatest_14 rfl (lv_at hl 0 rfl) ?_
  refine h_getr (C := RX5) (T := TX5) (N := 11) hx hb hts inX5 hown hK hT2 (on_rg hY) rfl 5 rfl wF_X5_49 rfl dX5_crownGreatest_15 ?_
  refine lv_bipush (v := 7) hx hb dX5_crownGreatest_18 (by decide) ?_
  refine lv_aload_n hx hb dX5_crownGreatest_20 rfl (lv_at hl 0 rfl) ?_
  refine h_geti (C := RX5) (T := TX5) (N := 11) hx hb hts inX5 hown hK hT2 (on_rg hY) rfl 6 rfl wF_X5_53 rfl dX5_crownGreatest_21 (fun p2 => ?_)
  refine lv_topi (fun x3 ex3 => ?_)
  refine lv_aload_n hx hb dX5_crownGreatest_24 rfl (lv_at hl 0 rfl) ?_
  refine h_getr (C := RX5) (T := TX5) (N := 11) hx hb hts inX5 hown hK hT2 (on_rg hY) rfl 0 rfl wF_X5_12 rfl dX5_crownGreatest_25 ?_
  refine h_geti (C := RX7) (T := TX7) (N := 9) hx hb hts inX7 hown hK hT2 ((on_st hY).o rfl) rfl 6 rfl wF_X5_189 rfl dX5_crownGreatest_28 (fun p4 => ?_)
  refine h_top (v := r1) (h_pu hu2) ?_
  refine h_callVv (T := TX0) (rest := []) (As := [.int 7, .int x3, .int r1]) hx hb hml hown hts hK hT2 hZ (fun _ h => h) hS2 (c_X0_enter l G Y P (o + 19) (on_bo hY) 7 x3 r1) trivial wd_X0_enter wV_X0_enter wL_X5_185 ((on_bo hY).o rfl) rfl rfl hl.1 rfl (Nat.le_of_ble_eq_true rfl) dX5_crownGreatest_31 ⟨Nat.le_of_ble_eq_true rfl, Nat.le_of_ble_eq_true rfl⟩ ⟨Nat.zero_le _, Nat.zero_le _⟩ (fun H3 locs hp3 hT3 hS3 hk3 => ?_)
  refine lv_aload_n hx hb dX5_crownGreatest_34 rfl (lv_at hl 0 rfl) ?_
  refine h_callVv (T := TX5) (rest := []) (As := []) hx hb hml hown hts hK hT3 hZ (fun _ h => h) hS3 (c_X5_purge l G Y P (o) hY) trivial wd_X5_purge wV_X5_purge wL_X5_218 (on_rg hY) rfl rfl hl.1 rfl (Nat.le_of_ble_eq_true rfl) dX5_crownGreatest_35 ⟨Nat.le_of_ble_eq_true rfl, Nat.le_of_ble_eq_true rfl⟩ ⟨Nat.zero_le _, Nat.zero_le _⟩ (fun H4 locs hp4 hT4 hS4 hk4 => ?_)
  exact hret _ _ _ _ hT4 hS4 trivial dX5_crownGreatest_38
set_option maxHeartbeats 4000000 in
set_option maxRecDepth 100000 in
theorem c_X5_blame (l : Launch) (G : hG) (Y : hW) (P : Int32 → Prop) (o : Nat) (hY : h_On Y o (ringE (tC P) o)) (u1 : Int32) : hMv l yX5_blame cX5_blame 2 none 3 63 G Y [.ref (o), .int u1] (fun H => True) (fun H H1 => True) := by
  refine h_ofv (by decide +kernel) (Nat.le_of_ble_eq_true rfl) ?_
  intro p e s m args below meth c H0 ls Q hx hb hts hown hml hK hZ hT0 hpr hS0 hl hret
  have hl : lv_has ls 2 [(0, .ref (o)), (1, .int u1)] := hl
  refine lv_aload_n hx hb dX5_blame_0 rfl (lv_at hl 0 rfl) ?_
  refine h_getr (C := RX5) (T := TX5) (N := 11) hx hb hts inX5 hown hK hT0 (on_rg hY) rfl 0 rfl wF_X5_12 rfl dX5_blame_1 ?_
  refine lv_iload_n hx hb dX5_blame_4 rfl (lv_at hl 1 rfl) ?_
  refine h_callVi (T := TX7) (rest := []) (As := [.int u1]) hx hb hml hown hts hK hT0 hZ (fun _ h => h) hS0 (c_X7_breakCountsWithout l G Y P (o + 1) (on_st hY) u1) trivial wd_X7_breakCountsWithout wV_X7_breakCountsWithout wL_X5_326 ((on_st hY).o rfl) rfl rfl hl.1 rfl (Nat.le_of_ble_eq_true rfl) dX5_blame_5 ⟨Nat.le_of_ble_eq_true rfl, Nat.le_of_ble_eq_true rfl⟩ ⟨Nat.zero_le _, Nat.zero_le _⟩ (fun r1 H1 locs hp1 hT1 hS1 hk1 => ?_)
  obtain ⟨hp1, he⟩ := hp1
  have he := he.symm
  subst he
  refine lv_if_eq (tgt := 12) hx hb dX5_blame_8 (by decide) (fun c2 => ?_) (fun c2 => ?_)
  · skip
    refine lv_aload_n hx hb dX5_blame_12 rfl (lv_at hl 0 rfl) ?_
    refine lv_iload_n hx hb dX5_blame_13 rfl (lv_at hl 1 rfl) ?_
    refine h_callVv (T := TX5) (rest := []) (As := [.int u1]) hx hb hml hown hts hK hT0 hZ (fun _ h => h) hS1 (c_X5_switchOff l G Y P (o) hY u1) trivial wd_X5_switchOff wV_X5_switchOff wL_X5_329 (on_rg hY) rfl rfl hl.1 rfl (Nat.le_of_ble_eq_true rfl) dX5_blame_14 ⟨Nat.le_of_ble_eq_true rfl, Nat.le_of_ble_eq_true rfl⟩ ⟨Nat.zero_le _, Nat.zero_le _⟩ (fun H2 locs hp2 hT2 hS2 hk2 => ?_)
    refine lv_aload_n hx hb dX5_blame_17 rfl (lv_at hl 0 rfl) ?_
    refine h_getr (C := RX5) (T := TX5) (N := 11) hx hb hts inX5 hown hK hT2 (on_rg hY) rfl 5 rfl wF_X5_49 rfl dX5_blame_18 ?_
    refine lv_bipush (v := 6) hx hb dX5_blame_21 (by decide) ?_
    refine lv_aload_n hx hb dX5_blame_23 rfl (lv_at hl 0 rfl) ?_
    refine h_geti (C := RX5) (T := TX5) (N := 11) hx hb hts inX5 hown hK hT2 (on_rg hY) rfl 6 rfl wF_X5_53 rfl dX5_blame_24 (fun p3 => ?_)
    refine lv_topi (fun x4 ex4 => ?_)
    refine lv_iload_n hx hb dX5_blame_27 rfl (lv_at hl 1 rfl) ?_
    refine h_callVv (T := TX0) (rest := []) (As := [.int 6, .int x4, .int u1]) hx hb hml hown hts hK hT2 hZ (fun _ h => h) hS2 (c_X0_enter l G Y P (o + 19) (on_bo hY) 6 x4 u1) trivial wd_X0_enter wV_X0_enter wL_X5_185 ((on_bo hY).o rfl) rfl rfl hl.1 rfl (Nat.le_of_ble_eq_true rfl) dX5_blame_28 ⟨Nat.le_of_ble_eq_true rfl, Nat.le_of_ble_eq_true rfl⟩ ⟨Nat.zero_le _, Nat.zero_le _⟩ (fun H3 locs hp3 hT3 hS3 hk3 => ?_)
    refine lv_aload_n hx hb dX5_blame_31 rfl (lv_at hl 0 rfl) ?_
    refine lv_iload_n hx hb dX5_blame_32 rfl (lv_at hl 1 rfl) ?_
    refine h_puti (C := RX5) (T := TX5) (N := 11) hx hb hts inX5 tyX5 tyX5_ok nmX5 hown hK hT3 (fun _ h => h) hS3 (on_rg hY) rfl 9 rfl wF_X5_63 rfl rfl trivial rfl rfl dX5_blame_33 (fun H4 locs hT4 hS4 hu4 => ?_)
    refine lv_aload_n hx hb dX5_blame_36 rfl (lv_at hl 0 rfl) ?_
    refine h_getr (C := RX5) (T := TX5) (N := 11) hx hb hts inX5 hown hK hT4 (on_rg hY) rfl 4 rfl wF_X5_42 rfl dX5_blame_37 ?_
    refine h_callVv (T := TX6) (rest := []) (As := []) hx hb hml hown hts hK hT4 hZ (fun _ h => h) hS4 (c_X6_restart l G Y P (o + 18) (on_si hY)) trivial wd_X6_restart wV_X6_restart wL_X5_76 ((on_si hY).o rfl) rfl rfl hl.1 rfl (Nat.le_of_ble_eq_true rfl) dX5_blame_40 ⟨Nat.le_of_ble_eq_true rfl, Nat.le_of_ble_eq_true rfl⟩ ⟨Nat.zero_le _, Nat.zero_le _⟩ (fun H5 locs hp5 hT5 hS5 hk5 => ?_)
    exact hret _ _ _ _ hT5 hS5 trivial dX5_blame_43
  · skip
    exact hret _ _ _ _ hT0 hS1 trivial dX5_blame_11
set_option maxHeartbeats 4000000 in
set_option maxRecDepth 100000 in
theorem c_X5_answerSilence (l : Launch) (G : hG) (Y : hW) (P : Int32 → Prop) (o : Nat) (hY : h_On Y o (ringE (tC P) o)) : hMv l yX5_answerSilence cX5_answerSilence 1 none 3 66 G Y [.ref (o)] (fun H => True) (fun H H1 => True) := by
  refine h_ofv (by decide +kernel) (Nat.le_of_ble_eq_true rfl) ?_
  intro p e s m args below meth c H0 ls Q hx hb hts hown hml hK hZ hT0 hpr hS0 hl hret
  have hl : lv_has ls 1 [(0, .ref (o))] := hl
  refine lv_aload_n hx hb dX5_answerSilence_0 rfl (lv_at hl 0 rfl) ?_
  refine h_getr (C := RX5) (T := TX5) (N := 11) hx hb hts inX5 hown hK hT0 (on_rg hY) rfl 0 rfl wF_X5_12 rfl dX5_answerSilence_1 ?_
  refine h_callVi (T := TX7) (rest := []) (As := []) hx hb hml hown hts hK hT0 hZ (fun _ h => h) hS0 (c_X7_breakCounts l G Y P (o + 1) (on_st hY)) trivial wd_X7_breakCounts wV_X7_breakCounts wL_X5_307 ((on_st hY).o rfl) rfl rfl hl.1 rfl (Nat.le_of_ble_eq_true rfl) dX5_answerSilence_4 ⟨Nat.le_of_ble_eq_true rfl, Nat.le_of_ble_eq_true rfl⟩ ⟨Nat.zero_le _, Nat.zero_le _⟩ (fun r1 H1 locs hp1 hT1 hS1 hk1 => ?_)
  obtain ⟨hp1, he⟩ := hp1
  have he := he.symm
  subst he
  refine lv_if_eq (tgt := 89) hx hb dX5_answerSilence_7 (by decide) (fun c2 => ?_) (fun c2 => ?_)
  · skip
    refine lv_aload_n hx hb dX5_answerSilence_89 rfl (lv_at hl 0 rfl) ?_
    refine h_getr (C := RX5) (T := TX5) (N := 11) hx hb hts inX5 hown hK hT0 (on_rg hY) rfl 0 rfl wF_X5_12 rfl dX5_answerSilence_90 ?_
    refine h_callVi (T := TX7) (rest := []) (As := []) hx hb hml hown hts hK hT0 hZ (fun _ h => h) hS1 (c_X7_chiefIsOn l G Y P (o + 1) (on_st hY)) trivial wd_X7_chiefIsOn wV_X7_chiefIsOn wL_X5_320 ((on_st hY).o rfl) rfl rfl hl.1 rfl (Nat.le_of_ble_eq_true rfl) dX5_answerSilence_93 ⟨Nat.le_of_ble_eq_true rfl, Nat.le_of_ble_eq_true rfl⟩ ⟨Nat.zero_le _, Nat.zero_le _⟩ (fun r3 H2 locs hp2 hT2 hS2 hk2 => ?_)
    obtain ⟨hp2, he⟩ := hp2
    have he := he.symm
    subst he
    refine lv_if_eq (tgt := 106) hx hb dX5_answerSilence_96 (by decide) (fun c4 => ?_) (fun c4 => ?_)
    · skip
      refine lv_aload_n hx hb dX5_answerSilence_106 rfl (lv_at hl 0 rfl) ?_
      refine h_getr (C := RX5) (T := TX5) (N := 11) hx hb hts inX5 hown hK hT0 (on_rg hY) rfl 4 rfl wF_X5_42 rfl dX5_answerSilence_107 ?_
      refine lv_iconst (v := 1) hx hb dX5_answerSilence_110 (by decide) ?_
      refine h_puti (C := RX6) (T := TX6) (N := 4) hx hb hts inX6 tyX6 tyX6_ok nmX6 hown hK hT0 (fun _ h => h) hS2 ((on_si hY).o rfl) rfl 1 rfl wF_X5_292 rfl rfl trivial rfl rfl dX5_answerSilence_111 (fun H3 locs hT3 hS3 hu3 => ?_)
      refine lv_aload_n hx hb dX5_answerSilence_114 rfl (lv_at hl 0 rfl) ?_
      refine h_getr (C := RX5) (T := TX5) (N := 11) hx hb hts inX5 hown hK hT3 (on_rg hY) rfl 5 rfl wF_X5_49 rfl dX5_answerSilence_115 ?_
      refine lv_iconst (v := 4) hx hb dX5_answerSilence_118 (by decide) ?_
      refine lv_aload_n hx hb dX5_answerSilence_119 rfl (lv_at hl 0 rfl) ?_
      refine h_geti (C := RX5) (T := TX5) (N := 11) hx hb hts inX5 hown hK hT3 (on_rg hY) rfl 6 rfl wF_X5_53 rfl dX5_answerSilence_120 (fun p5 => ?_)
      refine lv_topi (fun x6 ex6 => ?_)
      refine lv_aload_n hx hb dX5_answerSilence_123 rfl (lv_at hl 0 rfl) ?_
      refine h_getr (C := RX5) (T := TX5) (N := 11) hx hb hts inX5 hown hK hT3 (on_rg hY) rfl 0 rfl wF_X5_12 rfl dX5_answerSilence_124 ?_
      refine h_callVi (T := TX7) (rest := [.int x6, .int 4, .ref (o + 19)]) (As := []) hx hb hml hown hts hK hT3 hZ (fun _ h => h) hS3 (c_X7_greatestOn l G Y P (o + 1) (on_st hY)) trivial wd_X7_greatestOn wV_X7_greatestOn wL_X5_323 ((on_st hY).o rfl) rfl rfl hl.1 rfl (Nat.le_of_ble_eq_true rfl) dX5_answerSilence_127 ⟨Nat.le_of_ble_eq_true rfl, Nat.le_of_ble_eq_true rfl⟩ ⟨Nat.zero_le _, Nat.zero_le _⟩ (fun r7 H4 locs hp4 hT4 hS4 hk4 => ?_)
      obtain ⟨hp4, he⟩ := hp4
      have he := he.symm
      subst he
      refine h_callVv (T := TX0) (rest := []) (As := [.int 4, .int x6, .int r7]) hx hb hml hown hts hK hT3 hZ (fun _ h => h) hS4 (c_X0_enter l G Y P (o + 19) (on_bo hY) 4 x6 r7) trivial wd_X0_enter wV_X0_enter wL_X5_185 ((on_bo hY).o rfl) rfl rfl hl.1 rfl (Nat.le_of_ble_eq_true rfl) dX5_answerSilence_130 ⟨Nat.le_of_ble_eq_true rfl, Nat.le_of_ble_eq_true rfl⟩ ⟨Nat.zero_le _, Nat.zero_le _⟩ (fun H5 locs hp5 hT5 hS5 hk5 => ?_)
      exact hret _ _ _ _ hT5 hS5 trivial dX5_answerSilence_133
    · skip
      refine lv_aload_n hx hb dX5_answerSilence_99 rfl (lv_at hl 0 rfl) ?_
      refine h_callVv (T := TX5) (rest := []) (As := []) hx hb hml hown hts hK hT0 hZ (fun _ h => h) hS2 (c_X5_purge l G Y P (o) hY) trivial wd_X5_purge wV_X5_purge wL_X5_218 (on_rg hY) rfl rfl hl.1 rfl (Nat.le_of_ble_eq_true rfl) dX5_answerSilence_100 ⟨Nat.le_of_ble_eq_true rfl, Nat.le_of_ble_eq_true rfl⟩ ⟨Nat.zero_le _, Nat.zero_le _⟩ (fun H6 locs hp6 hT6 hS6 hk6 => ?_)
      refine lv_goto (tgt := 133) hx hb dX5_answerSilence_103 (by decide) ?_
      exact hret _ _ _ _ hT6 hS6 trivial dX5_answerSilence_133
  · skip
    refine lv_aload_n hx hb dX5_answerSilence_10 rfl (lv_at hl 0 rfl) ?_
    refine h_getr (C := RX5) (T := TX5) (N := 11) hx hb hts inX5 hown hK hT0 (on_rg hY) rfl 4 rfl wF_X5_42 rfl dX5_answerSilence_11 ?_
    refine lv_iconst (v := 2) hx hb dX5_answerSilence_14 (by decide) ?_
    refine h_puti (C := RX6) (T := TX6) (N := 4) hx hb hts inX6 tyX6 tyX6_ok nmX6 hown hK hT0 (fun _ h => h) hS1 ((on_si hY).o rfl) rfl 1 rfl wF_X5_292 rfl rfl trivial rfl rfl dX5_answerSilence_15 (fun H7 locs hT7 hS7 hu7 => ?_)
    refine lv_aload_n hx hb dX5_answerSilence_18 rfl (lv_at hl 0 rfl) ?_
    refine h_getr (C := RX5) (T := TX5) (N := 11) hx hb hts inX5 hown hK hT7 (on_rg hY) rfl 4 rfl wF_X5_42 rfl dX5_answerSilence_19 ?_
    refine lv_aload_n hx hb dX5_answerSilence_22 rfl (lv_at hl 0 rfl) ?_
    refine h_getr (C := RX5) (T := TX5) (N := 11) hx hb hts inX5 hown hK hT7 (on_rg hY) rfl 0 rfl wF_X5_12 rfl dX5_answerSilence_23 ?_
    refine lv_aload_n hx hb dX5_answerSilence_26 rfl (lv_at hl 0 rfl) ?_
    refine h_getr (C := RX5) (T := TX5) (N := 11) hx hb hts inX5 hown hK hT7 (on_rg hY) rfl 0 rfl wF_X5_12 rfl dX5_answerSilence_27 ?_
    refine h_geti (C := RX7) (T := TX7) (N := 9) hx hb hts inX7 hown hK hT7 ((on_st hY).o rfl) rfl 7 rfl wF_X5_311 rfl dX5_answerSilence_30 (fun p8 => ?_)
    refine lv_topi (fun x9 ex9 => ?_)
    refine h_callVi (T := TX7) (rest := [.ref (o + 18)]) (As := [.int x9]) hx hb hml hown hts hK hT7 hZ (fun _ h => h) hS7 (c_X7_nextOn l G Y P (o + 1) (on_st hY) x9) trivial wd_X7_nextOn wV_X7_nextOn wL_X5_202 ((on_st hY).o rfl) rfl rfl hl.1 rfl (Nat.le_of_ble_eq_true rfl) dX5_answerSilence_33 ⟨Nat.le_of_ble_eq_true rfl, Nat.le_of_ble_eq_true rfl⟩ ⟨Nat.zero_le _, Nat.zero_le _⟩ (fun r10 H8 locs hp8 hT8 hS8 hk8 => ?_)
    obtain ⟨hp8, he⟩ := hp8
    have he := he.symm
    subst he
    refine h_puti (C := RX6) (T := TX6) (N := 4) hx hb hts inX6 tyX6 tyX6_ok nmX6 hown hK hT7 (fun _ h => h) hS8 ((on_si hY).o rfl) rfl 3 rfl wF_X5_304 rfl rfl trivial rfl rfl dX5_answerSilence_36 (fun H9 locs hT9 hS9 hu9 => ?_)
    refine lv_aload_n hx hb dX5_answerSilence_39 rfl (lv_at hl 0 rfl) ?_
    refine h_getr (C := RX5) (T := TX5) (N := 11) hx hb hts inX5 hown hK hT9 (on_rg hY) rfl 4 rfl wF_X5_42 rfl dX5_answerSilence_40 ?_
    refine lv_aload_n hx hb dX5_answerSilence_43 rfl (lv_at hl 0 rfl) ?_
    refine h_getr (C := RX5) (T := TX5) (N := 11) hx hb hts inX5 hown hK hT9 (on_rg hY) rfl 0 rfl wF_X5_12 rfl dX5_answerSilence_44 ?_
    refine lv_aload_n hx hb dX5_answerSilence_47 rfl (lv_at hl 0 rfl) ?_
    refine h_getr (C := RX5) (T := TX5) (N := 11) hx hb hts inX5 hown hK hT9 (on_rg hY) rfl 0 rfl wF_X5_12 rfl dX5_answerSilence_48 ?_
    refine lv_aload_n hx hb dX5_answerSilence_51 rfl (lv_at hl 0 rfl) ?_
    refine h_getr (C := RX5) (T := TX5) (N := 11) hx hb hts inX5 hown hK hT9 (on_rg hY) rfl 0 rfl wF_X5_12 rfl dX5_answerSilence_52 ?_
    refine h_geti (C := RX7) (T := TX7) (N := 9) hx hb hts inX7 hown hK hT9 ((on_st hY).o rfl) rfl 7 rfl wF_X5_311 rfl dX5_answerSilence_55 (fun p11 => ?_)
    refine h_top (v := x9) ((h_po hu9 (by omega)).trans ex9.symm) ?_
    refine h_callVi (T := TX7) (rest := [.ref (o + 1), .ref (o + 18)]) (As := [.int x9]) hx hb hml hown hts hK hT9 hZ (fun _ h => h) hS9 (c_X7_following l G Y P (o + 1) (on_st hY) x9) trivial wd_X7_following wV_X7_following wL_X5_314 ((on_st hY).o rfl) rfl rfl hl.1 rfl (Nat.le_of_ble_eq_true rfl) dX5_answerSilence_58 ⟨Nat.le_of_ble_eq_true rfl, Nat.le_of_ble_eq_true rfl⟩ ⟨Nat.zero_le _, Nat.zero_le _⟩ (fun r12 H10 locs hp10 hT10 hS10 hk10 => ?_)
    obtain ⟨hp10, he⟩ := hp10
    have he := he.symm
    subst he
    refine h_callVi (T := TX7) (rest := [.ref (o + 18)]) (As := [.int r12]) hx hb hml hown hts hK hT9 hZ (fun _ h => h) hS10 (c_X7_previousOn l G Y P (o + 1) (on_st hY) r12) trivial wd_X7_previousOn wV_X7_previousOn wL_X5_317 ((on_st hY).o rfl) rfl rfl hl.1 rfl (Nat.le_of_ble_eq_true rfl) dX5_answerSilence_61 ⟨Nat.le_of_ble_eq_true rfl, Nat.le_of_ble_eq_true rfl⟩ ⟨Nat.zero_le _, Nat.zero_le _⟩ (fun r13 H11 locs hp11 hT11 hS11 hk11 => ?_)
    obtain ⟨hp11, he⟩ := hp11
    have he := he.symm
    subst he
    refine h_puti (C := RX6) (T := TX6) (N := 4) hx hb hts inX6 tyX6 tyX6_ok nmX6 hown hK hT9 (fun _ h => h) hS11 ((on_si hY).o rfl) rfl 2 rfl wF_X5_298 rfl rfl trivial rfl rfl dX5_answerSilence_64 (fun H12 locs hT12 hS12 hu12 => ?_)
    refine lv_aload_n hx hb dX5_answerSilence_67 rfl (lv_at hl 0 rfl) ?_
    refine h_getr (C := RX5) (T := TX5) (N := 11) hx hb hts inX5 hown hK hT12 (on_rg hY) rfl 5 rfl wF_X5_49 rfl dX5_answerSilence_68 ?_
    refine lv_iconst (v := 5) hx hb dX5_answerSilence_71 (by decide) ?_
    refine lv_aload_n hx hb dX5_answerSilence_72 rfl (lv_at hl 0 rfl) ?_
    refine h_geti (C := RX5) (T := TX5) (N := 11) hx hb hts inX5 hown hK hT12 (on_rg hY) rfl 6 rfl wF_X5_53 rfl dX5_answerSilence_73 (fun p14 => ?_)
    refine lv_topi (fun x15 ex15 => ?_)
    refine lv_aload_n hx hb dX5_answerSilence_76 rfl (lv_at hl 0 rfl) ?_
    refine h_getr (C := RX5) (T := TX5) (N := 11) hx hb hts inX5 hown hK hT12 (on_rg hY) rfl 4 rfl wF_X5_42 rfl dX5_answerSilence_77 ?_
    refine h_geti (C := RX6) (T := TX6) (N := 4) hx hb hts inX6 hown hK hT12 ((on_si hY).o rfl) rfl 2 rfl wF_X5_298 rfl dX5_answerSilence_80 (fun p16 => ?_)
    refine h_top (v := r13) (h_pu hu12) ?_
    refine h_callVv (T := TX0) (rest := []) (As := [.int 5, .int x15, .int r13]) hx hb hml hown hts hK hT12 hZ (fun _ h => h) hS12 (c_X0_enter l G Y P (o + 19) (on_bo hY) 5 x15 r13) trivial wd_X0_enter wV_X0_enter wL_X5_185 ((on_bo hY).o rfl) rfl rfl hl.1 rfl (Nat.le_of_ble_eq_true rfl) dX5_answerSilence_83 ⟨Nat.le_of_ble_eq_true rfl, Nat.le_of_ble_eq_true rfl⟩ ⟨Nat.zero_le _, Nat.zero_le _⟩ (fun H13 locs hp13 hT13 hS13 hk13 => ?_)
    refine lv_goto (tgt := 133) hx hb dX5_answerSilence_86 (by decide) ?_
    exact hret _ _ _ _ hT13 hS13 trivial dX5_answerSilence_133
set_option maxHeartbeats 4000000 in
set_option maxRecDepth 100000 in
theorem c_X5_passSilentTick (l : Launch) (G : hG) (Y : hW) (P : Int32 → Prop) (o : Nat) (hY : h_On Y o (ringE (tC P) o)) : hMv l yX5_passSilentTick cX5_passSilentTick 2 none 4 86 G Y [.ref (o)] (fun H => True) (fun H H1 => True) := by
  refine h_ofv (by decide +kernel) (Nat.le_of_ble_eq_true rfl) ?_
  intro p e s m args below meth c H0 ls Q hx hb hts hown hml hK hZ hT0 hpr hS0 hl hret
  have hl : lv_has ls 2 [(0, .ref (o))] := hl
  refine lv_aload_n hx hb dX5_passSilentTick_0 rfl (lv_at hl 0 rfl) ?_
  refine h_getr (C := RX5) (T := TX5) (N := 11) hx hb hts inX5 hown hK hT0 (on_rg hY) rfl 4 rfl wF_X5_42 rfl dX5_passSilentTick_1 ?_
  refine lv_dup hx hb dX5_passSilentTick_4 rfl ?_
  refine h_geti (C := RX6) (T := TX6) (N := 4) hx hb hts inX6 hown hK hT0 ((on_si hY).o rfl) rfl 0 rfl wF_X5_284 rfl dX5_passSilentTick_5 (fun p1 => ?_)
  refine lv_topi (fun x2 ex2 => ?_)
  refine lv_iconst (v := 1) hx hb dX5_passSilentTick_8 (by decide) ?_
  refine lv_iadd hx hb dX5_passSilentTick_9 ?_
  refine lv_topi (fun x3 ex3 => ?_)
  refine h_puti (C := RX6) (T := TX6) (N := 4) hx hb hts inX6 tyX6 tyX6_ok nmX6 hown hK hT0 (fun _ h => h) hS0 ((on_si hY).o rfl) rfl 0 rfl wF_X5_284 rfl rfl trivial rfl rfl dX5_passSilentTick_10 (fun H1 locs hT1 hS1 hu1 => ?_)
  refine lv_aload_n hx hb dX5_passSilentTick_13 rfl (lv_at hl 0 rfl) ?_
  refine h_getr (C := RX5) (T := TX5) (N := 11) hx hb hts inX5 hown hK hT1 (on_rg hY) rfl 0 rfl wF_X5_12 rfl dX5_passSilentTick_14 ?_
  refine h_callVi (T := TX7) (rest := []) (As := []) hx hb hml hown hts hK hT1 hZ (fun _ h => h) hS1 (c_X7_onCount l G Y P (o + 1) (on_st hY)) trivial wd_X7_onCount wV_X7_onCount wL_X5_285 ((on_st hY).o rfl) rfl rfl hl.1 rfl (Nat.le_of_ble_eq_true rfl) dX5_passSilentTick_17 ⟨Nat.le_of_ble_eq_true rfl, Nat.le_of_ble_eq_true rfl⟩ ⟨Nat.zero_le _, Nat.zero_le _⟩ (fun r4 H2 locs hp2 hT2 hS2 hk2 => ?_)
  obtain ⟨hp2, he⟩ := hp2
  have he := he.symm
  subst he
  refine lv_istore_n (lv' := [(1, .int r4), (0, .ref (o))]) hx hb dX5_passSilentTick_20 rfl hl (by decide) rfl (fun ls hl => ?_)
  refine lv_iload_n hx hb dX5_passSilentTick_21 rfl (lv_at hl 0 rfl) ?_
  refine lv_if_ne (tgt := 26) hx hb dX5_passSilentTick_22 (by decide) (fun c5 => ?_) (fun c5 => ?_)
  · skip
    refine lv_aload_n hx hb dX5_passSilentTick_26 rfl (lv_at hl 1 rfl) ?_
    refine h_getr (C := RX5) (T := TX5) (N := 11) hx hb hts inX5 hown hK hT1 (on_rg hY) rfl 4 rfl wF_X5_42 rfl dX5_passSilentTick_27 ?_
    refine h_geti (C := RX6) (T := TX6) (N := 4) hx hb hts inX6 hown hK hT1 ((on_si hY).o rfl) rfl 0 rfl wF_X5_284 rfl dX5_passSilentTick_30 (fun p6 => ?_)
    refine h_top (v := x3) (h_pu hu1) ?_
    refine lv_iload_n hx hb dX5_passSilentTick_33 rfl (lv_at hl 0 rfl) ?_
    refine lv_iconst (v := 1) hx hb dX5_passSilentTick_34 (by decide) ?_
    refine lv_iadd hx hb dX5_passSilentTick_35 ?_
    refine lv_topi (fun x7 ex7 => ?_)
    refine lv_icmp_ne (tgt := 46) hx hb dX5_passSilentTick_36 (by decide) (fun c8 => ?_) (fun c8 => ?_)
    · skip
      refine lv_aload_n hx hb dX5_passSilentTick_46 rfl (lv_at hl 1 rfl) ?_
      refine h_getr (C := RX5) (T := TX5) (N := 11) hx hb hts inX5 hown hK hT1 (on_rg hY) rfl 4 rfl wF_X5_42 rfl dX5_passSilentTick_47 ?_
      refine h_geti (C := RX6) (T := TX6) (N := 4) hx hb hts inX6 hown hK hT1 ((on_si hY).o rfl) rfl 0 rfl wF_X5_284 rfl dX5_passSilentTick_50 (fun p9 => ?_)
      refine h_top (v := x3) (h_pu hu1) ?_
      refine lv_iload_n hx hb dX5_passSilentTick_53 rfl (lv_at hl 0 rfl) ?_
      refine lv_iload_n hx hb dX5_passSilentTick_54 rfl (lv_at hl 0 rfl) ?_
      refine lv_iadd hx hb dX5_passSilentTick_55 ?_
      refine lv_topi (fun x10 ex10 => ?_)
      refine lv_iconst (v := 1) hx hb dX5_passSilentTick_56 (by decide) ?_
      refine lv_iadd hx hb dX5_passSilentTick_57 ?_
      refine lv_topi (fun x11 ex11 => ?_)
      refine lv_icmp_ne (tgt := 79) hx hb dX5_passSilentTick_58 (by decide) (fun c12 => ?_) (fun c12 => ?_)
      · skip
        refine lv_aload_n hx hb dX5_passSilentTick_79 rfl (lv_at hl 1 rfl) ?_
        refine h_getr (C := RX5) (T := TX5) (N := 11) hx hb hts inX5 hown hK hT1 (on_rg hY) rfl 4 rfl wF_X5_42 rfl dX5_passSilentTick_80 ?_
        refine h_geti (C := RX6) (T := TX6) (N := 4) hx hb hts inX6 hown hK hT1 ((on_si hY).o rfl) rfl 0 rfl wF_X5_284 rfl dX5_passSilentTick_83 (fun p13 => ?_)
        refine h_top (v := x3) (h_pu hu1) ?_
        refine lv_iload_n hx hb dX5_passSilentTick_86 rfl (lv_at hl 0 rfl) ?_
        refine lv_iload_n hx hb dX5_passSilentTick_87 rfl (lv_at hl 0 rfl) ?_
        refine lv_iadd hx hb dX5_passSilentTick_88 ?_
        refine lv_topi (fun x14 ex14 => ?_)
        refine lv_iconst (v := 1) hx hb dX5_passSilentTick_89 (by decide) ?_
        refine lv_iadd hx hb dX5_passSilentTick_90 ?_
        refine lv_topi (fun x15 ex15 => ?_)
        refine lv_icmp_ne (tgt := 119) hx hb dX5_passSilentTick_91 (by decide) (fun c16 => ?_) (fun c16 => ?_)
        · skip
          refine lv_aload_n hx hb dX5_passSilentTick_119 rfl (lv_at hl 1 rfl) ?_
          refine h_getr (C := RX5) (T := TX5) (N := 11) hx hb hts inX5 hown hK hT1 (on_rg hY) rfl 4 rfl wF_X5_42 rfl dX5_passSilentTick_120 ?_
          refine h_geti (C := RX6) (T := TX6) (N := 4) hx hb hts inX6 hown hK hT1 ((on_si hY).o rfl) rfl 0 rfl wF_X5_284 rfl dX5_passSilentTick_123 (fun p17 => ?_)
          refine h_top (v := x3) (h_pu hu1) ?_
          refine lv_iload_n hx hb dX5_passSilentTick_126 rfl (lv_at hl 0 rfl) ?_
          refine lv_iload_n hx hb dX5_passSilentTick_127 rfl (lv_at hl 0 rfl) ?_
          refine lv_iadd hx hb dX5_passSilentTick_128 ?_
          refine lv_topi (fun x18 ex18 => ?_)
          refine lv_iconst (v := 2) hx hb dX5_passSilentTick_129 (by decide) ?_
          refine lv_iadd hx hb dX5_passSilentTick_130 ?_
          refine lv_topi (fun x19 ex19 => ?_)
          refine lv_icmp_ne (tgt := 156) hx hb dX5_passSilentTick_131 (by decide) (fun c20 => ?_) (fun c20 => ?_)
          · skip
            exact hret _ _ _ _ hT1 hS2 trivial dX5_passSilentTick_156
          · skip
            refine lv_aload_n hx hb dX5_passSilentTick_134 rfl (lv_at hl 1 rfl) ?_
            refine h_getr (C := RX5) (T := TX5) (N := 11) hx hb hts inX5 hown hK hT1 (on_rg hY) rfl 4 rfl wF_X5_42 rfl dX5_passSilentTick_135 ?_
            refine h_geti (C := RX6) (T := TX6) (N := 4) hx hb hts inX6 hown hK hT1 ((on_si hY).o rfl) rfl 1 rfl wF_X5_292 rfl dX5_passSilentTick_138 (fun p21 => ?_)
            refine lv_topi (fun x22 ex22 => ?_)
            refine lv_iconst (v := 2) hx hb dX5_passSilentTick_141 (by decide) ?_
            refine lv_icmp_ne (tgt := 156) hx hb dX5_passSilentTick_142 (by decide) (fun c23 => ?_) (fun c23 => ?_)
            · skip
              exact hret _ _ _ _ hT1 hS2 trivial dX5_passSilentTick_156
            · skip
              refine lv_aload_n hx hb dX5_passSilentTick_145 rfl (lv_at hl 1 rfl) ?_
              refine lv_aload_n hx hb dX5_passSilentTick_146 rfl (lv_at hl 1 rfl) ?_
              refine h_getr (C := RX5) (T := TX5) (N := 11) hx hb hts inX5 hown hK hT1 (on_rg hY) rfl 4 rfl wF_X5_42 rfl dX5_passSilentTick_147 ?_
              refine h_geti (C := RX6) (T := TX6) (N := 4) hx hb hts inX6 hown hK hT1 ((on_si hY).o rfl) rfl 3 rfl wF_X5_304 rfl dX5_passSilentTick_150 (fun p24 => ?_)
              refine lv_topi (fun x25 ex25 => ?_)
              refine h_callVv (T := TX5) (rest := []) (As := [.int x25]) hx hb hml hown hts hK hT1 hZ (fun _ h => h) hS2 (c_X5_blame l G Y P (o) hY x25) trivial wd_X5_blame wV_X5_blame wL_X5_301 (on_rg hY) rfl rfl hl.1 rfl (Nat.le_of_ble_eq_true rfl) dX5_passSilentTick_153 ⟨Nat.le_of_ble_eq_true rfl, Nat.le_of_ble_eq_true rfl⟩ ⟨Nat.zero_le _, Nat.zero_le _⟩ (fun H3 locs hp3 hT3 hS3 hk3 => ?_)
              exact hret _ _ _ _ hT3 hS3 trivial dX5_passSilentTick_156
        · skip
          refine lv_aload_n hx hb dX5_passSilentTick_94 rfl (lv_at hl 1 rfl) ?_
          refine h_getr (C := RX5) (T := TX5) (N := 11) hx hb hts inX5 hown hK hT1 (on_rg hY) rfl 4 rfl wF_X5_42 rfl dX5_passSilentTick_95 ?_
          refine h_geti (C := RX6) (T := TX6) (N := 4) hx hb hts inX6 hown hK hT1 ((on_si hY).o rfl) rfl 1 rfl wF_X5_292 rfl dX5_passSilentTick_98 (fun p26 => ?_)
          refine lv_topi (fun x27 ex27 => ?_)
          refine lv_iconst (v := 2) hx hb dX5_passSilentTick_101 (by decide) ?_
          refine lv_icmp_ne (tgt := 119) hx hb dX5_passSilentTick_102 (by decide) (fun c28 => ?_) (fun c28 => ?_)
          · skip
            refine lv_aload_n hx hb dX5_passSilentTick_119 rfl (lv_at hl 1 rfl) ?_
            refine h_getr (C := RX5) (T := TX5) (N := 11) hx hb hts inX5 hown hK hT1 (on_rg hY) rfl 4 rfl wF_X5_42 rfl dX5_passSilentTick_120 ?_
            refine h_geti (C := RX6) (T := TX6) (N := 4) hx hb hts inX6 hown hK hT1 ((on_si hY).o rfl) rfl 0 rfl wF_X5_284 rfl dX5_passSilentTick_123 (fun p29 => ?_)
            refine h_top (v := x3) (h_pu hu1) ?_
            refine lv_iload_n hx hb dX5_passSilentTick_126 rfl (lv_at hl 0 rfl) ?_
            refine lv_iload_n hx hb dX5_passSilentTick_127 rfl (lv_at hl 0 rfl) ?_
            refine lv_iadd hx hb dX5_passSilentTick_128 ?_
            refine lv_topi (fun x30 ex30 => ?_)
            refine lv_iconst (v := 2) hx hb dX5_passSilentTick_129 (by decide) ?_
            refine lv_iadd hx hb dX5_passSilentTick_130 ?_
            refine lv_topi (fun x31 ex31 => ?_)
            refine lv_icmp_ne (tgt := 156) hx hb dX5_passSilentTick_131 (by decide) (fun c32 => ?_) (fun c32 => ?_)
            · skip
              exact hret _ _ _ _ hT1 hS2 trivial dX5_passSilentTick_156
            · skip
              refine lv_aload_n hx hb dX5_passSilentTick_134 rfl (lv_at hl 1 rfl) ?_
              refine h_getr (C := RX5) (T := TX5) (N := 11) hx hb hts inX5 hown hK hT1 (on_rg hY) rfl 4 rfl wF_X5_42 rfl dX5_passSilentTick_135 ?_
              refine h_geti (C := RX6) (T := TX6) (N := 4) hx hb hts inX6 hown hK hT1 ((on_si hY).o rfl) rfl 1 rfl wF_X5_292 rfl dX5_passSilentTick_138 (fun p33 => ?_)
              refine h_top (v := x27) ex27.symm ?_
              refine lv_iconst (v := 2) hx hb dX5_passSilentTick_141 (by decide) ?_
              refine lv_icmp_ne (tgt := 156) hx hb dX5_passSilentTick_142 (by decide) (fun _ => ?_) (fun h => absurd h c28)
              exact hret _ _ _ _ hT1 hS2 trivial dX5_passSilentTick_156
          · skip
            refine lv_aload_n hx hb dX5_passSilentTick_105 rfl (lv_at hl 1 rfl) ?_
            refine lv_aload_n hx hb dX5_passSilentTick_106 rfl (lv_at hl 1 rfl) ?_
            refine h_getr (C := RX5) (T := TX5) (N := 11) hx hb hts inX5 hown hK hT1 (on_rg hY) rfl 4 rfl wF_X5_42 rfl dX5_passSilentTick_107 ?_
            refine h_geti (C := RX6) (T := TX6) (N := 4) hx hb hts inX6 hown hK hT1 ((on_si hY).o rfl) rfl 2 rfl wF_X5_298 rfl dX5_passSilentTick_110 (fun p34 => ?_)
            refine lv_topi (fun x35 ex35 => ?_)
            refine h_callVv (T := TX5) (rest := []) (As := [.int x35]) hx hb hml hown hts hK hT1 hZ (fun _ h => h) hS2 (c_X5_blame l G Y P (o) hY x35) trivial wd_X5_blame wV_X5_blame wL_X5_301 (on_rg hY) rfl rfl hl.1 rfl (Nat.le_of_ble_eq_true rfl) dX5_passSilentTick_113 ⟨Nat.le_of_ble_eq_true rfl, Nat.le_of_ble_eq_true rfl⟩ ⟨Nat.zero_le _, Nat.zero_le _⟩ (fun H4 locs hp4 hT4 hS4 hk4 => ?_)
            refine lv_goto (tgt := 156) hx hb dX5_passSilentTick_116 (by decide) ?_
            exact hret _ _ _ _ hT4 hS4 trivial dX5_passSilentTick_156
      · skip
        refine lv_aload_n hx hb dX5_passSilentTick_61 rfl (lv_at hl 1 rfl) ?_
        refine h_getr (C := RX5) (T := TX5) (N := 11) hx hb hts inX5 hown hK hT1 (on_rg hY) rfl 4 rfl wF_X5_42 rfl dX5_passSilentTick_62 ?_
        refine h_geti (C := RX6) (T := TX6) (N := 4) hx hb hts inX6 hown hK hT1 ((on_si hY).o rfl) rfl 1 rfl wF_X5_292 rfl dX5_passSilentTick_65 (fun p36 => ?_)
        refine lv_topi (fun x37 ex37 => ?_)
        refine lv_iconst (v := 1) hx hb dX5_passSilentTick_68 (by decide) ?_
        refine lv_icmp_ne (tgt := 79) hx hb dX5_passSilentTick_69 (by decide) (fun c38 => ?_) (fun c38 => ?_)
        · skip
          refine lv_aload_n hx hb dX5_passSilentTick_79 rfl (lv_at hl 1 rfl) ?_
          refine h_getr (C := RX5) (T := TX5) (N := 11) hx hb hts inX5 hown hK hT1 (on_rg hY) rfl 4 rfl wF_X5_42 rfl dX5_passSilentTick_80 ?_
          refine h_geti (C := RX6) (T := TX6) (N := 4) hx hb hts inX6 hown hK hT1 ((on_si hY).o rfl) rfl 0 rfl wF_X5_284 rfl dX5_passSilentTick_83 (fun p39 => ?_)
          refine h_top (v := x3) (h_pu hu1) ?_
          refine lv_iload_n hx hb dX5_passSilentTick_86 rfl (lv_at hl 0 rfl) ?_
          refine lv_iload_n hx hb dX5_passSilentTick_87 rfl (lv_at hl 0 rfl) ?_
          refine lv_iadd hx hb dX5_passSilentTick_88 ?_
          refine lv_topi (fun x40 ex40 => ?_)
          refine lv_iconst (v := 1) hx hb dX5_passSilentTick_89 (by decide) ?_
          refine lv_iadd hx hb dX5_passSilentTick_90 ?_
          refine lv_topi (fun x41 ex41 => ?_)
          refine lv_icmp_ne (tgt := 119) hx hb dX5_passSilentTick_91 (by decide) (fun c42 => ?_) (fun c42 => ?_)
          · skip
            refine lv_aload_n hx hb dX5_passSilentTick_119 rfl (lv_at hl 1 rfl) ?_
            refine h_getr (C := RX5) (T := TX5) (N := 11) hx hb hts inX5 hown hK hT1 (on_rg hY) rfl 4 rfl wF_X5_42 rfl dX5_passSilentTick_120 ?_
            refine h_geti (C := RX6) (T := TX6) (N := 4) hx hb hts inX6 hown hK hT1 ((on_si hY).o rfl) rfl 0 rfl wF_X5_284 rfl dX5_passSilentTick_123 (fun p43 => ?_)
            refine h_top (v := x3) (h_pu hu1) ?_
            refine lv_iload_n hx hb dX5_passSilentTick_126 rfl (lv_at hl 0 rfl) ?_
            refine lv_iload_n hx hb dX5_passSilentTick_127 rfl (lv_at hl 0 rfl) ?_
            refine lv_iadd hx hb dX5_passSilentTick_128 ?_
            refine lv_topi (fun x44 ex44 => ?_)
            refine lv_iconst (v := 2) hx hb dX5_passSilentTick_129 (by decide) ?_
            refine lv_iadd hx hb dX5_passSilentTick_130 ?_
            refine lv_topi (fun x45 ex45 => ?_)
            refine lv_icmp_ne (tgt := 156) hx hb dX5_passSilentTick_131 (by decide) (fun c46 => ?_) (fun c46 => ?_)
            · skip
              exact hret _ _ _ _ hT1 hS2 trivial dX5_passSilentTick_156
            · skip
              refine lv_aload_n hx hb dX5_passSilentTick_134 rfl (lv_at hl 1 rfl) ?_
              refine h_getr (C := RX5) (T := TX5) (N := 11) hx hb hts inX5 hown hK hT1 (on_rg hY) rfl 4 rfl wF_X5_42 rfl dX5_passSilentTick_135 ?_
              refine h_geti (C := RX6) (T := TX6) (N := 4) hx hb hts inX6 hown hK hT1 ((on_si hY).o rfl) rfl 1 rfl wF_X5_292 rfl dX5_passSilentTick_138 (fun p47 => ?_)
              refine h_top (v := x37) ex37.symm ?_
              refine lv_iconst (v := 2) hx hb dX5_passSilentTick_141 (by decide) ?_
              refine lv_icmp_ne (tgt := 156) hx hb dX5_passSilentTick_142 (by decide) (fun c48 => ?_) (fun c48 => ?_)
              · skip
                exact hret _ _ _ _ hT1 hS2 trivial dX5_passSilentTick_156
              · skip
                refine lv_aload_n hx hb dX5_passSilentTick_145 rfl (lv_at hl 1 rfl) ?_
                refine lv_aload_n hx hb dX5_passSilentTick_146 rfl (lv_at hl 1 rfl) ?_
                refine h_getr (C := RX5) (T := TX5) (N := 11) hx hb hts inX5 hown hK hT1 (on_rg hY) rfl 4 rfl wF_X5_42 rfl dX5_passSilentTick_147 ?_
                refine h_geti (C := RX6) (T := TX6) (N := 4) hx hb hts inX6 hown hK hT1 ((on_si hY).o rfl) rfl 3 rfl wF_X5_304 rfl dX5_passSilentTick_150 (fun p49 => ?_)
                refine lv_topi (fun x50 ex50 => ?_)
                refine h_callVv (T := TX5) (rest := []) (As := [.int x50]) hx hb hml hown hts hK hT1 hZ (fun _ h => h) hS2 (c_X5_blame l G Y P (o) hY x50) trivial wd_X5_blame wV_X5_blame wL_X5_301 (on_rg hY) rfl rfl hl.1 rfl (Nat.le_of_ble_eq_true rfl) dX5_passSilentTick_153 ⟨Nat.le_of_ble_eq_true rfl, Nat.le_of_ble_eq_true rfl⟩ ⟨Nat.zero_le _, Nat.zero_le _⟩ (fun H5 locs hp5 hT5 hS5 hk5 => ?_)
                exact hret _ _ _ _ hT5 hS5 trivial dX5_passSilentTick_156
          · skip
            refine lv_aload_n hx hb dX5_passSilentTick_94 rfl (lv_at hl 1 rfl) ?_
            refine h_getr (C := RX5) (T := TX5) (N := 11) hx hb hts inX5 hown hK hT1 (on_rg hY) rfl 4 rfl wF_X5_42 rfl dX5_passSilentTick_95 ?_
            refine h_geti (C := RX6) (T := TX6) (N := 4) hx hb hts inX6 hown hK hT1 ((on_si hY).o rfl) rfl 1 rfl wF_X5_292 rfl dX5_passSilentTick_98 (fun p51 => ?_)
            refine h_top (v := x37) ex37.symm ?_
            refine lv_iconst (v := 2) hx hb dX5_passSilentTick_101 (by decide) ?_
            refine lv_icmp_ne (tgt := 119) hx hb dX5_passSilentTick_102 (by decide) (fun c52 => ?_) (fun c52 => ?_)
            · skip
              refine lv_aload_n hx hb dX5_passSilentTick_119 rfl (lv_at hl 1 rfl) ?_
              refine h_getr (C := RX5) (T := TX5) (N := 11) hx hb hts inX5 hown hK hT1 (on_rg hY) rfl 4 rfl wF_X5_42 rfl dX5_passSilentTick_120 ?_
              refine h_geti (C := RX6) (T := TX6) (N := 4) hx hb hts inX6 hown hK hT1 ((on_si hY).o rfl) rfl 0 rfl wF_X5_284 rfl dX5_passSilentTick_123 (fun p53 => ?_)
              refine h_top (v := x3) (h_pu hu1) ?_
              refine lv_iload_n hx hb dX5_passSilentTick_126 rfl (lv_at hl 0 rfl) ?_
              refine lv_iload_n hx hb dX5_passSilentTick_127 rfl (lv_at hl 0 rfl) ?_
              refine lv_iadd hx hb dX5_passSilentTick_128 ?_
              refine lv_topi (fun x54 ex54 => ?_)
              refine lv_iconst (v := 2) hx hb dX5_passSilentTick_129 (by decide) ?_
              refine lv_iadd hx hb dX5_passSilentTick_130 ?_
              refine lv_topi (fun x55 ex55 => ?_)
              refine lv_icmp_ne (tgt := 156) hx hb dX5_passSilentTick_131 (by decide) (fun c56 => ?_) (fun c56 => ?_)
              · skip
                exact hret _ _ _ _ hT1 hS2 trivial dX5_passSilentTick_156
              · skip
                refine lv_aload_n hx hb dX5_passSilentTick_134 rfl (lv_at hl 1 rfl) ?_
                refine h_getr (C := RX5) (T := TX5) (N := 11) hx hb hts inX5 hown hK hT1 (on_rg hY) rfl 4 rfl wF_X5_42 rfl dX5_passSilentTick_135 ?_
                refine h_geti (C := RX6) (T := TX6) (N := 4) hx hb hts inX6 hown hK hT1 ((on_si hY).o rfl) rfl 1 rfl wF_X5_292 rfl dX5_passSilentTick_138 (fun p57 => ?_)
                refine h_top (v := x37) ex37.symm ?_
                refine lv_iconst (v := 2) hx hb dX5_passSilentTick_141 (by decide) ?_
                refine lv_icmp_ne (tgt := 156) hx hb dX5_passSilentTick_142 (by decide) (fun _ => ?_) (fun h => absurd h c52)
                exact hret _ _ _ _ hT1 hS2 trivial dX5_passSilentTick_156
            · skip
              refine lv_aload_n hx hb dX5_passSilentTick_105 rfl (lv_at hl 1 rfl) ?_
              refine lv_aload_n hx hb dX5_passSilentTick_106 rfl (lv_at hl 1 rfl) ?_
              refine h_getr (C := RX5) (T := TX5) (N := 11) hx hb hts inX5 hown hK hT1 (on_rg hY) rfl 4 rfl wF_X5_42 rfl dX5_passSilentTick_107 ?_
              refine h_geti (C := RX6) (T := TX6) (N := 4) hx hb hts inX6 hown hK hT1 ((on_si hY).o rfl) rfl 2 rfl wF_X5_298 rfl dX5_passSilentTick_110 (fun p58 => ?_)
              refine lv_topi (fun x59 ex59 => ?_)
              refine h_callVv (T := TX5) (rest := []) (As := [.int x59]) hx hb hml hown hts hK hT1 hZ (fun _ h => h) hS2 (c_X5_blame l G Y P (o) hY x59) trivial wd_X5_blame wV_X5_blame wL_X5_301 (on_rg hY) rfl rfl hl.1 rfl (Nat.le_of_ble_eq_true rfl) dX5_passSilentTick_113 ⟨Nat.le_of_ble_eq_true rfl, Nat.le_of_ble_eq_true rfl⟩ ⟨Nat.zero_le _, Nat.zero_le _⟩ (fun H6 locs hp6 hT6 hS6 hk6 => ?_)
              refine lv_goto (tgt := 156) hx hb dX5_passSilentTick_116 (by decide) ?_
              exact hret _ _ _ _ hT6 hS6 trivial dX5_passSilentTick_156
        · skip
          refine lv_aload_n hx hb dX5_passSilentTick_72 rfl (lv_at hl 1 rfl) ?_
          refine h_callVv (T := TX5) (rest := []) (As := []) hx hb hml hown hts hK hT1 hZ (fun _ h => h) hS2 (c_X5_crownGreatest l G Y P (o) hY) trivial wd_X5_crownGreatest wV_X5_crownGreatest wL_X5_295 (on_rg hY) rfl rfl hl.1 rfl (Nat.le_of_ble_eq_true rfl) dX5_passSilentTick_73 ⟨Nat.le_of_ble_eq_true rfl, Nat.le_of_ble_eq_true rfl⟩ ⟨Nat.zero_le _, Nat.zero_le _⟩ (fun H7 locs hp7 hT7 hS7 hk7 => ?_)
          refine lv_goto (tgt := 156) hx hb dX5_passSilentTick_76 (by decide) ?_
          exact hret _ _ _ _ hT7 hS7 trivial dX5_passSilentTick_156
    · skip
      refine lv_aload_n hx hb dX5_passSilentTick_39 rfl (lv_at hl 1 rfl) ?_
      refine h_callVv (T := TX5) (rest := []) (As := []) hx hb hml hown hts hK hT1 hZ (fun _ h => h) hS2 (c_X5_answerSilence l G Y P (o) hY) trivial wd_X5_answerSilence wV_X5_answerSilence wL_X5_289 (on_rg hY) rfl rfl hl.1 rfl (Nat.le_of_ble_eq_true rfl) dX5_passSilentTick_40 ⟨Nat.le_of_ble_eq_true rfl, Nat.le_of_ble_eq_true rfl⟩ ⟨Nat.zero_le _, Nat.zero_le _⟩ (fun H8 locs hp8 hT8 hS8 hk8 => ?_)
      refine lv_goto (tgt := 156) hx hb dX5_passSilentTick_43 (by decide) ?_
      exact hret _ _ _ _ hT8 hS8 trivial dX5_passSilentTick_156
  · skip
    exact hret _ _ _ _ hT1 hS2 trivial dX5_passSilentTick_25
set_option maxHeartbeats 4000000 in
set_option maxRecDepth 100000 in
theorem c_X5_passTick (l : Launch) (G : hG) (Y : hW) (P : Int32 → Prop) (o : Nat) (hY : h_On Y o (ringE (tC P) o)) (u1 : Int32) : hMv l yX5_passTick cX5_passTick 2 none 5 114 G Y [.ref (o), .int u1] (fun H => True) (fun H H1 => True) := by
  refine h_ofv (by decide +kernel) (Nat.le_of_ble_eq_true rfl) ?_
  intro p e s m args below meth c H0 ls Q hx hb hts hown hml hK hZ hT0 hpr hS0 hl hret
  have hl : lv_has ls 2 [(0, .ref (o)), (1, .int u1)] := hl
  refine lv_aload_n hx hb dX5_passTick_0 rfl (lv_at hl 0 rfl) ?_
  refine lv_dup hx hb dX5_passTick_1 rfl ?_
  refine h_geti (C := RX5) (T := TX5) (N := 11) hx hb hts inX5 hown hK hT0 (on_rg hY) rfl 6 rfl wF_X5_53 rfl dX5_passTick_2 (fun p1 => ?_)
  refine lv_topi (fun x2 ex2 => ?_)
  refine lv_iconst (v := 1) hx hb dX5_passTick_5 (by decide) ?_
  refine lv_iadd hx hb dX5_passTick_6 ?_
  refine lv_topi (fun x3 ex3 => ?_)
  refine h_puti (C := RX5) (T := TX5) (N := 11) hx hb hts inX5 tyX5 tyX5_ok nmX5 hown hK hT0 (fun _ h => h) hS0 (on_rg hY) rfl 6 rfl wF_X5_53 rfl rfl trivial rfl rfl dX5_passTick_7 (fun H1 locs hT1 hS1 hu1 => ?_)
  refine lv_aload_n hx hb dX5_passTick_10 rfl (lv_at hl 0 rfl) ?_
  refine h_callVv (T := TX5) (rest := []) (As := []) hx hb hml hown hts hK hT1 hZ (fun _ h => h) hS1 (c_X5_forgetLatestTick l G Y P (o) hY) trivial wd_X5_forgetLatestTick wV_X5_forgetLatestTick wL_X5_99 (on_rg hY) rfl rfl hl.1 rfl (Nat.le_of_ble_eq_true rfl) dX5_passTick_11 ⟨Nat.le_of_ble_eq_true rfl, Nat.le_of_ble_eq_true rfl⟩ ⟨Nat.zero_le _, Nat.zero_le _⟩ (fun H2 locs hp2 hT2 hS2 hk2 => ?_)
  refine lv_aload_n hx hb dX5_passTick_14 rfl (lv_at hl 0 rfl) ?_
  refine h_getr (C := RX5) (T := TX5) (N := 11) hx hb hts inX5 hown hK hT2 (on_rg hY) rfl 3 rfl wF_X5_35 rfl dX5_passTick_15 ?_
  refine h_geti (C := RX9) (T := TX9) (N := 11) hx hb hts inX9 hown hK hT2 ((on_wa hY).o rfl) rfl 0 rfl wF_X5_142 rfl dX5_passTick_18 (fun p4 => ?_)
  refine lv_topi (fun x5 ex5 => ?_)
  refine lv_if_ne (tgt := 31) hx hb dX5_passTick_21 (by decide) (fun c6 => ?_) (fun c6 => ?_)
  · skip
    refine lv_aload_n hx hb dX5_passTick_31 rfl (lv_at hl 0 rfl) ?_
    refine lv_iload_n hx hb dX5_passTick_32 rfl (lv_at hl 1 rfl) ?_
    refine h_callVv (T := TX5) (rest := []) (As := [.int u1]) hx hb hml hown hts hK hT2 hZ (fun _ h => h) hS2 (c_X5_moveOn l G Y P (o) hY u1) trivial wd_X5_moveOn wV_X5_moveOn wL_X5_198 (on_rg hY) rfl rfl hl.1 rfl (Nat.le_of_ble_eq_true rfl) dX5_passTick_33 ⟨Nat.le_of_ble_eq_true rfl, Nat.le_of_ble_eq_true rfl⟩ ⟨Nat.zero_le _, Nat.zero_le _⟩ (fun H3 locs hp3 hT3 hS3 hk3 => ?_)
    exact hret _ _ _ _ hT3 hS3 trivial dX5_passTick_36
  · skip
    refine lv_aload_n hx hb dX5_passTick_24 rfl (lv_at hl 0 rfl) ?_
    refine h_callVv (T := TX5) (rest := []) (As := []) hx hb hml hown hts hK hT2 hZ (fun _ h => h) hS2 (c_X5_passSilentTick l G Y P (o) hY) trivial wd_X5_passSilentTick wV_X5_passSilentTick wL_X5_195 (on_rg hY) rfl rfl hl.1 rfl (Nat.le_of_ble_eq_true rfl) dX5_passTick_25 ⟨Nat.le_of_ble_eq_true rfl, Nat.le_of_ble_eq_true rfl⟩ ⟨Nat.zero_le _, Nat.zero_le _⟩ (fun H4 locs hp4 hT4 hS4 hk4 => ?_)
    refine lv_goto (tgt := 36) hx hb dX5_passTick_28 (by decide) ?_
    exact hret _ _ _ _ hT4 hS4 trivial dX5_passTick_36
