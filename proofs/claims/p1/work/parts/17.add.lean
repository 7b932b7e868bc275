def tA : hTb := (fun ci k => if ci = 7 ∧ k = 5 then (fun _ => True) else tF.1 ci k, fun r => if r = 1100 then (fun _ _ => True) else tF.2 r)
set_option maxHeartbeats 4000000 in
set_option maxRecDepth 100000 in
theorem cA_hasAddress (l : Launch) (G : hG) (Y : hW) (o : Nat) (hY : h_On Y o (stE tA o)) (u1 : Int32) : hMi l yX7_hasAddress cX7_hasAddress 3 (some .boolean) 0 0 G Y [.ref (o), .int u1] (fun H => h_gi G H 7 o 5 = 0) (fun H r H1 => r = 0 ∧ H1 = H) := by
  refine h_ofz (by decide +kernel) (Nat.le_of_ble_eq_true rfl) ?_
  intro p e s m args below meth c H0 ls Q hx hb hts hown hml hK hT0 hpr hS0 hl hret
  have hl : lv_has ls 3 [(0, .ref (o)), (1, .int u1)] := hl
  refine lv_iconst (v := 0) hx hb dX7_hasAddress_0 (by decide) ?_
  refine lv_istore_n (lv' := [(2, .int 0), (0, .ref (o)), (1, .int u1)]) hx hb dX7_hasAddress_1 rfl hl (by decide) rfl (fun ls hl => ?_)
  refine lv_iload_n hx hb dX7_hasAddress_2 rfl (lv_at hl 0 rfl) ?_
  refine lv_aload_n hx hb dX7_hasAddress_3 rfl (lv_at hl 1 rfl) ?_
  refine h_geti (C := RX7) (T := TX7) (N := 9) hx hb hts inX7 hown hK hT0 (hY.o rfl) rfl 5 rfl wF_X7_28 rfl dX7_hasAddress_4 (fun p1 => ?_)
  refine h_top (v := 0) hpr ?_
  refine lv_icmp_ge (tgt := 36) hx hb dX7_hasAddress_7 (by decide) (fun _ => ?_) (fun h => absurd (by decide) h)
  refine lv_iconst (v := 0) hx hb dX7_hasAddress_36 (by decide) ?_
  exact hret _ _ _ _ _ hT0 hS0 ⟨by decide, rfl, rfl⟩ dX7_hasAddress_37
set_option maxHeartbeats 4000000 in
set_option maxRecDepth 100000 in
theorem cA_append (l : Launch) (G : hG) (Y : hW) (o : Nat) (hY : h_On Y o (stE tA o)) (u1 : Int32) : hMv l yX7_append cX7_append 2 none 0 0 G Y [.ref (o), .int u1] (fun H => h_gi G H 7 o 5 = 0) (fun H H1 => h_gi G H1 7 o 5 = 1) := by
  refine h_ofv (by decide +kernel) (Nat.le_of_ble_eq_true rfl) ?_
  intro p e s m args below meth c H0 ls Q hx hb hts hown hml hK hT0 hpr hS0 hl hret
  have hl : lv_has ls 2 [(0, .ref (o)), (1, .int u1)] := hl
  refine lv_aload_n hx hb dX7_append_0 rfl (lv_at hl 0 rfl) ?_
  refine h_geti (C := RX7) (T := TX7) (N := 9) hx hb hts inX7 hown hK hT0 (hY.o rfl) rfl 5 rfl wF_X7_28 rfl dX7_append_1 (fun p1 => ?_)
  refine h_top (v := 0) hpr ?_
  refine lv_if_lt (tgt := 16) hx hb dX7_append_4 (by decide) (fun h => absurd h (by decide)) (fun _ => ?_)
  refine lv_aload_n hx hb dX7_append_7 rfl (lv_at hl 0 rfl) ?_
  refine h_geti (C := RX7) (T := TX7) (N := 9) hx hb hts inX7 hown hK hT0 (hY.o rfl) rfl 5 rfl wF_X7_28 rfl dX7_append_8 (fun p3 => ?_)
  refine h_top (v := 0) hpr ?_
  refine lv_bipush (v := 8) hx hb dX7_append_11 (by decide) ?_
  refine lv_icmp_lt (tgt := 17) hx hb dX7_append_13 (by decide) (fun _ => ?_) (fun h => absurd (by decide) h)
  refine lv_aload_n hx hb dX7_append_17 rfl (lv_at hl 0 rfl) ?_
  refine h_getr (C := RX7) (T := TX7) (N := 9) hx hb hts inX7 hown hK hT0 (hY.o rfl) rfl 0 rfl wF_X7_9 rfl dX7_append_18 ?_
  refine lv_aload_n hx hb dX7_append_21 rfl (lv_at hl 0 rfl) ?_
  refine h_geti (C := RX7) (T := TX7) (N := 9) hx hb hts inX7 hown hK hT0 (hY.o rfl) rfl 5 rfl wF_X7_28 rfl dX7_append_22 (fun p5 => ?_)
  refine h_top (v := 0) hpr ?_
  refine lv_iload_n hx hb dX7_append_25 rfl (lv_at hl 1 rfl) ?_
  refine h_iast hx hb hK hT0 (fun _ h => h) hS0 (hY.at 1 rfl) (h_inc (by decide)) trivial dX7_append_26 (fun H1 locs hT1 hS1 hu1 => ?_)
  refine lv_aload_n hx hb dX7_append_27 rfl (lv_at hl 0 rfl) ?_
  refine h_getr (C := RX7) (T := TX7) (N := 9) hx hb hts inX7 hown hK hT1 (hY.o rfl) rfl 1 rfl wF_X7_15 rfl dX7_append_28 ?_
  refine lv_aload_n hx hb dX7_append_31 rfl (lv_at hl 0 rfl) ?_
  refine h_geti (C := RX7) (T := TX7) (N := 9) hx hb hts inX7 hown hK hT1 (hY.o rfl) rfl 5 rfl wF_X7_28 rfl dX7_append_32 (fun p6 => ?_)
  refine h_top (v := 0) ((h_gi_same (hu1.2.1 _ (by omega))).trans hpr) ?_
  refine lv_iconst (v := 1) hx hb dX7_append_35 (by decide) ?_
  refine h_zast hx hb hK hT1 (fun _ h => h) hS1 (hY.at 2 rfl) (h_inc (by decide)) (by decide) trivial dX7_append_36 (fun H2 locs hT2 hS2 hu2 => ?_)
  refine lv_aload_n hx hb dX7_append_37 rfl (lv_at hl 0 rfl) ?_
  refine h_getr (C := RX7) (T := TX7) (N := 9) hx hb hts inX7 hown hK hT2 (hY.o rfl) rfl 2 rfl wF_X7_19 rfl dX7_append_38 ?_
  refine lv_aload_n hx hb dX7_append_41 rfl (lv_at hl 0 rfl) ?_
  refine h_geti (C := RX7) (T := TX7) (N := 9) hx hb hts inX7 hown hK hT2 (hY.o rfl) rfl 5 rfl wF_X7_28 rfl dX7_append_42 (fun p7 => ?_)
  refine h_top (v := 0) ((h_gi_same (hu2.2.1 _ (by omega))).trans ((h_gi_same (hu1.2.1 _ (by omega))).trans hpr)) ?_
  refine lv_iconst (v := (-1)) hx hb dX7_append_45 (by decide) ?_
  refine h_iast hx hb hK hT2 (fun _ h => h) hS2 (hY.at 3 rfl) (h_inc (by decide)) trivial dX7_append_46 (fun H3 locs hT3 hS3 hu3 => ?_)
  refine lv_aload_n hx hb dX7_append_47 rfl (lv_at hl 0 rfl) ?_
  refine h_getr (C := RX7) (T := TX7) (N := 9) hx hb hts inX7 hown hK hT3 (hY.o rfl) rfl 3 rfl wF_X7_22 rfl dX7_append_48 ?_
  refine lv_aload_n hx hb dX7_append_51 rfl (lv_at hl 0 rfl) ?_
  refine h_geti (C := RX7) (T := TX7) (N := 9) hx hb hts inX7 hown hK hT3 (hY.o rfl) rfl 5 rfl wF_X7_28 rfl dX7_append_52 (fun p8 => ?_)
  refine h_top (v := 0) ((h_gi_same (hu3.2.1 _ (by omega))).trans ((h_gi_same (hu2.2.1 _ (by omega))).trans ((h_gi_same (hu1.2.1 _ (by omega))).trans hpr))) ?_
  refine lv_iconst (v := 0) hx hb dX7_append_55 (by decide) ?_
  refine h_iast hx hb hK hT3 (fun _ h => h) hS3 (hY.at 4 rfl) (h_inc (by decide)) trivial dX7_append_56 (fun H4 locs hT4 hS4 hu4 => ?_)
  refine lv_aload_n hx hb dX7_append_57 rfl (lv_at hl 0 rfl) ?_
  refine h_getr (C := RX7) (T := TX7) (N := 9) hx hb hts inX7 hown hK hT4 (hY.o rfl) rfl 4 rfl wF_X7_25 rfl dX7_append_58 ?_
  refine lv_aload_n hx hb dX7_append_61 rfl (lv_at hl 0 rfl) ?_
  refine h_geti (C := RX7) (T := TX7) (N := 9) hx hb hts inX7 hown hK hT4 (hY.o rfl) rfl 5 rfl wF_X7_28 rfl dX7_append_62 (fun p9 => ?_)
  refine h_top (v := 0) ((h_gi_same (hu4.2.1 _ (by omega))).trans ((h_gi_same (hu3.2.1 _ (by omega))).trans ((h_gi_same (hu2.2.1 _ (by omega))).trans ((h_gi_same (hu1.2.1 _ (by omega))).trans hpr)))) ?_
  refine lv_iconst (v := 0) hx hb dX7_append_65 (by decide) ?_
  refine h_iast hx hb hK hT4 (fun _ h => h) hS4 (hY.at 5 rfl) (h_inc (by decide)) trivial dX7_append_66 (fun H5 locs hT5 hS5 hu5 => ?_)
  refine lv_aload_n hx hb dX7_append_67 rfl (lv_at hl 0 rfl) ?_
  refine lv_dup hx hb dX7_append_68 rfl ?_
  refine h_geti (C := RX7) (T := TX7) (N := 9) hx hb hts inX7 hown hK hT5 (hY.o rfl) rfl 5 rfl wF_X7_28 rfl dX7_append_69 (fun p10 => ?_)
  refine h_top (v := 0) ((h_gi_same (hu5.2.1 _ (by omega))).trans ((h_gi_same (hu4.2.1 _ (by omega))).trans ((h_gi_same (hu3.2.1 _ (by omega))).trans ((h_gi_same (hu2.2.1 _ (by omega))).trans ((h_gi_same (hu1.2.1 _ (by omega))).trans hpr))))) ?_
  refine lv_iconst (v := 1) hx hb dX7_append_72 (by decide) ?_
  refine lv_iadd hx hb dX7_append_73 ?_
  refine h_top (v := 1) (by decide) ?_
  refine h_puti (C := RX7) (T := TX7) (N := 9) hx hb hts inX7 tyX7 tyX7_ok nmX7 hown hK hT5 (fun _ h => h) hS5 (hY.o rfl) rfl 5 rfl wF_X7_28 rfl rfl trivial rfl rfl dX7_append_74 (fun H6 locs hT6 hS6 hu6 => ?_)
  exact hret _ _ _ _ hT6 hS6 (h_pu hu6) dX7_append_77
set_option maxHeartbeats 4000000 in
set_option maxRecDepth 100000 in
theorem cA_restart (l : Launch) (G : hG) (Y : hW) (o : Nat) (hY : h_On Y o (siE tA o)) : hMv l yX6_restart cX6_restart 1 none 0 0 G Y [.ref (o)] (fun H => True) (fun H H1 => ∀ q : Nat, q ≠ o → H1[q]? = H[q]?) := by
  refine h_ofv (by decide +kernel) (Nat.le_of_ble_eq_true rfl) ?_
  intro p e s m args below meth c H0 ls Q hx hb hts hown hml hK hT0 hpr hS0 hl hret
  have hl : lv_has ls 1 [(0, .ref (o))] := hl
  refine lv_aload_n hx hb dX6_restart_0 rfl (lv_at hl 0 rfl) ?_
  refine lv_iconst (v := 0) hx hb dX6_restart_1 (by decide) ?_
  refine h_puti (C := RX6) (T := TX6) (N := 4) hx hb hts inX6 tyX6 tyX6_ok nmX6 hown hK hT0 (fun _ h => h) hS0 (hY.o rfl) rfl 0 rfl wF_X6_9 rfl rfl trivial rfl rfl dX6_restart_2 (fun H1 locs hT1 hS1 hu1 => ?_)
  refine lv_aload_n hx hb dX6_restart_5 rfl (lv_at hl 0 rfl) ?_
  refine lv_iconst (v := 0) hx hb dX6_restart_6 (by decide) ?_
  refine h_puti (C := RX6) (T := TX6) (N := 4) hx hb hts inX6 tyX6 tyX6_ok nmX6 hown hK hT1 (fun _ h => h) hS1 (hY.o rfl) rfl 1 rfl wF_X6_15 rfl rfl rfl rfl rfl dX6_restart_7 (fun H2 locs hT2 hS2 hu2 => ?_)
  refine lv_aload_n hx hb dX6_restart_10 rfl (lv_at hl 0 rfl) ?_
  refine lv_iconst (v := (-1)) hx hb dX6_restart_11 (by decide) ?_
  refine h_puti (C := RX6) (T := TX6) (N := 4) hx hb hts inX6 tyX6 tyX6_ok nmX6 hown hK hT2 (fun _ h => h) hS2 (hY.o rfl) rfl 2 rfl wF_X6_18 rfl rfl rfl rfl rfl dX6_restart_12 (fun H3 locs hT3 hS3 hu3 => ?_)
  refine lv_aload_n hx hb dX6_restart_15 rfl (lv_at hl 0 rfl) ?_
  refine lv_iconst (v := (-1)) hx hb dX6_restart_16 (by decide) ?_
  refine h_puti (C := RX6) (T := TX6) (N := 4) hx hb hts inX6 tyX6 tyX6_ok nmX6 hown hK hT3 (fun _ h => h) hS3 (hY.o rfl) rfl 3 rfl wF_X6_21 rfl rfl rfl rfl rfl dX6_restart_17 (fun H4 locs hT4 hS4 hu4 => ?_)
  exact hret _ _ _ _ hT4 hS4 (fun q hq => ((hu4.2.1 q hq).trans ((hu3.2.1 q hq).trans ((hu2.2.1 q hq).trans (hu1.2.1 q hq))))) dX6_restart_20
set_option maxHeartbeats 4000000 in
set_option maxRecDepth 100000 in
theorem cA_startSilence (l : Launch) (G : hG) (Y : hW) (o : Nat) (hY : h_On Y o (ringE tA o)) : hMv l yX5_startSilence cX5_startSilence 1 none 1 20 G Y [.ref (o)] (fun H => True) (fun H H1 => ∀ q : Nat, q ≠ o + 18 → H1[q]? = H[q]?) := by
  refine h_ofv (by decide +kernel) (Nat.le_of_ble_eq_true rfl) ?_
  intro p e s m args below meth c H0 ls Q hx hb hts hown hml hK hT0 hpr hS0 hl hret
  have hl : lv_has ls 1 [(0, .ref (o))] := hl
  refine lv_aload_n hx hb dX5_startSilence_0 rfl (lv_at hl 0 rfl) ?_
  refine h_getr (C := RX5) (T := TX5) (N := 11) hx hb hts inX5 hown hK hT0 (on_rg hY) rfl 3 rfl wF_X5_35 rfl dX5_startSilence_1 ?_
  refine h_getc (v := 0) (C := RX9) (T := TX9) (N := 11) hx hb hts inX9 hown hK hT0 ((on_wa hY).o rfl) rfl 0 rfl wF_X5_142 rfl (fun _ h => h) dX5_startSilence_4 ?_
  refine lv_if_ne (tgt := 17) hx hb dX5_startSilence_7 (by decide) (fun h => absurd (by decide) h) (fun _ => ?_)
  refine lv_aload_n hx hb dX5_startSilence_10 rfl (lv_at hl 0 rfl) ?_
  refine h_getr (C := RX5) (T := TX5) (N := 11) hx hb hts inX5 hown hK hT0 (on_rg hY) rfl 4 rfl wF_X5_42 rfl dX5_startSilence_11 ?_
  refine h_callVv (T := TX6) (rest := []) (As := []) hx hb hml hown hts hK hT0 (fun _ h => h) hS0 (cA_restart l G Y (o + 18) (on_si hY)) trivial wd_X6_restart wV_X6_restart wL_X5_76 ((on_si hY).o rfl) rfl rfl hl.1 rfl (Nat.le_of_ble_eq_true rfl) dX5_startSilence_14 ⟨Nat.le_of_ble_eq_true rfl, Nat.le_of_ble_eq_true rfl⟩ ⟨Nat.zero_le _, Nat.zero_le _⟩ (fun H1 locs hp1 hT1 hS1 hk1 => ?_)
  exact hret _ _ _ _ hT1 hS1 (fun q hq => (hp1 q hq)) dX5_startSilence_17
set_option maxHeartbeats 4000000 in
set_option maxRecDepth 100000 in
theorem cA_give (l : Launch) (G : hG) (Y : hW) (o : Nat) (hW : h_On Y o (wldE tA o)) (u1 : Int32) : hMi l yX10_give cX10_give 2 (some .int) 0 0 G Y [.ref (o), .int u1] (fun H => True) (fun H r H1 => r = u1) := by
  refine h_ofi (by decide +kernel) (Nat.le_of_ble_eq_true rfl) ?_
  intro p e s m args below meth c H0 ls Q hx hb hts hown hml hK hT0 hpr hS0 hl hret
  have hl : lv_has ls 2 [(0, .ref (o)), (1, .int u1)] := hl
  refine lv_aload_n hx hb dX10_give_0 rfl (lv_at hl 0 rfl) ?_
  refine lv_iconst (v := 0) hx hb dX10_give_1 (by decide) ?_
  refine h_puti (C := RX10) (T := TX10) (N := 9) hx hb hts inX10 tyX10 tyX10_ok nmX10 hown hK hT0 (fun _ h => h) hS0 (on_w0 hW) rfl 8 rfl wF_X10_56 rfl rfl trivial rfl rfl dX10_give_2 (fun H1 locs hT1 hS1 hu1 => ?_)
  refine lv_iload_n hx hb dX10_give_5 rfl (lv_at hl 1 rfl) ?_
  exact hret _ _ _ _ _ hT1 hS1 rfl dX10_give_6
set_option maxHeartbeats 4000000 in
set_option maxRecDepth 100000 in
theorem cA_fail (l : Launch) (G : hG) (Y : hW) (o : Nat) (hW : h_On Y o (wldE tA o)) (u1 : Int32) : hMi l yX10_fail cX10_fail 2 (some .int) 0 0 G Y [.ref (o), .int u1] (fun H => True) (fun H r H1 => r = -1) := by
  refine h_ofi (by decide +kernel) (Nat.le_of_ble_eq_true rfl) ?_
  intro p e s m args below meth c H0 ls Q hx hb hts hown hml hK hT0 hpr hS0 hl hret
  have hl : lv_has ls 2 [(0, .ref (o)), (1, .int u1)] := hl
  refine lv_aload_n hx hb dX10_fail_0 rfl (lv_at hl 0 rfl) ?_
  refine lv_iload_n hx hb dX10_fail_1 rfl (lv_at hl 1 rfl) ?_
  refine h_puti (C := RX10) (T := TX10) (N := 9) hx hb hts inX10 tyX10 tyX10_ok nmX10 hown hK hT0 (fun _ h => h) hS0 (on_w0 hW) rfl 8 rfl wF_X10_56 rfl rfl trivial rfl rfl dX10_fail_2 (fun H1 locs hT1 hS1 hu1 => ?_)
  refine lv_iconst (v := (-1)) hx hb dX10_fail_5 (by decide) ?_
  exact hret _ _ _ _ _ hT1 hS1 rfl dX10_fail_6
set_option maxHeartbeats 4000000 in
set_option maxRecDepth 100000 in
theorem cA_add (l : Launch) (G : hG) (Y : hW) (o : Nat) (hW : h_On Y o (wldE tA o)) (u1 : Int32) : hMi l yX10_add cX10_add 2 (some .int) 2 40 G Y [.ref (o), .int u1] (fun H => h_gi G H 7 (o + 3 + 1) 5 = 0) (fun H r H1 => ((0 ≤ u1.toInt ∧ u1.toInt ≤ 99) → r = 0) ∧ (¬ (0 ≤ u1.toInt ∧ u1.toInt ≤ 99) → r = -1)) := by
  refine h_ofi (by decide +kernel) (Nat.le_of_ble_eq_true rfl) ?_
  intro p e s m args below meth c H0 ls Q hx hb hts hown hml hK hT0 hpr hS0 hl hret
  have hl : lv_has ls 2 [(0, .ref (o)), (1, .int u1)] := hl
  refine lv_iload_n hx hb dX10_add_0 rfl (lv_at hl 1 rfl) ?_
  refine lv_if_lt (tgt := 10) hx hb dX10_add_1 (by decide) (fun c1 => ?_) (fun c1 => ?_)
  · skip
    refine lv_aload_n hx hb dX10_add_10 rfl (lv_at hl 0 rfl) ?_
    refine lv_iconst (v := 1) hx hb dX10_add_11 (by decide) ?_
    refine h_callVi (T := TX10) (rest := []) (As := [.int 1]) hx hb hml hown hts hK hT0 (fun _ h => h) hS0 (cA_fail l G Y (o) hW 1) trivial wd_X10_fail wV_X10_fail wL_X10_66 (on_w0 hW) rfl rfl hl.1 rfl (Nat.le_of_ble_eq_true rfl) dX10_add_12 ⟨Nat.le_of_ble_eq_true rfl, Nat.le_of_ble_eq_true rfl⟩ ⟨Nat.zero_le _, Nat.zero_le _⟩ (fun r2 H1 locs hp1 hT1 hS1 hk1 => ?_)
    have hp1 : r2 = (-1) := hp1
    subst hp1
    exact hret _ _ _ _ _ hT1 hS1 (by refine ⟨fun h => ?_, fun h => ?_⟩ <;> first | rfl | exact absurd h (by decide) | (exfalso; simp only [Int32.lt_iff_toInt_lt, Int32.le_iff_toInt_le, ← Int32.toInt_inj, Int32.reduceToInt, (show (-1 : Int32).toInt = -1 from rfl)] at c1 <;> omega)) dX10_add_15
  · skip
    refine lv_iload_n hx hb dX10_add_4 rfl (lv_at hl 1 rfl) ?_
    refine lv_bipush (v := 100) hx hb dX10_add_5 (by decide) ?_
    refine lv_icmp_lt (tgt := 16) hx hb dX10_add_7 (by decide) (fun c3 => ?_) (fun c3 => ?_)
    · skip
      refine lv_aload_n hx hb dX10_add_16 rfl (lv_at hl 0 rfl) ?_
      refine h_getr (C := RX10) (T := TX10) (N := 9) hx hb hts inX10 hown hK hT0 (on_w0 hW) rfl 1 rfl wF_X10_19 rfl dX10_add_17 ?_
      refine h_getr (C := RX5) (T := TX5) (N := 11) hx hb hts inX5 hown hK hT0 (on_rg (on_wr hW)) rfl 0 rfl wF_X10_86 rfl dX10_add_20 ?_
      refine h_geti (C := RX7) (T := TX7) (N := 9) hx hb hts inX7 hown hK hT0 ((on_st (on_wr hW)).o rfl) rfl 5 rfl wF_X10_90 rfl dX10_add_23 (fun p4 => ?_)
      refine h_top (v := 0) hpr ?_
      refine lv_bipush (v := 8) hx hb dX10_add_26 (by decide) ?_
      refine lv_icmp_lt (tgt := 37) hx hb dX10_add_28 (by decide) (fun _ => ?_) (fun h => absurd (by decide) h)
      refine lv_aload_n hx hb dX10_add_37 rfl (lv_at hl 0 rfl) ?_
      refine h_getr (C := RX10) (T := TX10) (N := 9) hx hb hts inX10 hown hK hT0 (on_w0 hW) rfl 1 rfl wF_X10_19 rfl dX10_add_38 ?_
      refine h_getr (C := RX5) (T := TX5) (N := 11) hx hb hts inX5 hown hK hT0 (on_rg (on_wr hW)) rfl 0 rfl wF_X10_86 rfl dX10_add_41 ?_
      refine lv_iload_n hx hb dX10_add_44 rfl (lv_at hl 1 rfl) ?_
      refine h_callVi (T := TX7) (rest := []) (As := [.int u1]) hx hb hml hown hts hK hT0 (fun _ h => h) hS0 (cA_hasAddress l G Y (o + 3 + 1) (on_st (on_wr hW)) u1) hpr wd_X7_hasAddress wV_X7_hasAddress wL_X10_235 ((on_st (on_wr hW)).o rfl) rfl rfl hl.1 rfl (Nat.le_of_ble_eq_true rfl) dX10_add_45 ⟨Nat.le_of_ble_eq_true rfl, Nat.le_of_ble_eq_true rfl⟩ ⟨Nat.zero_le _, Nat.zero_le _⟩ (fun r6 H2 locs hp2 hT2 hS2 hk2 => ?_)
      obtain ⟨hp2, he⟩ := hp2
      have he := he.symm
      subst he
      have hp2 : r6 = 0 := hp2
      subst hp2
      refine lv_if_eq (tgt := 58) hx hb dX10_add_48 (by decide) (fun _ => ?_) (fun h => absurd (by decide) h)
      refine lv_aload_n hx hb dX10_add_58 rfl (lv_at hl 0 rfl) ?_
      refine h_getr (C := RX10) (T := TX10) (N := 9) hx hb hts inX10 hown hK hT0 (on_w0 hW) rfl 1 rfl wF_X10_19 rfl dX10_add_59 ?_
      refine h_getr (C := RX5) (T := TX5) (N := 11) hx hb hts inX5 hown hK hT0 (on_rg (on_wr hW)) rfl 0 rfl wF_X10_86 rfl dX10_add_62 ?_
      refine lv_iload_n hx hb dX10_add_65 rfl (lv_at hl 1 rfl) ?_
      refine h_callVv (T := TX7) (rest := []) (As := [.int u1]) hx hb hml hown hts hK hT0 (fun _ h => h) hS2 (cA_append l G Y (o + 3 + 1) (on_st (on_wr hW)) u1) hpr wd_X7_append wV_X7_append wL_X10_238 ((on_st (on_wr hW)).o rfl) rfl rfl hl.1 rfl (Nat.le_of_ble_eq_true rfl) dX10_add_66 ⟨Nat.le_of_ble_eq_true rfl, Nat.le_of_ble_eq_true rfl⟩ ⟨Nat.zero_le _, Nat.zero_le _⟩ (fun H3 locs hp3 hT3 hS3 hk3 => ?_)
      refine lv_aload_n hx hb dX10_add_69 rfl (lv_at hl 0 rfl) ?_
      refine h_getr (C := RX10) (T := TX10) (N := 9) hx hb hts inX10 hown hK hT3 (on_w0 hW) rfl 1 rfl wF_X10_19 rfl dX10_add_70 ?_
      refine h_callVv (T := TX5) (rest := []) (As := []) hx hb hml hown hts hK hT3 (fun _ h => h) hS3 (cA_startSilence l G Y (o + 3) (on_wr hW)) trivial wd_X5_startSilence wV_X5_startSilence wL_X10_239 (on_rg (on_wr hW)) rfl rfl hl.1 rfl (Nat.le_of_ble_eq_true rfl) dX10_add_73 ⟨Nat.le_of_ble_eq_true rfl, Nat.le_of_ble_eq_true rfl⟩ ⟨Nat.zero_le _, Nat.zero_le _⟩ (fun H4 locs hp4 hT4 hS4 hk4 => ?_)
      refine lv_aload_n hx hb dX10_add_76 rfl (lv_at hl 0 rfl) ?_
      refine lv_aload_n hx hb dX10_add_77 rfl (lv_at hl 0 rfl) ?_
      refine h_getr (C := RX10) (T := TX10) (N := 9) hx hb hts inX10 hown hK hT4 (on_w0 hW) rfl 1 rfl wF_X10_19 rfl dX10_add_78 ?_
      refine h_getr (C := RX5) (T := TX5) (N := 11) hx hb hts inX5 hown hK hT4 (on_rg (on_wr hW)) rfl 0 rfl wF_X10_86 rfl dX10_add_81 ?_
      refine h_geti (C := RX7) (T := TX7) (N := 9) hx hb hts inX7 hown hK hT4 ((on_st (on_wr hW)).o rfl) rfl 5 rfl wF_X10_90 rfl dX10_add_84 (fun p8 => ?_)
      refine h_top (v := 1) ((h_gi_same (hp4 (o + 3 + 1) (by omega))).trans hp3) ?_
      refine lv_iconst (v := 1) hx hb dX10_add_87 (by decide) ?_
      refine lv_isub hx hb dX10_add_88 ?_
      refine h_top (v := 0) (by decide) ?_
      refine h_callVi (T := TX10) (rest := []) (As := [.int 0]) hx hb hml hown hts hK hT4 (fun _ h => h) hS4 (cA_give l G Y (o) hW 0) trivial wd_X10_give wV_X10_give wL_X10_95 (on_w0 hW) rfl rfl hl.1 rfl (Nat.le_of_ble_eq_true rfl) dX10_add_89 ⟨Nat.le_of_ble_eq_true rfl, Nat.le_of_ble_eq_true rfl⟩ ⟨Nat.zero_le _, Nat.zero_le _⟩ (fun r9 H5 locs hp5 hT5 hS5 hk5 => ?_)
      have hp5 : r9 = 0 := hp5
      subst hp5
      exact hret _ _ _ _ _ hT5 hS5 (by refine ⟨fun h => ?_, fun h => ?_⟩ <;> first | rfl | exact absurd h (by decide) | (exfalso; simp only [Int32.lt_iff_toInt_lt, Int32.le_iff_toInt_le, ← Int32.toInt_inj, Int32.reduceToInt, (show (-1 : Int32).toInt = -1 from rfl)] at c1 c3 <;> omega)) dX10_add_92
    · skip
      refine lv_aload_n hx hb dX10_add_10 rfl (lv_at hl 0 rfl) ?_
      refine lv_iconst (v := 1) hx hb dX10_add_11 (by decide) ?_
      refine h_callVi (T := TX10) (rest := []) (As := [.int 1]) hx hb hml hown hts hK hT0 (fun _ h => h) hS0 (cA_fail l G Y (o) hW 1) trivial wd_X10_fail wV_X10_fail wL_X10_66 (on_w0 hW) rfl rfl hl.1 rfl (Nat.le_of_ble_eq_true rfl) dX10_add_12 ⟨Nat.le_of_ble_eq_true rfl, Nat.le_of_ble_eq_true rfl⟩ ⟨Nat.zero_le _, Nat.zero_le _⟩ (fun r10 H6 locs hp6 hT6 hS6 hk6 => ?_)
      have hp6 : r10 = (-1) := hp6
      subst hp6
      exact hret _ _ _ _ _ hT6 hS6 (by refine ⟨fun h => ?_, fun h => ?_⟩ <;> first | rfl | exact absurd h (by decide) | (exfalso; simp only [Int32.lt_iff_toInt_lt, Int32.le_iff_toInt_le, ← Int32.toInt_inj, Int32.reduceToInt, (show (-1 : Int32).toInt = -1 from rfl)] at c1 c3 <;> omega)) dX10_add_15
