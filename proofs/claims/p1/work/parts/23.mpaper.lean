set_option maxHeartbeats 4000000 in
set_option maxRecDepth 100000 in
theorem c_X11_isQuiet (l : Launch) (G : hG) (Y : hW) (o : Nat) (hM : h_On Y o (modE tF o)) : hMi l yX11_isQuiet cX11_isQuiet 2 (some .boolean) 1 21 G Y [.ref (o)] (fun H => True) (fun H r H1 => r = 1 ∧ H1 = H) := by
  refine h_ofz (by decide +kernel) (Nat.le_of_ble_eq_true rfl) ?_
  intro p e s m args below meth c H0 ls Q hx hb hts hown hml hK hT0 hpr hS0 hl hret
  have hl : lv_has ls 2 [(0, .ref (o))] := hl
  refine lv_iconst (v := 0) hx hb dX11_isQuiet_0 (by decide) ?_
  refine lv_istore_n (lv' := [(1, .int 0), (0, .ref (o))]) hx hb dX11_isQuiet_1 rfl hl (by decide) rfl (fun ls hl => ?_)
  refine lv_iload_n hx hb dX11_isQuiet_2 rfl (lv_at hl 0 rfl) ?_
  refine lv_aload_n hx hb dX11_isQuiet_3 rfl (lv_at hl 1 rfl) ?_
  refine lv_iconst (v := 0) hx hb dX11_isQuiet_4 (by decide) ?_
  refine h_callVi (T := TX11) (rest := [.int 0]) (As := [.int 0]) hx hb hml hown hts hK hT0 (fun _ h => h) hS0 (c_of l G Y tF (o) hM 0 0 (by decide) (h_inc (by decide))) trivial wd_X11_of wV_X11_of wL_X11_47 (hM.o rfl) rfl rfl hl.1 rfl (Nat.le_of_ble_eq_true rfl) dX11_isQuiet_5 ⟨Nat.le_of_ble_eq_true rfl, Nat.le_of_ble_eq_true rfl⟩ ⟨Nat.zero_le _, Nat.zero_le _⟩ (fun r1 H1 locs hp1 hT1 hS1 hk1 => ?_)
  obtain ⟨hp1, he⟩ := hp1
  have he := he.symm
  subst he
  have hp1 : r1 = 0 := hp1.trans ((tF_all (hT0.ai (hM.at 1 rfl) (j := 0) (by decide)).1 (by decide) (by decide) (by decide)).trans (by decide))
  subst hp1
  refine lv_icmp_ge (tgt := 38) hx hb dX11_isQuiet_8 (by decide) (fun _ => ?_) (fun h => absurd (by decide) h)
  refine lv_aload_n hx hb dX11_isQuiet_38 rfl (lv_at hl 1 rfl) ?_
  refine lv_iconst (v := 5) hx hb dX11_isQuiet_39 (by decide) ?_
  refine h_callVi (T := TX11) (rest := []) (As := [.int 5]) hx hb hml hown hts hK hT0 (fun _ h => h) hS1 (c_of l G Y tF (o) hM 5 5 (by decide) (h_inc (by decide))) trivial wd_X11_of wV_X11_of wL_X11_47 (hM.o rfl) rfl rfl hl.1 rfl (Nat.le_of_ble_eq_true rfl) dX11_isQuiet_40 ⟨Nat.le_of_ble_eq_true rfl, Nat.le_of_ble_eq_true rfl⟩ ⟨Nat.zero_le _, Nat.zero_le _⟩ (fun r3 H2 locs hp2 hT2 hS2 hk2 => ?_)
  obtain ⟨hp2, he⟩ := hp2
  have he := he.symm
  subst he
  have hp2 : r3 = 0 := hp2.trans ((tF_all (hT0.ai (hM.at 1 rfl) (j := 5) (by decide)).1 (by decide) (by decide) (by decide)).trans (by decide))
  subst hp2
  refine lv_iconst (v := 2) hx hb dX11_isQuiet_43 (by decide) ?_
  refine lv_icmp_eq (tgt := 51) hx hb dX11_isQuiet_44 (by decide) (fun h => absurd h (by decide)) (fun _ => ?_)
  refine lv_iconst (v := 1) hx hb dX11_isQuiet_47 (by decide) ?_
  refine lv_goto (tgt := 52) hx hb dX11_isQuiet_48 (by decide) ?_
  exact hret _ _ _ _ _ hT0 hS2 ⟨by decide, rfl, rfl⟩ dX11_isQuiet_52
set_option maxHeartbeats 4000000 in
set_option maxRecDepth 100000 in
theorem c_X11_isLowered (l : Launch) (G : hG) (Y : hW) (o : Nat) (hM : h_On Y o (modE tF o)) : hMi l yX11_isLowered cX11_isLowered 2 (some .boolean) 1 21 G Y [.ref (o)] (fun H => True) (fun H r H1 => r = 1 ∧ H1 = H) := by
  refine h_ofz (by decide +kernel) (Nat.le_of_ble_eq_true rfl) ?_
  intro p e s m args below meth c H0 ls Q hx hb hts hown hml hK hT0 hpr hS0 hl hret
  have hl : lv_has ls 2 [(0, .ref (o))] := hl
  refine lv_iconst (v := 0) hx hb dX11_isLowered_0 (by decide) ?_
  refine lv_istore_n (lv' := [(1, .int 0), (0, .ref (o))]) hx hb dX11_isLowered_1 rfl hl (by decide) rfl (fun ls hl => ?_)
  refine lv_iload_n hx hb dX11_isLowered_2 rfl (lv_at hl 0 rfl) ?_
  refine lv_aload_n hx hb dX11_isLowered_3 rfl (lv_at hl 1 rfl) ?_
  refine lv_iconst (v := 0) hx hb dX11_isLowered_4 (by decide) ?_
  refine h_callVi (T := TX11) (rest := [.int 0]) (As := [.int 0]) hx hb hml hown hts hK hT0 (fun _ h => h) hS0 (c_of l G Y tF (o) hM 0 0 (by decide) (h_inc (by decide))) trivial wd_X11_of wV_X11_of wL_X11_47 (hM.o rfl) rfl rfl hl.1 rfl (Nat.le_of_ble_eq_true rfl) dX11_isLowered_5 ⟨Nat.le_of_ble_eq_true rfl, Nat.le_of_ble_eq_true rfl⟩ ⟨Nat.zero_le _, Nat.zero_le _⟩ (fun r1 H1 locs hp1 hT1 hS1 hk1 => ?_)
  obtain ⟨hp1, he⟩ := hp1
  have he := he.symm
  subst he
  have hp1 : r1 = 0 := hp1.trans ((tF_all (hT0.ai (hM.at 1 rfl) (j := 0) (by decide)).1 (by decide) (by decide) (by decide)).trans (by decide))
  subst hp1
  refine lv_icmp_ge (tgt := 30) hx hb dX11_isLowered_8 (by decide) (fun _ => ?_) (fun h => absurd (by decide) h)
  refine lv_iconst (v := 1) hx hb dX11_isLowered_30 (by decide) ?_
  exact hret _ _ _ _ _ hT0 hS1 ⟨by decide, rfl, rfl⟩ dX11_isLowered_31
set_option maxHeartbeats 4000000 in
set_option maxRecDepth 100000 in
theorem c_isReached_0 (l : Launch) (G : hG) (Y : hW) (o : Nat) (hM : h_On Y o (modE tF o)) : hMi l yX11_isReached cX11_isReached 2 (some .boolean) 2 42 G Y [.ref (o), .int 0] (fun H => True) (fun H r H1 => r = 1 ∧ H1 = H) := by
  refine h_ofz (by decide +kernel) (Nat.le_of_ble_eq_true rfl) ?_
  intro p e s m args below meth c H0 ls Q hx hb hts hown hml hK hT0 hpr hS0 hl hret
  have hl : lv_has ls 2 [(0, .ref (o)), (1, .int 0)] := hl
  refine lv_iload_n hx hb dX11_isReached_0 rfl (lv_at hl 1 rfl) ?_
  refine lv_if_ne (tgt := 11) hx hb dX11_isReached_1 (by decide) (fun h => absurd (by decide) h) (fun _ => ?_)
  refine lv_aload_n hx hb dX11_isReached_4 rfl (lv_at hl 0 rfl) ?_
  refine h_callVi (T := TX11) (rest := []) (As := []) hx hb hml hown hts hK hT0 (fun _ h => h) hS0 (c_X11_isQuiet l G Y (o) hM) trivial wd_X11_isQuiet wV_X11_isQuiet wL_X11_310 (hM.o rfl) rfl rfl hl.1 rfl (Nat.le_of_ble_eq_true rfl) dX11_isReached_5 ⟨Nat.le_of_ble_eq_true rfl, Nat.le_of_ble_eq_true rfl⟩ ⟨Nat.zero_le _, Nat.zero_le _⟩ (fun r2 H1 locs hp1 hT1 hS1 hk1 => ?_)
  obtain ⟨hp1, he⟩ := hp1
  have he := he.symm
  subst he
  have hp1 : r2 = 1 := hp1
  subst hp1
  refine lv_goto (tgt := 70) hx hb dX11_isReached_8 (by decide) ?_
  exact hret _ _ _ _ _ hT0 hS1 ⟨by decide, rfl, rfl⟩ dX11_isReached_70
set_option maxHeartbeats 4000000 in
set_option maxRecDepth 100000 in
theorem c_isReached_1 (l : Launch) (G : hG) (Y : hW) (o : Nat) (hM : h_On Y o (modE tF o)) : hMi l yX11_isReached cX11_isReached 2 (some .boolean) 2 42 G Y [.ref (o), .int 1] (fun H => True) (fun H r H1 => r = 1 ∧ H1 = H) := by
  refine h_ofz (by decide +kernel) (Nat.le_of_ble_eq_true rfl) ?_
  intro p e s m args below meth c H0 ls Q hx hb hts hown hml hK hT0 hpr hS0 hl hret
  have hl : lv_has ls 2 [(0, .ref (o)), (1, .int 1)] := hl
  refine lv_iload_n hx hb dX11_isReached_0 rfl (lv_at hl 1 rfl) ?_
  refine lv_if_ne (tgt := 11) hx hb dX11_isReached_1 (by decide) (fun _ => ?_) (fun h => absurd h (by decide))
  refine lv_iload_n hx hb dX11_isReached_11 rfl (lv_at hl 1 rfl) ?_
  refine lv_iconst (v := 1) hx hb dX11_isReached_12 (by decide) ?_
  refine lv_icmp_ne (tgt := 23) hx hb dX11_isReached_13 (by decide) (fun h => absurd (by decide) h) (fun _ => ?_)
  refine lv_aload_n hx hb dX11_isReached_16 rfl (lv_at hl 0 rfl) ?_
  refine h_callVi (T := TX11) (rest := []) (As := []) hx hb hml hown hts hK hT0 (fun _ h => h) hS0 (c_X11_isLowered l G Y (o) hM) trivial wd_X11_isLowered wV_X11_isLowered wL_X11_313 (hM.o rfl) rfl rfl hl.1 rfl (Nat.le_of_ble_eq_true rfl) dX11_isReached_17 ⟨Nat.le_of_ble_eq_true rfl, Nat.le_of_ble_eq_true rfl⟩ ⟨Nat.zero_le _, Nat.zero_le _⟩ (fun r3 H1 locs hp1 hT1 hS1 hk1 => ?_)
  obtain ⟨hp1, he⟩ := hp1
  have he := he.symm
  subst he
  have hp1 : r3 = 1 := hp1
  subst hp1
  refine lv_goto (tgt := 70) hx hb dX11_isReached_20 (by decide) ?_
  exact hret _ _ _ _ _ hT0 hS1 ⟨by decide, rfl, rfl⟩ dX11_isReached_70
set_option maxHeartbeats 4000000 in
set_option maxRecDepth 100000 in
theorem c_isReached_2 (l : Launch) (G : hG) (Y : hW) (o : Nat) (hM : h_On Y o (modE tF o)) : hMi l yX11_isReached cX11_isReached 2 (some .boolean) 1 21 G Y [.ref (o), .int 2] (fun H => True) (fun H r H1 => r = 0 ∧ H1 = H) := by
  refine h_ofz (by decide +kernel) (Nat.le_of_ble_eq_true rfl) ?_
  intro p e s m args below meth c H0 ls Q hx hb hts hown hml hK hT0 hpr hS0 hl hret
  have hl : lv_has ls 2 [(0, .ref (o)), (1, .int 2)] := hl
  refine lv_iload_n hx hb dX11_isReached_0 rfl (lv_at hl 1 rfl) ?_
  refine lv_if_ne (tgt := 11) hx hb dX11_isReached_1 (by decide) (fun _ => ?_) (fun h => absurd h (by decide))
  refine lv_iload_n hx hb dX11_isReached_11 rfl (lv_at hl 1 rfl) ?_
  refine lv_iconst (v := 1) hx hb dX11_isReached_12 (by decide) ?_
  refine lv_icmp_ne (tgt := 23) hx hb dX11_isReached_13 (by decide) (fun _ => ?_) (fun h => absurd h (by decide))
  refine lv_iload_n hx hb dX11_isReached_23 rfl (lv_at hl 1 rfl) ?_
  refine lv_iconst (v := 2) hx hb dX11_isReached_24 (by decide) ?_
  refine lv_icmp_ne (tgt := 45) hx hb dX11_isReached_25 (by decide) (fun h => absurd (by decide) h) (fun _ => ?_)
  refine lv_aload_n hx hb dX11_isReached_28 rfl (lv_at hl 0 rfl) ?_
  refine lv_iconst (v := 5) hx hb dX11_isReached_29 (by decide) ?_
  refine h_callVi (T := TX11) (rest := []) (As := [.int 5]) hx hb hml hown hts hK hT0 (fun _ h => h) hS0 (c_of l G Y tF (o) hM 5 5 (by decide) (h_inc (by decide))) trivial wd_X11_of wV_X11_of wL_X11_47 (hM.o rfl) rfl rfl hl.1 rfl (Nat.le_of_ble_eq_true rfl) dX11_isReached_30 ⟨Nat.le_of_ble_eq_true rfl, Nat.le_of_ble_eq_true rfl⟩ ⟨Nat.zero_le _, Nat.zero_le _⟩ (fun r4 H1 locs hp1 hT1 hS1 hk1 => ?_)
  obtain ⟨hp1, he⟩ := hp1
  have he := he.symm
  subst he
  have hp1 : r4 = 0 := hp1.trans ((tF_all (hT0.ai (hM.at 1 rfl) (j := 5) (by decide)).1 (by decide) (by decide) (by decide)).trans (by decide))
  subst hp1
  refine lv_iconst (v := 1) hx hb dX11_isReached_33 (by decide) ?_
  refine lv_icmp_ne (tgt := 41) hx hb dX11_isReached_34 (by decide) (fun _ => ?_) (fun h => absurd h (by decide))
  refine lv_iconst (v := 0) hx hb dX11_isReached_41 (by decide) ?_
  refine lv_goto (tgt := 70) hx hb dX11_isReached_42 (by decide) ?_
  exact hret _ _ _ _ _ hT0 hS1 ⟨by decide, rfl, rfl⟩ dX11_isReached_70
set_option maxHeartbeats 4000000 in
set_option maxRecDepth 100000 in
theorem c_isReached_3 (l : Launch) (G : hG) (Y : hW) (o : Nat) (hM : h_On Y o (modE tF o)) : hMi l yX11_isReached cX11_isReached 2 (some .boolean) 0 0 G Y [.ref (o), .int 3] (fun H => h_gi G H 11 o 5 = 0) (fun H r H1 => r = 0 ∧ H1 = H) := by
  refine h_ofz (by decide +kernel) (Nat.le_of_ble_eq_true rfl) ?_
  intro p e s m args below meth c H0 ls Q hx hb hts hown hml hK hT0 hpr hS0 hl hret
  have hl : lv_has ls 2 [(0, .ref (o)), (1, .int 3)] := hl
  refine lv_iload_n hx hb dX11_isReached_0 rfl (lv_at hl 1 rfl) ?_
  refine lv_if_ne (tgt := 11) hx hb dX11_isReached_1 (by decide) (fun _ => ?_) (fun h => absurd h (by decide))
  refine lv_iload_n hx hb dX11_isReached_11 rfl (lv_at hl 1 rfl) ?_
  refine lv_iconst (v := 1) hx hb dX11_isReached_12 (by decide) ?_
  refine lv_icmp_ne (tgt := 23) hx hb dX11_isReached_13 (by decide) (fun _ => ?_) (fun h => absurd h (by decide))
  refine lv_iload_n hx hb dX11_isReached_23 rfl (lv_at hl 1 rfl) ?_
  refine lv_iconst (v := 2) hx hb dX11_isReached_24 (by decide) ?_
  refine lv_icmp_ne (tgt := 45) hx hb dX11_isReached_25 (by decide) (fun _ => ?_) (fun h => absurd h (by decide))
  refine lv_iload_n hx hb dX11_isReached_45 rfl (lv_at hl 1 rfl) ?_
  refine lv_iconst (v := 3) hx hb dX11_isReached_46 (by decide) ?_
  refine lv_icmp_ne (tgt := 57) hx hb dX11_isReached_47 (by decide) (fun h => absurd (by decide) h) (fun _ => ?_)
  refine lv_aload_n hx hb dX11_isReached_50 rfl (lv_at hl 0 rfl) ?_
  refine h_geti (C := RX11) (T := TX11) (N := 23) hx hb hts inX11 hown hK hT0 (hM.o rfl) rfl 5 rfl wF_X11_82 rfl dX11_isReached_51 (fun p5 => ?_)
  refine h_top (v := 0) hpr ?_
  refine lv_goto (tgt := 70) hx hb dX11_isReached_54 (by decide) ?_
  exact hret _ _ _ _ _ hT0 hS0 ⟨by decide, rfl, rfl⟩ dX11_isReached_70
set_option maxHeartbeats 4000000 in
set_option maxRecDepth 100000 in
theorem c_X11_givesOr (l : Launch) (G : hG) (Y : hW) (o : Nat) (hM : h_On Y o (modE tF o)) (u1 : Int32) : hMi l yX11_givesOr cX11_givesOr 2 (some .int) 1 21 G Y [.ref (o), .int u1] (fun H => True) (fun H r H1 => r = u1) := by
  refine h_ofi (by decide +kernel) (Nat.le_of_ble_eq_true rfl) ?_
  intro p e s m args below meth c H0 ls Q hx hb hts hown hml hK hT0 hpr hS0 hl hret
  have hl : lv_has ls 2 [(0, .ref (o)), (1, .int u1)] := hl
  refine lv_iload_n hx hb dX11_givesOr_0 rfl (lv_at hl 1 rfl) ?_
  refine lv_iconst (v := (-1)) hx hb dX11_givesOr_1 (by decide) ?_
  refine lv_icmp_ne (tgt := 14) hx hb dX11_givesOr_2 (by decide) (fun c1 => ?_) (fun c1 => ?_)
  · skip
    refine lv_aload_n hx hb dX11_givesOr_14 rfl (lv_at hl 0 rfl) ?_
    refine lv_iload_n hx hb dX11_givesOr_15 rfl (lv_at hl 1 rfl) ?_
    refine h_callVi (T := TX11) (rest := []) (As := [.int u1]) hx hb hml hown hts hK hT0 (fun _ h => h) hS0 (c_X11_gives l G Y (o) hM u1) trivial wd_X11_gives wV_X11_gives wL_X11_276 (hM.o rfl) rfl rfl hl.1 rfl (Nat.le_of_ble_eq_true rfl) dX11_givesOr_16 ⟨Nat.le_of_ble_eq_true rfl, Nat.le_of_ble_eq_true rfl⟩ ⟨Nat.zero_le _, Nat.zero_le _⟩ (fun r2 H1 locs hp1 hT1 hS1 hk1 => ?_)
    have hp1 : r2 = u1 := hp1
    subst hp1
    exact hret _ _ _ _ _ hT1 hS1 rfl dX11_givesOr_19
  · skip
    refine lv_aload_n hx hb dX11_givesOr_5 rfl (lv_at hl 0 rfl) ?_
    refine lv_bipush (v := 7) hx hb dX11_givesOr_6 (by decide) ?_
    refine h_callVi (T := TX11) (rest := []) (As := [.int 7]) hx hb hml hown hts hK hT0 (fun _ h => h) hS0 (c_X11_refuse l G Y (o) hM 7) trivial wd_X11_refuse wV_X11_refuse wL_X11_267 (hM.o rfl) rfl rfl hl.1 rfl (Nat.le_of_ble_eq_true rfl) dX11_givesOr_8 ⟨Nat.le_of_ble_eq_true rfl, Nat.le_of_ble_eq_true rfl⟩ ⟨Nat.zero_le _, Nat.zero_le _⟩ (fun r3 H2 locs hp2 hT2 hS2 hk2 => ?_)
    have hp2 : r3 = (-1) := hp2
    subst hp2
    refine lv_goto (tgt := 19) hx hb dX11_givesOr_11 (by decide) ?_
    exact hret _ _ _ _ _ hT2 hS2 c1.symm dX11_givesOr_19
set_option maxHeartbeats 4000000 in
set_option maxRecDepth 100000 in
theorem c_reaches_0 (l : Launch) (G : hG) (Y : hW) (o : Nat) (hM : h_On Y o (modE tF o)) (u2 : Int32) (hz2 : u2 = 0 ∨ u2 = 1) : hMi l yX11_reaches cX11_reaches 5 (some .int) 3 63 G Y [.ref (o), .int 0, .int u2] (fun H => True) (fun H r H1 => r = 0 ∧ h_gi G H1 11 o 20 = 0) := by
  refine h_ofi (by decide +kernel) (Nat.le_of_ble_eq_true rfl) ?_
  intro p e s m args below meth c H0 ls Q hx hb hts hown hml hK hT0 hpr hS0 hl hret
  have hl : lv_has ls 5 [(0, .ref (o)), (1, .int 0), (2, .int u2)] := hl
  refine lv_aload_n hx hb dX11_reaches_0 rfl (lv_at hl 0 rfl) ?_
  refine lv_iload_n hx hb dX11_reaches_1 rfl (lv_at hl 2 rfl) ?_
  refine h_callVv (T := TX11) (rest := []) (As := [.int u2]) hx hb hml hown hts hK hT0 (fun _ h => h) hS0 (c_X11_onPaper l G Y (o) hM u2 hz2) trivial wd_X11_onPaper wV_X11_onPaper wL_X11_322 (hM.o rfl) rfl rfl hl.1 rfl (Nat.le_of_ble_eq_true rfl) dX11_reaches_2 ⟨Nat.le_of_ble_eq_true rfl, Nat.le_of_ble_eq_true rfl⟩ ⟨Nat.zero_le _, Nat.zero_le _⟩ (fun H1 locs hp1 hT1 hS1 hk1 => ?_)
  refine lv_iconst (v := 0) hx hb dX11_reaches_5 (by decide) ?_
  refine lv_istore_n (lv' := [(3, .int 0), (0, .ref (o)), (1, .int 0), (2, .int u2)]) hx hb dX11_reaches_6 rfl hl (by decide) rfl (fun ls hl => ?_)
  refine lv_iload_n hx hb dX11_reaches_7 rfl (lv_at hl 0 rfl) ?_
  refine lv_sipush (v := 3000) hx hb dX11_reaches_8 (by decide) ?_
  refine lv_icmp_ge (tgt := 36) hx hb dX11_reaches_11 (by decide) (fun h => absurd h (by decide)) (fun _ => ?_)
  refine lv_aload_n hx hb dX11_reaches_14 rfl (lv_at hl 1 rfl) ?_
  refine lv_iload_n hx hb dX11_reaches_15 rfl (lv_at hl 2 rfl) ?_
  refine h_callVi (T := TX11) (rest := []) (As := [.int 0]) hx hb hml hown hts hK hT1 (fun _ h => h) hS1 (c_isReached_0 l G Y (o) hM) trivial wd_X11_isReached wV_X11_isReached wL_X11_326 (hM.o rfl) rfl rfl hl.1 rfl (Nat.le_of_ble_eq_true rfl) dX11_reaches_16 ⟨Nat.le_of_ble_eq_true rfl, Nat.le_of_ble_eq_true rfl⟩ ⟨Nat.zero_le _, Nat.zero_le _⟩ (fun r2 H2 locs hp2 hT2 hS2 hk2 => ?_)
  obtain ⟨hp2, he⟩ := hp2
  have he := he.symm
  subst he
  have hp2 : r2 = 1 := hp2
  subst hp2
  refine lv_if_ne (tgt := 36) hx hb dX11_reaches_19 (by decide) (fun _ => ?_) (fun h => absurd h (by decide))
  refine lv_aload_n hx hb dX11_reaches_36 rfl (lv_at hl 1 rfl) ?_
  refine lv_iload_n hx hb dX11_reaches_37 rfl (lv_at hl 2 rfl) ?_
  refine h_callVi (T := TX11) (rest := []) (As := [.int 0]) hx hb hml hown hts hK hT1 (fun _ h => h) hS2 (c_isReached_0 l G Y (o) hM) trivial wd_X11_isReached wV_X11_isReached wL_X11_326 (hM.o rfl) rfl rfl hl.1 rfl (Nat.le_of_ble_eq_true rfl) dX11_reaches_38 ⟨Nat.le_of_ble_eq_true rfl, Nat.le_of_ble_eq_true rfl⟩ ⟨Nat.zero_le _, Nat.zero_le _⟩ (fun r4 H3 locs hp3 hT3 hS3 hk3 => ?_)
  obtain ⟨hp3, he⟩ := hp3
  have he := he.symm
  subst he
  have hp3 : r4 = 1 := hp3
  subst hp3
  refine lv_istore (lv' := [(4, .int 1), (3, .int 0), (0, .ref (o)), (1, .int 0), (2, .int u2)]) hx hb dX11_reaches_41 hl (by decide) rfl (fun ls hl => ?_)
  refine lv_aload_n hx hb dX11_reaches_43 rfl (lv_at hl 2 rfl) ?_
  refine h_callVv (T := TX11) (rest := []) (As := []) hx hb hml hown hts hK hT1 (fun _ h => h) hS3 (c_X11_offPaper l G Y (o) hM 0) ⟨hp1.1, hp1.2.2.2⟩ wd_X11_offPaper wV_X11_offPaper wL_X11_329 (hM.o rfl) rfl rfl hl.1 rfl (Nat.le_of_ble_eq_true rfl) dX11_reaches_44 ⟨Nat.le_of_ble_eq_true rfl, Nat.le_of_ble_eq_true rfl⟩ ⟨Nat.zero_le _, Nat.zero_le _⟩ (fun H4 locs hp4 hT4 hS4 hk4 => ?_)
  refine lv_iload hx hb dX11_reaches_47 (lv_at hl 0 rfl) ?_
  refine lv_if_eq (tgt := 56) hx hb dX11_reaches_49 (by decide) (fun h => absurd h (by decide)) (fun _ => ?_)
  refine lv_iload_n hx hb dX11_reaches_52 rfl (lv_at hl 1 rfl) ?_
  refine lv_goto (tgt := 57) hx hb dX11_reaches_53 (by decide) ?_
  exact hret _ _ _ _ _ hT4 hS4 ⟨rfl, hp4⟩ dX11_reaches_57
set_option maxHeartbeats 4000000 in
set_option maxRecDepth 100000 in
theorem c_reaches_1 (l : Launch) (G : hG) (Y : hW) (o : Nat) (hM : h_On Y o (modE tF o)) (u2 : Int32) (hz2 : u2 = 0 ∨ u2 = 1) : hMi l yX11_reaches cX11_reaches 5 (some .int) 3 63 G Y [.ref (o), .int 1, .int u2] (fun H => True) (fun H r H1 => r = 0 ∧ h_gi G H1 11 o 20 = 0) := by
  refine h_ofi (by decide +kernel) (Nat.le_of_ble_eq_true rfl) ?_
  intro p e s m args below meth c H0 ls Q hx hb hts hown hml hK hT0 hpr hS0 hl hret
  have hl : lv_has ls 5 [(0, .ref (o)), (1, .int 1), (2, .int u2)] := hl
  refine lv_aload_n hx hb dX11_reaches_0 rfl (lv_at hl 0 rfl) ?_
  refine lv_iload_n hx hb dX11_reaches_1 rfl (lv_at hl 2 rfl) ?_
  refine h_callVv (T := TX11) (rest := []) (As := [.int u2]) hx hb hml hown hts hK hT0 (fun _ h => h) hS0 (c_X11_onPaper l G Y (o) hM u2 hz2) trivial wd_X11_onPaper wV_X11_onPaper wL_X11_322 (hM.o rfl) rfl rfl hl.1 rfl (Nat.le_of_ble_eq_true rfl) dX11_reaches_2 ⟨Nat.le_of_ble_eq_true rfl, Nat.le_of_ble_eq_true rfl⟩ ⟨Nat.zero_le _, Nat.zero_le _⟩ (fun H1 locs hp1 hT1 hS1 hk1 => ?_)
  refine lv_iconst (v := 0) hx hb dX11_reaches_5 (by decide) ?_
  refine lv_istore_n (lv' := [(3, .int 0), (0, .ref (o)), (1, .int 1), (2, .int u2)]) hx hb dX11_reaches_6 rfl hl (by decide) rfl (fun ls hl => ?_)
  refine lv_iload_n hx hb dX11_reaches_7 rfl (lv_at hl 0 rfl) ?_
  refine lv_sipush (v := 3000) hx hb dX11_reaches_8 (by decide) ?_
  refine lv_icmp_ge (tgt := 36) hx hb dX11_reaches_11 (by decide) (fun h => absurd h (by decide)) (fun _ => ?_)
  refine lv_aload_n hx hb dX11_reaches_14 rfl (lv_at hl 1 rfl) ?_
  refine lv_iload_n hx hb dX11_reaches_15 rfl (lv_at hl 2 rfl) ?_
  refine h_callVi (T := TX11) (rest := []) (As := [.int 1]) hx hb hml hown hts hK hT1 (fun _ h => h) hS1 (c_isReached_1 l G Y (o) hM) trivial wd_X11_isReached wV_X11_isReached wL_X11_326 (hM.o rfl) rfl rfl hl.1 rfl (Nat.le_of_ble_eq_true rfl) dX11_reaches_16 ⟨Nat.le_of_ble_eq_true rfl, Nat.le_of_ble_eq_true rfl⟩ ⟨Nat.zero_le _, Nat.zero_le _⟩ (fun r2 H2 locs hp2 hT2 hS2 hk2 => ?_)
  obtain ⟨hp2, he⟩ := hp2
  have he := he.symm
  subst he
  have hp2 : r2 = 1 := hp2
  subst hp2
  refine lv_if_ne (tgt := 36) hx hb dX11_reaches_19 (by decide) (fun _ => ?_) (fun h => absurd h (by decide))
  refine lv_aload_n hx hb dX11_reaches_36 rfl (lv_at hl 1 rfl) ?_
  refine lv_iload_n hx hb dX11_reaches_37 rfl (lv_at hl 2 rfl) ?_
  refine h_callVi (T := TX11) (rest := []) (As := [.int 1]) hx hb hml hown hts hK hT1 (fun _ h => h) hS2 (c_isReached_1 l G Y (o) hM) trivial wd_X11_isReached wV_X11_isReached wL_X11_326 (hM.o rfl) rfl rfl hl.1 rfl (Nat.le_of_ble_eq_true rfl) dX11_reaches_38 ⟨Nat.le_of_ble_eq_true rfl, Nat.le_of_ble_eq_true rfl⟩ ⟨Nat.zero_le _, Nat.zero_le _⟩ (fun r4 H3 locs hp3 hT3 hS3 hk3 => ?_)
  obtain ⟨hp3, he⟩ := hp3
  have he := he.symm
  subst he
  have hp3 : r4 = 1 := hp3
  subst hp3
  refine lv_istore (lv' := [(4, .int 1), (3, .int 0), (0, .ref (o)), (1, .int 1), (2, .int u2)]) hx hb dX11_reaches_41 hl (by decide) rfl (fun ls hl => ?_)
  refine lv_aload_n hx hb dX11_reaches_43 rfl (lv_at hl 2 rfl) ?_
  refine h_callVv (T := TX11) (rest := []) (As := []) hx hb hml hown hts hK hT1 (fun _ h => h) hS3 (c_X11_offPaper l G Y (o) hM 0) ⟨hp1.1, hp1.2.2.2⟩ wd_X11_offPaper wV_X11_offPaper wL_X11_329 (hM.o rfl) rfl rfl hl.1 rfl (Nat.le_of_ble_eq_true rfl) dX11_reaches_44 ⟨Nat.le_of_ble_eq_true rfl, Nat.le_of_ble_eq_true rfl⟩ ⟨Nat.zero_le _, Nat.zero_le _⟩ (fun H4 locs hp4 hT4 hS4 hk4 => ?_)
  refine lv_iload hx hb dX11_reaches_47 (lv_at hl 0 rfl) ?_
  refine lv_if_eq (tgt := 56) hx hb dX11_reaches_49 (by decide) (fun h => absurd h (by decide)) (fun _ => ?_)
  refine lv_iload_n hx hb dX11_reaches_52 rfl (lv_at hl 1 rfl) ?_
  refine lv_goto (tgt := 57) hx hb dX11_reaches_53 (by decide) ?_
  exact hret _ _ _ _ _ hT4 hS4 ⟨rfl, hp4⟩ dX11_reaches_57
set_option maxHeartbeats 4000000 in
set_option maxRecDepth 100000 in
theorem c_reaches_2 (l : Launch) (G : hG) (Y : hW) (o : Nat) (hM : h_On Y o (modE tF o)) (u2 : Int32) (hz2 : u2 = 0 ∨ u2 = 1) : hMi l yX11_reaches cX11_reaches 5 (some .int) 4 85 G Y [.ref (o), .int 2, .int u2] (fun H => True) (fun H r H1 => r = (-1)) := by
  refine h_ofi (by decide +kernel) (Nat.le_of_ble_eq_true rfl) ?_
  intro p e s m args below meth c H0 ls Q hx hb hts hown hml hK hT0 hpr hS0 hl hret
  have hl : lv_has ls 5 [(0, .ref (o)), (1, .int 2), (2, .int u2)] := hl
  refine lv_aload_n hx hb dX11_reaches_0 rfl (lv_at hl 0 rfl) ?_
  refine lv_iload_n hx hb dX11_reaches_1 rfl (lv_at hl 2 rfl) ?_
  refine h_callVv (T := TX11) (rest := []) (As := [.int u2]) hx hb hml hown hts hK hT0 (fun _ h => h) hS0 (c_X11_onPaper l G Y (o) hM u2 hz2) trivial wd_X11_onPaper wV_X11_onPaper wL_X11_322 (hM.o rfl) rfl rfl hl.1 rfl (Nat.le_of_ble_eq_true rfl) dX11_reaches_2 ⟨Nat.le_of_ble_eq_true rfl, Nat.le_of_ble_eq_true rfl⟩ ⟨Nat.zero_le _, Nat.zero_le _⟩ (fun H1 locs hp1 hT1 hS1 hk1 => ?_)
  refine lv_iconst (v := 0) hx hb dX11_reaches_5 (by decide) ?_
  refine lv_istore_n (lv' := [(3, .int 0), (0, .ref (o)), (1, .int 2), (2, .int u2)]) hx hb dX11_reaches_6 rfl hl (by decide) rfl (fun ls hl => ?_)
  have LP : ∀ (q k : Nat), q + k = 3000 → ∀ (H0 : Heap) (locs : List Loc) (ls : Array Slot), hT G Y H0 → va_S (h_A Y) s.heap H0 locs → h_AS H0 o → lv_has ls 5 [(3, .int (nI k)), (0, .ref (o)), (1, .int 2), (2, .int u2)] → W p l e (h_rm 4 85) s m args below meth c H0 locs 0 0 Q (F0 m 7 ls []) := by
    intro q
    induction q with
    | zero =>
      intro k hk H0 locs ls  hT0 hS0 hf0 hl
      obtain rfl : k = 3000 := by omega
      refine lv_iload_n hx hb dX11_reaches_7 rfl (lv_at hl 0 rfl) ?_
      refine lv_sipush (v := 3000) hx hb dX11_reaches_8 (by decide) ?_
      refine lv_icmp_ge (tgt := 36) hx hb dX11_reaches_11 (by decide) (fun _ => ?_) (fun h => absurd (by decide) h)
      refine lv_aload_n hx hb dX11_reaches_36 rfl (lv_at hl 1 rfl) ?_
      refine lv_iload_n hx hb dX11_reaches_37 rfl (lv_at hl 2 rfl) ?_
      refine h_callVi (T := TX11) (rest := []) (As := [.int 2]) hx hb hml hown hts hK hT0 (fun _ h => h) hS0 (c_isReached_2 l G Y (o) hM) trivial wd_X11_isReached wV_X11_isReached wL_X11_326 (hM.o rfl) rfl rfl hl.1 rfl (Nat.le_of_ble_eq_true rfl) dX11_reaches_38 ⟨Nat.le_of_ble_eq_true rfl, Nat.le_of_ble_eq_true rfl⟩ ⟨Nat.zero_le _, Nat.zero_le _⟩ (fun r1 H1 locs hp1 hT1 hS1 hk1 => ?_)
      obtain ⟨hp1, he⟩ := hp1
      have he := he.symm
      subst he
      have hp1 : r1 = 0 := hp1
      subst hp1
      refine lv_istore (lv' := [(4, .int 0), (3, .int (nI 3000)), (0, .ref (o)), (1, .int 2), (2, .int u2)]) hx hb dX11_reaches_41 hl (by decide) rfl (fun ls hl => ?_)
      refine lv_aload_n hx hb dX11_reaches_43 rfl (lv_at hl 2 rfl) ?_
      refine h_callVv (T := TX11) (rest := []) (As := []) hx hb hml hown hts hK hT0 (fun _ h => h) hS1 (c_X11_offPaper l G Y (o) hM _) ⟨hf0, rfl⟩ wd_X11_offPaper wV_X11_offPaper wL_X11_329 (hM.o rfl) rfl rfl hl.1 rfl (Nat.le_of_ble_eq_true rfl) dX11_reaches_44 ⟨Nat.le_of_ble_eq_true rfl, Nat.le_of_ble_eq_true rfl⟩ ⟨Nat.zero_le _, Nat.zero_le _⟩ (fun H2 locs hp2 hT2 hS2 hk2 => ?_)
      refine lv_iload hx hb dX11_reaches_47 (lv_at hl 0 rfl) ?_
      refine lv_if_eq (tgt := 56) hx hb dX11_reaches_49 (by decide) (fun _ => ?_) (fun h => absurd (by decide) h)
      refine lv_iconst (v := (-1)) hx hb dX11_reaches_56 (by decide) ?_
      exact hret _ _ _ _ _ hT2 hS2 rfl dX11_reaches_57
    | succ q ih =>
      intro k hk H0 locs ls  hT0 hS0 hf0 hl
      refine lv_iload_n hx hb dX11_reaches_7 rfl (lv_at hl 0 rfl) ?_
      refine lv_sipush (v := 3000) hx hb dX11_reaches_8 (by decide) ?_
      refine lv_icmp_ge (tgt := 36) hx hb dX11_reaches_11 (by decide) (fun h => absurd h (by have h9 := nI_toInt (n := k) (by omega); have h8 : (3000 : Int32).toInt = 3000 := rfl; simp only [Int32.lt_iff_toInt_lt, Int32.le_iff_toInt_le, h9, h8]; omega)) (fun _ => ?_)
      refine lv_aload_n hx hb dX11_reaches_14 rfl (lv_at hl 1 rfl) ?_
      refine lv_iload_n hx hb dX11_reaches_15 rfl (lv_at hl 2 rfl) ?_
      refine h_callVi (T := TX11) (rest := []) (As := [.int 2]) hx hb hml hown hts hK hT0 (fun _ h => h) hS0 (c_isReached_2 l G Y (o) hM) trivial wd_X11_isReached wV_X11_isReached wL_X11_326 (hM.o rfl) rfl rfl hl.1 rfl (Nat.le_of_ble_eq_true rfl) dX11_reaches_16 ⟨Nat.le_of_ble_eq_true rfl, Nat.le_of_ble_eq_true rfl⟩ ⟨Nat.zero_le _, Nat.zero_le _⟩ (fun r3 H1 locs hp1 hT1 hS1 hk1 => ?_)
      obtain ⟨hp1, he⟩ := hp1
      have he := he.symm
      subst he
      have hp1 : r3 = 0 := hp1
      subst hp1
      refine lv_if_ne (tgt := 36) hx hb dX11_reaches_19 (by decide) (fun h => absurd (by decide) h) (fun _ => ?_)
      refine lv_aload_n hx hb dX11_reaches_22 rfl (lv_at hl 1 rfl) ?_
      refine h_callVv (T := TX11) (rest := []) (As := []) hx hb hml hown hts hK hT0 (fun _ h => h) hS1 (c_X11_ticks l G Y (o) hM _ _) ⟨rfl, rfl⟩ wd_X11_ticks wV_X11_ticks wL_X11_297 (hM.o rfl) rfl rfl hl.1 rfl (Nat.le_of_ble_eq_true rfl) dX11_reaches_23 ⟨Nat.le_of_ble_eq_true rfl, Nat.le_of_ble_eq_true rfl⟩ ⟨Nat.zero_le _, Nat.zero_le _⟩ (fun H2 locs hp2 hT2 hS2 hk2 => ?_)
      refine lv_aload_n hx hb dX11_reaches_26 rfl (lv_at hl 1 rfl) ?_
      refine h_callVv (T := TX11) (rest := []) (As := []) hx hb hml hown hts hK hT2 (fun _ h => h) hS2 (c_X11_peaks l G Y (o) hM) trivial wd_X11_peaks wV_X11_peaks wL_X11_319 (hM.o rfl) rfl rfl hl.1 rfl (Nat.le_of_ble_eq_true rfl) dX11_reaches_27 ⟨Nat.le_of_ble_eq_true rfl, Nat.le_of_ble_eq_true rfl⟩ ⟨Nat.zero_le _, Nat.zero_le _⟩ (fun H3 locs hp3 hT3 hS3 hk3 => ?_)
      have he := hp3.symm
      subst he
      refine lv_iinc (v := (nI (k + 1))) (lv' := [(3, .int (nI (k + 1))), (0, .ref (o)), (1, .int 2), (2, .int u2)]) hx hb dX11_reaches_30 hl (k := 0) rfl (nI_1 k) (by decide) rfl (fun ls hl => ?_)
      refine lv_goto (tgt := 7) hx hb dX11_reaches_33 (by decide) ?_
      exact ih (k + 1) (by omega) _ _ _  hT2 hS3 (hf0.up hp2.2.1) (lv_sub hl [0, 1, 2, 3] rfl)
  exact LP 3000 0 (by omega) _ _ _  hT1 hS1 hp1.1 (lv_sub hl [0, 1, 2, 3] rfl)
set_option maxHeartbeats 4000000 in
set_option maxRecDepth 100000 in
theorem c_reaches_3 (l : Launch) (G : hG) (Y : hW) (o : Nat) (hM : h_On Y o (modE tF o)) (u2 : Int32) (hz2 : u2 = 0 ∨ u2 = 1) : hMi l yX11_reaches cX11_reaches 5 (some .int) 4 85 G Y [.ref (o), .int 3, .int u2] (fun H => True) (fun H r H1 => r = (-1)) := by
  refine h_ofi (by decide +kernel) (Nat.le_of_ble_eq_true rfl) ?_
  intro p e s m args below meth c H0 ls Q hx hb hts hown hml hK hT0 hpr hS0 hl hret
  have hl : lv_has ls 5 [(0, .ref (o)), (1, .int 3), (2, .int u2)] := hl
  refine lv_aload_n hx hb dX11_reaches_0 rfl (lv_at hl 0 rfl) ?_
  refine lv_iload_n hx hb dX11_reaches_1 rfl (lv_at hl 2 rfl) ?_
  refine h_callVv (T := TX11) (rest := []) (As := [.int u2]) hx hb hml hown hts hK hT0 (fun _ h => h) hS0 (c_X11_onPaper l G Y (o) hM u2 hz2) trivial wd_X11_onPaper wV_X11_onPaper wL_X11_322 (hM.o rfl) rfl rfl hl.1 rfl (Nat.le_of_ble_eq_true rfl) dX11_reaches_2 ⟨Nat.le_of_ble_eq_true rfl, Nat.le_of_ble_eq_true rfl⟩ ⟨Nat.zero_le _, Nat.zero_le _⟩ (fun H1 locs hp1 hT1 hS1 hk1 => ?_)
  refine lv_iconst (v := 0) hx hb dX11_reaches_5 (by decide) ?_
  refine lv_istore_n (lv' := [(3, .int 0), (0, .ref (o)), (1, .int 3), (2, .int u2)]) hx hb dX11_reaches_6 rfl hl (by decide) rfl (fun ls hl => ?_)
  have LP : ∀ (q k : Nat), q + k = 3000 → ∀ (H0 : Heap) (locs : List Loc) (ls : Array Slot), hT G Y H0 → va_S (h_A Y) s.heap H0 locs → h_AS H0 o → h_gi G H0 11 o 5 = 0 → lv_has ls 5 [(3, .int (nI k)), (0, .ref (o)), (1, .int 3), (2, .int u2)] → W p l e (h_rm 4 85) s m args below meth c H0 locs 0 0 Q (F0 m 7 ls []) := by
    intro q
    induction q with
    | zero =>
      intro k hk H0 locs ls  hT0 hS0 hf0 hf1 hl
      obtain rfl : k = 3000 := by omega
      refine lv_iload_n hx hb dX11_reaches_7 rfl (lv_at hl 0 rfl) ?_
      refine lv_sipush (v := 3000) hx hb dX11_reaches_8 (by decide) ?_
      refine lv_icmp_ge (tgt := 36) hx hb dX11_reaches_11 (by decide) (fun _ => ?_) (fun h => absurd (by decide) h)
      refine lv_aload_n hx hb dX11_reaches_36 rfl (lv_at hl 1 rfl) ?_
      refine lv_iload_n hx hb dX11_reaches_37 rfl (lv_at hl 2 rfl) ?_
      refine h_callVi (T := TX11) (rest := []) (As := [.int 3]) hx hb hml hown hts hK hT0 (fun _ h => h) hS0 (c_isReached_3 l G Y (o) hM) hf1 wd_X11_isReached wV_X11_isReached wL_X11_326 (hM.o rfl) rfl rfl hl.1 rfl (Nat.le_of_ble_eq_true rfl) dX11_reaches_38 ⟨Nat.le_of_ble_eq_true rfl, Nat.le_of_ble_eq_true rfl⟩ ⟨Nat.zero_le _, Nat.zero_le _⟩ (fun r1 H1 locs hp1 hT1 hS1 hk1 => ?_)
      obtain ⟨hp1, he⟩ := hp1
      have he := he.symm
      subst he
      have hp1 : r1 = 0 := hp1
      subst hp1
      refine lv_istore (lv' := [(4, .int 0), (3, .int (nI 3000)), (0, .ref (o)), (1, .int 3), (2, .int u2)]) hx hb dX11_reaches_41 hl (by decide) rfl (fun ls hl => ?_)
      refine lv_aload_n hx hb dX11_reaches_43 rfl (lv_at hl 2 rfl) ?_
      refine h_callVv (T := TX11) (rest := []) (As := []) hx hb hml hown hts hK hT0 (fun _ h => h) hS1 (c_X11_offPaper l G Y (o) hM _) ⟨hf0, rfl⟩ wd_X11_offPaper wV_X11_offPaper wL_X11_329 (hM.o rfl) rfl rfl hl.1 rfl (Nat.le_of_ble_eq_true rfl) dX11_reaches_44 ⟨Nat.le_of_ble_eq_true rfl, Nat.le_of_ble_eq_true rfl⟩ ⟨Nat.zero_le _, Nat.zero_le _⟩ (fun H2 locs hp2 hT2 hS2 hk2 => ?_)
      refine lv_iload hx hb dX11_reaches_47 (lv_at hl 0 rfl) ?_
      refine lv_if_eq (tgt := 56) hx hb dX11_reaches_49 (by decide) (fun _ => ?_) (fun h => absurd (by decide) h)
      refine lv_iconst (v := (-1)) hx hb dX11_reaches_56 (by decide) ?_
      exact hret _ _ _ _ _ hT2 hS2 rfl dX11_reaches_57
    | succ q ih =>
      intro k hk H0 locs ls  hT0 hS0 hf0 hf1 hl
      refine lv_iload_n hx hb dX11_reaches_7 rfl (lv_at hl 0 rfl) ?_
      refine lv_sipush (v := 3000) hx hb dX11_reaches_8 (by decide) ?_
      refine lv_icmp_ge (tgt := 36) hx hb dX11_reaches_11 (by decide) (fun h => absurd h (by have h9 := nI_toInt (n := k) (by omega); have h8 : (3000 : Int32).toInt = 3000 := rfl; simp only [Int32.lt_iff_toInt_lt, Int32.le_iff_toInt_le, h9, h8]; omega)) (fun _ => ?_)
      refine lv_aload_n hx hb dX11_reaches_14 rfl (lv_at hl 1 rfl) ?_
      refine lv_iload_n hx hb dX11_reaches_15 rfl (lv_at hl 2 rfl) ?_
      refine h_callVi (T := TX11) (rest := []) (As := [.int 3]) hx hb hml hown hts hK hT0 (fun _ h => h) hS0 (c_isReached_3 l G Y (o) hM) hf1 wd_X11_isReached wV_X11_isReached wL_X11_326 (hM.o rfl) rfl rfl hl.1 rfl (Nat.le_of_ble_eq_true rfl) dX11_reaches_16 ⟨Nat.le_of_ble_eq_true rfl, Nat.le_of_ble_eq_true rfl⟩ ⟨Nat.zero_le _, Nat.zero_le _⟩ (fun r3 H1 locs hp1 hT1 hS1 hk1 => ?_)
      obtain ⟨hp1, he⟩ := hp1
      have he := he.symm
      subst he
      have hp1 : r3 = 0 := hp1
      subst hp1
      refine lv_if_ne (tgt := 36) hx hb dX11_reaches_19 (by decide) (fun h => absurd (by decide) h) (fun _ => ?_)
      refine lv_aload_n hx hb dX11_reaches_22 rfl (lv_at hl 1 rfl) ?_
      refine h_callVv (T := TX11) (rest := []) (As := []) hx hb hml hown hts hK hT0 (fun _ h => h) hS1 (c_X11_ticks l G Y (o) hM _ _) ⟨rfl, rfl⟩ wd_X11_ticks wV_X11_ticks wL_X11_297 (hM.o rfl) rfl rfl hl.1 rfl (Nat.le_of_ble_eq_true rfl) dX11_reaches_23 ⟨Nat.le_of_ble_eq_true rfl, Nat.le_of_ble_eq_true rfl⟩ ⟨Nat.zero_le _, Nat.zero_le _⟩ (fun H2 locs hp2 hT2 hS2 hk2 => ?_)
      refine lv_aload_n hx hb dX11_reaches_26 rfl (lv_at hl 1 rfl) ?_
      refine h_callVv (T := TX11) (rest := []) (As := []) hx hb hml hown hts hK hT2 (fun _ h => h) hS2 (c_X11_peaks l G Y (o) hM) trivial wd_X11_peaks wV_X11_peaks wL_X11_319 (hM.o rfl) rfl rfl hl.1 rfl (Nat.le_of_ble_eq_true rfl) dX11_reaches_27 ⟨Nat.le_of_ble_eq_true rfl, Nat.le_of_ble_eq_true rfl⟩ ⟨Nat.zero_le _, Nat.zero_le _⟩ (fun H3 locs hp3 hT3 hS3 hk3 => ?_)
      have he := hp3.symm
      subst he
      refine lv_iinc (v := (nI (k + 1))) (lv' := [(3, .int (nI (k + 1))), (0, .ref (o)), (1, .int 3), (2, .int u2)]) hx hb dX11_reaches_30 hl (k := 0) rfl (nI_1 k) (by decide) rfl (fun ls hl => ?_)
      refine lv_goto (tgt := 7) hx hb dX11_reaches_33 (by decide) ?_
      exact ih (k + 1) (by omega) _ _ _  hT2 hS3 (hf0.up hp2.2.1) hp2.2.2.2.2.1 (lv_sub hl [0, 1, 2, 3] rfl)
  exact LP 3000 0 (by omega) _ _ _  hT1 hS1 hp1.1 hp1.2.1 (lv_sub hl [0, 1, 2, 3] rfl)
set_option maxHeartbeats 4000000 in
set_option maxRecDepth 100000 in
theorem c_X11_quiet (l : Launch) (G : hG) (Y : hW) (o : Nat) (hM : h_On Y o (modE tF o)) (u1 : Int32) (hz1 : u1 = 0 ∨ u1 = 1) : hMi l yX11_quiet cX11_quiet 2 (some .int) 4 87 G Y [.ref (o), .int u1] (fun H => True) (fun H r H1 => r = 0) := by
  refine h_ofi (by decide +kernel) (Nat.le_of_ble_eq_true rfl) ?_
  intro p e s m args below meth c H0 ls Q hx hb hts hown hml hK hT0 hpr hS0 hl hret
  have hl : lv_has ls 2 [(0, .ref (o)), (1, .int u1)] := hl
  refine lv_aload_n hx hb dX11_quiet_0 rfl (lv_at hl 0 rfl) ?_
  refine lv_aload_n hx hb dX11_quiet_1 rfl (lv_at hl 0 rfl) ?_
  refine lv_iconst (v := 0) hx hb dX11_quiet_2 (by decide) ?_
  refine lv_iload_n hx hb dX11_quiet_3 rfl (lv_at hl 1 rfl) ?_
  refine h_callVi (T := TX11) (rest := [.ref (o)]) (As := [.int 0, .int u1]) hx hb hml hown hts hK hT0 (fun _ h => h) hS0 (c_reaches_0 l G Y (o) hM u1 hz1) trivial wd_X11_reaches wV_X11_reaches wL_X11_332 (hM.o rfl) rfl rfl hl.1 rfl (Nat.le_of_ble_eq_true rfl) dX11_quiet_4 ⟨Nat.le_of_ble_eq_true rfl, Nat.le_of_ble_eq_true rfl⟩ ⟨Nat.zero_le _, Nat.zero_le _⟩ (fun r1 H1 locs hp1 hT1 hS1 hk1 => ?_)
  obtain ⟨hq, hp1⟩ := hp1
  have hq : r1 = 0 := hq
  subst hq
  refine h_callVi (T := TX11) (rest := []) (As := [.int 0]) hx hb hml hown hts hK hT1 (fun _ h => h) hS1 (c_X11_givesOr l G Y (o) hM 0) trivial wd_X11_givesOr wV_X11_givesOr wL_X11_336 (hM.o rfl) rfl rfl hl.1 rfl (Nat.le_of_ble_eq_true rfl) dX11_quiet_7 ⟨Nat.le_of_ble_eq_true rfl, Nat.le_of_ble_eq_true rfl⟩ ⟨Nat.zero_le _, Nat.zero_le _⟩ (fun r2 H2 locs hp2 hT2 hS2 hk2 => ?_)
  have hp2 : r2 = 0 := hp2
  subst hp2
  exact hret _ _ _ _ _ hT2 hS2 rfl dX11_quiet_10
set_option maxHeartbeats 4000000 in
set_option maxRecDepth 100000 in
theorem c_X11_peak (l : Launch) (G : hG) (Y : hW) (o : Nat) (hM : h_On Y o (modE tF o)) : hMi l yX11_peak cX11_peak 2 (some .int) 4 87 G Y [.ref (o)] (fun H => True) (fun H r H1 => r = 0) := by
  refine h_ofi (by decide +kernel) (Nat.le_of_ble_eq_true rfl) ?_
  intro p e s m args below meth c H0 ls Q hx hb hts hown hml hK hT0 hpr hS0 hl hret
  have hl : lv_has ls 2 [(0, .ref (o))] := hl
  refine lv_aload_n hx hb dX11_peak_0 rfl (lv_at hl 0 rfl) ?_
  refine lv_iconst (v := 0) hx hb dX11_peak_1 (by decide) ?_
  refine lv_iconst (v := 0) hx hb dX11_peak_2 (by decide) ?_
  refine h_callVi (T := TX11) (rest := []) (As := [.int 0, .int 0]) hx hb hml hown hts hK hT0 (fun _ h => h) hS0 (c_reaches_0 l G Y (o) hM 0 (by decide)) trivial wd_X11_reaches wV_X11_reaches wL_X11_332 (hM.o rfl) rfl rfl hl.1 rfl (Nat.le_of_ble_eq_true rfl) dX11_peak_3 ⟨Nat.le_of_ble_eq_true rfl, Nat.le_of_ble_eq_true rfl⟩ ⟨Nat.zero_le _, Nat.zero_le _⟩ (fun r1 H1 locs hp1 hT1 hS1 hk1 => ?_)
  obtain ⟨hq, hp1⟩ := hp1
  have hq : r1 = 0 := hq
  subst hq
  refine lv_istore_n (lv' := [(1, .int 0), (0, .ref (o))]) hx hb dX11_peak_6 rfl hl (by decide) rfl (fun ls hl => ?_)
  refine lv_iload_n hx hb dX11_peak_7 rfl (lv_at hl 0 rfl) ?_
  refine lv_iconst (v := (-1)) hx hb dX11_peak_8 (by decide) ?_
  refine lv_icmp_ne (tgt := 21) hx hb dX11_peak_9 (by decide) (fun _ => ?_) (fun h => absurd h (by decide))
  refine lv_aload_n hx hb dX11_peak_21 rfl (lv_at hl 1 rfl) ?_
  refine lv_aload_n hx hb dX11_peak_22 rfl (lv_at hl 1 rfl) ?_
  refine h_geti (C := RX11) (T := TX11) (N := 23) hx hb hts inX11 hown hK hT1 (hM.o rfl) rfl 20 rfl wF_X11_316 rfl dX11_peak_23 (fun p3 => ?_)
  refine h_top (v := 0) hp1 ?_
  refine h_callVi (T := TX11) (rest := []) (As := [.int 0]) hx hb hml hown hts hK hT1 (fun _ h => h) hS1 (c_X11_gives l G Y (o) hM 0) trivial wd_X11_gives wV_X11_gives wL_X11_276 (hM.o rfl) rfl rfl hl.1 rfl (Nat.le_of_ble_eq_true rfl) dX11_peak_26 ⟨Nat.le_of_ble_eq_true rfl, Nat.le_of_ble_eq_true rfl⟩ ⟨Nat.zero_le _, Nat.zero_le _⟩ (fun r4 H2 locs hp2 hT2 hS2 hk2 => ?_)
  have hp2 : r4 = 0 := hp2
  subst hp2
  exact hret _ _ _ _ _ hT2 hS2 rfl dX11_peak_29
set_option maxHeartbeats 4000000 in
set_option maxRecDepth 100000 in
theorem c_X11_lowered (l : Launch) (G : hG) (Y : hW) (o : Nat) (hM : h_On Y o (modE tF o)) : hMi l yX11_lowered cX11_lowered 1 (some .int) 4 87 G Y [.ref (o)] (fun H => True) (fun H r H1 => r = 0) := by
  refine h_ofi (by decide +kernel) (Nat.le_of_ble_eq_true rfl) ?_
  intro p e s m args below meth c H0 ls Q hx hb hts hown hml hK hT0 hpr hS0 hl hret
  have hl : lv_has ls 1 [(0, .ref (o))] := hl
  refine lv_aload_n hx hb dX11_lowered_0 rfl (lv_at hl 0 rfl) ?_
  refine lv_aload_n hx hb dX11_lowered_1 rfl (lv_at hl 0 rfl) ?_
  refine lv_iconst (v := 1) hx hb dX11_lowered_2 (by decide) ?_
  refine lv_iconst (v := 0) hx hb dX11_lowered_3 (by decide) ?_
  refine h_callVi (T := TX11) (rest := [.ref (o)]) (As := [.int 1, .int 0]) hx hb hml hown hts hK hT0 (fun _ h => h) hS0 (c_reaches_1 l G Y (o) hM 0 (by decide)) trivial wd_X11_reaches wV_X11_reaches wL_X11_332 (hM.o rfl) rfl rfl hl.1 rfl (Nat.le_of_ble_eq_true rfl) dX11_lowered_4 ⟨Nat.le_of_ble_eq_true rfl, Nat.le_of_ble_eq_true rfl⟩ ⟨Nat.zero_le _, Nat.zero_le _⟩ (fun r1 H1 locs hp1 hT1 hS1 hk1 => ?_)
  obtain ⟨hq, hp1⟩ := hp1
  have hq : r1 = 0 := hq
  subst hq
  refine h_callVi (T := TX11) (rest := []) (As := [.int 0]) hx hb hml hown hts hK hT1 (fun _ h => h) hS1 (c_X11_givesOr l G Y (o) hM 0) trivial wd_X11_givesOr wV_X11_givesOr wL_X11_336 (hM.o rfl) rfl rfl hl.1 rfl (Nat.le_of_ble_eq_true rfl) dX11_lowered_7 ⟨Nat.le_of_ble_eq_true rfl, Nat.le_of_ble_eq_true rfl⟩ ⟨Nat.zero_le _, Nat.zero_le _⟩ (fun r2 H2 locs hp2 hT2 hS2 hk2 => ?_)
  have hp2 : r2 = 0 := hp2
  subst hp2
  exact hret _ _ _ _ _ hT2 hS2 rfl dX11_lowered_10
set_option maxHeartbeats 4000000 in
set_option maxRecDepth 100000 in
theorem c_X11_healed (l : Launch) (G : hG) (Y : hW) (o : Nat) (hM : h_On Y o (modE tF o)) : hMi l yX11_healed cX11_healed 1 (some .int) 5 109 G Y [.ref (o)] (fun H => True) (fun H r H1 => r = (-1)) := by
  refine h_ofi (by decide +kernel) (Nat.le_of_ble_eq_true rfl) ?_
  intro p e s m args below meth c H0 ls Q hx hb hts hown hml hK hT0 hpr hS0 hl hret
  have hl : lv_has ls 1 [(0, .ref (o))] := hl
  refine lv_aload_n hx hb dX11_healed_0 rfl (lv_at hl 0 rfl) ?_
  refine lv_aload_n hx hb dX11_healed_1 rfl (lv_at hl 0 rfl) ?_
  refine lv_iconst (v := 2) hx hb dX11_healed_2 (by decide) ?_
  refine lv_iconst (v := 0) hx hb dX11_healed_3 (by decide) ?_
  refine h_callVi (T := TX11) (rest := [.ref (o)]) (As := [.int 2, .int 0]) hx hb hml hown hts hK hT0 (fun _ h => h) hS0 (c_reaches_2 l G Y (o) hM 0 (by decide)) trivial wd_X11_reaches wV_X11_reaches wL_X11_332 (hM.o rfl) rfl rfl hl.1 rfl (Nat.le_of_ble_eq_true rfl) dX11_healed_4 ⟨Nat.le_of_ble_eq_true rfl, Nat.le_of_ble_eq_true rfl⟩ ⟨Nat.zero_le _, Nat.zero_le _⟩ (fun r1 H1 locs hp1 hT1 hS1 hk1 => ?_)
  have hp1 : r1 = (-1) := hp1
  subst hp1
  refine h_callVi (T := TX11) (rest := []) (As := [.int (-1)]) hx hb hml hown hts hK hT1 (fun _ h => h) hS1 (c_X11_givesOr l G Y (o) hM (-1)) trivial wd_X11_givesOr wV_X11_givesOr wL_X11_336 (hM.o rfl) rfl rfl hl.1 rfl (Nat.le_of_ble_eq_true rfl) dX11_healed_7 ⟨Nat.le_of_ble_eq_true rfl, Nat.le_of_ble_eq_true rfl⟩ ⟨Nat.zero_le _, Nat.zero_le _⟩ (fun r2 H2 locs hp2 hT2 hS2 hk2 => ?_)
  have hp2 : r2 = (-1) := hp2
  subst hp2
  exact hret _ _ _ _ _ hT2 hS2 rfl dX11_healed_10
set_option maxHeartbeats 4000000 in
set_option maxRecDepth 100000 in
theorem c_X11_purged (l : Launch) (G : hG) (Y : hW) (o : Nat) (hM : h_On Y o (modE tF o)) : hMi l yX11_purged cX11_purged 1 (some .int) 5 109 G Y [.ref (o)] (fun H => True) (fun H r H1 => r = (-1)) := by
  refine h_ofi (by decide +kernel) (Nat.le_of_ble_eq_true rfl) ?_
  intro p e s m args below meth c H0 ls Q hx hb hts hown hml hK hT0 hpr hS0 hl hret
  have hl : lv_has ls 1 [(0, .ref (o))] := hl
  refine lv_aload_n hx hb dX11_purged_0 rfl (lv_at hl 0 rfl) ?_
  refine lv_aload_n hx hb dX11_purged_1 rfl (lv_at hl 0 rfl) ?_
  refine lv_iconst (v := 3) hx hb dX11_purged_2 (by decide) ?_
  refine lv_iconst (v := 0) hx hb dX11_purged_3 (by decide) ?_
  refine h_callVi (T := TX11) (rest := [.ref (o)]) (As := [.int 3, .int 0]) hx hb hml hown hts hK hT0 (fun _ h => h) hS0 (c_reaches_3 l G Y (o) hM 0 (by decide)) trivial wd_X11_reaches wV_X11_reaches wL_X11_332 (hM.o rfl) rfl rfl hl.1 rfl (Nat.le_of_ble_eq_true rfl) dX11_purged_4 ⟨Nat.le_of_ble_eq_true rfl, Nat.le_of_ble_eq_true rfl⟩ ⟨Nat.zero_le _, Nat.zero_le _⟩ (fun r1 H1 locs hp1 hT1 hS1 hk1 => ?_)
  have hp1 : r1 = (-1) := hp1
  subst hp1
  refine h_callVi (T := TX11) (rest := []) (As := [.int (-1)]) hx hb hml hown hts hK hT1 (fun _ h => h) hS1 (c_X11_givesOr l G Y (o) hM (-1)) trivial wd_X11_givesOr wV_X11_givesOr wL_X11_336 (hM.o rfl) rfl rfl hl.1 rfl (Nat.le_of_ble_eq_true rfl) dX11_purged_7 ⟨Nat.le_of_ble_eq_true rfl, Nat.le_of_ble_eq_true rfl⟩ ⟨Nat.zero_le _, Nat.zero_le _⟩ (fun r2 H2 locs hp2 hT2 hS2 hk2 => ?_)
  have hp2 : r2 = (-1) := hp2
  subst hp2
  exact hret _ _ _ _ _ hT2 hS2 rfl dX11_purged_10
set_option maxHeartbeats 4000000 in
set_option maxRecDepth 100000 in
theorem c_X11_waiting (l : Launch) (G : hG) (Y : hW) (o : Nat) (hM : h_On Y o (modE tF o)) : hMi l yX11_waiting cX11_waiting 4 (some .int) 1 21 G Y [.ref (o)] (fun H => True) (fun H r H1 => r = 0 ∧ H1 = H) := by
  refine h_ofi (by decide +kernel) (Nat.le_of_ble_eq_true rfl) ?_
  intro p e s m args below meth c H0 ls Q hx hb hts hown hml hK hT0 hpr hS0 hl hret
  have hl : lv_has ls 4 [(0, .ref (o))] := hl
  refine lv_iconst (v := 0) hx hb dX11_waiting_0 (by decide) ?_
  refine lv_istore_n (lv' := [(1, .int 0), (0, .ref (o))]) hx hb dX11_waiting_1 rfl hl (by decide) rfl (fun ls hl => ?_)
  refine lv_iconst (v := 0) hx hb dX11_waiting_2 (by decide) ?_
  refine lv_istore_n (lv' := [(2, .int 0), (1, .int 0), (0, .ref (o))]) hx hb dX11_waiting_3 rfl hl (by decide) rfl (fun ls hl => ?_)
  refine lv_iload_n hx hb dX11_waiting_4 rfl (lv_at hl 0 rfl) ?_
  refine lv_aload_n hx hb dX11_waiting_5 rfl (lv_at hl 2 rfl) ?_
  refine lv_iconst (v := 0) hx hb dX11_waiting_6 (by decide) ?_
  refine h_callVi (T := TX11) (rest := [.int 0]) (As := [.int 0]) hx hb hml hown hts hK hT0 (fun _ h => h) hS0 (c_of l G Y tF (o) hM 0 0 (by decide) (h_inc (by decide))) trivial wd_X11_of wV_X11_of wL_X11_47 (hM.o rfl) rfl rfl hl.1 rfl (Nat.le_of_ble_eq_true rfl) dX11_waiting_7 ⟨Nat.le_of_ble_eq_true rfl, Nat.le_of_ble_eq_true rfl⟩ ⟨Nat.zero_le _, Nat.zero_le _⟩ (fun r1 H1 locs hp1 hT1 hS1 hk1 => ?_)
  obtain ⟨hp1, he⟩ := hp1
  have he := he.symm
  subst he
  have hp1 : r1 = 0 := hp1.trans ((tF_all (hT0.ai (hM.at 1 rfl) (j := 0) (by decide)).1 (by decide) (by decide) (by decide)).trans (by decide))
  subst hp1
  refine lv_icmp_ge (tgt := 57) hx hb dX11_waiting_10 (by decide) (fun _ => ?_) (fun h => absurd (by decide) h)
  refine lv_iload_n hx hb dX11_waiting_57 rfl (lv_at hl 1 rfl) ?_
  exact hret _ _ _ _ _ hT0 hS1 ⟨rfl, rfl⟩ dX11_waiting_58
set_option maxHeartbeats 4000000 in
set_option maxRecDepth 100000 in
theorem c_X11_lives (l : Launch) (G : hG) (Y : hW) (o : Nat) (hM : h_On Y o (modE tF o)) (u2 u3 : Int32) (hz2 : u2 = 0 ∨ u2 = 1) : hMv l yX11_lives cX11_lives 6 none 4 85 G Y [.ref (o), .int 0, .int u2, .int u3] (fun H => True) (fun H H1 => True) := by
  refine h_ofv (by decide +kernel) (Nat.le_of_ble_eq_true rfl) ?_
  intro p e s m args below meth c H0 ls Q hx hb hts hown hml hK hT0 hpr hS0 hl hret
  have hl : lv_has ls 6 [(0, .ref (o)), (1, .int 0), (2, .int u2), (3, .int u3)] := hl
  refine lv_iconst (v := 0) hx hb dX11_lives_0 (by decide) ?_
  refine lv_istore (lv' := [(4, .int 0), (0, .ref (o)), (1, .int 0), (2, .int u2), (3, .int u3)]) hx hb dX11_lives_1 hl (by decide) rfl (fun ls hl => ?_)
  refine lv_iload hx hb dX11_lives_3 (lv_at hl 0 rfl) ?_
  refine lv_iload_n hx hb dX11_lives_5 rfl (lv_at hl 2 rfl) ?_
  refine lv_icmp_ge (tgt := 25) hx hb dX11_lives_6 (by decide) (fun _ => ?_) (fun h => absurd (by decide) h)
  refine lv_aload_n hx hb dX11_lives_25 rfl (lv_at hl 1 rfl) ?_
  refine lv_iload_n hx hb dX11_lives_26 rfl (lv_at hl 3 rfl) ?_
  refine h_callVv (T := TX11) (rest := []) (As := [.int u2]) hx hb hml hown hts hK hT0 (fun _ h => h) hS0 (c_X11_onPaper l G Y (o) hM u2 hz2) trivial wd_X11_onPaper wV_X11_onPaper wL_X11_322 (hM.o rfl) rfl rfl hl.1 rfl (Nat.le_of_ble_eq_true rfl) dX11_lives_27 ⟨Nat.le_of_ble_eq_true rfl, Nat.le_of_ble_eq_true rfl⟩ ⟨Nat.zero_le _, Nat.zero_le _⟩ (fun H1 locs hp1 hT1 hS1 hk1 => ?_)
  refine lv_iconst (v := 1) hx hb dX11_lives_30 (by decide) ?_
  refine lv_istore (lv' := [(4, .int 1), (0, .ref (o)), (1, .int 0), (2, .int u2), (3, .int u3)]) hx hb dX11_lives_31 hl (by decide) rfl (fun ls hl => ?_)
  have LP : ∀ (q k : Nat), q + k = 3001 → ∀ (H0 : Heap) (locs : List Loc) (ls : Array Slot), hT G Y H0 → va_S (h_A Y) s.heap H0 locs → h_AS H0 o → lv_has ls 6 [(4, .int (nI k)), (0, .ref (o)), (1, .int 0), (2, .int u2), (3, .int u3)] → W p l e (h_rm 4 85) s m args below meth c H0 locs 0 0 Q (F0 m 33 ls []) := by
    intro q
    induction q with
    | zero =>
      intro k hk H0 locs ls  hT0 hS0 hf0 hl
      obtain rfl : k = 3001 := by omega
      refine lv_iload hx hb dX11_lives_33 (lv_at hl 0 rfl) ?_
      refine lv_sipush (v := 3000) hx hb dX11_lives_35 (by decide) ?_
      refine lv_icmp_gt (tgt := 99) hx hb dX11_lives_38 (by decide) (fun _ => ?_) (fun h => absurd (by decide) h)
      refine lv_aload_n hx hb dX11_lives_99 rfl (lv_at hl 1 rfl) ?_
      refine h_callVv (T := TX11) (rest := []) (As := []) hx hb hml hown hts hK hT0 (fun _ h => h) hS0 (c_X11_offPaper l G Y (o) hM _) ⟨hf0, rfl⟩ wd_X11_offPaper wV_X11_offPaper wL_X11_329 (hM.o rfl) rfl rfl hl.1 rfl (Nat.le_of_ble_eq_true rfl) dX11_lives_100 ⟨Nat.le_of_ble_eq_true rfl, Nat.le_of_ble_eq_true rfl⟩ ⟨Nat.zero_le _, Nat.zero_le _⟩ (fun H1 locs hp1 hT1 hS1 hk1 => ?_)
      exact hret _ _ _ _ hT1 hS1 trivial dX11_lives_103
    | succ q ih =>
      intro k hk H0 locs ls  hT0 hS0 hf0 hl
      refine lv_iload hx hb dX11_lives_33 (lv_at hl 0 rfl) ?_
      refine lv_sipush (v := 3000) hx hb dX11_lives_35 (by decide) ?_
      refine lv_icmp_gt (tgt := 99) hx hb dX11_lives_38 (by decide) (fun h => absurd h (by have h9 := nI_toInt (n := k) (by omega); have h8 : (3000 : Int32).toInt = 3000 := rfl; simp only [Int32.lt_iff_toInt_lt, Int32.le_iff_toInt_le, h9, h8]; omega)) (fun _ => ?_)
      refine lv_aload_n hx hb dX11_lives_41 rfl (lv_at hl 1 rfl) ?_
      refine h_callVv (T := TX11) (rest := []) (As := []) hx hb hml hown hts hK hT0 (fun _ h => h) hS0 (c_X11_ticks l G Y (o) hM _ _) ⟨rfl, rfl⟩ wd_X11_ticks wV_X11_ticks wL_X11_297 (hM.o rfl) rfl rfl hl.1 rfl (Nat.le_of_ble_eq_true rfl) dX11_lives_42 ⟨Nat.le_of_ble_eq_true rfl, Nat.le_of_ble_eq_true rfl⟩ ⟨Nat.zero_le _, Nat.zero_le _⟩ (fun H1 locs hp1 hT1 hS1 hk1 => ?_)
      refine lv_iconst (v := 0) hx hb dX11_lives_45 (by decide) ?_
      refine lv_istore (lv' := [(5, .int 0), (4, .int (nI k)), (0, .ref (o)), (1, .int 0), (2, .int u2), (3, .int u3)]) hx hb dX11_lives_46 hl (by decide) rfl (fun ls hl => ?_)
      refine lv_iload hx hb dX11_lives_48 (lv_at hl 0 rfl) ?_
      refine lv_iload_n hx hb dX11_lives_50 rfl (lv_at hl 3 rfl) ?_
      refine lv_icmp_ge (tgt := 93) hx hb dX11_lives_51 (by decide) (fun _ => ?_) (fun h => absurd (by decide) h)
      refine lv_iinc (v := (nI (k + 1))) (lv' := [(4, .int (nI (k + 1))), (5, .int 0), (0, .ref (o)), (1, .int 0), (2, .int u2), (3, .int u3)]) hx hb dX11_lives_93 hl (k := 1) rfl (nI_1 k) (by decide) rfl (fun ls hl => ?_)
      refine lv_goto (tgt := 33) hx hb dX11_lives_96 (by decide) ?_
      exact ih (k + 1) (by omega) _ _ _  hT1 hS1 (hf0.up hp1.2.1) (lv_sub hl [0, 2, 3, 4, 5] rfl)
  exact LP 3000 1 (by omega) _ _ _  hT1 hS1 hp1.1 (lv_sub hl [0, 1, 2, 3, 4] rfl)
set_option maxHeartbeats 4000000 in
set_option maxRecDepth 100000 in
theorem c_X11_when (l : Launch) (G : hG) (Y : hW) (o : Nat) (hM : h_On Y o (modE tF o)) (u1 u2 : Int32) (hz2 : u2 = 0 ∨ u2 = 1) : hMi l yX11_when cX11_when 5 (some .int) 2 44 G Y [.ref (o), .int u1, .int u2] (fun H => True) (fun H r H1 => r = (-1)) := by
  refine h_ofi (by decide +kernel) (Nat.le_of_ble_eq_true rfl) ?_
  intro p e s m args below meth c H0 ls Q hx hb hts hown hml hK hT0 hpr hS0 hl hret
  have hl : lv_has ls 5 [(0, .ref (o)), (1, .int u1), (2, .int u2)] := hl
  refine lv_iload_n hx hb dX11_when_0 rfl (lv_at hl 1 rfl) ?_
  refine lv_if_ge (tgt := 10) hx hb dX11_when_1 (by decide) (fun c1 => ?_) (fun c1 => ?_)
  · skip
    refine lv_aload_n hx hb dX11_when_10 rfl (lv_at hl 0 rfl) ?_
    refine lv_iconst (v := 5) hx hb dX11_when_11 (by decide) ?_
    refine h_callVi (T := TX11) (rest := []) (As := [.int 5]) hx hb hml hown hts hK hT0 (fun _ h => h) hS0 (c_of l G Y tF (o) hM 5 5 (by decide) (h_inc (by decide))) trivial wd_X11_of wV_X11_of wL_X11_47 (hM.o rfl) rfl rfl hl.1 rfl (Nat.le_of_ble_eq_true rfl) dX11_when_12 ⟨Nat.le_of_ble_eq_true rfl, Nat.le_of_ble_eq_true rfl⟩ ⟨Nat.zero_le _, Nat.zero_le _⟩ (fun r2 H1 locs hp1 hT1 hS1 hk1 => ?_)
    obtain ⟨hp1, he⟩ := hp1
    have he := he.symm
    subst he
    have hp1 : r2 = 0 := hp1.trans ((tF_all (hT0.ai (hM.at 1 rfl) (j := 5) (by decide)).1 (by decide) (by decide) (by decide)).trans (by decide))
    subst hp1
    refine lv_iconst (v := 2) hx hb dX11_when_15 (by decide) ?_
    refine lv_icmp_ne (tgt := 33) hx hb dX11_when_16 (by decide) (fun _ => ?_) (fun h => absurd h (by decide))
    refine lv_iconst (v := 0) hx hb dX11_when_33 (by decide) ?_
    refine lv_istore_n (lv' := [(3, .int 0), (0, .ref (o)), (1, .int u1), (2, .int u2)]) hx hb dX11_when_34 rfl hl (by decide) rfl (fun ls hl => ?_)
    refine lv_aload_n hx hb dX11_when_35 rfl (lv_at hl 1 rfl) ?_
    refine h_callVi (T := TX11) (rest := []) (As := []) hx hb hml hown hts hK hT0 (fun _ h => h) hS1 (c_X11_waiting l G Y (o) hM) trivial wd_X11_waiting wV_X11_waiting wL_X11_339 (hM.o rfl) rfl rfl hl.1 rfl (Nat.le_of_ble_eq_true rfl) dX11_when_36 ⟨Nat.le_of_ble_eq_true rfl, Nat.le_of_ble_eq_true rfl⟩ ⟨Nat.zero_le _, Nat.zero_le _⟩ (fun r4 H2 locs hp2 hT2 hS2 hk2 => ?_)
    obtain ⟨hp2, he⟩ := hp2
    have he := he.symm
    subst he
    have hp2 : r4 = 0 := hp2
    subst hp2
    refine lv_iconst (v := 1) hx hb dX11_when_39 (by decide) ?_
    refine lv_isub hx hb dX11_when_40 ?_
    refine h_top (v := (-1)) (by decide) ?_
    refine lv_istore (lv' := [(4, .int (-1)), (3, .int 0), (0, .ref (o)), (1, .int u1), (2, .int u2)]) hx hb dX11_when_41 hl (by decide) rfl (fun ls hl => ?_)
    refine lv_iload hx hb dX11_when_43 (lv_at hl 0 rfl) ?_
    refine lv_if_lt (tgt := 75) hx hb dX11_when_45 (by decide) (fun _ => ?_) (fun h => absurd (by decide) h)
    refine lv_iload_n hx hb dX11_when_75 rfl (lv_at hl 1 rfl) ?_
    refine lv_if_ne (tgt := 85) hx hb dX11_when_76 (by decide) (fun h => absurd (by decide) h) (fun _ => ?_)
    refine lv_aload_n hx hb dX11_when_79 rfl (lv_at hl 2 rfl) ?_
    refine lv_iconst (v := 5) hx hb dX11_when_80 (by decide) ?_
    refine h_callVi (T := TX11) (rest := []) (As := [.int 5]) hx hb hml hown hts hK hT0 (fun _ h => h) hS2 (c_X11_refuse l G Y (o) hM 5) trivial wd_X11_refuse wV_X11_refuse wL_X11_267 (hM.o rfl) rfl rfl hl.1 rfl (Nat.le_of_ble_eq_true rfl) dX11_when_81 ⟨Nat.le_of_ble_eq_true rfl, Nat.le_of_ble_eq_true rfl⟩ ⟨Nat.zero_le _, Nat.zero_le _⟩ (fun r7 H3 locs hp3 hT3 hS3 hk3 => ?_)
    have hp3 : r7 = (-1) := hp3
    subst hp3
    exact hret _ _ _ _ _ hT3 hS3 rfl dX11_when_84
  · skip
    refine lv_aload_n hx hb dX11_when_4 rfl (lv_at hl 0 rfl) ?_
    refine lv_iconst (v := 1) hx hb dX11_when_5 (by decide) ?_
    refine h_callVi (T := TX11) (rest := []) (As := [.int 1]) hx hb hml hown hts hK hT0 (fun _ h => h) hS0 (c_X11_refuse l G Y (o) hM 1) trivial wd_X11_refuse wV_X11_refuse wL_X11_267 (hM.o rfl) rfl rfl hl.1 rfl (Nat.le_of_ble_eq_true rfl) dX11_when_6 ⟨Nat.le_of_ble_eq_true rfl, Nat.le_of_ble_eq_true rfl⟩ ⟨Nat.zero_le _, Nat.zero_le _⟩ (fun r8 H4 locs hp4 hT4 hS4 hk4 => ?_)
    have hp4 : r8 = (-1) := hp4
    subst hp4
    exact hret _ _ _ _ _ hT4 hS4 rfl dX11_when_9
set_option maxHeartbeats 4000000 in
set_option maxRecDepth 100000 in
theorem c_X11_next (l : Launch) (G : hG) (Y : hW) (o : Nat) (hM : h_On Y o (modE tF o)) (u1 u2 : Int32) (hz2 : u2 = 0 ∨ u2 = 1) : hMi l yX11_next cX11_next 6 (some .int) 4 85 G Y [.ref (o), .int u1, .int u2] (fun H => True) (fun H r H1 => r = (-1)) := by
  refine h_ofi (by decide +kernel) (Nat.le_of_ble_eq_true rfl) ?_
  intro p e s m args below meth c H0 ls Q hx hb hts hown hml hK hT0 hpr hS0 hl hret
  have hl : lv_has ls 6 [(0, .ref (o)), (1, .int u1), (2, .int u2)] := hl
  refine lv_iload_n hx hb dX11_next_0 rfl (lv_at hl 1 rfl) ?_
  refine lv_if_ge (tgt := 10) hx hb dX11_next_1 (by decide) (fun c1 => ?_) (fun c1 => ?_)
  · skip
    refine lv_iconst (v := (-1)) hx hb dX11_next_10 (by decide) ?_
    refine lv_istore_n (lv' := [(3, .int (-1)), (0, .ref (o)), (1, .int u1), (2, .int u2)]) hx hb dX11_next_11 rfl hl (by decide) rfl (fun ls hl => ?_)
    refine lv_iload_n hx hb dX11_next_12 rfl (lv_at hl 2 rfl) ?_
    refine lv_istore (lv' := [(4, .int u1), (3, .int (-1)), (0, .ref (o)), (1, .int u1), (2, .int u2)]) hx hb dX11_next_13 hl (by decide) rfl (fun ls hl => ?_)
    refine lv_aload_n hx hb dX11_next_15 rfl (lv_at hl 2 rfl) ?_
    refine lv_iload_n hx hb dX11_next_16 rfl (lv_at hl 4 rfl) ?_
    refine h_callVv (T := TX11) (rest := []) (As := [.int u2]) hx hb hml hown hts hK hT0 (fun _ h => h) hS0 (c_X11_onPaper l G Y (o) hM u2 hz2) trivial wd_X11_onPaper wV_X11_onPaper wL_X11_322 (hM.o rfl) rfl rfl hl.1 rfl (Nat.le_of_ble_eq_true rfl) dX11_next_17 ⟨Nat.le_of_ble_eq_true rfl, Nat.le_of_ble_eq_true rfl⟩ ⟨Nat.zero_le _, Nat.zero_le _⟩ (fun H1 locs hp1 hT1 hS1 hk1 => ?_)
    refine lv_iconst (v := 0) hx hb dX11_next_20 (by decide) ?_
    refine lv_istore (lv' := [(5, .int 0), (4, .int u1), (3, .int (-1)), (0, .ref (o)), (1, .int u1), (2, .int u2)]) hx hb dX11_next_21 hl (by decide) rfl (fun ls hl => ?_)
    have LP : ∀ (q k : Nat), q + k = 3000 → ∀ (H0 : Heap) (locs : List Loc) (ls : Array Slot), hT G Y H0 → va_S (h_A Y) s.heap H0 locs → h_AS H0 o → lv_has ls 6 [(5, .int (nI k)), (0, .ref (o)), (1, .int u1), (2, .int u2), (3, .int (-1)), (4, .int u1)] → W p l e (h_rm 4 85) s m args below meth c H0 locs 0 0 Q (F0 m 23 ls []) := by
      intro q
      induction q with
      | zero =>
        intro k hk H0 locs ls  hT0 hS0 hf0 hl
        obtain rfl : k = 3000 := by omega
        refine lv_iload hx hb dX11_next_23 (lv_at hl 0 rfl) ?_
        refine lv_sipush (v := 3000) hx hb dX11_next_25 (by decide) ?_
        refine lv_icmp_ge (tgt := 70) hx hb dX11_next_28 (by decide) (fun _ => ?_) (fun h => absurd (by decide) h)
        refine lv_aload_n hx hb dX11_next_70 rfl (lv_at hl 1 rfl) ?_
        refine h_callVv (T := TX11) (rest := []) (As := []) hx hb hml hown hts hK hT0 (fun _ h => h) hS0 (c_X11_offPaper l G Y (o) hM _) ⟨hf0, rfl⟩ wd_X11_offPaper wV_X11_offPaper wL_X11_329 (hM.o rfl) rfl rfl hl.1 rfl (Nat.le_of_ble_eq_true rfl) dX11_next_71 ⟨Nat.le_of_ble_eq_true rfl, Nat.le_of_ble_eq_true rfl⟩ ⟨Nat.zero_le _, Nat.zero_le _⟩ (fun H1 locs hp1 hT1 hS1 hk1 => ?_)
        refine lv_aload_n hx hb dX11_next_74 rfl (lv_at hl 1 rfl) ?_
        refine lv_iload_n hx hb dX11_next_75 rfl (lv_at hl 4 rfl) ?_
        refine h_callVi (T := TX11) (rest := []) (As := [.int (-1)]) hx hb hml hown hts hK hT1 (fun _ h => h) hS1 (c_X11_givesOr l G Y (o) hM (-1)) trivial wd_X11_givesOr wV_X11_givesOr wL_X11_336 (hM.o rfl) rfl rfl hl.1 rfl (Nat.le_of_ble_eq_true rfl) dX11_next_76 ⟨Nat.le_of_ble_eq_true rfl, Nat.le_of_ble_eq_true rfl⟩ ⟨Nat.zero_le _, Nat.zero_le _⟩ (fun r2 H2 locs hp2 hT2 hS2 hk2 => ?_)
        have hp2 : r2 = (-1) := hp2
        subst hp2
        exact hret _ _ _ _ _ hT2 hS2 rfl dX11_next_79
      | succ q ih =>
        intro k hk H0 locs ls  hT0 hS0 hf0 hl
        refine lv_iload hx hb dX11_next_23 (lv_at hl 0 rfl) ?_
        refine lv_sipush (v := 3000) hx hb dX11_next_25 (by decide) ?_
        refine lv_icmp_ge (tgt := 70) hx hb dX11_next_28 (by decide) (fun h => absurd h (by have h9 := nI_toInt (n := k) (by omega); have h8 : (3000 : Int32).toInt = 3000 := rfl; simp only [Int32.lt_iff_toInt_lt, Int32.le_iff_toInt_le, h9, h8]; omega)) (fun _ => ?_)
        refine lv_iload_n hx hb dX11_next_31 rfl (lv_at hl 4 rfl) ?_
        refine lv_iconst (v := (-1)) hx hb dX11_next_32 (by decide) ?_
        refine lv_icmp_ne (tgt := 70) hx hb dX11_next_33 (by decide) (fun h => absurd (by decide) h) (fun _ => ?_)
        refine lv_aload_n hx hb dX11_next_36 rfl (lv_at hl 1 rfl) ?_
        refine h_callVv (T := TX11) (rest := []) (As := []) hx hb hml hown hts hK hT0 (fun _ h => h) hS0 (c_X11_ticks l G Y (o) hM _ _) ⟨rfl, rfl⟩ wd_X11_ticks wV_X11_ticks wL_X11_297 (hM.o rfl) rfl rfl hl.1 rfl (Nat.le_of_ble_eq_true rfl) dX11_next_37 ⟨Nat.le_of_ble_eq_true rfl, Nat.le_of_ble_eq_true rfl⟩ ⟨Nat.zero_le _, Nat.zero_le _⟩ (fun H1 locs hp1 hT1 hS1 hk1 => ?_)
        refine lv_aload_n hx hb dX11_next_40 rfl (lv_at hl 1 rfl) ?_
        refine h_geti (C := RX11) (T := TX11) (N := 23) hx hb hts inX11 hown hK hT1 (hM.o rfl) rfl 3 rfl wF_X11_112 rfl dX11_next_41 (fun p4 => ?_)
        refine h_top (v := (-1)) hp1.2.2.1 ?_
        refine lv_iconst (v := (-1)) hx hb dX11_next_44 (by decide) ?_
        refine lv_icmp_ne (tgt := 51) hx hb dX11_next_45 (by decide) (fun h => absurd (by decide) h) (fun _ => ?_)
        refine lv_goto (tgt := 64) hx hb dX11_next_48 (by decide) ?_
        refine lv_iinc (v := (nI (k + 1))) (lv' := [(5, .int (nI (k + 1))), (0, .ref (o)), (1, .int u1), (2, .int u2), (3, .int (-1)), (4, .int u1)]) hx hb dX11_next_64 hl (k := 0) rfl (nI_1 k) (by decide) rfl (fun ls hl => ?_)
        refine lv_goto (tgt := 23) hx hb dX11_next_67 (by decide) ?_
        exact ih (k + 1) (by omega) _ _ _  hT1 hS1 (hf0.up hp1.2.1) (lv_sub hl [0, 1, 2, 3, 4, 5] rfl)
    exact LP 3000 0 (by omega) _ _ _  hT1 hS1 hp1.1 (lv_sub hl [0, 3, 4, 5, 2, 1] rfl)
  · skip
    refine lv_aload_n hx hb dX11_next_4 rfl (lv_at hl 0 rfl) ?_
    refine lv_iconst (v := 1) hx hb dX11_next_5 (by decide) ?_
    refine h_callVi (T := TX11) (rest := []) (As := [.int 1]) hx hb hml hown hts hK hT0 (fun _ h => h) hS0 (c_X11_refuse l G Y (o) hM 1) trivial wd_X11_refuse wV_X11_refuse wL_X11_267 (hM.o rfl) rfl rfl hl.1 rfl (Nat.le_of_ble_eq_true rfl) dX11_next_6 ⟨Nat.le_of_ble_eq_true rfl, Nat.le_of_ble_eq_true rfl⟩ ⟨Nat.zero_le _, Nat.zero_le _⟩ (fun r6 H2 locs hp2 hT2 hS2 hk2 => ?_)
    have hp2 : r6 = (-1) := hp2
    subst hp2
    exact hret _ _ _ _ _ hT2 hS2 rfl dX11_next_9
set_option maxHeartbeats 4000000 in
set_option maxRecDepth 100000 in
theorem c_X11_blamed (l : Launch) (G : hG) (Y : hW) (o : Nat) (hM : h_On Y o (modE tF o)) : hMi l yX11_blamed cX11_blamed 3 (some .int) 4 85 G Y [.ref (o)] (fun H => True) (fun H r H1 => r = (-1)) := by
  refine h_ofi (by decide +kernel) (Nat.le_of_ble_eq_true rfl) ?_
  intro p e s m args below meth c H0 ls Q hx hb hts hown hml hK hT0 hpr hS0 hl hret
  have hl : lv_has ls 3 [(0, .ref (o))] := hl
  refine lv_aload_n hx hb dX11_blamed_0 rfl (lv_at hl 0 rfl) ?_
  refine lv_iconst (v := 0) hx hb dX11_blamed_1 (by decide) ?_
  refine h_callVv (T := TX11) (rest := []) (As := [.int 0]) hx hb hml hown hts hK hT0 (fun _ h => h) hS0 (c_X11_onPaper l G Y (o) hM 0 (by decide)) trivial wd_X11_onPaper wV_X11_onPaper wL_X11_322 (hM.o rfl) rfl rfl hl.1 rfl (Nat.le_of_ble_eq_true rfl) dX11_blamed_2 ⟨Nat.le_of_ble_eq_true rfl, Nat.le_of_ble_eq_true rfl⟩ ⟨Nat.zero_le _, Nat.zero_le _⟩ (fun H1 locs hp1 hT1 hS1 hk1 => ?_)
  refine lv_iconst (v := (-1)) hx hb dX11_blamed_5 (by decide) ?_
  refine lv_istore_n (lv' := [(1, .int (-1)), (0, .ref (o))]) hx hb dX11_blamed_6 rfl hl (by decide) rfl (fun ls hl => ?_)
  refine lv_iconst (v := 0) hx hb dX11_blamed_7 (by decide) ?_
  refine lv_istore_n (lv' := [(2, .int 0), (1, .int (-1)), (0, .ref (o))]) hx hb dX11_blamed_8 rfl hl (by decide) rfl (fun ls hl => ?_)
  have LP : ∀ (q k : Nat), q + k = 3000 → ∀ (H0 : Heap) (locs : List Loc) (ls : Array Slot), hT G Y H0 → va_S (h_A Y) s.heap H0 locs → h_AS H0 o → lv_has ls 3 [(2, .int (nI k)), (0, .ref (o)), (1, .int (-1))] → W p l e (h_rm 4 85) s m args below meth c H0 locs 0 0 Q (F0 m 9 ls []) := by
    intro q
    induction q with
    | zero =>
      intro k hk H0 locs ls  hT0 hS0 hf0 hl
      obtain rfl : k = 3000 := by omega
      refine lv_iload_n hx hb dX11_blamed_9 rfl (lv_at hl 0 rfl) ?_
      refine lv_sipush (v := 3000) hx hb dX11_blamed_10 (by decide) ?_
      refine lv_icmp_ge (tgt := 36) hx hb dX11_blamed_13 (by decide) (fun _ => ?_) (fun h => absurd (by decide) h)
      refine lv_aload_n hx hb dX11_blamed_36 rfl (lv_at hl 1 rfl) ?_
      refine h_callVv (T := TX11) (rest := []) (As := []) hx hb hml hown hts hK hT0 (fun _ h => h) hS0 (c_X11_offPaper l G Y (o) hM _) ⟨hf0, rfl⟩ wd_X11_offPaper wV_X11_offPaper wL_X11_329 (hM.o rfl) rfl rfl hl.1 rfl (Nat.le_of_ble_eq_true rfl) dX11_blamed_37 ⟨Nat.le_of_ble_eq_true rfl, Nat.le_of_ble_eq_true rfl⟩ ⟨Nat.zero_le _, Nat.zero_le _⟩ (fun H1 locs hp1 hT1 hS1 hk1 => ?_)
      refine lv_aload_n hx hb dX11_blamed_40 rfl (lv_at hl 1 rfl) ?_
      refine lv_iload_n hx hb dX11_blamed_41 rfl (lv_at hl 2 rfl) ?_
      refine h_callVi (T := TX11) (rest := []) (As := [.int (-1)]) hx hb hml hown hts hK hT1 (fun _ h => h) hS1 (c_X11_givesOr l G Y (o) hM (-1)) trivial wd_X11_givesOr wV_X11_givesOr wL_X11_336 (hM.o rfl) rfl rfl hl.1 rfl (Nat.le_of_ble_eq_true rfl) dX11_blamed_42 ⟨Nat.le_of_ble_eq_true rfl, Nat.le_of_ble_eq_true rfl⟩ ⟨Nat.zero_le _, Nat.zero_le _⟩ (fun r1 H2 locs hp2 hT2 hS2 hk2 => ?_)
      have hp2 : r1 = (-1) := hp2
      subst hp2
      exact hret _ _ _ _ _ hT2 hS2 rfl dX11_blamed_45
    | succ q ih =>
      intro k hk H0 locs ls  hT0 hS0 hf0 hl
      refine lv_iload_n hx hb dX11_blamed_9 rfl (lv_at hl 0 rfl) ?_
      refine lv_sipush (v := 3000) hx hb dX11_blamed_10 (by decide) ?_
      refine lv_icmp_ge (tgt := 36) hx hb dX11_blamed_13 (by decide) (fun h => absurd h (by have h9 := nI_toInt (n := k) (by omega); have h8 : (3000 : Int32).toInt = 3000 := rfl; simp only [Int32.lt_iff_toInt_lt, Int32.le_iff_toInt_le, h9, h8]; omega)) (fun _ => ?_)
      refine lv_iload_n hx hb dX11_blamed_16 rfl (lv_at hl 2 rfl) ?_
      refine lv_iconst (v := (-1)) hx hb dX11_blamed_17 (by decide) ?_
      refine lv_icmp_ne (tgt := 36) hx hb dX11_blamed_18 (by decide) (fun h => absurd (by decide) h) (fun _ => ?_)
      refine lv_aload_n hx hb dX11_blamed_21 rfl (lv_at hl 1 rfl) ?_
      refine h_callVv (T := TX11) (rest := []) (As := []) hx hb hml hown hts hK hT0 (fun _ h => h) hS0 (c_X11_ticks l G Y (o) hM _ _) ⟨rfl, rfl⟩ wd_X11_ticks wV_X11_ticks wL_X11_297 (hM.o rfl) rfl rfl hl.1 rfl (Nat.le_of_ble_eq_true rfl) dX11_blamed_22 ⟨Nat.le_of_ble_eq_true rfl, Nat.le_of_ble_eq_true rfl⟩ ⟨Nat.zero_le _, Nat.zero_le _⟩ (fun H1 locs hp1 hT1 hS1 hk1 => ?_)
      refine lv_aload_n hx hb dX11_blamed_25 rfl (lv_at hl 1 rfl) ?_
      refine h_geti (C := RX11) (T := TX11) (N := 23) hx hb hts inX11 hown hK hT1 (hM.o rfl) rfl 4 rfl wF_X11_143 rfl dX11_blamed_26 (fun p3 => ?_)
      refine h_top (v := (-1)) hp1.2.2.2.1 ?_
      refine lv_istore_n (lv' := [(1, .int (-1)), (2, .int (nI k)), (0, .ref (o))]) hx hb dX11_blamed_29 rfl hl (by decide) rfl (fun ls hl => ?_)
      refine lv_iinc (v := (nI (k + 1))) (lv' := [(2, .int (nI (k + 1))), (1, .int (-1)), (0, .ref (o))]) hx hb dX11_blamed_30 hl (k := 1) rfl (nI_1 k) (by decide) rfl (fun ls hl => ?_)
      refine lv_goto (tgt := 9) hx hb dX11_blamed_33 (by decide) ?_
      exact ih (k + 1) (by omega) _ _ _  hT1 hS1 (hf0.up hp1.2.1) (lv_sub hl [0, 2, 1] rfl)
  exact LP 3000 0 (by omega) _ _ _  hT1 hS1 hp1.1 (lv_sub hl [0, 2, 1] rfl)
set_option maxHeartbeats 4000000 in
set_option maxRecDepth 100000 in
theorem c_X11_gain (l : Launch) (G : hG) (Y : hW) (o : Nat) (hM : h_On Y o (modE tF o)) : hMi l yX11_gain cX11_gain 4 (some .int) 5 110 G Y [.ref (o)] (fun H => True) (fun H r H1 => r = 0) := by
  refine h_ofi (by decide +kernel) (Nat.le_of_ble_eq_true rfl) ?_
  intro p e s m args below meth c H0 ls Q hx hb hts hown hml hK hT0 hpr hS0 hl hret
  have hl : lv_has ls 4 [(0, .ref (o))] := hl
  refine lv_aload_n hx hb dX11_gain_0 rfl (lv_at hl 0 rfl) ?_
  refine h_callVi (T := TX11) (rest := []) (As := []) hx hb hml hown hts hK hT0 (fun _ h => h) hS0 (c_X11_waiting l G Y (o) hM) trivial wd_X11_waiting wV_X11_waiting wL_X11_339 (hM.o rfl) rfl rfl hl.1 rfl (Nat.le_of_ble_eq_true rfl) dX11_gain_1 ⟨Nat.le_of_ble_eq_true rfl, Nat.le_of_ble_eq_true rfl⟩ ⟨Nat.zero_le _, Nat.zero_le _⟩ (fun r1 H1 locs hp1 hT1 hS1 hk1 => ?_)
  obtain ⟨hp1, he⟩ := hp1
  have he := he.symm
  subst he
  have hp1 : r1 = 0 := hp1
  subst hp1
  refine lv_istore_n (lv' := [(1, .int 0), (0, .ref (o))]) hx hb dX11_gain_4 rfl hl (by decide) rfl (fun ls hl => ?_)
  refine lv_aload_n hx hb dX11_gain_5 rfl (lv_at hl 1 rfl) ?_
  refine lv_iload_n hx hb dX11_gain_6 rfl (lv_at hl 0 rfl) ?_
  refine lv_iconst (v := 0) hx hb dX11_gain_7 (by decide) ?_
  refine lv_iconst (v := 0) hx hb dX11_gain_8 (by decide) ?_
  refine h_callVv (T := TX11) (rest := []) (As := [.int 0, .int 0, .int 0]) hx hb hml hown hts hK hT0 (fun _ h => h) hS1 (c_X11_lives l G Y (o) hM 0 0 (by decide)) trivial wd_X11_lives wV_X11_lives wL_X11_342 (hM.o rfl) rfl rfl hl.1 rfl (Nat.le_of_ble_eq_true rfl) dX11_gain_9 ⟨Nat.le_of_ble_eq_true rfl, Nat.le_of_ble_eq_true rfl⟩ ⟨Nat.zero_le _, Nat.zero_le _⟩ (fun H2 locs hp2 hT2 hS2 hk2 => ?_)
  refine lv_aload_n hx hb dX11_gain_12 rfl (lv_at hl 1 rfl) ?_
  refine lv_iload_n hx hb dX11_gain_13 rfl (lv_at hl 0 rfl) ?_
  refine lv_iconst (v := 1) hx hb dX11_gain_14 (by decide) ?_
  refine lv_bipush (v := 48) hx hb dX11_gain_15 (by decide) ?_
  refine h_callVv (T := TX11) (rest := []) (As := [.int 0, .int 1, .int 48]) hx hb hml hown hts hK hT2 (fun _ h => h) hS2 (c_X11_lives l G Y (o) hM 1 48 (by decide)) trivial wd_X11_lives wV_X11_lives wL_X11_342 (hM.o rfl) rfl rfl hl.1 rfl (Nat.le_of_ble_eq_true rfl) dX11_gain_17 ⟨Nat.le_of_ble_eq_true rfl, Nat.le_of_ble_eq_true rfl⟩ ⟨Nat.zero_le _, Nat.zero_le _⟩ (fun H3 locs hp3 hT3 hS3 hk3 => ?_)
  refine lv_iconst (v := 0) hx hb dX11_gain_20 (by decide) ?_
  refine lv_istore_n (lv' := [(2, .int 0), (1, .int 0), (0, .ref (o))]) hx hb dX11_gain_21 rfl hl (by decide) rfl (fun ls hl => ?_)
  refine lv_iconst (v := 0) hx hb dX11_gain_22 (by decide) ?_
  refine lv_istore_n (lv' := [(3, .int 0), (2, .int 0), (1, .int 0), (0, .ref (o))]) hx hb dX11_gain_23 rfl hl (by decide) rfl (fun ls hl => ?_)
  refine lv_iload_n hx hb dX11_gain_24 rfl (lv_at hl 0 rfl) ?_
  refine lv_iload_n hx hb dX11_gain_25 rfl (lv_at hl 2 rfl) ?_
  refine lv_icmp_ge (tgt := 75) hx hb dX11_gain_26 (by decide) (fun _ => ?_) (fun h => absurd (by decide) h)
  refine lv_aload_n hx hb dX11_gain_75 rfl (lv_at hl 3 rfl) ?_
  refine lv_iload_n hx hb dX11_gain_76 rfl (lv_at hl 1 rfl) ?_
  refine h_callVi (T := TX11) (rest := []) (As := [.int 0]) hx hb hml hown hts hK hT3 (fun _ h => h) hS3 (c_X11_gives l G Y (o) hM 0) trivial wd_X11_gives wV_X11_gives wL_X11_276 (hM.o rfl) rfl rfl hl.1 rfl (Nat.le_of_ble_eq_true rfl) dX11_gain_77 ⟨Nat.le_of_ble_eq_true rfl, Nat.le_of_ble_eq_true rfl⟩ ⟨Nat.zero_le _, Nat.zero_le _⟩ (fun r3 H4 locs hp4 hT4 hS4 hk4 => ?_)
  have hp4 : r3 = 0 := hp4
  subst hp4
  exact hret _ _ _ _ _ hT4 hS4 rfl dX11_gain_80
