set_option maxHeartbeats 4000000 in
set_option maxRecDepth 100000 in
theorem c_X7_exists (l : Launch) (G : hG) (Y : hW) (o : Nat) (hY : h_On Y o (stE tF o)) (u1 : Int32) : hMi l yX7_exists cX7_exists 2 (some .boolean) 0 0 G Y [.ref (o), .int u1] (fun H => True) (fun H r H1 => r = 0) := by
  refine h_ofz (by decide +kernel) (Nat.le_of_ble_eq_true rfl) ?_
  intro p e s m args below meth c H0 ls Q hx hb hts hown hml hK hT0 hpr hS0 hl hret
  have hl : lv_has ls 2 [(0, .ref (o)), (1, .int u1)] := hl
  refine lv_iload_n hx hb dX7_exists_0 rfl (lv_at hl 1 rfl) ?_
  refine lv_if_lt (tgt := 22) hx hb dX7_exists_1 (by decide) (fun c1 => ?_) (fun c1 => ?_)
  · skip
    refine lv_iconst (v := 0) hx hb dX7_exists_22 (by decide) ?_
    exact hret _ _ _ _ _ hT0 hS0 ⟨by decide, rfl⟩ dX7_exists_23
  · skip
    refine lv_iload_n hx hb dX7_exists_4 rfl (lv_at hl 1 rfl) ?_
    refine lv_aload_n hx hb dX7_exists_5 rfl (lv_at hl 0 rfl) ?_
    refine h_getc (v := 0) (C := RX7) (T := TX7) (N := 9) hx hb hts inX7 hown hK hT0 (hY.o rfl) rfl 5 rfl wF_X7_28 rfl (fun _ h => h) dX7_exists_6 ?_
    refine lv_icmp_ge (tgt := 22) hx hb dX7_exists_9 (by decide) (fun _ => ?_) (fun h => absurd (by simp only [Int32.lt_iff_toInt_lt, Int32.le_iff_toInt_le, ← Int32.toInt_inj, Int32.reduceToInt, (show (-1 : Int32).toInt = -1 from rfl)] at c1 ⊢; omega) h)
    refine lv_iconst (v := 0) hx hb dX7_exists_22 (by decide) ?_
    exact hret _ _ _ _ _ hT0 hS0 ⟨by decide, rfl⟩ dX7_exists_23
set_option maxHeartbeats 4000000 in
set_option maxRecDepth 100000 in
theorem c_X7_isOn (l : Launch) (G : hG) (Y : hW) (o : Nat) (hY : h_On Y o (stE tF o)) (u1 : Int32) : hMi l yX7_isOn cX7_isOn 2 (some .boolean) 0 0 G Y [.ref (o), .int u1] (fun H => True) (fun H r H1 => r = 0) := by
  refine h_ofz (by decide +kernel) (Nat.le_of_ble_eq_true rfl) ?_
  intro p e s m args below meth c H0 ls Q hx hb hts hown hml hK hT0 hpr hS0 hl hret
  have hl : lv_has ls 2 [(0, .ref (o)), (1, .int u1)] := hl
  refine lv_iload_n hx hb dX7_isOn_0 rfl (lv_at hl 1 rfl) ?_
  refine lv_if_lt (tgt := 31) hx hb dX7_isOn_1 (by decide) (fun c1 => ?_) (fun c1 => ?_)
  · skip
    refine lv_iconst (v := 0) hx hb dX7_isOn_31 (by decide) ?_
    exact hret _ _ _ _ _ hT0 hS0 ⟨by decide, rfl⟩ dX7_isOn_32
  · skip
    refine lv_iload_n hx hb dX7_isOn_4 rfl (lv_at hl 1 rfl) ?_
    refine lv_aload_n hx hb dX7_isOn_5 rfl (lv_at hl 0 rfl) ?_
    refine h_getc (v := 0) (C := RX7) (T := TX7) (N := 9) hx hb hts inX7 hown hK hT0 (hY.o rfl) rfl 5 rfl wF_X7_28 rfl (fun _ h => h) dX7_isOn_6 ?_
    refine lv_icmp_ge (tgt := 31) hx hb dX7_isOn_9 (by decide) (fun _ => ?_) (fun h => absurd (by simp only [Int32.lt_iff_toInt_lt, Int32.le_iff_toInt_le, ← Int32.toInt_inj, Int32.reduceToInt, (show (-1 : Int32).toInt = -1 from rfl)] at c1 ⊢; omega) h)
    refine lv_iconst (v := 0) hx hb dX7_isOn_31 (by decide) ?_
    exact hret _ _ _ _ _ hT0 hS0 ⟨by decide, rfl⟩ dX7_isOn_32
set_option maxHeartbeats 4000000 in
set_option maxRecDepth 100000 in
theorem c_X7_onBits (l : Launch) (G : hG) (Y : hW) (o : Nat) (hY : h_On Y o (stE tF o)) : hMi l yX7_onBits cX7_onBits 3 (some .int) 0 0 G Y [.ref (o)] (fun H => True) (fun H r H1 => r = 0) := by
  refine h_ofi (by decide +kernel) (Nat.le_of_ble_eq_true rfl) ?_
  intro p e s m args below meth c H0 ls Q hx hb hts hown hml hK hT0 hpr hS0 hl hret
  have hl : lv_has ls 3 [(0, .ref (o))] := hl
  refine lv_iconst (v := 0) hx hb dX7_onBits_0 (by decide) ?_
  refine lv_istore_n (lv' := [(1, .int 0), (0, .ref (o))]) hx hb dX7_onBits_1 rfl hl (by decide) rfl (fun ls hl => ?_)
  refine lv_iconst (v := 0) hx hb dX7_onBits_2 (by decide) ?_
  refine lv_istore_n (lv' := [(2, .int 0), (1, .int 0), (0, .ref (o))]) hx hb dX7_onBits_3 rfl hl (by decide) rfl (fun ls hl => ?_)
  refine lv_iload_n hx hb dX7_onBits_4 rfl (lv_at hl 0 rfl) ?_
  refine lv_aload_n hx hb dX7_onBits_5 rfl (lv_at hl 2 rfl) ?_
  refine h_getc (v := 0) (C := RX7) (T := TX7) (N := 9) hx hb hts inX7 hown hK hT0 (hY.o rfl) rfl 5 rfl wF_X7_28 rfl (fun _ h => h) dX7_onBits_6 ?_
  refine lv_icmp_ge (tgt := 32) hx hb dX7_onBits_9 (by decide) (fun _ => ?_) (fun h => absurd (by decide) h)
  refine lv_iload_n hx hb dX7_onBits_32 rfl (lv_at hl 1 rfl) ?_
  exact hret _ _ _ _ _ hT0 hS0 rfl dX7_onBits_33
set_option maxHeartbeats 4000000 in
set_option maxRecDepth 100000 in
theorem c_bitCount (l : Launch) (G : hG) (Y : hW)  : hMi l yJ6_bitCount_0f7a4 cJ6_bitCount_0f7a4 1 (some .int) 0 0 G Y [.int 0] (fun H => True) (fun H r H1 => r = 0) := by
  refine h_ofi (by decide +kernel) (Nat.le_of_ble_eq_true rfl) ?_
  intro p e s m args below meth c H0 ls Q hx hb hts hown hml hK hT0 hpr hS0 hl hret
  have hl : lv_has ls 1 [(0, .int 0)] := hl
  refine lv_iload_n hx hb dJ6_bitCount_0f7a4_0 rfl (lv_at hl 0 rfl) ?_
  refine lv_iload_n hx hb dJ6_bitCount_0f7a4_1 rfl (lv_at hl 0 rfl) ?_
  refine lv_iconst (v := 1) hx hb dJ6_bitCount_0f7a4_2 (by decide) ?_
  refine lv_iushr hx hb dJ6_bitCount_0f7a4_3 rfl ?_
  refine h_top (v := 0) (by decide) ?_
  refine lv_ldcw (v := 1431655765) hx hb hown (hts _ wC_J6_265) dJ6_bitCount_0f7a4_4 ?_
  refine lv_iand hx hb dJ6_bitCount_0f7a4_7 ?_
  refine h_top (v := 0) (by decide) ?_
  refine lv_isub hx hb dJ6_bitCount_0f7a4_8 ?_
  refine h_top (v := 0) (by decide) ?_
  refine lv_istore_n (lv' := [(0, .int 0)]) hx hb dJ6_bitCount_0f7a4_9 rfl hl (by decide) rfl (fun ls hl => ?_)
  refine lv_iload_n hx hb dJ6_bitCount_0f7a4_10 rfl (lv_at hl 0 rfl) ?_
  refine lv_ldcw (v := 858993459) hx hb hown (hts _ wC_J6_266) dJ6_bitCount_0f7a4_11 ?_
  refine lv_iand hx hb dJ6_bitCount_0f7a4_14 ?_
  refine h_top (v := 0) (by decide) ?_
  refine lv_iload_n hx hb dJ6_bitCount_0f7a4_15 rfl (lv_at hl 0 rfl) ?_
  refine lv_iconst (v := 2) hx hb dJ6_bitCount_0f7a4_16 (by decide) ?_
  refine lv_iushr hx hb dJ6_bitCount_0f7a4_17 rfl ?_
  refine h_top (v := 0) (by decide) ?_
  refine lv_ldcw (v := 858993459) hx hb hown (hts _ wC_J6_266) dJ6_bitCount_0f7a4_18 ?_
  refine lv_iand hx hb dJ6_bitCount_0f7a4_21 ?_
  refine h_top (v := 0) (by decide) ?_
  refine lv_iadd hx hb dJ6_bitCount_0f7a4_22 ?_
  refine h_top (v := 0) (by decide) ?_
  refine lv_istore_n (lv' := [(0, .int 0)]) hx hb dJ6_bitCount_0f7a4_23 rfl hl (by decide) rfl (fun ls hl => ?_)
  refine lv_iload_n hx hb dJ6_bitCount_0f7a4_24 rfl (lv_at hl 0 rfl) ?_
  refine lv_iload_n hx hb dJ6_bitCount_0f7a4_25 rfl (lv_at hl 0 rfl) ?_
  refine lv_iconst (v := 4) hx hb dJ6_bitCount_0f7a4_26 (by decide) ?_
  refine lv_iushr hx hb dJ6_bitCount_0f7a4_27 rfl ?_
  refine h_top (v := 0) (by decide) ?_
  refine lv_iadd hx hb dJ6_bitCount_0f7a4_28 ?_
  refine h_top (v := 0) (by decide) ?_
  refine lv_ldcw (v := 252645135) hx hb hown (hts _ wC_J6_267) dJ6_bitCount_0f7a4_29 ?_
  refine lv_iand hx hb dJ6_bitCount_0f7a4_32 ?_
  refine h_top (v := 0) (by decide) ?_
  refine lv_istore_n (lv' := [(0, .int 0)]) hx hb dJ6_bitCount_0f7a4_33 rfl hl (by decide) rfl (fun ls hl => ?_)
  refine lv_iload_n hx hb dJ6_bitCount_0f7a4_34 rfl (lv_at hl 0 rfl) ?_
  refine lv_iload_n hx hb dJ6_bitCount_0f7a4_35 rfl (lv_at hl 0 rfl) ?_
  refine lv_bipush (v := 8) hx hb dJ6_bitCount_0f7a4_36 (by decide) ?_
  refine lv_iushr hx hb dJ6_bitCount_0f7a4_38 rfl ?_
  refine h_top (v := 0) (by decide) ?_
  refine lv_iadd hx hb dJ6_bitCount_0f7a4_39 ?_
  refine h_top (v := 0) (by decide) ?_
  refine lv_istore_n (lv' := [(0, .int 0)]) hx hb dJ6_bitCount_0f7a4_40 rfl hl (by decide) rfl (fun ls hl => ?_)
  refine lv_iload_n hx hb dJ6_bitCount_0f7a4_41 rfl (lv_at hl 0 rfl) ?_
  refine lv_iload_n hx hb dJ6_bitCount_0f7a4_42 rfl (lv_at hl 0 rfl) ?_
  refine lv_bipush (v := 16) hx hb dJ6_bitCount_0f7a4_43 (by decide) ?_
  refine lv_iushr hx hb dJ6_bitCount_0f7a4_45 rfl ?_
  refine h_top (v := 0) (by decide) ?_
  refine lv_iadd hx hb dJ6_bitCount_0f7a4_46 ?_
  refine h_top (v := 0) (by decide) ?_
  refine lv_istore_n (lv' := [(0, .int 0)]) hx hb dJ6_bitCount_0f7a4_47 rfl hl (by decide) rfl (fun ls hl => ?_)
  refine lv_iload_n hx hb dJ6_bitCount_0f7a4_48 rfl (lv_at hl 0 rfl) ?_
  refine lv_bipush (v := 63) hx hb dJ6_bitCount_0f7a4_49 (by decide) ?_
  refine lv_iand hx hb dJ6_bitCount_0f7a4_51 ?_
  refine h_top (v := 0) (by decide) ?_
  exact hret _ _ _ _ _ hT0 hS0 rfl dJ6_bitCount_0f7a4_52
set_option maxHeartbeats 4000000 in
set_option maxRecDepth 100000 in
theorem c_X7_onCount (l : Launch) (G : hG) (Y : hW) (o : Nat) (hY : h_On Y o (stE tF o)) : hMi l yX7_onCount cX7_onCount 1 (some .int) 1 22 G Y [.ref (o)] (fun H => True) (fun H r H1 => r = 0) := by
  refine h_ofi (by decide +kernel) (Nat.le_of_ble_eq_true rfl) ?_
  intro p e s m args below meth c H0 ls Q hx hb hts hown hml hK hT0 hpr hS0 hl hret
  have hl : lv_has ls 1 [(0, .ref (o))] := hl
  refine lv_aload_n hx hb dX7_onCount_0 rfl (lv_at hl 0 rfl) ?_
  refine h_callVi (T := TX7) (rest := []) (As := []) hx hb hml hown hts hK hT0 (fun _ h => h) hS0 (c_X7_onBits l G Y (o) hY) trivial wd_X7_onBits wV_X7_onBits wL_X7_55 (hY.o rfl) rfl rfl hl.1 rfl (Nat.le_of_ble_eq_true rfl) dX7_onCount_1 ⟨Nat.le_of_ble_eq_true rfl, Nat.le_of_ble_eq_true rfl⟩ ⟨Nat.zero_le _, Nat.zero_le _⟩ (fun r1 H1 locs hp1 hT1 hS1 hk1 => ?_)
  have hp1 : r1 = 0 := hp1
  subst hp1
  refine h_callSi (rest := []) (As := [.int 0]) hx hb hml hown hts hK hT1 (fun _ h => h) hS1 (c_bitCount l G Y) trivial wd_J6_bitCount_0f7a4 wS_J6_bitCount_0f7a4 wL_X7_59 rfl hl.1 rfl (Nat.le_of_ble_eq_true rfl) dX7_onCount_4 ⟨Nat.le_of_ble_eq_true rfl, Nat.le_of_ble_eq_true rfl⟩ ⟨Nat.zero_le _, Nat.zero_le _⟩ (fun r2 H2 locs hp2 hT2 hS2 hk2 => ?_)
  have hp2 : r2 = 0 := hp2
  subst hp2
  exact hret _ _ _ _ _ hT2 hS2 rfl dX7_onCount_7
set_option maxHeartbeats 4000000 in
set_option maxRecDepth 100000 in
theorem c_X7_greatestOn (l : Launch) (G : hG) (Y : hW) (o : Nat) (hY : h_On Y o (stE tF o)) : hMi l yX7_greatestOn cX7_greatestOn 4 (some .int) 0 0 G Y [.ref (o)] (fun H => True) (fun H r H1 => r = (-1)) := by
  refine h_ofi (by decide +kernel) (Nat.le_of_ble_eq_true rfl) ?_
  intro p e s m args below meth c H0 ls Q hx hb hts hown hml hK hT0 hpr hS0 hl hret
  have hl : lv_has ls 4 [(0, .ref (o))] := hl
  refine lv_iconst (v := (-1)) hx hb dX7_greatestOn_0 (by decide) ?_
  refine lv_istore_n (lv' := [(1, .int (-1)), (0, .ref (o))]) hx hb dX7_greatestOn_1 rfl hl (by decide) rfl (fun ls hl => ?_)
  refine lv_iconst (v := (-1)) hx hb dX7_greatestOn_2 (by decide) ?_
  refine lv_istore_n (lv' := [(2, .int (-1)), (1, .int (-1)), (0, .ref (o))]) hx hb dX7_greatestOn_3 rfl hl (by decide) rfl (fun ls hl => ?_)
  refine lv_iconst (v := 0) hx hb dX7_greatestOn_4 (by decide) ?_
  refine lv_istore_n (lv' := [(3, .int 0), (2, .int (-1)), (1, .int (-1)), (0, .ref (o))]) hx hb dX7_greatestOn_5 rfl hl (by decide) rfl (fun ls hl => ?_)
  refine lv_iload_n hx hb dX7_greatestOn_6 rfl (lv_at hl 0 rfl) ?_
  refine lv_aload_n hx hb dX7_greatestOn_7 rfl (lv_at hl 3 rfl) ?_
  refine h_getc (v := 0) (C := RX7) (T := TX7) (N := 9) hx hb hts inX7 hown hK hT0 (hY.o rfl) rfl 5 rfl wF_X7_28 rfl (fun _ h => h) dX7_greatestOn_8 ?_
  refine lv_icmp_ge (tgt := 47) hx hb dX7_greatestOn_11 (by decide) (fun _ => ?_) (fun h => absurd (by decide) h)
  refine lv_iload_n hx hb dX7_greatestOn_47 rfl (lv_at hl 2 rfl) ?_
  exact hret _ _ _ _ _ hT0 hS0 rfl dX7_greatestOn_48
set_option maxHeartbeats 4000000 in
set_option maxRecDepth 100000 in
theorem c_X7_chiefIsOn (l : Launch) (G : hG) (Y : hW) (o : Nat) (hY : h_On Y o (stE tF o)) : hMi l yX7_chiefIsOn cX7_chiefIsOn 1 (some .boolean) 1 21 G Y [.ref (o)] (fun H => True) (fun H r H1 => r = 0) := by
  refine h_ofz (by decide +kernel) (Nat.le_of_ble_eq_true rfl) ?_
  intro p e s m args below meth c H0 ls Q hx hb hts hown hml hK hT0 hpr hS0 hl hret
  have hl : lv_has ls 1 [(0, .ref (o))] := hl
  refine lv_aload_n hx hb dX7_chiefIsOn_0 rfl (lv_at hl 0 rfl) ?_
  refine lv_aload_n hx hb dX7_chiefIsOn_1 rfl (lv_at hl 0 rfl) ?_
  refine h_getc (v := (-1)) (C := RX7) (T := TX7) (N := 9) hx hb hts inX7 hown hK hT0 (hY.o rfl) rfl 6 rfl wF_X7_32 rfl (fun _ h => h) dX7_chiefIsOn_2 ?_
  refine h_callVi (T := TX7) (rest := []) (As := [.int (-1)]) hx hb hml hown hts hK hT0 (fun _ h => h) hS0 (c_X7_isOn l G Y (o) hY (-1)) trivial wd_X7_isOn wV_X7_isOn wL_X7_65 (hY.o rfl) rfl rfl hl.1 rfl (Nat.le_of_ble_eq_true rfl) dX7_chiefIsOn_5 ⟨Nat.le_of_ble_eq_true rfl, Nat.le_of_ble_eq_true rfl⟩ ⟨Nat.zero_le _, Nat.zero_le _⟩ (fun r1 H1 locs hp1 hT1 hS1 hk1 => ?_)
  have hp1 : r1 = 0 := hp1
  subst hp1
  exact hret _ _ _ _ _ hT1 hS1 ⟨by decide, rfl⟩ dX7_chiefIsOn_8
set_option maxHeartbeats 4000000 in
set_option maxRecDepth 100000 in
theorem c_X7_breakCountsWithout (l : Launch) (G : hG) (Y : hW) (o : Nat) (hY : h_On Y o (stE tF o)) (u1 : Int32) : hMi l yX7_breakCountsWithout cX7_breakCountsWithout 3 (some .boolean) 1 21 G Y [.ref (o), .int u1] (fun H => True) (fun H r H1 => r = 0) := by
  refine h_ofz (by decide +kernel) (Nat.le_of_ble_eq_true rfl) ?_
  intro p e s m args below meth c H0 ls Q hx hb hts hown hml hK hT0 hpr hS0 hl hret
  have hl : lv_has ls 3 [(0, .ref (o)), (1, .int u1)] := hl
  refine lv_aload_n hx hb dX7_breakCountsWithout_0 rfl (lv_at hl 0 rfl) ?_
  refine lv_aload_n hx hb dX7_breakCountsWithout_1 rfl (lv_at hl 0 rfl) ?_
  refine h_getc (v := (-1)) (C := RX7) (T := TX7) (N := 9) hx hb hts inX7 hown hK hT0 (hY.o rfl) rfl 7 rfl wF_X7_35 rfl (fun _ h => h) dX7_breakCountsWithout_2 ?_
  refine h_callVi (T := TX7) (rest := []) (As := [.int (-1)]) hx hb hml hown hts hK hT0 (fun _ h => h) hS0 (c_X7_exists l G Y (o) hY (-1)) trivial wd_X7_exists wV_X7_exists wL_X7_51 (hY.o rfl) rfl rfl hl.1 rfl (Nat.le_of_ble_eq_true rfl) dX7_breakCountsWithout_5 ⟨Nat.le_of_ble_eq_true rfl, Nat.le_of_ble_eq_true rfl⟩ ⟨Nat.zero_le _, Nat.zero_le _⟩ (fun r1 H1 locs hp1 hT1 hS1 hk1 => ?_)
  have hp1 : r1 = 0 := hp1
  subst hp1
  refine lv_if_ne (tgt := 13) hx hb dX7_breakCountsWithout_8 (by decide) (fun h => absurd h (by decide)) (fun _ => ?_)
  refine lv_iconst (v := 0) hx hb dX7_breakCountsWithout_11 (by decide) ?_
  exact hret _ _ _ _ _ hT1 hS1 ⟨by decide, rfl⟩ dX7_breakCountsWithout_12
set_option maxHeartbeats 4000000 in
set_option maxRecDepth 100000 in
theorem c_X7_breakCounts (l : Launch) (G : hG) (Y : hW) (o : Nat) (hY : h_On Y o (stE tF o)) : hMi l yX7_breakCounts cX7_breakCounts 1 (some .boolean) 2 43 G Y [.ref (o)] (fun H => True) (fun H r H1 => r = 0) := by
  refine h_ofz (by decide +kernel) (Nat.le_of_ble_eq_true rfl) ?_
  intro p e s m args below meth c H0 ls Q hx hb hts hown hml hK hT0 hpr hS0 hl hret
  have hl : lv_has ls 1 [(0, .ref (o))] := hl
  refine lv_aload_n hx hb dX7_breakCounts_0 rfl (lv_at hl 0 rfl) ?_
  refine lv_iconst (v := (-1)) hx hb dX7_breakCounts_1 (by decide) ?_
  refine h_callVi (T := TX7) (rest := []) (As := [.int (-1)]) hx hb hml hown hts hK hT0 (fun _ h => h) hS0 (c_X7_breakCountsWithout l G Y (o) hY (-1)) trivial wd_X7_breakCountsWithout wV_X7_breakCountsWithout wL_X7_74 (hY.o rfl) rfl rfl hl.1 rfl (Nat.le_of_ble_eq_true rfl) dX7_breakCounts_2 ⟨Nat.le_of_ble_eq_true rfl, Nat.le_of_ble_eq_true rfl⟩ ⟨Nat.zero_le _, Nat.zero_le _⟩ (fun r1 H1 locs hp1 hT1 hS1 hk1 => ?_)
  have hp1 : r1 = 0 := hp1
  subst hp1
  exact hret _ _ _ _ _ hT1 hS1 ⟨by decide, rfl⟩ dX7_breakCounts_5
set_option maxHeartbeats 4000000 in
set_option maxRecDepth 100000 in
theorem c_X7_staleBits (l : Launch) (G : hG) (Y : hW) (o : Nat) (hY : h_On Y o (stE tF o)) : hMi l yX7_staleBits cX7_staleBits 3 (some .int) 0 0 G Y [.ref (o)] (fun H => True) (fun H r H1 => r = 0) := by
  refine h_ofi (by decide +kernel) (Nat.le_of_ble_eq_true rfl) ?_
  intro p e s m args below meth c H0 ls Q hx hb hts hown hml hK hT0 hpr hS0 hl hret
  have hl : lv_has ls 3 [(0, .ref (o))] := hl
  refine lv_iconst (v := 0) hx hb dX7_staleBits_0 (by decide) ?_
  refine lv_istore_n (lv' := [(1, .int 0), (0, .ref (o))]) hx hb dX7_staleBits_1 rfl hl (by decide) rfl (fun ls hl => ?_)
  refine lv_iconst (v := 0) hx hb dX7_staleBits_2 (by decide) ?_
  refine lv_istore_n (lv' := [(2, .int 0), (1, .int 0), (0, .ref (o))]) hx hb dX7_staleBits_3 rfl hl (by decide) rfl (fun ls hl => ?_)
  refine lv_iload_n hx hb dX7_staleBits_4 rfl (lv_at hl 0 rfl) ?_
  refine lv_aload_n hx hb dX7_staleBits_5 rfl (lv_at hl 2 rfl) ?_
  refine h_getc (v := 0) (C := RX7) (T := TX7) (N := 9) hx hb hts inX7 hown hK hT0 (hY.o rfl) rfl 5 rfl wF_X7_28 rfl (fun _ h => h) dX7_staleBits_6 ?_
  refine lv_icmp_ge (tgt := 46) hx hb dX7_staleBits_9 (by decide) (fun _ => ?_) (fun h => absurd (by decide) h)
  refine lv_iload_n hx hb dX7_staleBits_46 rfl (lv_at hl 1 rfl) ?_
  exact hret _ _ _ _ _ hT0 hS0 rfl dX7_staleBits_47
set_option maxHeartbeats 4000000 in
set_option maxRecDepth 100000 in
theorem c_fill (l : Launch) (G : hG) (Y : hW) (o n : Nat) (P : Nat → Int32 → Prop) (u1 : Int32) (hY : Y o = some (.inr (0, n, .inl P))) (hn : n < 100) (hP : ∀ j, j < n → P j u1) : hMv l yJ7_fill_53178 cJ7_fill_53178 4 none 0 0 G Y [.ref (o), .int u1] (fun H => True) (fun H H1 => ∀ j, j < n → h_ai H1 o j = u1) := by
  refine h_ofv (by decide +kernel) (Nat.le_of_ble_eq_true rfl) ?_
  intro p e s m args below meth c H0 ls Q hx hb hts hown hml hK hT0 hpr hS0 hl hret
  have hl : lv_has ls 4 [(0, .ref (o)), (1, .int u1)] := hl
  refine lv_iconst (v := 0) hx hb dJ7_fill_53178_0 (by decide) ?_
  refine lv_istore_n (lv' := [(2, .int 0), (0, .ref (o)), (1, .int u1)]) hx hb dJ7_fill_53178_1 rfl hl (by decide) rfl (fun ls hl => ?_)
  refine lv_aload_n hx hb dJ7_fill_53178_2 rfl (lv_at hl 1 rfl) ?_
  refine h_alen (v := nI n) hx hb hK hT0 (by decide) hY rfl dJ7_fill_53178_3 ?_
  refine lv_istore_n (lv' := [(3, .int (nI n)), (2, .int 0), (0, .ref (o)), (1, .int u1)]) hx hb dJ7_fill_53178_4 rfl hl (by decide) rfl (fun ls hl => ?_)
  have LP : ∀ (q k : Nat), q + k = n → ∀ (H0 : Heap) (locs : List Loc) (ls : Array Slot), hT G Y H0 → va_S (h_A Y) s.heap H0 locs → (∀ j, j < k → h_ai H0 o j = u1) → lv_has ls 4 [(2, .int (nI k)), (3, .int (nI n)), (0, .ref (o)), (1, .int u1)] → W p l e (h_rm 0 0) s m args below meth c H0 locs 0 0 Q (F0 m 5 ls []) := by
    intro q
    induction q with
    | zero =>
      intro k hk H0 locs ls hT0 hS0 hi hl
      obtain rfl : k = n := by omega
      refine lv_iload_n hx hb dJ7_fill_53178_5 rfl (lv_at hl 0 rfl) ?_
      refine lv_iload_n hx hb dJ7_fill_53178_6 rfl (lv_at hl 1 rfl) ?_
      refine lv_icmp_ge (tgt := 20) hx hb dJ7_fill_53178_7 (by decide) (fun _ => ?_) (fun h => absurd (Int32.le_refl _) h)
      exact hret _ _ _ _ hT0 hS0 hi dJ7_fill_53178_20
    | succ q ih =>
      intro k hk H0 locs ls hT0 hS0 hi hl
      refine lv_iload_n hx hb dJ7_fill_53178_5 rfl (lv_at hl 0 rfl) ?_
      refine lv_iload_n hx hb dJ7_fill_53178_6 rfl (lv_at hl 1 rfl) ?_
      refine lv_icmp_ge (tgt := 20) hx hb dJ7_fill_53178_7 (by decide) (fun h => absurd h (nI_ge (by omega) (by omega))) (fun _ => ?_)
      refine lv_aload_n hx hb dJ7_fill_53178_10 rfl (lv_at hl 2 rfl) ?_
      refine lv_iload_n hx hb dJ7_fill_53178_11 rfl (lv_at hl 0 rfl) ?_
      refine lv_iload_n hx hb dJ7_fill_53178_12 rfl (lv_at hl 3 rfl) ?_
      refine h_iast hx hb hK hT0 (fun _ h => h) hS0 hY (vp_in_nI (by omega) (by omega)) (by rw [nI_clamp (by omega)]; exact hP k (by omega)) dJ7_fill_53178_13 (fun H1 locs hT1 hS1 hu1 => ?_)
      refine lv_iinc (v := (nI (k + 1))) (lv' := [(2, .int (nI (k + 1))), (3, .int (nI n)), (0, .ref (o)), (1, .int u1)]) hx hb dJ7_fill_53178_14 hl (k := 0) rfl (nI_1 k) (by decide) rfl (fun ls hl => ?_)
      refine lv_goto (tgt := 5) hx hb dJ7_fill_53178_17 (by decide) ?_
      exact ih (k + 1) (by omega) _ _ _ hT1 hS1 (fun j hj => (Classical.em (j = k)).elim (fun h => by subst h; unfold h_ai; have e := hu1.2.2.1; rw [nI_clamp (by omega)] at e; rw [e]; rfl) (fun h => by rw [show h_ai H1 o j = h_ai H0 o j from by unfold h_ai; rw [hu1.2.2.2 j (by rw [nI_clamp (by omega)]; exact h)]]; exact hi j (by omega))) (lv_sub hl [0, 1, 2, 3] rfl)
  exact LP n 0 (by omega) _ _ _ hT0 hS0 (fun j hj => absurd hj (by omega)) (lv_sub hl [1, 0, 2, 3] rfl)
