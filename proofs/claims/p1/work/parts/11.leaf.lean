set_option maxHeartbeats 4000000 in
set_option maxRecDepth 100000 in
theorem c_X7_exists (l : Launch) (G : hG) (Y : hW) (o : Nat) (hY : h_On Y o (stE tF o)) (u1 : Int32) : hMi l yX7_exists cX7_exists 2 (some .boolean) 0 0 G Y [.ref (o), .int u1] (fun H => True) (fun H r H1 => r = 0 ∧ H1 = H) := by
  refine h_ofz (by decide +kernel) (Nat.le_of_ble_eq_true rfl) ?_
  intro p e s m args below meth c H0 ls Q hx hb hts hown hml hK hT0 hpr hS0 hl hret
  have hl : lv_has ls 2 [(0, .ref (o)), (1, .int u1)] := hl
  refine lv_iload_n hx hb dX7_exists_0 rfl (lv_at hl 1 rfl) ?_
  refine lv_if_lt (tgt := 22) hx hb dX7_exists_1 (by decide) (fun c1 => ?_) (fun c1 => ?_)
  · skip
    refine lv_iconst (v := 0) hx hb dX7_exists_22 (by decide) ?_
    exact hret _ _ _ _ _ hT0 hS0 ⟨by decide, rfl, rfl⟩ dX7_exists_23
  · skip
    refine lv_iload_n hx hb dX7_exists_4 rfl (lv_at hl 1 rfl) ?_
    refine lv_aload_n hx hb dX7_exists_5 rfl (lv_at hl 0 rfl) ?_
    refine h_getc (v := 0) (C := RX7) (T := TX7) (N := 9) hx hb hts inX7 hown hK hT0 (hY.o rfl) rfl 5 rfl wF_X7_28 rfl (fun _ h => h) dX7_exists_6 ?_
    refine lv_icmp_ge (tgt := 22) hx hb dX7_exists_9 (by decide) (fun _ => ?_) (fun h => absurd (by simp only [Int32.lt_iff_toInt_lt, Int32.le_iff_toInt_le, ← Int32.toInt_inj, Int32.reduceToInt, (show (-1 : Int32).toInt = -1 from rfl)] at c1 ⊢; omega) h)
    refine lv_iconst (v := 0) hx hb dX7_exists_22 (by decide) ?_
    exact hret _ _ _ _ _ hT0 hS0 ⟨by decide, rfl, rfl⟩ dX7_exists_23
set_option maxHeartbeats 4000000 in
set_option maxRecDepth 100000 in
theorem c_X7_isOn (l : Launch) (G : hG) (Y : hW) (o : Nat) (hY : h_On Y o (stE tF o)) (u1 : Int32) : hMi l yX7_isOn cX7_isOn 2 (some .boolean) 0 0 G Y [.ref (o), .int u1] (fun H => True) (fun H r H1 => r = 0 ∧ H1 = H) := by
  refine h_ofz (by decide +kernel) (Nat.le_of_ble_eq_true rfl) ?_
  intro p e s m args below meth c H0 ls Q hx hb hts hown hml hK hT0 hpr hS0 hl hret
  have hl : lv_has ls 2 [(0, .ref (o)), (1, .int u1)] := hl
  refine lv_iload_n hx hb dX7_isOn_0 rfl (lv_at hl 1 rfl) ?_
  refine lv_if_lt (tgt := 31) hx hb dX7_isOn_1 (by decide) (fun c1 => ?_) (fun c1 => ?_)
  · skip
    refine lv_iconst (v := 0) hx hb dX7_isOn_31 (by decide) ?_
    exact hret _ _ _ _ _ hT0 hS0 ⟨by decide, rfl, rfl⟩ dX7_isOn_32
  · skip
    refine lv_iload_n hx hb dX7_isOn_4 rfl (lv_at hl 1 rfl) ?_
    refine lv_aload_n hx hb dX7_isOn_5 rfl (lv_at hl 0 rfl) ?_
    refine h_getc (v := 0) (C := RX7) (T := TX7) (N := 9) hx hb hts inX7 hown hK hT0 (hY.o rfl) rfl 5 rfl wF_X7_28 rfl (fun _ h => h) dX7_isOn_6 ?_
    refine lv_icmp_ge (tgt := 31) hx hb dX7_isOn_9 (by decide) (fun _ => ?_) (fun h => absurd (by simp only [Int32.lt_iff_toInt_lt, Int32.le_iff_toInt_le, ← Int32.toInt_inj, Int32.reduceToInt, (show (-1 : Int32).toInt = -1 from rfl)] at c1 ⊢; omega) h)
    refine lv_iconst (v := 0) hx hb dX7_isOn_31 (by decide) ?_
    exact hret _ _ _ _ _ hT0 hS0 ⟨by decide, rfl, rfl⟩ dX7_isOn_32
set_option maxHeartbeats 4000000 in
set_option maxRecDepth 100000 in
theorem c_X7_onBits (l : Launch) (G : hG) (Y : hW) (o : Nat) (hY : h_On Y o (stE tF o)) : hMi l yX7_onBits cX7_onBits 3 (some .int) 0 0 G Y [.ref (o)] (fun H => True) (fun H r H1 => r = 0 ∧ H1 = H) := by
  refine h_ofi (by decide +kernel) (Nat.le_of_ble_eq_true rfl) ?_
  intro p e s m args below meth c H0 ls Q hx hb hts hown hml hK hT0 hpr hS0 hl hret
  have hl : lv_has ls 3 [(0, .ref (o))] := hl
  refine lv_iconst (v := 0) hx hb dX7_onBits_0 (by decide) ?_
  refine lv_istore_n (lv' := [(1, .int 0), (0, .ref (o))]) hx hb dX7_onBits_1 rfl hl (by decide) rfl (fun ls hl => ?_)
  refine lv_iconst (v := 0) hx hb dX7_onBits_2 (by decide) ?_
  refine lv_istore_n (lv' := [(2, .int 0), (1, .int 0), (0, .ref (o))]) hx hb dX7_onBits_3 rfl hl (by decide) rfl (fun ls hl => ?_)
  refine lv_iload_n hx hb dX7_onBits_4 rfl (lv_at hl 0 rfl) ?_
  refine lv_aload_n hx hb dX7_onBits_5 rfl (lv_at hl 2 rfl) ?_
  refine h_getc (v := 0) (C := RX7) (T := TX7) (N := 9) hx hb hts inX7 hown hK hT0 (hY.o rfl) rfl 5 rfl wF_X7_28 rfl (fun _ h => h) dX7_onBits_6 ?_
  refine lv_icmp_ge (tgt := 32) hx hb dX7_onBits_9 (by decide) (fun _ => ?_) (fun h => absurd (by decide) h)
  refine lv_iload_n hx hb dX7_onBits_32 rfl (lv_at hl 1 rfl) ?_
  exact hret _ _ _ _ _ hT0 hS0 ⟨rfl, rfl⟩ dX7_onBits_33
set_option maxHeartbeats 4000000 in
set_option maxRecDepth 100000 in
theorem c_bitCount (l : Launch) (G : hG) (Y : hW)  : hMi l yJ6_bitCount_0f7a4 cJ6_bitCount_0f7a4 1 (some .int) 0 0 G Y [.int 0] (fun H => True) (fun H r H1 => r = 0 ∧ H1 = H) := by
  refine h_ofi (by decide +kernel) (Nat.le_of_ble_eq_true rfl) ?_
  intro p e s m args below meth c H0 ls Q hx hb hts hown hml hK hT0 hpr hS0 hl hret
  have hl : lv_has ls 1 [(0, .int 0)] := hl
  refine lv_iload_n hx hb dJ6_bitCount_0f7a4_0 rfl (lv_at hl 0 rfl) ?_
  refine lv_iload_n hx hb dJ6_bitCount_0f7a4_1 rfl (lv_at hl 0 rfl) ?_
  refine lv_iconst (v := 1) hx hb dJ6_bitCount_0f7a4_2 (by decide) ?_
  refine lv_iushr hx hb dJ6_bitCount_0f7a4_3 rfl ?_
  refine h_top (v := 0) (by decide) ?_
  refine lv_ldcw (v := 1431655765) hx hb hown (hts _ wC_J6_265) dJ6_bitCount_0f7a4_4 ?_
  refine lv_iand hx hb dJ6_bitCount_0f7a4_7 ?_
  refine h_top (v := 0) (by decide) ?_
  refine lv_isub hx hb dJ6_bitCount_0f7a4_8 ?_
  refine h_top (v := 0) (by decide) ?_
  refine lv_istore_n (lv' := [(0, .int 0)]) hx hb dJ6_bitCount_0f7a4_9 rfl hl (by decide) rfl (fun ls hl => ?_)
  refine lv_iload_n hx hb dJ6_bitCount_0f7a4_10 rfl (lv_at hl 0 rfl) ?_
  refine lv_ldcw (v := 858993459) hx hb hown (hts _ wC_J6_266) dJ6_bitCount_0f7a4_11 ?_
  refine lv_iand hx hb dJ6_bitCount_0f7a4_14 ?_
  refine h_top (v := 0) (by decide) ?_
  refine lv_iload_n hx hb dJ6_bitCount_0f7a4_15 rfl (lv_at hl 0 rfl) ?_
  refine lv_iconst (v := 2) hx hb dJ6_bitCount_0f7a4_16 (by decide) ?_
  refine lv_iushr hx hb dJ6_bitCount_0f7a4_17 rfl ?_
  refine h_top (v := 0) (by decide) ?_
  refine lv_ldcw (v := 858993459) hx hb hown (hts _ wC_J6_266) dJ6_bitCount_0f7a4_18 ?_
  refine lv_iand hx hb dJ6_bitCount_0f7a4_21 ?_
  refine h_top (v := 0) (by decide) ?_
  refine lv_iadd hx hb dJ6_bitCount_0f7a4_22 ?_
  refine h_top (v := 0) (by decide) ?_
  refine lv_istore_n (lv' := [(0, .int 0)]) hx hb dJ6_bitCount_0f7a4_23 rfl hl (by decide) rfl (fun ls hl => ?_)
  refine lv_iload_n hx hb dJ6_bitCount_0f7a4_24 rfl (lv_at hl 0 rfl) ?_
  refine lv_iload_n hx hb dJ6_bitCount_0f7a4_25 rfl (lv_at hl 0 rfl) ?_
  refine lv_iconst (v := 4) hx hb dJ6_bitCount_0f7a4_26 (by decide) ?_
  refine lv_iushr hx hb dJ6_bitCount_0f7a4_27 rfl ?_
  refine h_top (v := 0) (by decide) ?_
  refine lv_iadd hx hb dJ6_bitCount_0f7a4_28 ?_
  refine h_top (v := 0) (by decide) ?_
  refine lv_ldcw (v := 252645135) hx hb hown (hts _ wC_J6_267) dJ6_bitCount_0f7a4_29 ?_
  refine lv_iand hx hb dJ6_bitCount_0f7a4_32 ?_
  refine h_top (v := 0) (by decide) ?_
  refine lv_istore_n (lv' := [(0, .int 0)]) hx hb dJ6_bitCount_0f7a4_33 rfl hl (by decide) rfl (fun ls hl => ?_)
  refine lv_iload_n hx hb dJ6_bitCount_0f7a4_34 rfl (lv_at hl 0 rfl) ?_
  refine lv_iload_n hx hb dJ6_bitCount_0f7a4_35 rfl (lv_at hl 0 rfl) ?_
  refine lv_bipush (v := 8) hx hb dJ6_bitCount_0f7a4_36 (by decide) ?_
  refine lv_iushr hx hb dJ6_bitCount_0f7a4_38 rfl ?_
  refine h_top (v := 0) (by decide) ?_
  refine lv_iadd hx hb dJ6_bitCount_0f7a4_39 ?_
  refine h_top (v := 0) (by decide) ?_
  refine lv_istore_n (lv' := [(0, .int 0)]) hx hb dJ6_bitCount_0f7a4_40 rfl hl (by decide) rfl (fun ls hl => ?_)
  refine lv_iload_n hx hb dJ6_bitCount_0f7a4_41 rfl (lv_at hl 0 rfl) ?_
  refine lv_iload_n hx hb dJ6_bitCount_0f7a4_42 rfl (lv_at hl 0 rfl) ?_
  refine lv_bipush (v := 16) hx hb dJ6_bitCount_0f7a4_43 (by decide) ?_
  refine lv_iushr hx hb dJ6_bitCount_0f7a4_45 rfl ?_
  refine h_top (v := 0) (by decide) ?_
  refine lv_iadd hx hb dJ6_bitCount_0f7a4_46 ?_
  refine h_top (v := 0) (by decide) ?_
  refine lv_istore_n (lv' := [(0, .int 0)]) hx hb dJ6_bitCount_0f7a4_47 rfl hl (by decide) rfl (fun ls hl => ?_)
  refine lv_iload_n hx hb dJ6_bitCount_0f7a4_48 rfl (lv_at hl 0 rfl) ?_
  refine lv_bipush (v := 63) hx hb dJ6_bitCount_0f7a4_49 (by decide) ?_
  refine lv_iand hx hb dJ6_bitCount_0f7a4_51 ?_
  refine h_top (v := 0) (by decide) ?_
  exact hret _ _ _ _ _ hT0 hS0 ⟨rfl, rfl⟩ dJ6_bitCount_0f7a4_52
set_option maxHeartbeats 4000000 in
set_option maxRecDepth 100000 in
theorem c_X7_onCount (l : Launch) (G : hG) (Y : hW) (o : Nat) (hY : h_On Y o (stE tF o)) : hMi l yX7_onCount cX7_onCount 1 (some .int) 1 22 G Y [.ref (o)] (fun H => True) (fun H r H1 => r = 0 ∧ H1 = H) := by
  refine h_ofi (by decide +kernel) (Nat.le_of_ble_eq_true rfl) ?_
  intro p e s m args below meth c H0 ls Q hx hb hts hown hml hK hT0 hpr hS0 hl hret
  have hl : lv_has ls 1 [(0, .ref (o))] := hl
  refine lv_aload_n hx hb dX7_onCount_0 rfl (lv_at hl 0 rfl) ?_
  refine h_callVi (T := TX7) (rest := []) (As := []) hx hb hml hown hts hK hT0 (fun _ h => h) hS0 (c_X7_onBits l G Y (o) hY) trivial wd_X7_onBits wV_X7_onBits wL_X7_55 (hY.o rfl) rfl rfl hl.1 rfl (Nat.le_of_ble_eq_true rfl) dX7_onCount_1 ⟨Nat.le_of_ble_eq_true rfl, Nat.le_of_ble_eq_true rfl⟩ ⟨Nat.zero_le _, Nat.zero_le _⟩ (fun r1 H1 locs hp1 hT1 hS1 hk1 => ?_)
  obtain ⟨hp1, he⟩ := hp1
  have he := he.symm
  subst he
  have hp1 : r1 = 0 := hp1
  subst hp1
  refine h_callSi (rest := []) (As := [.int 0]) hx hb hml hown hts hK hT0 (fun _ h => h) hS1 (c_bitCount l G Y) trivial wd_J6_bitCount_0f7a4 wS_J6_bitCount_0f7a4 wL_X7_59 rfl hl.1 rfl (Nat.le_of_ble_eq_true rfl) dX7_onCount_4 ⟨Nat.le_of_ble_eq_true rfl, Nat.le_of_ble_eq_true rfl⟩ ⟨Nat.zero_le _, Nat.zero_le _⟩ (fun r2 H2 locs hp2 hT2 hS2 hk2 => ?_)
  obtain ⟨hp2, he⟩ := hp2
  have he := he.symm
  subst he
  have hp2 : r2 = 0 := hp2
  subst hp2
  exact hret _ _ _ _ _ hT0 hS2 ⟨rfl, rfl⟩ dX7_onCount_7
set_option maxHeartbeats 4000000 in
set_option maxRecDepth 100000 in
theorem c_X7_greatestOn (l : Launch) (G : hG) (Y : hW) (o : Nat) (hY : h_On Y o (stE tF o)) : hMi l yX7_greatestOn cX7_greatestOn 4 (some .int) 0 0 G Y [.ref (o)] (fun H => True) (fun H r H1 => r = (-1) ∧ H1 = H) := by
  refine h_ofi (by decide +kernel) (Nat.le_of_ble_eq_true rfl) ?_
  intro p e s m args below meth c H0 ls Q hx hb hts hown hml hK hT0 hpr hS0 hl hret
  have hl : lv_has ls 4 [(0, .ref (o))] := hl
  refine lv_iconst (v := (-1)) hx hb dX7_greatestOn_0 (by decide) ?_
  refine lv_istore_n (lv' := [(1, .int (-1)), (0, .ref (o))]) hx hb dX7_greatestOn_1 rfl hl (by decide) rfl (fun ls hl => ?_)
  refine lv_iconst (v := (-1)) hx hb dX7_greatestOn_2 (by decide) ?_
  refine lv_istore_n (lv' := [(2, .int (-1)), (1, .int (-1)), (0, .ref (o))]) hx hb dX7_greatestOn_3 rfl hl (by decide) rfl (fun ls hl => ?_)
  refine lv_iconst (v := 0) hx hb dX7_greatestOn_4 (by decide) ?_
  refine lv_istore_n (lv' := [(3, .int 0), (2, .int (-1)), (1, .int (-1)), (0, .ref (o))]) hx hb dX7_greatestOn_5 rfl hl (by decide) rfl (fun ls hl => ?_)
  refine lv_iload_n hx hb dX7_greatestOn_6 rfl (lv_at hl 0 rfl) ?_
  refine lv_aload_n hx hb dX7_greatestOn_7 rfl (lv_at hl 3 rfl) ?_
  refine h_getc (v := 0) (C := RX7) (T := TX7) (N := 9) hx hb hts inX7 hown hK hT0 (hY.o rfl) rfl 5 rfl wF_X7_28 rfl (fun _ h => h) dX7_greatestOn_8 ?_
  refine lv_icmp_ge (tgt := 47) hx hb dX7_greatestOn_11 (by decide) (fun _ => ?_) (fun h => absurd (by decide) h)
  refine lv_iload_n hx hb dX7_greatestOn_47 rfl (lv_at hl 2 rfl) ?_
  exact hret _ _ _ _ _ hT0 hS0 ⟨rfl, rfl⟩ dX7_greatestOn_48
set_option maxHeartbeats 4000000 in
set_option maxRecDepth 100000 in
theorem c_X7_chiefIsOn (l : Launch) (G : hG) (Y : hW) (o : Nat) (hY : h_On Y o (stE tF o)) : hMi l yX7_chiefIsOn cX7_chiefIsOn 1 (some .boolean) 1 21 G Y [.ref (o)] (fun H => True) (fun H r H1 => r = 0 ∧ H1 = H) := by
  refine h_ofz (by decide +kernel) (Nat.le_of_ble_eq_true rfl) ?_
  intro p e s m args below meth c H0 ls Q hx hb hts hown hml hK hT0 hpr hS0 hl hret
  have hl : lv_has ls 1 [(0, .ref (o))] := hl
  refine lv_aload_n hx hb dX7_chiefIsOn_0 rfl (lv_at hl 0 rfl) ?_
  refine lv_aload_n hx hb dX7_chiefIsOn_1 rfl (lv_at hl 0 rfl) ?_
  refine h_getc (v := (-1)) (C := RX7) (T := TX7) (N := 9) hx hb hts inX7 hown hK hT0 (hY.o rfl) rfl 6 rfl wF_X7_32 rfl (fun _ h => h) dX7_chiefIsOn_2 ?_
  refine h_callVi (T := TX7) (rest := []) (As := [.int (-1)]) hx hb hml hown hts hK hT0 (fun _ h => h) hS0 (c_X7_isOn l G Y (o) hY (-1)) trivial wd_X7_isOn wV_X7_isOn wL_X7_65 (hY.o rfl) rfl rfl hl.1 rfl (Nat.le_of_ble_eq_true rfl) dX7_chiefIsOn_5 ⟨Nat.le_of_ble_eq_true rfl, Nat.le_of_ble_eq_true rfl⟩ ⟨Nat.zero_le _, Nat.zero_le _⟩ (fun r1 H1 locs hp1 hT1 hS1 hk1 => ?_)
  obtain ⟨hp1, he⟩ := hp1
  have he := he.symm
  subst he
  have hp1 : r1 = 0 := hp1
  subst hp1
  exact hret _ _ _ _ _ hT0 hS1 ⟨by decide, rfl, rfl⟩ dX7_chiefIsOn_8
set_option maxHeartbeats 4000000 in
set_option maxRecDepth 100000 in
theorem c_X7_breakCountsWithout (l : Launch) (G : hG) (Y : hW) (o : Nat) (hY : h_On Y o (stE tF o)) (u1 : Int32) : hMi l yX7_breakCountsWithout cX7_breakCountsWithout 3 (some .boolean) 1 21 G Y [.ref (o), .int u1] (fun H => True) (fun H r H1 => r = 0 ∧ H1 = H) := by
  refine h_ofz (by decide +kernel) (Nat.le_of_ble_eq_true rfl) ?_
  intro p e s m args below meth c H0 ls Q hx hb hts hown hml hK hT0 hpr hS0 hl hret
  have hl : lv_has ls 3 [(0, .ref (o)), (1, .int u1)] := hl
  refine lv_aload_n hx hb dX7_breakCountsWithout_0 rfl (lv_at hl 0 rfl) ?_
  refine lv_aload_n hx hb dX7_breakCountsWithout_1 rfl (lv_at hl 0 rfl) ?_
  refine h_getc (v := (-1)) (C := RX7) (T := TX7) (N := 9) hx hb hts inX7 hown hK hT0 (hY.o rfl) rfl 7 rfl wF_X7_35 rfl (fun _ h => h) dX7_breakCountsWithout_2 ?_
  refine h_callVi (T := TX7) (rest := []) (As := [.int (-1)]) hx hb hml hown hts hK hT0 (fun _ h => h) hS0 (c_X7_exists l G Y (o) hY (-1)) trivial wd_X7_exists wV_X7_exists wL_X7_51 (hY.o rfl) rfl rfl hl.1 rfl (Nat.le_of_ble_eq_true rfl) dX7_breakCountsWithout_5 ⟨Nat.le_of_ble_eq_true rfl, Nat.le_of_ble_eq_true rfl⟩ ⟨Nat.zero_le _, Nat.zero_le _⟩ (fun r1 H1 locs hp1 hT1 hS1 hk1 => ?_)
  obtain ⟨hp1, he⟩ := hp1
  have he := he.symm
  subst he
  have hp1 : r1 = 0 := hp1
  subst hp1
  refine lv_if_ne (tgt := 13) hx hb dX7_breakCountsWithout_8 (by decide) (fun h => absurd (by decide) h) (fun _ => ?_)
  refine lv_iconst (v := 0) hx hb dX7_breakCountsWithout_11 (by decide) ?_
  exact hret _ _ _ _ _ hT0 hS1 ⟨by decide, rfl, rfl⟩ dX7_breakCountsWithout_12
set_option maxHeartbeats 4000000 in
set_option maxRecDepth 100000 in
theorem c_X7_breakCounts (l : Launch) (G : hG) (Y : hW) (o : Nat) (hY : h_On Y o (stE tF o)) : hMi l yX7_breakCounts cX7_breakCounts 1 (some .boolean) 2 43 G Y [.ref (o)] (fun H => True) (fun H r H1 => r = 0 ∧ H1 = H) := by
  refine h_ofz (by decide +kernel) (Nat.le_of_ble_eq_true rfl) ?_
  intro p e s m args below meth c H0 ls Q hx hb hts hown hml hK hT0 hpr hS0 hl hret
  have hl : lv_has ls 1 [(0, .ref (o))] := hl
  refine lv_aload_n hx hb dX7_breakCounts_0 rfl (lv_at hl 0 rfl) ?_
  refine lv_iconst (v := (-1)) hx hb dX7_breakCounts_1 (by decide) ?_
  refine h_callVi (T := TX7) (rest := []) (As := [.int (-1)]) hx hb hml hown hts hK hT0 (fun _ h => h) hS0 (c_X7_breakCountsWithout l G Y (o) hY (-1)) trivial wd_X7_breakCountsWithout wV_X7_breakCountsWithout wL_X7_74 (hY.o rfl) rfl rfl hl.1 rfl (Nat.le_of_ble_eq_true rfl) dX7_breakCounts_2 ⟨Nat.le_of_ble_eq_true rfl, Nat.le_of_ble_eq_true rfl⟩ ⟨Nat.zero_le _, Nat.zero_le _⟩ (fun r1 H1 locs hp1 hT1 hS1 hk1 => ?_)
  obtain ⟨hp1, he⟩ := hp1
  have he := he.symm
  subst he
  have hp1 : r1 = 0 := hp1
  subst hp1
  exact hret _ _ _ _ _ hT0 hS1 ⟨by decide, rfl, rfl⟩ dX7_breakCounts_5
set_option maxHeartbeats 4000000 in
set_option maxRecDepth 100000 in
theorem c_X7_staleBits (l : Launch) (G : hG) (Y : hW) (o : Nat) (hY : h_On Y o (stE tF o)) : hMi l yX7_staleBits cX7_staleBits 3 (some .int) 0 0 G Y [.ref (o)] (fun H => True) (fun H r H1 => r = 0 ∧ H1 = H) := by
  refine h_ofi (by decide +kernel) (Nat.le_of_ble_eq_true rfl) ?_
  intro p e s m args below meth c H0 ls Q hx hb hts hown hml hK hT0 hpr hS0 hl hret
  have hl : lv_has ls 3 [(0, .ref (o))] := hl
  refine lv_iconst (v := 0) hx hb dX7_staleBits_0 (by decide) ?_
  refine lv_istore_n (lv' := [(1, .int 0), (0, .ref (o))]) hx hb dX7_staleBits_1 rfl hl (by decide) rfl (fun ls hl => ?_)
  refine lv_iconst (v := 0) hx hb dX7_staleBits_2 (by decide) ?_
  refine lv_istore_n (lv' := [(2, .int 0), (1, .int 0), (0, .ref (o))]) hx hb dX7_staleBits_3 rfl hl (by decide) rfl (fun ls hl => ?_)
  refine lv_iload_n hx hb dX7_staleBits_4 rfl (lv_at hl 0 rfl) ?_
  refine lv_aload_n hx hb dX7_staleBits_5 rfl (lv_at hl 2 rfl) ?_
  refine h_getc (v := 0) (C := RX7) (T := TX7) (N := 9) hx hb hts inX7 hown hK hT0 (hY.o rfl) rfl 5 rfl wF_X7_28 rfl (fun _ h => h) dX7_staleBits_6 ?_
  refine lv_icmp_ge (tgt := 46) hx hb dX7_staleBits_9 (by decide) (fun _ => ?_) (fun h => absurd (by decide) h)
  refine lv_iload_n hx hb dX7_staleBits_46 rfl (lv_at hl 1 rfl) ?_
  exact hret _ _ _ _ _ hT0 hS0 ⟨rfl, rfl⟩ dX7_staleBits_47
set_option maxHeartbeats 4000000 in
set_option maxRecDepth 100000 in
theorem c_fill (l : Launch) (G : hG) (Y : hW) (o n : Nat) (P : Nat → Int32 → Prop) (u1 : Int32) (hY : Y o = some (.inr (0, n, .inl P))) (hn : n < 100) (hP : ∀ j, j < n → P j u1) : hMv l yJ7_fill_53178 cJ7_fill_53178 4 none 0 0 G Y [.ref (o), .int u1] (fun H => True) (fun H H1 => ∀ j, j < n → h_ai H1 o j = u1) := by
  refine h_ofv (by decide +kernel) (Nat.le_of_ble_eq_true rfl) ?_
  intro p e s m args below meth c H0 ls Q hx hb hts hown hml hK hT0 hpr hS0 hl hret
  have hl : lv_has ls 4 [(0, .ref (o)), (1, .int u1)] := hl
  refine lv_iconst (v := 0) hx hb dJ7_fill_53178_0 (by decide) ?_
  refine lv_istore_n (lv' := [(2, .int 0), (0, .ref (o)), (1, .int u1)]) hx hb dJ7_fill_53178_1 rfl hl (by decide) rfl (fun ls hl => ?_)
  refine lv_aload_n hx hb dJ7_fill_53178_2 rfl (lv_at hl 1 rfl) ?_
  refine h_alen (v := nI n) hx hb hK hT0 (by decide) hY rfl dJ7_fill_53178_3 ?_
  refine lv_istore_n (lv' := [(3, .int (nI n)), (2, .int 0), (0, .ref (o)), (1, .int u1)]) hx hb dJ7_fill_53178_4 rfl hl (by decide) rfl (fun ls hl => ?_)
  have LP : ∀ (q k : Nat), q + k = n → ∀ (H0 : Heap) (locs : List Loc) (ls : Array Slot), hT G Y H0 → va_S (h_A Y) s.heap H0 locs → (∀ j, j < k → h_ai H0 o j = u1) → lv_has ls 4 [(2, .int (nI k)), (3, .int (nI n)), (0, .ref (o)), (1, .int u1)] → W p l e (h_rm 0 0) s m args below meth c H0 locs 0 0 Q (F0 m 5 ls []) := by
    intro q
    induction q with
    | zero =>
      intro k hk H0 locs ls hT0 hS0 hi hl
      obtain rfl : k = n := by omega
      refine lv_iload_n hx hb dJ7_fill_53178_5 rfl (lv_at hl 0 rfl) ?_
      refine lv_iload_n hx hb dJ7_fill_53178_6 rfl (lv_at hl 1 rfl) ?_
      refine lv_icmp_ge (tgt := 20) hx hb dJ7_fill_53178_7 (by decide) (fun _ => ?_) (fun h => absurd (Int32.le_refl _) h)
      exact hret _ _ _ _ hT0 hS0 hi dJ7_fill_53178_20
    | succ q ih =>
      intro k hk H0 locs ls hT0 hS0 hi hl
      refine lv_iload_n hx hb dJ7_fill_53178_5 rfl (lv_at hl 0 rfl) ?_
      refine lv_iload_n hx hb dJ7_fill_53178_6 rfl (lv_at hl 1 rfl) ?_
      refine lv_icmp_ge (tgt := 20) hx hb dJ7_fill_53178_7 (by decide) (fun h => absurd h (nI_ge (by omega) (by omega))) (fun _ => ?_)
      refine lv_aload_n hx hb dJ7_fill_53178_10 rfl (lv_at hl 2 rfl) ?_
      refine lv_iload_n hx hb dJ7_fill_53178_11 rfl (lv_at hl 0 rfl) ?_
      refine lv_iload_n hx hb dJ7_fill_53178_12 rfl (lv_at hl 3 rfl) ?_
      refine h_iast hx hb hK hT0 (fun _ h => h) hS0 hY (vp_in_nI (by omega) (by omega)) (by rw [nI_clamp (by omega)]; exact hP k (by omega)) dJ7_fill_53178_13 (fun H1 locs hT1 hS1 hu1 => ?_)
      refine lv_iinc (v := (nI (k + 1))) (lv' := [(2, .int (nI (k + 1))), (3, .int (nI n)), (0, .ref (o)), (1, .int u1)]) hx hb dJ7_fill_53178_14 hl (k := 0) rfl (nI_1 k) (by decide) rfl (fun ls hl => ?_)
      refine lv_goto (tgt := 5) hx hb dJ7_fill_53178_17 (by decide) ?_
      exact ih (k + 1) (by omega) _ _ _ hT1 hS1 (fun j hj => (Classical.em (j = k)).elim (fun h => by subst h; unfold h_ai; have e := hu1.2.2.1; rw [nI_clamp (by omega)] at e; rw [e]; rfl) (fun h => by rw [show h_ai H1 o j = h_ai H0 o j from by unfold h_ai; rw [hu1.2.2.2 j (by rw [nI_clamp (by omega)]; exact h)]]; exact hi j (by omega))) (lv_sub hl [0, 1, 2, 3] rfl)
  exact LP n 0 (by omega) _ _ _ hT0 hS0 (fun j hj => absurd hj (by omega)) (lv_sub hl [1, 0, 2, 3] rfl)
set_option maxHeartbeats 4000000 in
set_option maxRecDepth 100000 in
theorem c_X7_copyFrom (l : Launch) (G : hG) (Y : hW) (o o2 : Nat) (hY : h_On Y o (stE tF o)) (hY2 : h_On Y o2 (stE tF o2)) : hMv l yX7_copyFrom cX7_copyFrom 2 none 1 60 G Y [.ref (o), .ref (o2)] (fun H => True) (fun H H1 => ∀ q : Nat, (q < o ∨ o + 6 ≤ q) → H1[q]? = H[q]?) := by
  refine h_ofv (by decide +kernel) (Nat.le_of_ble_eq_true rfl) ?_
  intro p e s m args below meth c H0 ls Q hx hb hts hown hml hK hT0 hpr hS0 hl hret
  have hl : lv_has ls 2 [(0, .ref (o)), (1, .ref (o2))] := hl
  refine lv_aload_n hx hb dX7_copyFrom_0 rfl (lv_at hl 1 rfl) ?_
  refine h_getr (C := RX7) (T := TX7) (N := 9) hx hb hts inX7 hown hK hT0 (hY2.o rfl) rfl 0 rfl wF_X7_9 rfl dX7_copyFrom_1 ?_
  refine lv_iconst (v := 0) hx hb dX7_copyFrom_4 (by decide) ?_
  refine lv_aload_n hx hb dX7_copyFrom_5 rfl (lv_at hl 0 rfl) ?_
  refine h_getr (C := RX7) (T := TX7) (N := 9) hx hb hts inX7 hown hK hT0 (hY.o rfl) rfl 0 rfl wF_X7_9 rfl dX7_copyFrom_6 ?_
  refine lv_iconst (v := 0) hx hb dX7_copyFrom_9 (by decide) ?_
  refine lv_bipush (v := 8) hx hb dX7_copyFrom_10 (by decide) ?_
  refine h_copy (rest := []) hx hb hts (hml.trans hl.1.symm) hown wL_X7_45 wA_nat wA_sta wA_ini hK hT0 (fun _ h => h) hS0 (by decide) (hY2.at 1 rfl) (hY.at 1 rfl) (fun _ _ _ h => h) (by decide) (by decide) (Nat.le_of_ble_eq_true rfl) (Nat.le_of_ble_eq_true rfl) dX7_copyFrom_12 (fun H1 locs hT1 hS1 hu1 => ?_)
  refine lv_aload_n hx hb dX7_copyFrom_15 rfl (lv_at hl 1 rfl) ?_
  refine h_getr (C := RX7) (T := TX7) (N := 9) hx hb hts inX7 hown hK hT1 (hY2.o rfl) rfl 1 rfl wF_X7_15 rfl dX7_copyFrom_16 ?_
  refine lv_iconst (v := 0) hx hb dX7_copyFrom_19 (by decide) ?_
  refine lv_aload_n hx hb dX7_copyFrom_20 rfl (lv_at hl 0 rfl) ?_
  refine h_getr (C := RX7) (T := TX7) (N := 9) hx hb hts inX7 hown hK hT1 (hY.o rfl) rfl 1 rfl wF_X7_15 rfl dX7_copyFrom_21 ?_
  refine lv_iconst (v := 0) hx hb dX7_copyFrom_24 (by decide) ?_
  refine lv_bipush (v := 8) hx hb dX7_copyFrom_25 (by decide) ?_
  refine h_copy (rest := []) hx hb hts (hml.trans hl.1.symm) hown wL_X7_45 wA_nat wA_sta wA_ini hK hT1 (fun _ h => h) hS1 (by decide) (hY2.at 2 rfl) (hY.at 2 rfl) (fun _ _ _ h => h) (by decide) (by decide) (Nat.le_of_ble_eq_true rfl) (Nat.le_of_ble_eq_true rfl) dX7_copyFrom_27 (fun H2 locs hT2 hS2 hu2 => ?_)
  refine lv_aload_n hx hb dX7_copyFrom_30 rfl (lv_at hl 1 rfl) ?_
  refine h_getr (C := RX7) (T := TX7) (N := 9) hx hb hts inX7 hown hK hT2 (hY2.o rfl) rfl 2 rfl wF_X7_19 rfl dX7_copyFrom_31 ?_
  refine lv_iconst (v := 0) hx hb dX7_copyFrom_34 (by decide) ?_
  refine lv_aload_n hx hb dX7_copyFrom_35 rfl (lv_at hl 0 rfl) ?_
  refine h_getr (C := RX7) (T := TX7) (N := 9) hx hb hts inX7 hown hK hT2 (hY.o rfl) rfl 2 rfl wF_X7_19 rfl dX7_copyFrom_36 ?_
  refine lv_iconst (v := 0) hx hb dX7_copyFrom_39 (by decide) ?_
  refine lv_bipush (v := 8) hx hb dX7_copyFrom_40 (by decide) ?_
  refine h_copy (rest := []) hx hb hts (hml.trans hl.1.symm) hown wL_X7_45 wA_nat wA_sta wA_ini hK hT2 (fun _ h => h) hS2 (by decide) (hY2.at 3 rfl) (hY.at 3 rfl) (fun _ _ _ h => h) (by decide) (by decide) (Nat.le_of_ble_eq_true rfl) (Nat.le_of_ble_eq_true rfl) dX7_copyFrom_42 (fun H3 locs hT3 hS3 hu3 => ?_)
  refine lv_aload_n hx hb dX7_copyFrom_45 rfl (lv_at hl 1 rfl) ?_
  refine h_getr (C := RX7) (T := TX7) (N := 9) hx hb hts inX7 hown hK hT3 (hY2.o rfl) rfl 3 rfl wF_X7_22 rfl dX7_copyFrom_46 ?_
  refine lv_iconst (v := 0) hx hb dX7_copyFrom_49 (by decide) ?_
  refine lv_aload_n hx hb dX7_copyFrom_50 rfl (lv_at hl 0 rfl) ?_
  refine h_getr (C := RX7) (T := TX7) (N := 9) hx hb hts inX7 hown hK hT3 (hY.o rfl) rfl 3 rfl wF_X7_22 rfl dX7_copyFrom_51 ?_
  refine lv_iconst (v := 0) hx hb dX7_copyFrom_54 (by decide) ?_
  refine lv_bipush (v := 8) hx hb dX7_copyFrom_55 (by decide) ?_
  refine h_copy (rest := []) hx hb hts (hml.trans hl.1.symm) hown wL_X7_45 wA_nat wA_sta wA_ini hK hT3 (fun _ h => h) hS3 (by decide) (hY2.at 4 rfl) (hY.at 4 rfl) (fun _ _ _ h => h) (by decide) (by decide) (Nat.le_of_ble_eq_true rfl) (Nat.le_of_ble_eq_true rfl) dX7_copyFrom_57 (fun H4 locs hT4 hS4 hu4 => ?_)
  refine lv_aload_n hx hb dX7_copyFrom_60 rfl (lv_at hl 1 rfl) ?_
  refine h_getr (C := RX7) (T := TX7) (N := 9) hx hb hts inX7 hown hK hT4 (hY2.o rfl) rfl 4 rfl wF_X7_25 rfl dX7_copyFrom_61 ?_
  refine lv_iconst (v := 0) hx hb dX7_copyFrom_64 (by decide) ?_
  refine lv_aload_n hx hb dX7_copyFrom_65 rfl (lv_at hl 0 rfl) ?_
  refine h_getr (C := RX7) (T := TX7) (N := 9) hx hb hts inX7 hown hK hT4 (hY.o rfl) rfl 4 rfl wF_X7_25 rfl dX7_copyFrom_66 ?_
  refine lv_iconst (v := 0) hx hb dX7_copyFrom_69 (by decide) ?_
  refine lv_bipush (v := 8) hx hb dX7_copyFrom_70 (by decide) ?_
  refine h_copy (rest := []) hx hb hts (hml.trans hl.1.symm) hown wL_X7_45 wA_nat wA_sta wA_ini hK hT4 (fun _ h => h) hS4 (by decide) (hY2.at 5 rfl) (hY.at 5 rfl) (fun _ _ _ h => h) (by decide) (by decide) (Nat.le_of_ble_eq_true rfl) (Nat.le_of_ble_eq_true rfl) dX7_copyFrom_72 (fun H5 locs hT5 hS5 hu5 => ?_)
  refine lv_aload_n hx hb dX7_copyFrom_75 rfl (lv_at hl 0 rfl) ?_
  refine lv_aload_n hx hb dX7_copyFrom_76 rfl (lv_at hl 1 rfl) ?_
  refine h_getc (v := 0) (C := RX7) (T := TX7) (N := 9) hx hb hts inX7 hown hK hT5 (hY2.o rfl) rfl 5 rfl wF_X7_28 rfl (fun _ h => h) dX7_copyFrom_77 ?_
  refine h_puti (C := RX7) (T := TX7) (N := 9) hx hb hts inX7 tyX7 tyX7_ok nmX7 hown hK hT5 (fun _ h => h) hS5 (hY.o rfl) rfl 5 rfl wF_X7_28 rfl rfl rfl rfl rfl dX7_copyFrom_80 (fun H6 locs hT6 hS6 hu6 => ?_)
  refine lv_aload_n hx hb dX7_copyFrom_83 rfl (lv_at hl 0 rfl) ?_
  refine lv_aload_n hx hb dX7_copyFrom_84 rfl (lv_at hl 1 rfl) ?_
  refine h_getc (v := (-1)) (C := RX7) (T := TX7) (N := 9) hx hb hts inX7 hown hK hT6 (hY2.o rfl) rfl 6 rfl wF_X7_32 rfl (fun _ h => h) dX7_copyFrom_85 ?_
  refine h_puti (C := RX7) (T := TX7) (N := 9) hx hb hts inX7 tyX7 tyX7_ok nmX7 hown hK hT6 (fun _ h => h) hS6 (hY.o rfl) rfl 6 rfl wF_X7_32 rfl rfl rfl rfl rfl dX7_copyFrom_88 (fun H7 locs hT7 hS7 hu7 => ?_)
  refine lv_aload_n hx hb dX7_copyFrom_91 rfl (lv_at hl 0 rfl) ?_
  refine lv_aload_n hx hb dX7_copyFrom_92 rfl (lv_at hl 1 rfl) ?_
  refine h_getc (v := (-1)) (C := RX7) (T := TX7) (N := 9) hx hb hts inX7 hown hK hT7 (hY2.o rfl) rfl 7 rfl wF_X7_35 rfl (fun _ h => h) dX7_copyFrom_93 ?_
  refine h_puti (C := RX7) (T := TX7) (N := 9) hx hb hts inX7 tyX7 tyX7_ok nmX7 hown hK hT7 (fun _ h => h) hS7 (hY.o rfl) rfl 7 rfl wF_X7_35 rfl rfl rfl rfl rfl dX7_copyFrom_96 (fun H8 locs hT8 hS8 hu8 => ?_)
  refine lv_aload_n hx hb dX7_copyFrom_99 rfl (lv_at hl 0 rfl) ?_
  refine lv_aload_n hx hb dX7_copyFrom_100 rfl (lv_at hl 1 rfl) ?_
  refine h_getc (v := (-1)) (C := RX7) (T := TX7) (N := 9) hx hb hts inX7 hown hK hT8 (hY2.o rfl) rfl 8 rfl wF_X7_38 rfl (fun _ h => h) dX7_copyFrom_101 ?_
  refine h_puti (C := RX7) (T := TX7) (N := 9) hx hb hts inX7 tyX7 tyX7_ok nmX7 hown hK hT8 (fun _ h => h) hS8 (hY.o rfl) rfl 8 rfl wF_X7_38 rfl rfl rfl rfl rfl dX7_copyFrom_104 (fun H9 locs hT9 hS9 hu9 => ?_)
  exact hret _ _ _ _ hT9 hS9 (fun q hq => ((hu9.2.1 q (by omega)).trans ((hu8.2.1 q (by omega)).trans ((hu7.2.1 q (by omega)).trans ((hu6.2.1 q (by omega)).trans ((hu5.2.1 q (by omega)).trans ((hu4.2.1 q (by omega)).trans ((hu3.2.1 q (by omega)).trans ((hu2.2.1 q (by omega)).trans (hu1.2.1 q (by omega))))))))))) dX7_copyFrom_107
set_option maxHeartbeats 4000000 in
set_option maxRecDepth 100000 in
theorem c_X2_copyFrom (l : Launch) (G : hG) (Y : hW) (o o2 : Nat) (hY : h_On Y o (quE tF o)) (hY2 : h_On Y o2 (quE tF o2)) : hMv l yX2_copyFrom cX2_copyFrom 2 none 1 60 G Y [.ref (o), .ref (o2)] (fun H => True) (fun H H1 => ∀ q : Nat, (q < o ∨ o + 6 ≤ q) → H1[q]? = H[q]?) := by
  refine h_ofv (by decide +kernel) (Nat.le_of_ble_eq_true rfl) ?_
  intro p e s m args below meth c H0 ls Q hx hb hts hown hml hK hT0 hpr hS0 hl hret
  have hl : lv_has ls 2 [(0, .ref (o)), (1, .ref (o2))] := hl
  refine lv_aload_n hx hb dX2_copyFrom_0 rfl (lv_at hl 1 rfl) ?_
  refine h_getr (C := RX2) (T := TX2) (N := 5) hx hb hts inX2 hown hK hT0 (hY2.o rfl) rfl 0 rfl wF_X2_9 rfl dX2_copyFrom_1 ?_
  refine lv_iconst (v := 0) hx hb dX2_copyFrom_4 (by decide) ?_
  refine lv_aload_n hx hb dX2_copyFrom_5 rfl (lv_at hl 0 rfl) ?_
  refine h_getr (C := RX2) (T := TX2) (N := 5) hx hb hts inX2 hown hK hT0 (hY.o rfl) rfl 0 rfl wF_X2_9 rfl dX2_copyFrom_6 ?_
  refine lv_iconst (v := 0) hx hb dX2_copyFrom_9 (by decide) ?_
  refine lv_bipush (v := 48) hx hb dX2_copyFrom_10 (by decide) ?_
  refine h_copy (rest := []) hx hb hts (hml.trans hl.1.symm) hown wL_X2_33 wA_nat wA_sta wA_ini hK hT0 (fun _ h => h) hS0 (by decide) (hY2.at 1 rfl) (hY.at 1 rfl) (fun _ _ _ h => h) (by decide) (by decide) (Nat.le_of_ble_eq_true rfl) (Nat.le_of_ble_eq_true rfl) dX2_copyFrom_12 (fun H1 locs hT1 hS1 hu1 => ?_)
  refine lv_aload_n hx hb dX2_copyFrom_15 rfl (lv_at hl 1 rfl) ?_
  refine h_getr (C := RX2) (T := TX2) (N := 5) hx hb hts inX2 hown hK hT1 (hY2.o rfl) rfl 1 rfl wF_X2_15 rfl dX2_copyFrom_16 ?_
  refine lv_iconst (v := 0) hx hb dX2_copyFrom_19 (by decide) ?_
  refine lv_aload_n hx hb dX2_copyFrom_20 rfl (lv_at hl 0 rfl) ?_
  refine h_getr (C := RX2) (T := TX2) (N := 5) hx hb hts inX2 hown hK hT1 (hY.o rfl) rfl 1 rfl wF_X2_15 rfl dX2_copyFrom_21 ?_
  refine lv_iconst (v := 0) hx hb dX2_copyFrom_24 (by decide) ?_
  refine lv_bipush (v := 48) hx hb dX2_copyFrom_25 (by decide) ?_
  refine h_copy (rest := []) hx hb hts (hml.trans hl.1.symm) hown wL_X2_33 wA_nat wA_sta wA_ini hK hT1 (fun _ h => h) hS1 (by decide) (hY2.at 2 rfl) (hY.at 2 rfl) (fun _ _ _ h => h) (by decide) (by decide) (Nat.le_of_ble_eq_true rfl) (Nat.le_of_ble_eq_true rfl) dX2_copyFrom_27 (fun H2 locs hT2 hS2 hu2 => ?_)
  refine lv_aload_n hx hb dX2_copyFrom_30 rfl (lv_at hl 1 rfl) ?_
  refine h_getr (C := RX2) (T := TX2) (N := 5) hx hb hts inX2 hown hK hT2 (hY2.o rfl) rfl 2 rfl wF_X2_18 rfl dX2_copyFrom_31 ?_
  refine lv_iconst (v := 0) hx hb dX2_copyFrom_34 (by decide) ?_
  refine lv_aload_n hx hb dX2_copyFrom_35 rfl (lv_at hl 0 rfl) ?_
  refine h_getr (C := RX2) (T := TX2) (N := 5) hx hb hts inX2 hown hK hT2 (hY.o rfl) rfl 2 rfl wF_X2_18 rfl dX2_copyFrom_36 ?_
  refine lv_iconst (v := 0) hx hb dX2_copyFrom_39 (by decide) ?_
  refine lv_bipush (v := 48) hx hb dX2_copyFrom_40 (by decide) ?_
  refine h_copy (rest := []) hx hb hts (hml.trans hl.1.symm) hown wL_X2_33 wA_nat wA_sta wA_ini hK hT2 (fun _ h => h) hS2 (by decide) (hY2.at 3 rfl) (hY.at 3 rfl) (fun _ _ _ h => h) (by decide) (by decide) (Nat.le_of_ble_eq_true rfl) (Nat.le_of_ble_eq_true rfl) dX2_copyFrom_42 (fun H3 locs hT3 hS3 hu3 => ?_)
  refine lv_aload_n hx hb dX2_copyFrom_45 rfl (lv_at hl 1 rfl) ?_
  refine h_getr (C := RX2) (T := TX2) (N := 5) hx hb hts inX2 hown hK hT3 (hY2.o rfl) rfl 3 rfl wF_X2_21 rfl dX2_copyFrom_46 ?_
  refine lv_iconst (v := 0) hx hb dX2_copyFrom_49 (by decide) ?_
  refine lv_aload_n hx hb dX2_copyFrom_50 rfl (lv_at hl 0 rfl) ?_
  refine h_getr (C := RX2) (T := TX2) (N := 5) hx hb hts inX2 hown hK hT3 (hY.o rfl) rfl 3 rfl wF_X2_21 rfl dX2_copyFrom_51 ?_
  refine lv_iconst (v := 0) hx hb dX2_copyFrom_54 (by decide) ?_
  refine lv_bipush (v := 48) hx hb dX2_copyFrom_55 (by decide) ?_
  refine h_copy (rest := []) hx hb hts (hml.trans hl.1.symm) hown wL_X2_33 wA_nat wA_sta wA_ini hK hT3 (fun _ h => h) hS3 (by decide) (hY2.at 4 rfl) (hY.at 4 rfl) (fun _ _ _ h => h) (by decide) (by decide) (Nat.le_of_ble_eq_true rfl) (Nat.le_of_ble_eq_true rfl) dX2_copyFrom_57 (fun H4 locs hT4 hS4 hu4 => ?_)
  refine lv_aload_n hx hb dX2_copyFrom_60 rfl (lv_at hl 1 rfl) ?_
  refine h_getr (C := RX2) (T := TX2) (N := 5) hx hb hts inX2 hown hK hT4 (hY2.o rfl) rfl 4 rfl wF_X2_24 rfl dX2_copyFrom_61 ?_
  refine lv_iconst (v := 0) hx hb dX2_copyFrom_64 (by decide) ?_
  refine lv_aload_n hx hb dX2_copyFrom_65 rfl (lv_at hl 0 rfl) ?_
  refine h_getr (C := RX2) (T := TX2) (N := 5) hx hb hts inX2 hown hK hT4 (hY.o rfl) rfl 4 rfl wF_X2_24 rfl dX2_copyFrom_66 ?_
  refine lv_iconst (v := 0) hx hb dX2_copyFrom_69 (by decide) ?_
  refine lv_bipush (v := 8) hx hb dX2_copyFrom_70 (by decide) ?_
  refine h_copy (rest := []) hx hb hts (hml.trans hl.1.symm) hown wL_X2_33 wA_nat wA_sta wA_ini hK hT4 (fun _ h => h) hS4 (by decide) (hY2.at 5 rfl) (hY.at 5 rfl) (fun _ _ _ h => h) (by decide) (by decide) (Nat.le_of_ble_eq_true rfl) (Nat.le_of_ble_eq_true rfl) dX2_copyFrom_72 (fun H5 locs hT5 hS5 hu5 => ?_)
  exact hret _ _ _ _ hT5 hS5 (fun q hq => ((hu5.2.1 q (by omega)).trans ((hu4.2.1 q (by omega)).trans ((hu3.2.1 q (by omega)).trans ((hu2.2.1 q (by omega)).trans (hu1.2.1 q (by omega))))))) dX2_copyFrom_75
set_option maxHeartbeats 4000000 in
set_option maxRecDepth 100000 in
theorem c_X3_copyFrom (l : Launch) (G : hG) (Y : hW) (o o2 : Nat) (hY : h_On Y o (raE tF o)) (hY2 : h_On Y o2 (raE tF o2)) : hMv l yX3_copyFrom cX3_copyFrom 2 none 1 60 G Y [.ref (o), .ref (o2)] (fun H => True) (fun H H1 => ∀ q : Nat, (q < o ∨ o + 4 ≤ q) → H1[q]? = H[q]?) := by
  refine h_ofv (by decide +kernel) (Nat.le_of_ble_eq_true rfl) ?_
  intro p e s m args below meth c H0 ls Q hx hb hts hown hml hK hT0 hpr hS0 hl hret
  have hl : lv_has ls 2 [(0, .ref (o)), (1, .ref (o2))] := hl
  refine lv_aload_n hx hb dX3_copyFrom_0 rfl (lv_at hl 1 rfl) ?_
  refine h_getr (C := RX3) (T := TX3) (N := 3) hx hb hts inX3 hown hK hT0 (hY2.o rfl) rfl 0 rfl wF_X3_9 rfl dX3_copyFrom_1 ?_
  refine lv_iconst (v := 0) hx hb dX3_copyFrom_4 (by decide) ?_
  refine lv_aload_n hx hb dX3_copyFrom_5 rfl (lv_at hl 0 rfl) ?_
  refine h_getr (C := RX3) (T := TX3) (N := 3) hx hb hts inX3 hown hK hT0 (hY.o rfl) rfl 0 rfl wF_X3_9 rfl dX3_copyFrom_6 ?_
  refine lv_iconst (v := 0) hx hb dX3_copyFrom_9 (by decide) ?_
  refine lv_bipush (v := 64) hx hb dX3_copyFrom_10 (by decide) ?_
  refine h_copy (rest := []) hx hb hts (hml.trans hl.1.symm) hown wL_X3_27 wA_nat wA_sta wA_ini hK hT0 (fun _ h => h) hS0 (by decide) (hY2.at 1 rfl) (hY.at 1 rfl) (fun _ _ _ h => h) (by decide) (by decide) (Nat.le_of_ble_eq_true rfl) (Nat.le_of_ble_eq_true rfl) dX3_copyFrom_12 (fun H1 locs hT1 hS1 hu1 => ?_)
  refine lv_aload_n hx hb dX3_copyFrom_15 rfl (lv_at hl 1 rfl) ?_
  refine h_getr (C := RX3) (T := TX3) (N := 3) hx hb hts inX3 hown hK hT1 (hY2.o rfl) rfl 1 rfl wF_X3_15 rfl dX3_copyFrom_16 ?_
  refine lv_iconst (v := 0) hx hb dX3_copyFrom_19 (by decide) ?_
  refine lv_aload_n hx hb dX3_copyFrom_20 rfl (lv_at hl 0 rfl) ?_
  refine h_getr (C := RX3) (T := TX3) (N := 3) hx hb hts inX3 hown hK hT1 (hY.o rfl) rfl 1 rfl wF_X3_15 rfl dX3_copyFrom_21 ?_
  refine lv_iconst (v := 0) hx hb dX3_copyFrom_24 (by decide) ?_
  refine lv_bipush (v := 64) hx hb dX3_copyFrom_25 (by decide) ?_
  refine h_copy (rest := []) hx hb hts (hml.trans hl.1.symm) hown wL_X3_27 wA_nat wA_sta wA_ini hK hT1 (fun _ h => h) hS1 (by decide) (hY2.at 2 rfl) (hY.at 2 rfl) (fun _ _ _ h => h) (by decide) (by decide) (Nat.le_of_ble_eq_true rfl) (Nat.le_of_ble_eq_true rfl) dX3_copyFrom_27 (fun H2 locs hT2 hS2 hu2 => ?_)
  refine lv_aload_n hx hb dX3_copyFrom_30 rfl (lv_at hl 1 rfl) ?_
  refine h_getr (C := RX3) (T := TX3) (N := 3) hx hb hts inX3 hown hK hT2 (hY2.o rfl) rfl 2 rfl wF_X3_18 rfl dX3_copyFrom_31 ?_
  refine lv_iconst (v := 0) hx hb dX3_copyFrom_34 (by decide) ?_
  refine lv_aload_n hx hb dX3_copyFrom_35 rfl (lv_at hl 0 rfl) ?_
  refine h_getr (C := RX3) (T := TX3) (N := 3) hx hb hts inX3 hown hK hT2 (hY.o rfl) rfl 2 rfl wF_X3_18 rfl dX3_copyFrom_36 ?_
  refine lv_iconst (v := 0) hx hb dX3_copyFrom_39 (by decide) ?_
  refine lv_bipush (v := 8) hx hb dX3_copyFrom_40 (by decide) ?_
  refine h_copy (rest := []) hx hb hts (hml.trans hl.1.symm) hown wL_X3_27 wA_nat wA_sta wA_ini hK hT2 (fun _ h => h) hS2 (by decide) (hY2.at 3 rfl) (hY.at 3 rfl) (fun _ _ _ h => h) (by decide) (by decide) (Nat.le_of_ble_eq_true rfl) (Nat.le_of_ble_eq_true rfl) dX3_copyFrom_42 (fun H3 locs hT3 hS3 hu3 => ?_)
  exact hret _ _ _ _ hT3 hS3 (fun q hq => ((hu3.2.1 q (by omega)).trans ((hu2.2.1 q (by omega)).trans (hu1.2.1 q (by omega))))) dX3_copyFrom_45
set_option maxHeartbeats 4000000 in
set_option maxRecDepth 100000 in
theorem c_X9_copyFrom (l : Launch) (G : hG) (Y : hW) (o o2 : Nat) (hY : h_On Y o (waE tF o)) (hY2 : h_On Y o2 (waE tF o2)) : hMv l yX9_copyFrom cX9_copyFrom 2 none 0 0 G Y [.ref (o), .ref (o2)] (fun H => True) (fun H H1 => ∀ q : Nat, (q < o ∨ o + 1 ≤ q) → H1[q]? = H[q]?) := by
  refine h_ofv (by decide +kernel) (Nat.le_of_ble_eq_true rfl) ?_
  intro p e s m args below meth c H0 ls Q hx hb hts hown hml hK hT0 hpr hS0 hl hret
  have hl : lv_has ls 2 [(0, .ref (o)), (1, .ref (o2))] := hl
  refine lv_aload_n hx hb dX9_copyFrom_0 rfl (lv_at hl 0 rfl) ?_
  refine lv_aload_n hx hb dX9_copyFrom_1 rfl (lv_at hl 1 rfl) ?_
  refine h_getc (v := 0) (C := RX9) (T := TX9) (N := 11) hx hb hts inX9 hown hK hT0 (hY2.o rfl) rfl 0 rfl wF_X9_9 rfl (fun _ h => h) dX9_copyFrom_2 ?_
  refine h_puti (C := RX9) (T := TX9) (N := 11) hx hb hts inX9 tyX9 tyX9_ok nmX9 hown hK hT0 (fun _ h => h) hS0 (hY.o rfl) rfl 0 rfl wF_X9_9 rfl rfl rfl rfl rfl dX9_copyFrom_5 (fun H1 locs hT1 hS1 hu1 => ?_)
  refine lv_aload_n hx hb dX9_copyFrom_8 rfl (lv_at hl 0 rfl) ?_
  refine lv_aload_n hx hb dX9_copyFrom_9 rfl (lv_at hl 1 rfl) ?_
  refine h_geti (C := RX9) (T := TX9) (N := 11) hx hb hts inX9 hown hK hT1 (hY2.o rfl) rfl 1 rfl wF_X9_15 rfl dX9_copyFrom_10 (fun p1 => ?_)
  refine lv_topi (fun x2 ex2 => ?_)
  refine h_puti (C := RX9) (T := TX9) (N := 11) hx hb hts inX9 tyX9 tyX9_ok nmX9 hown hK hT1 (fun _ h => h) hS1 (hY.o rfl) rfl 1 rfl wF_X9_15 rfl rfl trivial rfl rfl dX9_copyFrom_13 (fun H2 locs hT2 hS2 hu2 => ?_)
  refine lv_aload_n hx hb dX9_copyFrom_16 rfl (lv_at hl 0 rfl) ?_
  refine lv_aload_n hx hb dX9_copyFrom_17 rfl (lv_at hl 1 rfl) ?_
  refine h_geti (C := RX9) (T := TX9) (N := 11) hx hb hts inX9 hown hK hT2 (hY2.o rfl) rfl 2 rfl wF_X9_18 rfl dX9_copyFrom_18 (fun p3 => ?_)
  refine lv_topi (fun x4 ex4 => ?_)
  refine h_puti (C := RX9) (T := TX9) (N := 11) hx hb hts inX9 tyX9 tyX9_ok nmX9 hown hK hT2 (fun _ h => h) hS2 (hY.o rfl) rfl 2 rfl wF_X9_18 rfl rfl trivial rfl rfl dX9_copyFrom_21 (fun H3 locs hT3 hS3 hu3 => ?_)
  refine lv_aload_n hx hb dX9_copyFrom_24 rfl (lv_at hl 0 rfl) ?_
  refine lv_aload_n hx hb dX9_copyFrom_25 rfl (lv_at hl 1 rfl) ?_
  refine h_geti (C := RX9) (T := TX9) (N := 11) hx hb hts inX9 hown hK hT3 (hY2.o rfl) rfl 3 rfl wF_X9_21 rfl dX9_copyFrom_26 (fun p5 => ?_)
  refine lv_topi (fun x6 ex6 => ?_)
  refine h_puti (C := RX9) (T := TX9) (N := 11) hx hb hts inX9 tyX9 tyX9_ok nmX9 hown hK hT3 (fun _ h => h) hS3 (hY.o rfl) rfl 3 rfl wF_X9_21 rfl rfl trivial rfl rfl dX9_copyFrom_29 (fun H4 locs hT4 hS4 hu4 => ?_)
  refine lv_aload_n hx hb dX9_copyFrom_32 rfl (lv_at hl 0 rfl) ?_
  refine lv_aload_n hx hb dX9_copyFrom_33 rfl (lv_at hl 1 rfl) ?_
  refine h_getc (v := 0) (C := RX9) (T := TX9) (N := 11) hx hb hts inX9 hown hK hT4 (hY2.o rfl) rfl 4 rfl wF_X9_24 rfl (fun _ h => h) dX9_copyFrom_34 ?_
  refine h_puti (C := RX9) (T := TX9) (N := 11) hx hb hts inX9 tyX9 tyX9_ok nmX9 hown hK hT4 (fun _ h => h) hS4 (hY.o rfl) rfl 4 rfl wF_X9_24 rfl rfl rfl rfl rfl dX9_copyFrom_37 (fun H5 locs hT5 hS5 hu5 => ?_)
  refine lv_aload_n hx hb dX9_copyFrom_40 rfl (lv_at hl 0 rfl) ?_
  refine lv_aload_n hx hb dX9_copyFrom_41 rfl (lv_at hl 1 rfl) ?_
  refine h_geti (C := RX9) (T := TX9) (N := 11) hx hb hts inX9 hown hK hT5 (hY2.o rfl) rfl 5 rfl wF_X9_28 rfl dX9_copyFrom_42 (fun p7 => ?_)
  refine lv_topi (fun x8 ex8 => ?_)
  refine h_puti (C := RX9) (T := TX9) (N := 11) hx hb hts inX9 tyX9 tyX9_ok nmX9 hown hK hT5 (fun _ h => h) hS5 (hY.o rfl) rfl 5 rfl wF_X9_28 rfl rfl trivial rfl rfl dX9_copyFrom_45 (fun H6 locs hT6 hS6 hu6 => ?_)
  refine lv_aload_n hx hb dX9_copyFrom_48 rfl (lv_at hl 0 rfl) ?_
  refine lv_aload_n hx hb dX9_copyFrom_49 rfl (lv_at hl 1 rfl) ?_
  refine h_geti (C := RX9) (T := TX9) (N := 11) hx hb hts inX9 hown hK hT6 (hY2.o rfl) rfl 6 rfl wF_X9_31 rfl dX9_copyFrom_50 (fun p9 => ?_)
  refine lv_topi (fun x10 ex10 => ?_)
  refine h_puti (C := RX9) (T := TX9) (N := 11) hx hb hts inX9 tyX9 tyX9_ok nmX9 hown hK hT6 (fun _ h => h) hS6 (hY.o rfl) rfl 6 rfl wF_X9_31 rfl rfl trivial rfl rfl dX9_copyFrom_53 (fun H7 locs hT7 hS7 hu7 => ?_)
  refine lv_aload_n hx hb dX9_copyFrom_56 rfl (lv_at hl 0 rfl) ?_
  refine lv_aload_n hx hb dX9_copyFrom_57 rfl (lv_at hl 1 rfl) ?_
  refine h_geti (C := RX9) (T := TX9) (N := 11) hx hb hts inX9 hown hK hT7 (hY2.o rfl) rfl 7 rfl wF_X9_34 rfl dX9_copyFrom_58 (fun p11 => ?_)
  refine lv_topi (fun x12 ex12 => ?_)
  refine h_puti (C := RX9) (T := TX9) (N := 11) hx hb hts inX9 tyX9 tyX9_ok nmX9 hown hK hT7 (fun _ h => h) hS7 (hY.o rfl) rfl 7 rfl wF_X9_34 rfl rfl trivial rfl rfl dX9_copyFrom_61 (fun H8 locs hT8 hS8 hu8 => ?_)
  refine lv_aload_n hx hb dX9_copyFrom_64 rfl (lv_at hl 0 rfl) ?_
  refine lv_aload_n hx hb dX9_copyFrom_65 rfl (lv_at hl 1 rfl) ?_
  refine h_getc (v := 0) (C := RX9) (T := TX9) (N := 11) hx hb hts inX9 hown hK hT8 (hY2.o rfl) rfl 8 rfl wF_X9_37 rfl (fun _ h => h) dX9_copyFrom_66 ?_
  refine h_puti (C := RX9) (T := TX9) (N := 11) hx hb hts inX9 tyX9 tyX9_ok nmX9 hown hK hT8 (fun _ h => h) hS8 (hY.o rfl) rfl 8 rfl wF_X9_37 rfl rfl rfl rfl rfl dX9_copyFrom_69 (fun H9 locs hT9 hS9 hu9 => ?_)
  refine lv_aload_n hx hb dX9_copyFrom_72 rfl (lv_at hl 0 rfl) ?_
  refine lv_aload_n hx hb dX9_copyFrom_73 rfl (lv_at hl 1 rfl) ?_
  refine h_geti (C := RX9) (T := TX9) (N := 11) hx hb hts inX9 hown hK hT9 (hY2.o rfl) rfl 9 rfl wF_X9_40 rfl dX9_copyFrom_74 (fun p13 => ?_)
  refine lv_topi (fun x14 ex14 => ?_)
  refine h_puti (C := RX9) (T := TX9) (N := 11) hx hb hts inX9 tyX9 tyX9_ok nmX9 hown hK hT9 (fun _ h => h) hS9 (hY.o rfl) rfl 9 rfl wF_X9_40 rfl rfl trivial rfl rfl dX9_copyFrom_77 (fun H10 locs hT10 hS10 hu10 => ?_)
  refine lv_aload_n hx hb dX9_copyFrom_80 rfl (lv_at hl 0 rfl) ?_
  refine lv_aload_n hx hb dX9_copyFrom_81 rfl (lv_at hl 1 rfl) ?_
  refine h_geti (C := RX9) (T := TX9) (N := 11) hx hb hts inX9 hown hK hT10 (hY2.o rfl) rfl 10 rfl wF_X9_43 rfl dX9_copyFrom_82 (fun p15 => ?_)
  refine lv_topi (fun x16 ex16 => ?_)
  refine h_puti (C := RX9) (T := TX9) (N := 11) hx hb hts inX9 tyX9 tyX9_ok nmX9 hown hK hT10 (fun _ h => h) hS10 (hY.o rfl) rfl 10 rfl wF_X9_43 rfl rfl trivial rfl rfl dX9_copyFrom_85 (fun H11 locs hT11 hS11 hu11 => ?_)
  exact hret _ _ _ _ hT11 hS11 (fun q hq => ((hu11.2.1 q (by omega)).trans ((hu10.2.1 q (by omega)).trans ((hu9.2.1 q (by omega)).trans ((hu8.2.1 q (by omega)).trans ((hu7.2.1 q (by omega)).trans ((hu6.2.1 q (by omega)).trans ((hu5.2.1 q (by omega)).trans ((hu4.2.1 q (by omega)).trans ((hu3.2.1 q (by omega)).trans ((hu2.2.1 q (by omega)).trans (hu1.2.1 q (by omega))))))))))))) dX9_copyFrom_88
set_option maxHeartbeats 4000000 in
set_option maxRecDepth 100000 in
theorem c_X6_copyFrom (l : Launch) (G : hG) (Y : hW) (o o2 : Nat) (hY : h_On Y o (siE tF o)) (hY2 : h_On Y o2 (siE tF o2)) : hMv l yX6_copyFrom cX6_copyFrom 2 none 0 0 G Y [.ref (o), .ref (o2)] (fun H => True) (fun H H1 => ∀ q : Nat, (q < o ∨ o + 1 ≤ q) → H1[q]? = H[q]?) := by
  refine h_ofv (by decide +kernel) (Nat.le_of_ble_eq_true rfl) ?_
  intro p e s m args below meth c H0 ls Q hx hb hts hown hml hK hT0 hpr hS0 hl hret
  have hl : lv_has ls 2 [(0, .ref (o)), (1, .ref (o2))] := hl
  refine lv_aload_n hx hb dX6_copyFrom_0 rfl (lv_at hl 0 rfl) ?_
  refine lv_aload_n hx hb dX6_copyFrom_1 rfl (lv_at hl 1 rfl) ?_
  refine h_geti (C := RX6) (T := TX6) (N := 4) hx hb hts inX6 hown hK hT0 (hY2.o rfl) rfl 0 rfl wF_X6_9 rfl dX6_copyFrom_2 (fun p1 => ?_)
  refine lv_topi (fun x2 ex2 => ?_)
  refine h_puti (C := RX6) (T := TX6) (N := 4) hx hb hts inX6 tyX6 tyX6_ok nmX6 hown hK hT0 (fun _ h => h) hS0 (hY.o rfl) rfl 0 rfl wF_X6_9 rfl rfl trivial rfl rfl dX6_copyFrom_5 (fun H1 locs hT1 hS1 hu1 => ?_)
  refine lv_aload_n hx hb dX6_copyFrom_8 rfl (lv_at hl 0 rfl) ?_
  refine lv_aload_n hx hb dX6_copyFrom_9 rfl (lv_at hl 1 rfl) ?_
  refine h_getc (v := 0) (C := RX6) (T := TX6) (N := 4) hx hb hts inX6 hown hK hT1 (hY2.o rfl) rfl 1 rfl wF_X6_15 rfl (fun _ h => h) dX6_copyFrom_10 ?_
  refine h_puti (C := RX6) (T := TX6) (N := 4) hx hb hts inX6 tyX6 tyX6_ok nmX6 hown hK hT1 (fun _ h => h) hS1 (hY.o rfl) rfl 1 rfl wF_X6_15 rfl rfl rfl rfl rfl dX6_copyFrom_13 (fun H2 locs hT2 hS2 hu2 => ?_)
  refine lv_aload_n hx hb dX6_copyFrom_16 rfl (lv_at hl 0 rfl) ?_
  refine lv_aload_n hx hb dX6_copyFrom_17 rfl (lv_at hl 1 rfl) ?_
  refine h_getc (v := (-1)) (C := RX6) (T := TX6) (N := 4) hx hb hts inX6 hown hK hT2 (hY2.o rfl) rfl 2 rfl wF_X6_18 rfl (fun _ h => h) dX6_copyFrom_18 ?_
  refine h_puti (C := RX6) (T := TX6) (N := 4) hx hb hts inX6 tyX6 tyX6_ok nmX6 hown hK hT2 (fun _ h => h) hS2 (hY.o rfl) rfl 2 rfl wF_X6_18 rfl rfl rfl rfl rfl dX6_copyFrom_21 (fun H3 locs hT3 hS3 hu3 => ?_)
  refine lv_aload_n hx hb dX6_copyFrom_24 rfl (lv_at hl 0 rfl) ?_
  refine lv_aload_n hx hb dX6_copyFrom_25 rfl (lv_at hl 1 rfl) ?_
  refine h_getc (v := (-1)) (C := RX6) (T := TX6) (N := 4) hx hb hts inX6 hown hK hT3 (hY2.o rfl) rfl 3 rfl wF_X6_21 rfl (fun _ h => h) dX6_copyFrom_26 ?_
  refine h_puti (C := RX6) (T := TX6) (N := 4) hx hb hts inX6 tyX6 tyX6_ok nmX6 hown hK hT3 (fun _ h => h) hS3 (hY.o rfl) rfl 3 rfl wF_X6_21 rfl rfl rfl rfl rfl dX6_copyFrom_29 (fun H4 locs hT4 hS4 hu4 => ?_)
  exact hret _ _ _ _ hT4 hS4 (fun q hq => ((hu4.2.1 q (by omega)).trans ((hu3.2.1 q (by omega)).trans ((hu2.2.1 q (by omega)).trans (hu1.2.1 q (by omega)))))) dX6_copyFrom_32
set_option maxHeartbeats 4000000 in
set_option maxRecDepth 100000 in
theorem c_X0_copyFrom (l : Launch) (G : hG) (Y : hW) (o o2 : Nat) (hY : h_On Y o (boE tF o)) (hY2 : h_On Y o2 (boE tF o2)) : hMv l yX0_copyFrom cX0_copyFrom 2 none 1 60 G Y [.ref (o), .ref (o2)] (fun H => True) (fun H H1 => ∀ q : Nat, (q < o ∨ o + 6 ≤ q) → H1[q]? = H[q]?) := by
  refine h_ofv (by decide +kernel) (Nat.le_of_ble_eq_true rfl) ?_
  intro p e s m args below meth c H0 ls Q hx hb hts hown hml hK hT0 hpr hS0 hl hret
  have hl : lv_has ls 2 [(0, .ref (o)), (1, .ref (o2))] := hl
  refine lv_aload_n hx hb dX0_copyFrom_0 rfl (lv_at hl 1 rfl) ?_
  refine h_getr (C := RX0) (T := TX0) (N := 6) hx hb hts inX0 hown hK hT0 (hY2.o rfl) rfl 0 rfl wF_X0_9 rfl dX0_copyFrom_1 ?_
  refine lv_iconst (v := 0) hx hb dX0_copyFrom_4 (by decide) ?_
  refine lv_aload_n hx hb dX0_copyFrom_5 rfl (lv_at hl 0 rfl) ?_
  refine h_getr (C := RX0) (T := TX0) (N := 6) hx hb hts inX0 hown hK hT0 (hY.o rfl) rfl 0 rfl wF_X0_9 rfl dX0_copyFrom_6 ?_
  refine lv_iconst (v := 0) hx hb dX0_copyFrom_9 (by decide) ?_
  refine lv_bipush (v := 10) hx hb dX0_copyFrom_10 (by decide) ?_
  refine h_copy (rest := []) hx hb hts (hml.trans hl.1.symm) hown wL_X0_37 wA_nat wA_sta wA_ini hK hT0 (fun _ h => h) hS0 (by decide) (hY2.at 1 rfl) (hY.at 1 rfl) (fun _ _ _ h => h) (by decide) (by decide) (Nat.le_of_ble_eq_true rfl) (Nat.le_of_ble_eq_true rfl) dX0_copyFrom_12 (fun H1 locs hT1 hS1 hu1 => ?_)
  refine lv_aload_n hx hb dX0_copyFrom_15 rfl (lv_at hl 1 rfl) ?_
  refine h_getr (C := RX0) (T := TX0) (N := 6) hx hb hts inX0 hown hK hT1 (hY2.o rfl) rfl 1 rfl wF_X0_15 rfl dX0_copyFrom_16 ?_
  refine lv_iconst (v := 0) hx hb dX0_copyFrom_19 (by decide) ?_
  refine lv_aload_n hx hb dX0_copyFrom_20 rfl (lv_at hl 0 rfl) ?_
  refine h_getr (C := RX0) (T := TX0) (N := 6) hx hb hts inX0 hown hK hT1 (hY.o rfl) rfl 1 rfl wF_X0_15 rfl dX0_copyFrom_21 ?_
  refine lv_iconst (v := 0) hx hb dX0_copyFrom_24 (by decide) ?_
  refine lv_bipush (v := 8) hx hb dX0_copyFrom_25 (by decide) ?_
  refine h_copy (rest := []) hx hb hts (hml.trans hl.1.symm) hown wL_X0_37 wA_nat wA_sta wA_ini hK hT1 (fun _ h => h) hS1 (by decide) (hY2.at 2 rfl) (hY.at 2 rfl) (fun _ _ _ h => h) (by decide) (by decide) (Nat.le_of_ble_eq_true rfl) (Nat.le_of_ble_eq_true rfl) dX0_copyFrom_27 (fun H2 locs hT2 hS2 hu2 => ?_)
  refine lv_aload_n hx hb dX0_copyFrom_30 rfl (lv_at hl 1 rfl) ?_
  refine h_getr (C := RX0) (T := TX0) (N := 6) hx hb hts inX0 hown hK hT2 (hY2.o rfl) rfl 2 rfl wF_X0_18 rfl dX0_copyFrom_31 ?_
  refine lv_iconst (v := 0) hx hb dX0_copyFrom_34 (by decide) ?_
  refine lv_aload_n hx hb dX0_copyFrom_35 rfl (lv_at hl 0 rfl) ?_
  refine h_getr (C := RX0) (T := TX0) (N := 6) hx hb hts inX0 hown hK hT2 (hY.o rfl) rfl 2 rfl wF_X0_18 rfl dX0_copyFrom_36 ?_
  refine lv_iconst (v := 0) hx hb dX0_copyFrom_39 (by decide) ?_
  refine lv_bipush (v := 8) hx hb dX0_copyFrom_40 (by decide) ?_
  refine h_copy (rest := []) hx hb hts (hml.trans hl.1.symm) hown wL_X0_37 wA_nat wA_sta wA_ini hK hT2 (fun _ h => h) hS2 (by decide) (hY2.at 3 rfl) (hY.at 3 rfl) (fun _ _ _ h => h) (by decide) (by decide) (Nat.le_of_ble_eq_true rfl) (Nat.le_of_ble_eq_true rfl) dX0_copyFrom_42 (fun H3 locs hT3 hS3 hu3 => ?_)
  refine lv_aload_n hx hb dX0_copyFrom_45 rfl (lv_at hl 1 rfl) ?_
  refine h_getr (C := RX0) (T := TX0) (N := 6) hx hb hts inX0 hown hK hT3 (hY2.o rfl) rfl 3 rfl wF_X0_21 rfl dX0_copyFrom_46 ?_
  refine lv_iconst (v := 0) hx hb dX0_copyFrom_49 (by decide) ?_
  refine lv_aload_n hx hb dX0_copyFrom_50 rfl (lv_at hl 0 rfl) ?_
  refine h_getr (C := RX0) (T := TX0) (N := 6) hx hb hts inX0 hown hK hT3 (hY.o rfl) rfl 3 rfl wF_X0_21 rfl dX0_copyFrom_51 ?_
  refine lv_iconst (v := 0) hx hb dX0_copyFrom_54 (by decide) ?_
  refine lv_bipush (v := 96) hx hb dX0_copyFrom_55 (by decide) ?_
  refine h_copy (rest := []) hx hb hts (hml.trans hl.1.symm) hown wL_X0_37 wA_nat wA_sta wA_ini hK hT3 (fun _ h => h) hS3 (by decide) (hY2.at 4 rfl) (hY.at 4 rfl) (fun _ _ _ h => h) (by decide) (by decide) (Nat.le_of_ble_eq_true rfl) (Nat.le_of_ble_eq_true rfl) dX0_copyFrom_57 (fun H4 locs hT4 hS4 hu4 => ?_)
  refine lv_aload_n hx hb dX0_copyFrom_60 rfl (lv_at hl 1 rfl) ?_
  refine h_getr (C := RX0) (T := TX0) (N := 6) hx hb hts inX0 hown hK hT4 (hY2.o rfl) rfl 4 rfl wF_X0_24 rfl dX0_copyFrom_61 ?_
  refine lv_iconst (v := 0) hx hb dX0_copyFrom_64 (by decide) ?_
  refine lv_aload_n hx hb dX0_copyFrom_65 rfl (lv_at hl 0 rfl) ?_
  refine h_getr (C := RX0) (T := TX0) (N := 6) hx hb hts inX0 hown hK hT4 (hY.o rfl) rfl 4 rfl wF_X0_24 rfl dX0_copyFrom_66 ?_
  refine lv_iconst (v := 0) hx hb dX0_copyFrom_69 (by decide) ?_
  refine lv_bipush (v := 72) hx hb dX0_copyFrom_70 (by decide) ?_
  refine h_copy (rest := []) hx hb hts (hml.trans hl.1.symm) hown wL_X0_37 wA_nat wA_sta wA_ini hK hT4 (fun _ h => h) hS4 (by decide) (hY2.at 5 rfl) (hY.at 5 rfl) (fun _ _ _ h => h) (by decide) (by decide) (Nat.le_of_ble_eq_true rfl) (Nat.le_of_ble_eq_true rfl) dX0_copyFrom_72 (fun H5 locs hT5 hS5 hu5 => ?_)
  refine lv_aload_n hx hb dX0_copyFrom_75 rfl (lv_at hl 0 rfl) ?_
  refine lv_aload_n hx hb dX0_copyFrom_76 rfl (lv_at hl 1 rfl) ?_
  refine h_getc (v := 0) (C := RX0) (T := TX0) (N := 6) hx hb hts inX0 hown hK hT5 (hY2.o rfl) rfl 5 rfl wF_X0_27 rfl (fun _ h => h) dX0_copyFrom_77 ?_
  refine h_puti (C := RX0) (T := TX0) (N := 6) hx hb hts inX0 tyX0 tyX0_ok nmX0 hown hK hT5 (fun _ h => h) hS5 (hY.o rfl) rfl 5 rfl wF_X0_27 rfl rfl rfl rfl rfl dX0_copyFrom_80 (fun H6 locs hT6 hS6 hu6 => ?_)
  exact hret _ _ _ _ hT6 hS6 (fun q hq => ((hu6.2.1 q (by omega)).trans ((hu5.2.1 q (by omega)).trans ((hu4.2.1 q (by omega)).trans ((hu3.2.1 q (by omega)).trans ((hu2.2.1 q (by omega)).trans (hu1.2.1 q (by omega)))))))) dX0_copyFrom_83
set_option maxHeartbeats 4000000 in
set_option maxRecDepth 100000 in
theorem c_X8_copyFrom (l : Launch) (G : hG) (Y : hW) (o o2 : Nat) (hY : h_On Y o (taE tF o)) (hY2 : h_On Y o2 (taE tF o2)) : hMv l yX8_copyFrom cX8_copyFrom 2 none 1 60 G Y [.ref (o), .ref (o2)] (fun H => True) (fun H H1 => ∀ q : Nat, (q < o ∨ o + 2 ≤ q) → H1[q]? = H[q]?) := by
  refine h_ofv (by decide +kernel) (Nat.le_of_ble_eq_true rfl) ?_
  intro p e s m args below meth c H0 ls Q hx hb hts hown hml hK hT0 hpr hS0 hl hret
  have hl : lv_has ls 2 [(0, .ref (o)), (1, .ref (o2))] := hl
  refine lv_aload_n hx hb dX8_copyFrom_0 rfl (lv_at hl 1 rfl) ?_
  refine h_getr (C := RX8) (T := TX8) (N := 4) hx hb hts inX8 hown hK hT0 (hY2.o rfl) rfl 0 rfl wF_X8_9 rfl dX8_copyFrom_1 ?_
  refine lv_iconst (v := 0) hx hb dX8_copyFrom_4 (by decide) ?_
  refine lv_aload_n hx hb dX8_copyFrom_5 rfl (lv_at hl 0 rfl) ?_
  refine h_getr (C := RX8) (T := TX8) (N := 4) hx hb hts inX8 hown hK hT0 (hY.o rfl) rfl 0 rfl wF_X8_9 rfl dX8_copyFrom_6 ?_
  refine lv_iconst (v := 0) hx hb dX8_copyFrom_9 (by decide) ?_
  refine lv_sipush (v := 500) hx hb dX8_copyFrom_10 (by decide) ?_
  refine h_copy (rest := []) hx hb hts (hml.trans hl.1.symm) hown wL_X8_25 wA_nat wA_sta wA_ini hK hT0 (fun _ h => h) hS0 (by decide) (hY2.at 1 rfl) (hY.at 1 rfl) (fun _ _ _ h => h) (by decide) (by decide) (Nat.le_of_ble_eq_true rfl) (Nat.le_of_ble_eq_true rfl) dX8_copyFrom_13 (fun H1 locs hT1 hS1 hu1 => ?_)
  refine lv_aload_n hx hb dX8_copyFrom_16 rfl (lv_at hl 0 rfl) ?_
  refine lv_aload_n hx hb dX8_copyFrom_17 rfl (lv_at hl 1 rfl) ?_
  refine h_geti (C := RX8) (T := TX8) (N := 4) hx hb hts inX8 hown hK hT1 (hY2.o rfl) rfl 1 rfl wF_X8_15 rfl dX8_copyFrom_18 (fun p1 => ?_)
  refine lv_topi (fun x2 ex2 => ?_)
  refine h_puti (C := RX8) (T := TX8) (N := 4) hx hb hts inX8 tyX8 tyX8_ok nmX8 hown hK hT1 (fun _ h => h) hS1 (hY.o rfl) rfl 1 rfl wF_X8_15 rfl rfl trivial rfl rfl dX8_copyFrom_21 (fun H2 locs hT2 hS2 hu2 => ?_)
  refine lv_aload_n hx hb dX8_copyFrom_24 rfl (lv_at hl 0 rfl) ?_
  refine lv_aload_n hx hb dX8_copyFrom_25 rfl (lv_at hl 1 rfl) ?_
  refine h_geti (C := RX8) (T := TX8) (N := 4) hx hb hts inX8 hown hK hT2 (hY2.o rfl) rfl 2 rfl wF_X8_19 rfl dX8_copyFrom_26 (fun p3 => ?_)
  refine lv_topi (fun x4 ex4 => ?_)
  refine h_puti (C := RX8) (T := TX8) (N := 4) hx hb hts inX8 tyX8 tyX8_ok nmX8 hown hK hT2 (fun _ h => h) hS2 (hY.o rfl) rfl 2 rfl wF_X8_19 rfl rfl trivial rfl rfl dX8_copyFrom_29 (fun H3 locs hT3 hS3 hu3 => ?_)
  refine lv_aload_n hx hb dX8_copyFrom_32 rfl (lv_at hl 0 rfl) ?_
  refine lv_aload_n hx hb dX8_copyFrom_33 rfl (lv_at hl 1 rfl) ?_
  refine h_geti (C := RX8) (T := TX8) (N := 4) hx hb hts inX8 hown hK hT3 (hY2.o rfl) rfl 3 rfl wF_X8_22 rfl dX8_copyFrom_34 (fun p5 => ?_)
  refine lv_topi (fun x6 ex6 => ?_)
  refine h_puti (C := RX8) (T := TX8) (N := 4) hx hb hts inX8 tyX8 tyX8_ok nmX8 hown hK hT3 (fun _ h => h) hS3 (hY.o rfl) rfl 3 rfl wF_X8_22 rfl rfl trivial rfl rfl dX8_copyFrom_37 (fun H4 locs hT4 hS4 hu4 => ?_)
  exact hret _ _ _ _ hT4 hS4 (fun q hq => ((hu4.2.1 q (by omega)).trans ((hu3.2.1 q (by omega)).trans ((hu2.2.1 q (by omega)).trans (hu1.2.1 q (by omega)))))) dX8_copyFrom_40
set_option maxHeartbeats 4000000 in
set_option maxRecDepth 100000 in
theorem c_X7_setBreak (l : Launch) (G : hG) (Y : hW) (o : Nat) (hY : h_On Y o (stE tF o)) : hMv l yX7_setBreak cX7_setBreak 3 none 0 0 G Y [.ref (o), .int (-1), .int (-1)] (fun H => True) (fun H H1 => True) := by
  refine h_ofv (by decide +kernel) (Nat.le_of_ble_eq_true rfl) ?_
  intro p e s m args below meth c H0 ls Q hx hb hts hown hml hK hT0 hpr hS0 hl hret
  have hl : lv_has ls 3 [(0, .ref (o)), (1, .int (-1)), (2, .int (-1))] := hl
  refine lv_aload_n hx hb dX7_setBreak_0 rfl (lv_at hl 0 rfl) ?_
  refine lv_iload_n hx hb dX7_setBreak_1 rfl (lv_at hl 1 rfl) ?_
  refine h_puti (C := RX7) (T := TX7) (N := 9) hx hb hts inX7 tyX7 tyX7_ok nmX7 hown hK hT0 (fun _ h => h) hS0 (hY.o rfl) rfl 7 rfl wF_X7_35 rfl rfl rfl rfl rfl dX7_setBreak_2 (fun H1 locs hT1 hS1 hu1 => ?_)
  refine lv_aload_n hx hb dX7_setBreak_5 rfl (lv_at hl 0 rfl) ?_
  refine lv_iload_n hx hb dX7_setBreak_6 rfl (lv_at hl 2 rfl) ?_
  refine h_puti (C := RX7) (T := TX7) (N := 9) hx hb hts inX7 tyX7 tyX7_ok nmX7 hown hK hT1 (fun _ h => h) hS1 (hY.o rfl) rfl 8 rfl wF_X7_38 rfl rfl rfl rfl rfl dX7_setBreak_7 (fun H2 locs hT2 hS2 hu2 => ?_)
  exact hret _ _ _ _ hT2 hS2 trivial dX7_setBreak_10
set_option maxHeartbeats 4000000 in
set_option maxRecDepth 100000 in
theorem c_X7_clear (l : Launch) (G : hG) (Y : hW) (o : Nat) (hY : h_On Y o (stE tF o)) : hMv l yX7_clear cX7_clear 1 none 1 22 G Y [.ref (o)] (fun H => True) (fun H H1 => True) := by
  refine h_ofv (by decide +kernel) (Nat.le_of_ble_eq_true rfl) ?_
  intro p e s m args below meth c H0 ls Q hx hb hts hown hml hK hT0 hpr hS0 hl hret
  have hl : lv_has ls 1 [(0, .ref (o))] := hl
  refine lv_aload_n hx hb dX7_clear_0 rfl (lv_at hl 0 rfl) ?_
  refine lv_iconst (v := 0) hx hb dX7_clear_1 (by decide) ?_
  refine h_puti (C := RX7) (T := TX7) (N := 9) hx hb hts inX7 tyX7 tyX7_ok nmX7 hown hK hT0 (fun _ h => h) hS0 (hY.o rfl) rfl 5 rfl wF_X7_28 rfl rfl rfl rfl rfl dX7_clear_2 (fun H1 locs hT1 hS1 hu1 => ?_)
  refine lv_aload_n hx hb dX7_clear_5 rfl (lv_at hl 0 rfl) ?_
  refine lv_iconst (v := (-1)) hx hb dX7_clear_6 (by decide) ?_
  refine h_puti (C := RX7) (T := TX7) (N := 9) hx hb hts inX7 tyX7 tyX7_ok nmX7 hown hK hT1 (fun _ h => h) hS1 (hY.o rfl) rfl 6 rfl wF_X7_32 rfl rfl rfl rfl rfl dX7_clear_7 (fun H2 locs hT2 hS2 hu2 => ?_)
  refine lv_aload_n hx hb dX7_clear_10 rfl (lv_at hl 0 rfl) ?_
  refine lv_iconst (v := (-1)) hx hb dX7_clear_11 (by decide) ?_
  refine lv_iconst (v := (-1)) hx hb dX7_clear_12 (by decide) ?_
  refine h_callVv (T := TX7) (rest := []) (As := [.int (-1), .int (-1)]) hx hb hml hown hts hK hT2 (fun _ h => h) hS2 (c_X7_setBreak l G Y (o) hY) trivial wd_X7_setBreak wV_X7_setBreak wL_X7_41 (hY.o rfl) rfl rfl hl.1 rfl (Nat.le_of_ble_eq_true rfl) dX7_clear_13 ⟨Nat.le_of_ble_eq_true rfl, Nat.le_of_ble_eq_true rfl⟩ ⟨Nat.zero_le _, Nat.zero_le _⟩ (fun H3 locs hp3 hT3 hS3 hk3 => ?_)
  exact hret _ _ _ _ hT3 hS3 trivial dX7_clear_16
set_option maxHeartbeats 4000000 in
set_option maxRecDepth 100000 in
theorem c_X2_clear (l : Launch) (G : hG) (Y : hW) (o : Nat) (hY : h_On Y o (quE tF o)) : hMv l yX2_clear cX2_clear 1 none 1 23 G Y [.ref (o)] (fun H => True) (fun H H1 => True) := by
  refine h_ofv (by decide +kernel) (Nat.le_of_ble_eq_true rfl) ?_
  intro p e s m args below meth c H0 ls Q hx hb hts hown hml hK hT0 hpr hS0 hl hret
  have hl : lv_has ls 1 [(0, .ref (o))] := hl
  refine lv_aload_n hx hb dX2_clear_0 rfl (lv_at hl 0 rfl) ?_
  refine h_getr (C := RX2) (T := TX2) (N := 5) hx hb hts inX2 hown hK hT0 (hY.o rfl) rfl 4 rfl wF_X2_24 rfl dX2_clear_1 ?_
  refine lv_iconst (v := 0) hx hb dX2_clear_4 (by decide) ?_
  refine h_callSv (rest := []) (As := [.ref (o + 5), .int 0]) hx hb hml hown hts hK hT0 (fun _ h => h) hS0 (c_fill l G Y (o + 5) 8 _ 0 (hY.at 5 rfl) (by decide) (fun _ _ => rfl)) trivial wd_J7_fill_53178 wS_J7_fill_53178 wL_X2_27 rfl hl.1 rfl (Nat.le_of_ble_eq_true rfl) dX2_clear_5 ⟨Nat.le_of_ble_eq_true rfl, Nat.le_of_ble_eq_true rfl⟩ ⟨Nat.zero_le _, Nat.zero_le _⟩ (fun H1 locs hp1 hT1 hS1 hk1 => ?_)
  exact hret _ _ _ _ hT1 hS1 trivial dX2_clear_8
set_option maxHeartbeats 4000000 in
set_option maxRecDepth 100000 in
theorem c_X3_clear (l : Launch) (G : hG) (Y : hW) (o : Nat) (hY : h_On Y o (raE tF o)) : hMv l yX3_clear cX3_clear 1 none 1 23 G Y [.ref (o)] (fun H => True) (fun H H1 => True) := by
  refine h_ofv (by decide +kernel) (Nat.le_of_ble_eq_true rfl) ?_
  intro p e s m args below meth c H0 ls Q hx hb hts hown hml hK hT0 hpr hS0 hl hret
  have hl : lv_has ls 1 [(0, .ref (o))] := hl
  refine lv_aload_n hx hb dX3_clear_0 rfl (lv_at hl 0 rfl) ?_
  refine h_getr (C := RX3) (T := TX3) (N := 3) hx hb hts inX3 hown hK hT0 (hY.o rfl) rfl 2 rfl wF_X3_18 rfl dX3_clear_1 ?_
  refine lv_iconst (v := 0) hx hb dX3_clear_4 (by decide) ?_
  refine h_callSv (rest := []) (As := [.ref (o + 3), .int 0]) hx hb hml hown hts hK hT0 (fun _ h => h) hS0 (c_fill l G Y (o + 3) 8 _ 0 (hY.at 3 rfl) (by decide) (fun _ _ => rfl)) trivial wd_J7_fill_53178 wS_J7_fill_53178 wL_X3_21 rfl hl.1 rfl (Nat.le_of_ble_eq_true rfl) dX3_clear_5 ⟨Nat.le_of_ble_eq_true rfl, Nat.le_of_ble_eq_true rfl⟩ ⟨Nat.zero_le _, Nat.zero_le _⟩ (fun H1 locs hp1 hT1 hS1 hk1 => ?_)
  exact hret _ _ _ _ hT1 hS1 trivial dX3_clear_8
set_option maxHeartbeats 4000000 in
set_option maxRecDepth 100000 in
theorem c_X9_clear (l : Launch) (G : hG) (Y : hW) (o : Nat) (hY : h_On Y o (waE tF o)) : hMv l yX9_clear cX9_clear 1 none 0 0 G Y [.ref (o)] (fun H => True) (fun H H1 => True) := by
  refine h_ofv (by decide +kernel) (Nat.le_of_ble_eq_true rfl) ?_
  intro p e s m args below meth c H0 ls Q hx hb hts hown hml hK hT0 hpr hS0 hl hret
  have hl : lv_has ls 1 [(0, .ref (o))] := hl
  refine lv_aload_n hx hb dX9_clear_0 rfl (lv_at hl 0 rfl) ?_
  refine lv_iconst (v := 0) hx hb dX9_clear_1 (by decide) ?_
  refine h_puti (C := RX9) (T := TX9) (N := 11) hx hb hts inX9 tyX9 tyX9_ok nmX9 hown hK hT0 (fun _ h => h) hS0 (hY.o rfl) rfl 0 rfl wF_X9_9 rfl rfl rfl rfl rfl dX9_clear_2 (fun H1 locs hT1 hS1 hu1 => ?_)
  refine lv_aload_n hx hb dX9_clear_5 rfl (lv_at hl 0 rfl) ?_
  refine lv_iconst (v := (-1)) hx hb dX9_clear_6 (by decide) ?_
  refine h_puti (C := RX9) (T := TX9) (N := 11) hx hb hts inX9 tyX9 tyX9_ok nmX9 hown hK hT1 (fun _ h => h) hS1 (hY.o rfl) rfl 1 rfl wF_X9_15 rfl rfl trivial rfl rfl dX9_clear_7 (fun H2 locs hT2 hS2 hu2 => ?_)
  refine lv_aload_n hx hb dX9_clear_10 rfl (lv_at hl 0 rfl) ?_
  refine lv_iconst (v := 0) hx hb dX9_clear_11 (by decide) ?_
  refine h_puti (C := RX9) (T := TX9) (N := 11) hx hb hts inX9 tyX9 tyX9_ok nmX9 hown hK hT2 (fun _ h => h) hS2 (hY.o rfl) rfl 2 rfl wF_X9_18 rfl rfl trivial rfl rfl dX9_clear_12 (fun H3 locs hT3 hS3 hu3 => ?_)
  refine lv_aload_n hx hb dX9_clear_15 rfl (lv_at hl 0 rfl) ?_
  refine lv_iconst (v := 0) hx hb dX9_clear_16 (by decide) ?_
  refine h_puti (C := RX9) (T := TX9) (N := 11) hx hb hts inX9 tyX9 tyX9_ok nmX9 hown hK hT3 (fun _ h => h) hS3 (hY.o rfl) rfl 3 rfl wF_X9_21 rfl rfl trivial rfl rfl dX9_clear_17 (fun H4 locs hT4 hS4 hu4 => ?_)
  refine lv_aload_n hx hb dX9_clear_20 rfl (lv_at hl 0 rfl) ?_
  refine lv_iconst (v := 0) hx hb dX9_clear_21 (by decide) ?_
  refine h_puti (C := RX9) (T := TX9) (N := 11) hx hb hts inX9 tyX9 tyX9_ok nmX9 hown hK hT4 (fun _ h => h) hS4 (hY.o rfl) rfl 4 rfl wF_X9_24 rfl rfl rfl rfl rfl dX9_clear_22 (fun H5 locs hT5 hS5 hu5 => ?_)
  exact hret _ _ _ _ hT5 hS5 trivial dX9_clear_25
set_option maxHeartbeats 4000000 in
set_option maxRecDepth 100000 in
theorem c_X6_restart (l : Launch) (G : hG) (Y : hW) (o : Nat) (hY : h_On Y o (siE tF o)) : hMv l yX6_restart cX6_restart 1 none 0 0 G Y [.ref (o)] (fun H => True) (fun H H1 => True) := by
  refine h_ofv (by decide +kernel) (Nat.le_of_ble_eq_true rfl) ?_
  intro p e s m args below meth c H0 ls Q hx hb hts hown hml hK hT0 hpr hS0 hl hret
  have hl : lv_has ls 1 [(0, .ref (o))] := hl
  refine lv_aload_n hx hb dX6_restart_0 rfl (lv_at hl 0 rfl) ?_
  refine lv_iconst (v := 0) hx hb dX6_restart_1 (by decide) ?_
  refine h_puti (C := RX6) (T := TX6) (N := 4) hx hb hts inX6 tyX6 tyX6_ok nmX6 hown hK hT0 (fun _ h => h) hS0 (hY.o rfl) rfl 0 rfl wF_X6_9 rfl rfl trivial rfl rfl dX6_restart_2 (fun H1 locs hT1 hS1 hu1 => ?_)
  refine lv_aload_n hx hb dX6_restart_5 rfl (lv_at hl 0 rfl) ?_
  refine lv_iconst (v := 0) hx hb dX6_restart_6 (by decide) ?_
  refine h_puti (C := RX6) (T := TX6) (N := 4) hx hb hts inX6 tyX6 tyX6_ok nmX6 hown hK hT1 (fun _ h => h) hS1 (hY.o rfl) rfl 1 rfl wF_X6_15 rfl rfl rfl rfl rfl dX6_restart_7 (fun H2 locs hT2 hS2 hu2 => ?_)
  refine lv_aload_n hx hb dX6_restart_10 rfl (lv_at hl 0 rfl) ?_
  refine lv_iconst (v := (-1)) hx hb dX6_restart_11 (by decide) ?_
  refine h_puti (C := RX6) (T := TX6) (N := 4) hx hb hts inX6 tyX6 tyX6_ok nmX6 hown hK hT2 (fun _ h => h) hS2 (hY.o rfl) rfl 2 rfl wF_X6_18 rfl rfl rfl rfl rfl dX6_restart_12 (fun H3 locs hT3 hS3 hu3 => ?_)
  refine lv_aload_n hx hb dX6_restart_15 rfl (lv_at hl 0 rfl) ?_
  refine lv_iconst (v := (-1)) hx hb dX6_restart_16 (by decide) ?_
  refine h_puti (C := RX6) (T := TX6) (N := 4) hx hb hts inX6 tyX6 tyX6_ok nmX6 hown hK hT3 (fun _ h => h) hS3 (hY.o rfl) rfl 3 rfl wF_X6_21 rfl rfl rfl rfl rfl dX6_restart_17 (fun H4 locs hT4 hS4 hu4 => ?_)
  exact hret _ _ _ _ hT4 hS4 trivial dX6_restart_20
set_option maxHeartbeats 4000000 in
set_option maxRecDepth 100000 in
theorem c_X0_clear (l : Launch) (G : hG) (Y : hW) (o : Nat) (hY : h_On Y o (boE tF o)) : hMv l yX0_clear cX0_clear 1 none 1 23 G Y [.ref (o)] (fun H => True) (fun H H1 => True) := by
  refine h_ofv (by decide +kernel) (Nat.le_of_ble_eq_true rfl) ?_
  intro p e s m args below meth c H0 ls Q hx hb hts hown hml hK hT0 hpr hS0 hl hret
  have hl : lv_has ls 1 [(0, .ref (o))] := hl
  refine lv_aload_n hx hb dX0_clear_0 rfl (lv_at hl 0 rfl) ?_
  refine h_getr (C := RX0) (T := TX0) (N := 6) hx hb hts inX0 hown hK hT0 (hY.o rfl) rfl 0 rfl wF_X0_9 rfl dX0_clear_1 ?_
  refine lv_iconst (v := 0) hx hb dX0_clear_4 (by decide) ?_
  refine h_callSv (rest := []) (As := [.ref (o + 1), .int 0]) hx hb hml hown hts hK hT0 (fun _ h => h) hS0 (c_fill l G Y (o + 1) 10 _ 0 (hY.at 1 rfl) (by decide) (fun _ _ => rfl)) trivial wd_J7_fill_53178 wS_J7_fill_53178 wL_X0_31 rfl hl.1 rfl (Nat.le_of_ble_eq_true rfl) dX0_clear_5 ⟨Nat.le_of_ble_eq_true rfl, Nat.le_of_ble_eq_true rfl⟩ ⟨Nat.zero_le _, Nat.zero_le _⟩ (fun H1 locs hp1 hT1 hS1 hk1 => ?_)
  refine lv_aload_n hx hb dX0_clear_8 rfl (lv_at hl 0 rfl) ?_
  refine h_getr (C := RX0) (T := TX0) (N := 6) hx hb hts inX0 hown hK hT1 (hY.o rfl) rfl 1 rfl wF_X0_15 rfl dX0_clear_9 ?_
  refine lv_iconst (v := 0) hx hb dX0_clear_12 (by decide) ?_
  refine h_callSv (rest := []) (As := [.ref (o + 2), .int 0]) hx hb hml hown hts hK hT1 (fun _ h => h) hS1 (c_fill l G Y (o + 2) 8 _ 0 (hY.at 2 rfl) (by decide) (fun _ _ => rfl)) trivial wd_J7_fill_53178 wS_J7_fill_53178 wL_X0_31 rfl hl.1 rfl (Nat.le_of_ble_eq_true rfl) dX0_clear_13 ⟨Nat.le_of_ble_eq_true rfl, Nat.le_of_ble_eq_true rfl⟩ ⟨Nat.zero_le _, Nat.zero_le _⟩ (fun H2 locs hp2 hT2 hS2 hk2 => ?_)
  refine lv_aload_n hx hb dX0_clear_16 rfl (lv_at hl 0 rfl) ?_
  refine h_getr (C := RX0) (T := TX0) (N := 6) hx hb hts inX0 hown hK hT2 (hY.o rfl) rfl 2 rfl wF_X0_18 rfl dX0_clear_17 ?_
  refine lv_iconst (v := 0) hx hb dX0_clear_20 (by decide) ?_
  refine h_callSv (rest := []) (As := [.ref (o + 3), .int 0]) hx hb hml hown hts hK hT2 (fun _ h => h) hS2 (c_fill l G Y (o + 3) 8 _ 0 (hY.at 3 rfl) (by decide) (fun _ _ => rfl)) trivial wd_J7_fill_53178 wS_J7_fill_53178 wL_X0_31 rfl hl.1 rfl (Nat.le_of_ble_eq_true rfl) dX0_clear_21 ⟨Nat.le_of_ble_eq_true rfl, Nat.le_of_ble_eq_true rfl⟩ ⟨Nat.zero_le _, Nat.zero_le _⟩ (fun H3 locs hp3 hT3 hS3 hk3 => ?_)
  refine lv_aload_n hx hb dX0_clear_24 rfl (lv_at hl 0 rfl) ?_
  refine lv_iconst (v := 0) hx hb dX0_clear_25 (by decide) ?_
  refine h_puti (C := RX0) (T := TX0) (N := 6) hx hb hts inX0 tyX0 tyX0_ok nmX0 hown hK hT3 (fun _ h => h) hS3 (hY.o rfl) rfl 5 rfl wF_X0_27 rfl rfl rfl rfl rfl dX0_clear_26 (fun H4 locs hT4 hS4 hu4 => ?_)
  exact hret _ _ _ _ hT4 hS4 trivial dX0_clear_29
set_option maxHeartbeats 4000000 in
set_option maxRecDepth 100000 in
theorem c_X2_slotOf (l : Launch) (G : hG) (Y : hW) (o : Nat) (hY : h_On Y o (quE tF o)) (u1 : Int32) : hMi l yX2_slotOf cX2_slotOf 4 (some .int) 0 0 G Y [.ref (o), .int u1] (fun H => True) (fun H r H1 => r = (-1) ∧ H1 = H) := by
  refine h_ofi (by decide +kernel) (Nat.le_of_ble_eq_true rfl) ?_
  intro p e s m args below meth c H0 ls Q hx hb hts hown hml hK hT0 hpr hS0 hl hret
  have hl : lv_has ls 4 [(0, .ref (o)), (1, .int u1)] := hl
  refine lv_iconst (v := 0) hx hb dX2_slotOf_0 (by decide) ?_
  refine lv_istore_n (lv' := [(2, .int 0), (0, .ref (o)), (1, .int u1)]) hx hb dX2_slotOf_1 rfl hl (by decide) rfl (fun ls hl => ?_)
  refine lv_iload_n hx hb dX2_slotOf_2 rfl (lv_at hl 0 rfl) ?_
  refine lv_bipush (v := 8) hx hb dX2_slotOf_3 (by decide) ?_
  refine lv_icmp_ge (tgt := 53) hx hb dX2_slotOf_5 (by decide) (fun h => absurd h (by decide)) (fun _ => ?_)
  refine lv_iconst (v := 0) hx hb dX2_slotOf_8 (by decide) ?_
  refine lv_istore_n (lv' := [(3, .int 0), (2, .int 0), (0, .ref (o)), (1, .int u1)]) hx hb dX2_slotOf_9 rfl hl (by decide) rfl (fun ls hl => ?_)
  refine lv_iload_n hx hb dX2_slotOf_10 rfl (lv_at hl 0 rfl) ?_
  refine lv_aload_n hx hb dX2_slotOf_11 rfl (lv_at hl 2 rfl) ?_
  refine h_getr (C := RX2) (T := TX2) (N := 5) hx hb hts inX2 hown hK hT0 (hY.o rfl) rfl 4 rfl wF_X2_24 rfl dX2_slotOf_12 ?_
  refine lv_iload_n hx hb dX2_slotOf_15 rfl (lv_at hl 1 rfl) ?_
  refine h_iald hx hb hK hT0 (hY.at 5 rfl) (h_inc (by decide)) dX2_slotOf_16 (fun p2 => ?_)
  refine h_top (v := 0) p2 ?_
  refine lv_icmp_ge (tgt := 47) hx hb dX2_slotOf_17 (by decide) (fun _ => ?_) (fun h => absurd (by decide) h)
  refine lv_iinc (v := 1) (lv' := [(2, .int 1), (3, .int 0), (0, .ref (o)), (1, .int u1)]) hx hb dX2_slotOf_47 hl (k := 1) rfl (by decide) (by decide) rfl (fun ls hl => ?_)
  refine lv_goto (tgt := 2) hx hb dX2_slotOf_50 (by decide) ?_
  refine lv_iload_n hx hb dX2_slotOf_2 rfl (lv_at hl 0 rfl) ?_
  refine lv_bipush (v := 8) hx hb dX2_slotOf_3 (by decide) ?_
  refine lv_icmp_ge (tgt := 53) hx hb dX2_slotOf_5 (by decide) (fun h => absurd h (by decide)) (fun _ => ?_)
  refine lv_iconst (v := 0) hx hb dX2_slotOf_8 (by decide) ?_
  refine lv_istore_n (lv' := [(3, .int 0), (2, .int 1), (0, .ref (o)), (1, .int u1)]) hx hb dX2_slotOf_9 rfl hl (by decide) rfl (fun ls hl => ?_)
  refine lv_iload_n hx hb dX2_slotOf_10 rfl (lv_at hl 0 rfl) ?_
  refine lv_aload_n hx hb dX2_slotOf_11 rfl (lv_at hl 2 rfl) ?_
  refine h_getr (C := RX2) (T := TX2) (N := 5) hx hb hts inX2 hown hK hT0 (hY.o rfl) rfl 4 rfl wF_X2_24 rfl dX2_slotOf_12 ?_
  refine lv_iload_n hx hb dX2_slotOf_15 rfl (lv_at hl 1 rfl) ?_
  refine h_iald hx hb hK hT0 (hY.at 5 rfl) (h_inc (by decide)) dX2_slotOf_16 (fun p5 => ?_)
  refine h_top (v := 0) p5 ?_
  refine lv_icmp_ge (tgt := 47) hx hb dX2_slotOf_17 (by decide) (fun _ => ?_) (fun h => absurd (by decide) h)
  refine lv_iinc (v := 2) (lv' := [(2, .int 2), (3, .int 0), (0, .ref (o)), (1, .int u1)]) hx hb dX2_slotOf_47 hl (k := 1) rfl (by decide) (by decide) rfl (fun ls hl => ?_)
  refine lv_goto (tgt := 2) hx hb dX2_slotOf_50 (by decide) ?_
  refine lv_iload_n hx hb dX2_slotOf_2 rfl (lv_at hl 0 rfl) ?_
  refine lv_bipush (v := 8) hx hb dX2_slotOf_3 (by decide) ?_
  refine lv_icmp_ge (tgt := 53) hx hb dX2_slotOf_5 (by decide) (fun h => absurd h (by decide)) (fun _ => ?_)
  refine lv_iconst (v := 0) hx hb dX2_slotOf_8 (by decide) ?_
  refine lv_istore_n (lv' := [(3, .int 0), (2, .int 2), (0, .ref (o)), (1, .int u1)]) hx hb dX2_slotOf_9 rfl hl (by decide) rfl (fun ls hl => ?_)
  refine lv_iload_n hx hb dX2_slotOf_10 rfl (lv_at hl 0 rfl) ?_
  refine lv_aload_n hx hb dX2_slotOf_11 rfl (lv_at hl 2 rfl) ?_
  refine h_getr (C := RX2) (T := TX2) (N := 5) hx hb hts inX2 hown hK hT0 (hY.o rfl) rfl 4 rfl wF_X2_24 rfl dX2_slotOf_12 ?_
  refine lv_iload_n hx hb dX2_slotOf_15 rfl (lv_at hl 1 rfl) ?_
  refine h_iald hx hb hK hT0 (hY.at 5 rfl) (h_inc (by decide)) dX2_slotOf_16 (fun p8 => ?_)
  refine h_top (v := 0) p8 ?_
  refine lv_icmp_ge (tgt := 47) hx hb dX2_slotOf_17 (by decide) (fun _ => ?_) (fun h => absurd (by decide) h)
  refine lv_iinc (v := 3) (lv' := [(2, .int 3), (3, .int 0), (0, .ref (o)), (1, .int u1)]) hx hb dX2_slotOf_47 hl (k := 1) rfl (by decide) (by decide) rfl (fun ls hl => ?_)
  refine lv_goto (tgt := 2) hx hb dX2_slotOf_50 (by decide) ?_
  refine lv_iload_n hx hb dX2_slotOf_2 rfl (lv_at hl 0 rfl) ?_
  refine lv_bipush (v := 8) hx hb dX2_slotOf_3 (by decide) ?_
  refine lv_icmp_ge (tgt := 53) hx hb dX2_slotOf_5 (by decide) (fun h => absurd h (by decide)) (fun _ => ?_)
  refine lv_iconst (v := 0) hx hb dX2_slotOf_8 (by decide) ?_
  refine lv_istore_n (lv' := [(3, .int 0), (2, .int 3), (0, .ref (o)), (1, .int u1)]) hx hb dX2_slotOf_9 rfl hl (by decide) rfl (fun ls hl => ?_)
  refine lv_iload_n hx hb dX2_slotOf_10 rfl (lv_at hl 0 rfl) ?_
  refine lv_aload_n hx hb dX2_slotOf_11 rfl (lv_at hl 2 rfl) ?_
  refine h_getr (C := RX2) (T := TX2) (N := 5) hx hb hts inX2 hown hK hT0 (hY.o rfl) rfl 4 rfl wF_X2_24 rfl dX2_slotOf_12 ?_
  refine lv_iload_n hx hb dX2_slotOf_15 rfl (lv_at hl 1 rfl) ?_
  refine h_iald hx hb hK hT0 (hY.at 5 rfl) (h_inc (by decide)) dX2_slotOf_16 (fun p11 => ?_)
  refine h_top (v := 0) p11 ?_
  refine lv_icmp_ge (tgt := 47) hx hb dX2_slotOf_17 (by decide) (fun _ => ?_) (fun h => absurd (by decide) h)
  refine lv_iinc (v := 4) (lv' := [(2, .int 4), (3, .int 0), (0, .ref (o)), (1, .int u1)]) hx hb dX2_slotOf_47 hl (k := 1) rfl (by decide) (by decide) rfl (fun ls hl => ?_)
  refine lv_goto (tgt := 2) hx hb dX2_slotOf_50 (by decide) ?_
  refine lv_iload_n hx hb dX2_slotOf_2 rfl (lv_at hl 0 rfl) ?_
  refine lv_bipush (v := 8) hx hb dX2_slotOf_3 (by decide) ?_
  refine lv_icmp_ge (tgt := 53) hx hb dX2_slotOf_5 (by decide) (fun h => absurd h (by decide)) (fun _ => ?_)
  refine lv_iconst (v := 0) hx hb dX2_slotOf_8 (by decide) ?_
  refine lv_istore_n (lv' := [(3, .int 0), (2, .int 4), (0, .ref (o)), (1, .int u1)]) hx hb dX2_slotOf_9 rfl hl (by decide) rfl (fun ls hl => ?_)
  refine lv_iload_n hx hb dX2_slotOf_10 rfl (lv_at hl 0 rfl) ?_
  refine lv_aload_n hx hb dX2_slotOf_11 rfl (lv_at hl 2 rfl) ?_
  refine h_getr (C := RX2) (T := TX2) (N := 5) hx hb hts inX2 hown hK hT0 (hY.o rfl) rfl 4 rfl wF_X2_24 rfl dX2_slotOf_12 ?_
  refine lv_iload_n hx hb dX2_slotOf_15 rfl (lv_at hl 1 rfl) ?_
  refine h_iald hx hb hK hT0 (hY.at 5 rfl) (h_inc (by decide)) dX2_slotOf_16 (fun p14 => ?_)
  refine h_top (v := 0) p14 ?_
  refine lv_icmp_ge (tgt := 47) hx hb dX2_slotOf_17 (by decide) (fun _ => ?_) (fun h => absurd (by decide) h)
  refine lv_iinc (v := 5) (lv' := [(2, .int 5), (3, .int 0), (0, .ref (o)), (1, .int u1)]) hx hb dX2_slotOf_47 hl (k := 1) rfl (by decide) (by decide) rfl (fun ls hl => ?_)
  refine lv_goto (tgt := 2) hx hb dX2_slotOf_50 (by decide) ?_
  refine lv_iload_n hx hb dX2_slotOf_2 rfl (lv_at hl 0 rfl) ?_
  refine lv_bipush (v := 8) hx hb dX2_slotOf_3 (by decide) ?_
  refine lv_icmp_ge (tgt := 53) hx hb dX2_slotOf_5 (by decide) (fun h => absurd h (by decide)) (fun _ => ?_)
  refine lv_iconst (v := 0) hx hb dX2_slotOf_8 (by decide) ?_
  refine lv_istore_n (lv' := [(3, .int 0), (2, .int 5), (0, .ref (o)), (1, .int u1)]) hx hb dX2_slotOf_9 rfl hl (by decide) rfl (fun ls hl => ?_)
  refine lv_iload_n hx hb dX2_slotOf_10 rfl (lv_at hl 0 rfl) ?_
  refine lv_aload_n hx hb dX2_slotOf_11 rfl (lv_at hl 2 rfl) ?_
  refine h_getr (C := RX2) (T := TX2) (N := 5) hx hb hts inX2 hown hK hT0 (hY.o rfl) rfl 4 rfl wF_X2_24 rfl dX2_slotOf_12 ?_
  refine lv_iload_n hx hb dX2_slotOf_15 rfl (lv_at hl 1 rfl) ?_
  refine h_iald hx hb hK hT0 (hY.at 5 rfl) (h_inc (by decide)) dX2_slotOf_16 (fun p17 => ?_)
  refine h_top (v := 0) p17 ?_
  refine lv_icmp_ge (tgt := 47) hx hb dX2_slotOf_17 (by decide) (fun _ => ?_) (fun h => absurd (by decide) h)
  refine lv_iinc (v := 6) (lv' := [(2, .int 6), (3, .int 0), (0, .ref (o)), (1, .int u1)]) hx hb dX2_slotOf_47 hl (k := 1) rfl (by decide) (by decide) rfl (fun ls hl => ?_)
  refine lv_goto (tgt := 2) hx hb dX2_slotOf_50 (by decide) ?_
  refine lv_iload_n hx hb dX2_slotOf_2 rfl (lv_at hl 0 rfl) ?_
  refine lv_bipush (v := 8) hx hb dX2_slotOf_3 (by decide) ?_
  refine lv_icmp_ge (tgt := 53) hx hb dX2_slotOf_5 (by decide) (fun h => absurd h (by decide)) (fun _ => ?_)
  refine lv_iconst (v := 0) hx hb dX2_slotOf_8 (by decide) ?_
  refine lv_istore_n (lv' := [(3, .int 0), (2, .int 6), (0, .ref (o)), (1, .int u1)]) hx hb dX2_slotOf_9 rfl hl (by decide) rfl (fun ls hl => ?_)
  refine lv_iload_n hx hb dX2_slotOf_10 rfl (lv_at hl 0 rfl) ?_
  refine lv_aload_n hx hb dX2_slotOf_11 rfl (lv_at hl 2 rfl) ?_
  refine h_getr (C := RX2) (T := TX2) (N := 5) hx hb hts inX2 hown hK hT0 (hY.o rfl) rfl 4 rfl wF_X2_24 rfl dX2_slotOf_12 ?_
  refine lv_iload_n hx hb dX2_slotOf_15 rfl (lv_at hl 1 rfl) ?_
  refine h_iald hx hb hK hT0 (hY.at 5 rfl) (h_inc (by decide)) dX2_slotOf_16 (fun p20 => ?_)
  refine h_top (v := 0) p20 ?_
  refine lv_icmp_ge (tgt := 47) hx hb dX2_slotOf_17 (by decide) (fun _ => ?_) (fun h => absurd (by decide) h)
  refine lv_iinc (v := 7) (lv' := [(2, .int 7), (3, .int 0), (0, .ref (o)), (1, .int u1)]) hx hb dX2_slotOf_47 hl (k := 1) rfl (by decide) (by decide) rfl (fun ls hl => ?_)
  refine lv_goto (tgt := 2) hx hb dX2_slotOf_50 (by decide) ?_
  refine lv_iload_n hx hb dX2_slotOf_2 rfl (lv_at hl 0 rfl) ?_
  refine lv_bipush (v := 8) hx hb dX2_slotOf_3 (by decide) ?_
  refine lv_icmp_ge (tgt := 53) hx hb dX2_slotOf_5 (by decide) (fun h => absurd h (by decide)) (fun _ => ?_)
  refine lv_iconst (v := 0) hx hb dX2_slotOf_8 (by decide) ?_
  refine lv_istore_n (lv' := [(3, .int 0), (2, .int 7), (0, .ref (o)), (1, .int u1)]) hx hb dX2_slotOf_9 rfl hl (by decide) rfl (fun ls hl => ?_)
  refine lv_iload_n hx hb dX2_slotOf_10 rfl (lv_at hl 0 rfl) ?_
  refine lv_aload_n hx hb dX2_slotOf_11 rfl (lv_at hl 2 rfl) ?_
  refine h_getr (C := RX2) (T := TX2) (N := 5) hx hb hts inX2 hown hK hT0 (hY.o rfl) rfl 4 rfl wF_X2_24 rfl dX2_slotOf_12 ?_
  refine lv_iload_n hx hb dX2_slotOf_15 rfl (lv_at hl 1 rfl) ?_
  refine h_iald hx hb hK hT0 (hY.at 5 rfl) (h_inc (by decide)) dX2_slotOf_16 (fun p23 => ?_)
  refine h_top (v := 0) p23 ?_
  refine lv_icmp_ge (tgt := 47) hx hb dX2_slotOf_17 (by decide) (fun _ => ?_) (fun h => absurd (by decide) h)
  refine lv_iinc (v := 8) (lv' := [(2, .int 8), (3, .int 0), (0, .ref (o)), (1, .int u1)]) hx hb dX2_slotOf_47 hl (k := 1) rfl (by decide) (by decide) rfl (fun ls hl => ?_)
  refine lv_goto (tgt := 2) hx hb dX2_slotOf_50 (by decide) ?_
  refine lv_iload_n hx hb dX2_slotOf_2 rfl (lv_at hl 0 rfl) ?_
  refine lv_bipush (v := 8) hx hb dX2_slotOf_3 (by decide) ?_
  refine lv_icmp_ge (tgt := 53) hx hb dX2_slotOf_5 (by decide) (fun _ => ?_) (fun h => absurd (by decide) h)
  refine lv_iconst (v := (-1)) hx hb dX2_slotOf_53 (by decide) ?_
  exact hret _ _ _ _ _ hT0 hS0 ⟨rfl, rfl⟩ dX2_slotOf_54
set_option maxHeartbeats 4000000 in
set_option maxRecDepth 100000 in
theorem c_X2_total (l : Launch) (G : hG) (Y : hW) (o : Nat) (hY : h_On Y o (quE tF o)) : hMi l yX2_total cX2_total 3 (some .int) 0 0 G Y [.ref (o)] (fun H => True) (fun H r H1 => r = 0 ∧ H1 = H) := by
  refine h_ofi (by decide +kernel) (Nat.le_of_ble_eq_true rfl) ?_
  intro p e s m args below meth c H0 ls Q hx hb hts hown hml hK hT0 hpr hS0 hl hret
  have hl : lv_has ls 3 [(0, .ref (o))] := hl
  refine lv_iconst (v := 0) hx hb dX2_total_0 (by decide) ?_
  refine lv_istore_n (lv' := [(1, .int 0), (0, .ref (o))]) hx hb dX2_total_1 rfl hl (by decide) rfl (fun ls hl => ?_)
  refine lv_iconst (v := 0) hx hb dX2_total_2 (by decide) ?_
  refine lv_istore_n (lv' := [(2, .int 0), (1, .int 0), (0, .ref (o))]) hx hb dX2_total_3 rfl hl (by decide) rfl (fun ls hl => ?_)
  refine lv_iload_n hx hb dX2_total_4 rfl (lv_at hl 0 rfl) ?_
  refine lv_bipush (v := 8) hx hb dX2_total_5 (by decide) ?_
  refine lv_icmp_ge (tgt := 25) hx hb dX2_total_7 (by decide) (fun h => absurd h (by decide)) (fun _ => ?_)
  refine lv_iload_n hx hb dX2_total_10 rfl (lv_at hl 1 rfl) ?_
  refine lv_aload_n hx hb dX2_total_11 rfl (lv_at hl 2 rfl) ?_
  refine h_getr (C := RX2) (T := TX2) (N := 5) hx hb hts inX2 hown hK hT0 (hY.o rfl) rfl 4 rfl wF_X2_24 rfl dX2_total_12 ?_
  refine lv_iload_n hx hb dX2_total_15 rfl (lv_at hl 0 rfl) ?_
  refine h_iald hx hb hK hT0 (hY.at 5 rfl) (h_inc (by decide)) dX2_total_16 (fun p2 => ?_)
  refine h_top (v := 0) p2 ?_
  refine lv_iadd hx hb dX2_total_17 ?_
  refine h_top (v := 0) (by decide) ?_
  refine lv_istore_n (lv' := [(1, .int 0), (2, .int 0), (0, .ref (o))]) hx hb dX2_total_18 rfl hl (by decide) rfl (fun ls hl => ?_)
  refine lv_iinc (v := 1) (lv' := [(2, .int 1), (1, .int 0), (0, .ref (o))]) hx hb dX2_total_19 hl (k := 1) rfl (by decide) (by decide) rfl (fun ls hl => ?_)
  refine lv_goto (tgt := 4) hx hb dX2_total_22 (by decide) ?_
  refine lv_iload_n hx hb dX2_total_4 rfl (lv_at hl 0 rfl) ?_
  refine lv_bipush (v := 8) hx hb dX2_total_5 (by decide) ?_
  refine lv_icmp_ge (tgt := 25) hx hb dX2_total_7 (by decide) (fun h => absurd h (by decide)) (fun _ => ?_)
  refine lv_iload_n hx hb dX2_total_10 rfl (lv_at hl 1 rfl) ?_
  refine lv_aload_n hx hb dX2_total_11 rfl (lv_at hl 2 rfl) ?_
  refine h_getr (C := RX2) (T := TX2) (N := 5) hx hb hts inX2 hown hK hT0 (hY.o rfl) rfl 4 rfl wF_X2_24 rfl dX2_total_12 ?_
  refine lv_iload_n hx hb dX2_total_15 rfl (lv_at hl 0 rfl) ?_
  refine h_iald hx hb hK hT0 (hY.at 5 rfl) (h_inc (by decide)) dX2_total_16 (fun p4 => ?_)
  refine h_top (v := 0) p4 ?_
  refine lv_iadd hx hb dX2_total_17 ?_
  refine h_top (v := 0) (by decide) ?_
  refine lv_istore_n (lv' := [(1, .int 0), (2, .int 1), (0, .ref (o))]) hx hb dX2_total_18 rfl hl (by decide) rfl (fun ls hl => ?_)
  refine lv_iinc (v := 2) (lv' := [(2, .int 2), (1, .int 0), (0, .ref (o))]) hx hb dX2_total_19 hl (k := 1) rfl (by decide) (by decide) rfl (fun ls hl => ?_)
  refine lv_goto (tgt := 4) hx hb dX2_total_22 (by decide) ?_
  refine lv_iload_n hx hb dX2_total_4 rfl (lv_at hl 0 rfl) ?_
  refine lv_bipush (v := 8) hx hb dX2_total_5 (by decide) ?_
  refine lv_icmp_ge (tgt := 25) hx hb dX2_total_7 (by decide) (fun h => absurd h (by decide)) (fun _ => ?_)
  refine lv_iload_n hx hb dX2_total_10 rfl (lv_at hl 1 rfl) ?_
  refine lv_aload_n hx hb dX2_total_11 rfl (lv_at hl 2 rfl) ?_
  refine h_getr (C := RX2) (T := TX2) (N := 5) hx hb hts inX2 hown hK hT0 (hY.o rfl) rfl 4 rfl wF_X2_24 rfl dX2_total_12 ?_
  refine lv_iload_n hx hb dX2_total_15 rfl (lv_at hl 0 rfl) ?_
  refine h_iald hx hb hK hT0 (hY.at 5 rfl) (h_inc (by decide)) dX2_total_16 (fun p6 => ?_)
  refine h_top (v := 0) p6 ?_
  refine lv_iadd hx hb dX2_total_17 ?_
  refine h_top (v := 0) (by decide) ?_
  refine lv_istore_n (lv' := [(1, .int 0), (2, .int 2), (0, .ref (o))]) hx hb dX2_total_18 rfl hl (by decide) rfl (fun ls hl => ?_)
  refine lv_iinc (v := 3) (lv' := [(2, .int 3), (1, .int 0), (0, .ref (o))]) hx hb dX2_total_19 hl (k := 1) rfl (by decide) (by decide) rfl (fun ls hl => ?_)
  refine lv_goto (tgt := 4) hx hb dX2_total_22 (by decide) ?_
  refine lv_iload_n hx hb dX2_total_4 rfl (lv_at hl 0 rfl) ?_
  refine lv_bipush (v := 8) hx hb dX2_total_5 (by decide) ?_
  refine lv_icmp_ge (tgt := 25) hx hb dX2_total_7 (by decide) (fun h => absurd h (by decide)) (fun _ => ?_)
  refine lv_iload_n hx hb dX2_total_10 rfl (lv_at hl 1 rfl) ?_
  refine lv_aload_n hx hb dX2_total_11 rfl (lv_at hl 2 rfl) ?_
  refine h_getr (C := RX2) (T := TX2) (N := 5) hx hb hts inX2 hown hK hT0 (hY.o rfl) rfl 4 rfl wF_X2_24 rfl dX2_total_12 ?_
  refine lv_iload_n hx hb dX2_total_15 rfl (lv_at hl 0 rfl) ?_
  refine h_iald hx hb hK hT0 (hY.at 5 rfl) (h_inc (by decide)) dX2_total_16 (fun p8 => ?_)
  refine h_top (v := 0) p8 ?_
  refine lv_iadd hx hb dX2_total_17 ?_
  refine h_top (v := 0) (by decide) ?_
  refine lv_istore_n (lv' := [(1, .int 0), (2, .int 3), (0, .ref (o))]) hx hb dX2_total_18 rfl hl (by decide) rfl (fun ls hl => ?_)
  refine lv_iinc (v := 4) (lv' := [(2, .int 4), (1, .int 0), (0, .ref (o))]) hx hb dX2_total_19 hl (k := 1) rfl (by decide) (by decide) rfl (fun ls hl => ?_)
  refine lv_goto (tgt := 4) hx hb dX2_total_22 (by decide) ?_
  refine lv_iload_n hx hb dX2_total_4 rfl (lv_at hl 0 rfl) ?_
  refine lv_bipush (v := 8) hx hb dX2_total_5 (by decide) ?_
  refine lv_icmp_ge (tgt := 25) hx hb dX2_total_7 (by decide) (fun h => absurd h (by decide)) (fun _ => ?_)
  refine lv_iload_n hx hb dX2_total_10 rfl (lv_at hl 1 rfl) ?_
  refine lv_aload_n hx hb dX2_total_11 rfl (lv_at hl 2 rfl) ?_
  refine h_getr (C := RX2) (T := TX2) (N := 5) hx hb hts inX2 hown hK hT0 (hY.o rfl) rfl 4 rfl wF_X2_24 rfl dX2_total_12 ?_
  refine lv_iload_n hx hb dX2_total_15 rfl (lv_at hl 0 rfl) ?_
  refine h_iald hx hb hK hT0 (hY.at 5 rfl) (h_inc (by decide)) dX2_total_16 (fun p10 => ?_)
  refine h_top (v := 0) p10 ?_
  refine lv_iadd hx hb dX2_total_17 ?_
  refine h_top (v := 0) (by decide) ?_
  refine lv_istore_n (lv' := [(1, .int 0), (2, .int 4), (0, .ref (o))]) hx hb dX2_total_18 rfl hl (by decide) rfl (fun ls hl => ?_)
  refine lv_iinc (v := 5) (lv' := [(2, .int 5), (1, .int 0), (0, .ref (o))]) hx hb dX2_total_19 hl (k := 1) rfl (by decide) (by decide) rfl (fun ls hl => ?_)
  refine lv_goto (tgt := 4) hx hb dX2_total_22 (by decide) ?_
  refine lv_iload_n hx hb dX2_total_4 rfl (lv_at hl 0 rfl) ?_
  refine lv_bipush (v := 8) hx hb dX2_total_5 (by decide) ?_
  refine lv_icmp_ge (tgt := 25) hx hb dX2_total_7 (by decide) (fun h => absurd h (by decide)) (fun _ => ?_)
  refine lv_iload_n hx hb dX2_total_10 rfl (lv_at hl 1 rfl) ?_
  refine lv_aload_n hx hb dX2_total_11 rfl (lv_at hl 2 rfl) ?_
  refine h_getr (C := RX2) (T := TX2) (N := 5) hx hb hts inX2 hown hK hT0 (hY.o rfl) rfl 4 rfl wF_X2_24 rfl dX2_total_12 ?_
  refine lv_iload_n hx hb dX2_total_15 rfl (lv_at hl 0 rfl) ?_
  refine h_iald hx hb hK hT0 (hY.at 5 rfl) (h_inc (by decide)) dX2_total_16 (fun p12 => ?_)
  refine h_top (v := 0) p12 ?_
  refine lv_iadd hx hb dX2_total_17 ?_
  refine h_top (v := 0) (by decide) ?_
  refine lv_istore_n (lv' := [(1, .int 0), (2, .int 5), (0, .ref (o))]) hx hb dX2_total_18 rfl hl (by decide) rfl (fun ls hl => ?_)
  refine lv_iinc (v := 6) (lv' := [(2, .int 6), (1, .int 0), (0, .ref (o))]) hx hb dX2_total_19 hl (k := 1) rfl (by decide) (by decide) rfl (fun ls hl => ?_)
  refine lv_goto (tgt := 4) hx hb dX2_total_22 (by decide) ?_
  refine lv_iload_n hx hb dX2_total_4 rfl (lv_at hl 0 rfl) ?_
  refine lv_bipush (v := 8) hx hb dX2_total_5 (by decide) ?_
  refine lv_icmp_ge (tgt := 25) hx hb dX2_total_7 (by decide) (fun h => absurd h (by decide)) (fun _ => ?_)
  refine lv_iload_n hx hb dX2_total_10 rfl (lv_at hl 1 rfl) ?_
  refine lv_aload_n hx hb dX2_total_11 rfl (lv_at hl 2 rfl) ?_
  refine h_getr (C := RX2) (T := TX2) (N := 5) hx hb hts inX2 hown hK hT0 (hY.o rfl) rfl 4 rfl wF_X2_24 rfl dX2_total_12 ?_
  refine lv_iload_n hx hb dX2_total_15 rfl (lv_at hl 0 rfl) ?_
  refine h_iald hx hb hK hT0 (hY.at 5 rfl) (h_inc (by decide)) dX2_total_16 (fun p14 => ?_)
  refine h_top (v := 0) p14 ?_
  refine lv_iadd hx hb dX2_total_17 ?_
  refine h_top (v := 0) (by decide) ?_
  refine lv_istore_n (lv' := [(1, .int 0), (2, .int 6), (0, .ref (o))]) hx hb dX2_total_18 rfl hl (by decide) rfl (fun ls hl => ?_)
  refine lv_iinc (v := 7) (lv' := [(2, .int 7), (1, .int 0), (0, .ref (o))]) hx hb dX2_total_19 hl (k := 1) rfl (by decide) (by decide) rfl (fun ls hl => ?_)
  refine lv_goto (tgt := 4) hx hb dX2_total_22 (by decide) ?_
  refine lv_iload_n hx hb dX2_total_4 rfl (lv_at hl 0 rfl) ?_
  refine lv_bipush (v := 8) hx hb dX2_total_5 (by decide) ?_
  refine lv_icmp_ge (tgt := 25) hx hb dX2_total_7 (by decide) (fun h => absurd h (by decide)) (fun _ => ?_)
  refine lv_iload_n hx hb dX2_total_10 rfl (lv_at hl 1 rfl) ?_
  refine lv_aload_n hx hb dX2_total_11 rfl (lv_at hl 2 rfl) ?_
  refine h_getr (C := RX2) (T := TX2) (N := 5) hx hb hts inX2 hown hK hT0 (hY.o rfl) rfl 4 rfl wF_X2_24 rfl dX2_total_12 ?_
  refine lv_iload_n hx hb dX2_total_15 rfl (lv_at hl 0 rfl) ?_
  refine h_iald hx hb hK hT0 (hY.at 5 rfl) (h_inc (by decide)) dX2_total_16 (fun p16 => ?_)
  refine h_top (v := 0) p16 ?_
  refine lv_iadd hx hb dX2_total_17 ?_
  refine h_top (v := 0) (by decide) ?_
  refine lv_istore_n (lv' := [(1, .int 0), (2, .int 7), (0, .ref (o))]) hx hb dX2_total_18 rfl hl (by decide) rfl (fun ls hl => ?_)
  refine lv_iinc (v := 8) (lv' := [(2, .int 8), (1, .int 0), (0, .ref (o))]) hx hb dX2_total_19 hl (k := 1) rfl (by decide) (by decide) rfl (fun ls hl => ?_)
  refine lv_goto (tgt := 4) hx hb dX2_total_22 (by decide) ?_
  refine lv_iload_n hx hb dX2_total_4 rfl (lv_at hl 0 rfl) ?_
  refine lv_bipush (v := 8) hx hb dX2_total_5 (by decide) ?_
  refine lv_icmp_ge (tgt := 25) hx hb dX2_total_7 (by decide) (fun _ => ?_) (fun h => absurd (by decide) h)
  refine lv_iload_n hx hb dX2_total_25 rfl (lv_at hl 1 rfl) ?_
  exact hret _ _ _ _ _ hT0 hS0 ⟨rfl, rfl⟩ dX2_total_26
set_option maxHeartbeats 4000000 in
set_option maxRecDepth 100000 in
theorem c_X2_totalOf (l : Launch) (G : hG) (Y : hW) (o : Nat) (hY : h_On Y o (quE tF o)) (u1 : Int32) : hMi l yX2_totalOf cX2_totalOf 5 (some .int) 0 0 G Y [.ref (o), .int u1] (fun H => True) (fun H r H1 => r = 0 ∧ H1 = H) := by
  refine h_ofi (by decide +kernel) (Nat.le_of_ble_eq_true rfl) ?_
  intro p e s m args below meth c H0 ls Q hx hb hts hown hml hK hT0 hpr hS0 hl hret
  have hl : lv_has ls 5 [(0, .ref (o)), (1, .int u1)] := hl
  refine lv_iconst (v := 0) hx hb dX2_totalOf_0 (by decide) ?_
  refine lv_istore_n (lv' := [(2, .int 0), (0, .ref (o)), (1, .int u1)]) hx hb dX2_totalOf_1 rfl hl (by decide) rfl (fun ls hl => ?_)
  refine lv_iconst (v := 0) hx hb dX2_totalOf_2 (by decide) ?_
  refine lv_istore_n (lv' := [(3, .int 0), (2, .int 0), (0, .ref (o)), (1, .int u1)]) hx hb dX2_totalOf_3 rfl hl (by decide) rfl (fun ls hl => ?_)
  refine lv_iload_n hx hb dX2_totalOf_4 rfl (lv_at hl 0 rfl) ?_
  refine lv_bipush (v := 8) hx hb dX2_totalOf_5 (by decide) ?_
  refine lv_icmp_ge (tgt := 54) hx hb dX2_totalOf_7 (by decide) (fun h => absurd h (by decide)) (fun _ => ?_)
  refine lv_iconst (v := 0) hx hb dX2_totalOf_10 (by decide) ?_
  refine lv_istore (lv' := [(4, .int 0), (3, .int 0), (2, .int 0), (0, .ref (o)), (1, .int u1)]) hx hb dX2_totalOf_11 hl (by decide) rfl (fun ls hl => ?_)
  refine lv_iload hx hb dX2_totalOf_13 (lv_at hl 0 rfl) ?_
  refine lv_aload_n hx hb dX2_totalOf_15 rfl (lv_at hl 3 rfl) ?_
  refine h_getr (C := RX2) (T := TX2) (N := 5) hx hb hts inX2 hown hK hT0 (hY.o rfl) rfl 4 rfl wF_X2_24 rfl dX2_totalOf_16 ?_
  refine lv_iload_n hx hb dX2_totalOf_19 rfl (lv_at hl 1 rfl) ?_
  refine h_iald hx hb hK hT0 (hY.at 5 rfl) (h_inc (by decide)) dX2_totalOf_20 (fun p2 => ?_)
  refine h_top (v := 0) p2 ?_
  refine lv_icmp_ge (tgt := 48) hx hb dX2_totalOf_21 (by decide) (fun _ => ?_) (fun h => absurd (by decide) h)
  refine lv_iinc (v := 1) (lv' := [(3, .int 1), (4, .int 0), (2, .int 0), (0, .ref (o)), (1, .int u1)]) hx hb dX2_totalOf_48 hl (k := 1) rfl (by decide) (by decide) rfl (fun ls hl => ?_)
  refine lv_goto (tgt := 4) hx hb dX2_totalOf_51 (by decide) ?_
  refine lv_iload_n hx hb dX2_totalOf_4 rfl (lv_at hl 0 rfl) ?_
  refine lv_bipush (v := 8) hx hb dX2_totalOf_5 (by decide) ?_
  refine lv_icmp_ge (tgt := 54) hx hb dX2_totalOf_7 (by decide) (fun h => absurd h (by decide)) (fun _ => ?_)
  refine lv_iconst (v := 0) hx hb dX2_totalOf_10 (by decide) ?_
  refine lv_istore (lv' := [(4, .int 0), (3, .int 1), (2, .int 0), (0, .ref (o)), (1, .int u1)]) hx hb dX2_totalOf_11 hl (by decide) rfl (fun ls hl => ?_)
  refine lv_iload hx hb dX2_totalOf_13 (lv_at hl 0 rfl) ?_
  refine lv_aload_n hx hb dX2_totalOf_15 rfl (lv_at hl 3 rfl) ?_
  refine h_getr (C := RX2) (T := TX2) (N := 5) hx hb hts inX2 hown hK hT0 (hY.o rfl) rfl 4 rfl wF_X2_24 rfl dX2_totalOf_16 ?_
  refine lv_iload_n hx hb dX2_totalOf_19 rfl (lv_at hl 1 rfl) ?_
  refine h_iald hx hb hK hT0 (hY.at 5 rfl) (h_inc (by decide)) dX2_totalOf_20 (fun p5 => ?_)
  refine h_top (v := 0) p5 ?_
  refine lv_icmp_ge (tgt := 48) hx hb dX2_totalOf_21 (by decide) (fun _ => ?_) (fun h => absurd (by decide) h)
  refine lv_iinc (v := 2) (lv' := [(3, .int 2), (4, .int 0), (2, .int 0), (0, .ref (o)), (1, .int u1)]) hx hb dX2_totalOf_48 hl (k := 1) rfl (by decide) (by decide) rfl (fun ls hl => ?_)
  refine lv_goto (tgt := 4) hx hb dX2_totalOf_51 (by decide) ?_
  refine lv_iload_n hx hb dX2_totalOf_4 rfl (lv_at hl 0 rfl) ?_
  refine lv_bipush (v := 8) hx hb dX2_totalOf_5 (by decide) ?_
  refine lv_icmp_ge (tgt := 54) hx hb dX2_totalOf_7 (by decide) (fun h => absurd h (by decide)) (fun _ => ?_)
  refine lv_iconst (v := 0) hx hb dX2_totalOf_10 (by decide) ?_
  refine lv_istore (lv' := [(4, .int 0), (3, .int 2), (2, .int 0), (0, .ref (o)), (1, .int u1)]) hx hb dX2_totalOf_11 hl (by decide) rfl (fun ls hl => ?_)
  refine lv_iload hx hb dX2_totalOf_13 (lv_at hl 0 rfl) ?_
  refine lv_aload_n hx hb dX2_totalOf_15 rfl (lv_at hl 3 rfl) ?_
  refine h_getr (C := RX2) (T := TX2) (N := 5) hx hb hts inX2 hown hK hT0 (hY.o rfl) rfl 4 rfl wF_X2_24 rfl dX2_totalOf_16 ?_
  refine lv_iload_n hx hb dX2_totalOf_19 rfl (lv_at hl 1 rfl) ?_
  refine h_iald hx hb hK hT0 (hY.at 5 rfl) (h_inc (by decide)) dX2_totalOf_20 (fun p8 => ?_)
  refine h_top (v := 0) p8 ?_
  refine lv_icmp_ge (tgt := 48) hx hb dX2_totalOf_21 (by decide) (fun _ => ?_) (fun h => absurd (by decide) h)
  refine lv_iinc (v := 3) (lv' := [(3, .int 3), (4, .int 0), (2, .int 0), (0, .ref (o)), (1, .int u1)]) hx hb dX2_totalOf_48 hl (k := 1) rfl (by decide) (by decide) rfl (fun ls hl => ?_)
  refine lv_goto (tgt := 4) hx hb dX2_totalOf_51 (by decide) ?_
  refine lv_iload_n hx hb dX2_totalOf_4 rfl (lv_at hl 0 rfl) ?_
  refine lv_bipush (v := 8) hx hb dX2_totalOf_5 (by decide) ?_
  refine lv_icmp_ge (tgt := 54) hx hb dX2_totalOf_7 (by decide) (fun h => absurd h (by decide)) (fun _ => ?_)
  refine lv_iconst (v := 0) hx hb dX2_totalOf_10 (by decide) ?_
  refine lv_istore (lv' := [(4, .int 0), (3, .int 3), (2, .int 0), (0, .ref (o)), (1, .int u1)]) hx hb dX2_totalOf_11 hl (by decide) rfl (fun ls hl => ?_)
  refine lv_iload hx hb dX2_totalOf_13 (lv_at hl 0 rfl) ?_
  refine lv_aload_n hx hb dX2_totalOf_15 rfl (lv_at hl 3 rfl) ?_
  refine h_getr (C := RX2) (T := TX2) (N := 5) hx hb hts inX2 hown hK hT0 (hY.o rfl) rfl 4 rfl wF_X2_24 rfl dX2_totalOf_16 ?_
  refine lv_iload_n hx hb dX2_totalOf_19 rfl (lv_at hl 1 rfl) ?_
  refine h_iald hx hb hK hT0 (hY.at 5 rfl) (h_inc (by decide)) dX2_totalOf_20 (fun p11 => ?_)
  refine h_top (v := 0) p11 ?_
  refine lv_icmp_ge (tgt := 48) hx hb dX2_totalOf_21 (by decide) (fun _ => ?_) (fun h => absurd (by decide) h)
  refine lv_iinc (v := 4) (lv' := [(3, .int 4), (4, .int 0), (2, .int 0), (0, .ref (o)), (1, .int u1)]) hx hb dX2_totalOf_48 hl (k := 1) rfl (by decide) (by decide) rfl (fun ls hl => ?_)
  refine lv_goto (tgt := 4) hx hb dX2_totalOf_51 (by decide) ?_
  refine lv_iload_n hx hb dX2_totalOf_4 rfl (lv_at hl 0 rfl) ?_
  refine lv_bipush (v := 8) hx hb dX2_totalOf_5 (by decide) ?_
  refine lv_icmp_ge (tgt := 54) hx hb dX2_totalOf_7 (by decide) (fun h => absurd h (by decide)) (fun _ => ?_)
  refine lv_iconst (v := 0) hx hb dX2_totalOf_10 (by decide) ?_
  refine lv_istore (lv' := [(4, .int 0), (3, .int 4), (2, .int 0), (0, .ref (o)), (1, .int u1)]) hx hb dX2_totalOf_11 hl (by decide) rfl (fun ls hl => ?_)
  refine lv_iload hx hb dX2_totalOf_13 (lv_at hl 0 rfl) ?_
  refine lv_aload_n hx hb dX2_totalOf_15 rfl (lv_at hl 3 rfl) ?_
  refine h_getr (C := RX2) (T := TX2) (N := 5) hx hb hts inX2 hown hK hT0 (hY.o rfl) rfl 4 rfl wF_X2_24 rfl dX2_totalOf_16 ?_
  refine lv_iload_n hx hb dX2_totalOf_19 rfl (lv_at hl 1 rfl) ?_
  refine h_iald hx hb hK hT0 (hY.at 5 rfl) (h_inc (by decide)) dX2_totalOf_20 (fun p14 => ?_)
  refine h_top (v := 0) p14 ?_
  refine lv_icmp_ge (tgt := 48) hx hb dX2_totalOf_21 (by decide) (fun _ => ?_) (fun h => absurd (by decide) h)
  refine lv_iinc (v := 5) (lv' := [(3, .int 5), (4, .int 0), (2, .int 0), (0, .ref (o)), (1, .int u1)]) hx hb dX2_totalOf_48 hl (k := 1) rfl (by decide) (by decide) rfl (fun ls hl => ?_)
  refine lv_goto (tgt := 4) hx hb dX2_totalOf_51 (by decide) ?_
  refine lv_iload_n hx hb dX2_totalOf_4 rfl (lv_at hl 0 rfl) ?_
  refine lv_bipush (v := 8) hx hb dX2_totalOf_5 (by decide) ?_
  refine lv_icmp_ge (tgt := 54) hx hb dX2_totalOf_7 (by decide) (fun h => absurd h (by decide)) (fun _ => ?_)
  refine lv_iconst (v := 0) hx hb dX2_totalOf_10 (by decide) ?_
  refine lv_istore (lv' := [(4, .int 0), (3, .int 5), (2, .int 0), (0, .ref (o)), (1, .int u1)]) hx hb dX2_totalOf_11 hl (by decide) rfl (fun ls hl => ?_)
  refine lv_iload hx hb dX2_totalOf_13 (lv_at hl 0 rfl) ?_
  refine lv_aload_n hx hb dX2_totalOf_15 rfl (lv_at hl 3 rfl) ?_
  refine h_getr (C := RX2) (T := TX2) (N := 5) hx hb hts inX2 hown hK hT0 (hY.o rfl) rfl 4 rfl wF_X2_24 rfl dX2_totalOf_16 ?_
  refine lv_iload_n hx hb dX2_totalOf_19 rfl (lv_at hl 1 rfl) ?_
  refine h_iald hx hb hK hT0 (hY.at 5 rfl) (h_inc (by decide)) dX2_totalOf_20 (fun p17 => ?_)
  refine h_top (v := 0) p17 ?_
  refine lv_icmp_ge (tgt := 48) hx hb dX2_totalOf_21 (by decide) (fun _ => ?_) (fun h => absurd (by decide) h)
  refine lv_iinc (v := 6) (lv' := [(3, .int 6), (4, .int 0), (2, .int 0), (0, .ref (o)), (1, .int u1)]) hx hb dX2_totalOf_48 hl (k := 1) rfl (by decide) (by decide) rfl (fun ls hl => ?_)
  refine lv_goto (tgt := 4) hx hb dX2_totalOf_51 (by decide) ?_
  refine lv_iload_n hx hb dX2_totalOf_4 rfl (lv_at hl 0 rfl) ?_
  refine lv_bipush (v := 8) hx hb dX2_totalOf_5 (by decide) ?_
  refine lv_icmp_ge (tgt := 54) hx hb dX2_totalOf_7 (by decide) (fun h => absurd h (by decide)) (fun _ => ?_)
  refine lv_iconst (v := 0) hx hb dX2_totalOf_10 (by decide) ?_
  refine lv_istore (lv' := [(4, .int 0), (3, .int 6), (2, .int 0), (0, .ref (o)), (1, .int u1)]) hx hb dX2_totalOf_11 hl (by decide) rfl (fun ls hl => ?_)
  refine lv_iload hx hb dX2_totalOf_13 (lv_at hl 0 rfl) ?_
  refine lv_aload_n hx hb dX2_totalOf_15 rfl (lv_at hl 3 rfl) ?_
  refine h_getr (C := RX2) (T := TX2) (N := 5) hx hb hts inX2 hown hK hT0 (hY.o rfl) rfl 4 rfl wF_X2_24 rfl dX2_totalOf_16 ?_
  refine lv_iload_n hx hb dX2_totalOf_19 rfl (lv_at hl 1 rfl) ?_
  refine h_iald hx hb hK hT0 (hY.at 5 rfl) (h_inc (by decide)) dX2_totalOf_20 (fun p20 => ?_)
  refine h_top (v := 0) p20 ?_
  refine lv_icmp_ge (tgt := 48) hx hb dX2_totalOf_21 (by decide) (fun _ => ?_) (fun h => absurd (by decide) h)
  refine lv_iinc (v := 7) (lv' := [(3, .int 7), (4, .int 0), (2, .int 0), (0, .ref (o)), (1, .int u1)]) hx hb dX2_totalOf_48 hl (k := 1) rfl (by decide) (by decide) rfl (fun ls hl => ?_)
  refine lv_goto (tgt := 4) hx hb dX2_totalOf_51 (by decide) ?_
  refine lv_iload_n hx hb dX2_totalOf_4 rfl (lv_at hl 0 rfl) ?_
  refine lv_bipush (v := 8) hx hb dX2_totalOf_5 (by decide) ?_
  refine lv_icmp_ge (tgt := 54) hx hb dX2_totalOf_7 (by decide) (fun h => absurd h (by decide)) (fun _ => ?_)
  refine lv_iconst (v := 0) hx hb dX2_totalOf_10 (by decide) ?_
  refine lv_istore (lv' := [(4, .int 0), (3, .int 7), (2, .int 0), (0, .ref (o)), (1, .int u1)]) hx hb dX2_totalOf_11 hl (by decide) rfl (fun ls hl => ?_)
  refine lv_iload hx hb dX2_totalOf_13 (lv_at hl 0 rfl) ?_
  refine lv_aload_n hx hb dX2_totalOf_15 rfl (lv_at hl 3 rfl) ?_
  refine h_getr (C := RX2) (T := TX2) (N := 5) hx hb hts inX2 hown hK hT0 (hY.o rfl) rfl 4 rfl wF_X2_24 rfl dX2_totalOf_16 ?_
  refine lv_iload_n hx hb dX2_totalOf_19 rfl (lv_at hl 1 rfl) ?_
  refine h_iald hx hb hK hT0 (hY.at 5 rfl) (h_inc (by decide)) dX2_totalOf_20 (fun p23 => ?_)
  refine h_top (v := 0) p23 ?_
  refine lv_icmp_ge (tgt := 48) hx hb dX2_totalOf_21 (by decide) (fun _ => ?_) (fun h => absurd (by decide) h)
  refine lv_iinc (v := 8) (lv' := [(3, .int 8), (4, .int 0), (2, .int 0), (0, .ref (o)), (1, .int u1)]) hx hb dX2_totalOf_48 hl (k := 1) rfl (by decide) (by decide) rfl (fun ls hl => ?_)
  refine lv_goto (tgt := 4) hx hb dX2_totalOf_51 (by decide) ?_
  refine lv_iload_n hx hb dX2_totalOf_4 rfl (lv_at hl 0 rfl) ?_
  refine lv_bipush (v := 8) hx hb dX2_totalOf_5 (by decide) ?_
  refine lv_icmp_ge (tgt := 54) hx hb dX2_totalOf_7 (by decide) (fun _ => ?_) (fun h => absurd (by decide) h)
  refine lv_iload_n hx hb dX2_totalOf_54 rfl (lv_at hl 2 rfl) ?_
  exact hret _ _ _ _ _ hT0 hS0 ⟨rfl, rfl⟩ dX2_totalOf_55
set_option maxHeartbeats 4000000 in
set_option maxRecDepth 100000 in
theorem c_X3_isEmpty (l : Launch) (G : hG) (Y : hW) (o : Nat) (hY : h_On Y o (raE tF o)) : hMi l yX3_isEmpty cX3_isEmpty 2 (some .boolean) 0 0 G Y [.ref (o)] (fun H => True) (fun H r H1 => r = 1 ∧ H1 = H) := by
  refine h_ofz (by decide +kernel) (Nat.le_of_ble_eq_true rfl) ?_
  intro p e s m args below meth c H0 ls Q hx hb hts hown hml hK hT0 hpr hS0 hl hret
  have hl : lv_has ls 2 [(0, .ref (o))] := hl
  refine lv_iconst (v := 0) hx hb dX3_isEmpty_0 (by decide) ?_
  refine lv_istore_n (lv' := [(1, .int 0), (0, .ref (o))]) hx hb dX3_isEmpty_1 rfl hl (by decide) rfl (fun ls hl => ?_)
  refine lv_iload_n hx hb dX3_isEmpty_2 rfl (lv_at hl 0 rfl) ?_
  refine lv_bipush (v := 8) hx hb dX3_isEmpty_3 (by decide) ?_
  refine lv_icmp_ge (tgt := 25) hx hb dX3_isEmpty_5 (by decide) (fun h => absurd h (by decide)) (fun _ => ?_)
  refine lv_aload_n hx hb dX3_isEmpty_8 rfl (lv_at hl 1 rfl) ?_
  refine h_getr (C := RX3) (T := TX3) (N := 3) hx hb hts inX3 hown hK hT0 (hY.o rfl) rfl 2 rfl wF_X3_18 rfl dX3_isEmpty_9 ?_
  refine lv_iload_n hx hb dX3_isEmpty_12 rfl (lv_at hl 0 rfl) ?_
  refine h_iald hx hb hK hT0 (hY.at 3 rfl) (h_inc (by decide)) dX3_isEmpty_13 (fun p2 => ?_)
  refine h_top (v := 0) p2 ?_
  refine lv_if_le (tgt := 19) hx hb dX3_isEmpty_14 (by decide) (fun _ => ?_) (fun h => absurd (by decide) h)
  refine lv_iinc (v := 1) (lv' := [(1, .int 1), (0, .ref (o))]) hx hb dX3_isEmpty_19 hl (k := 0) rfl (by decide) (by decide) rfl (fun ls hl => ?_)
  refine lv_goto (tgt := 2) hx hb dX3_isEmpty_22 (by decide) ?_
  refine lv_iload_n hx hb dX3_isEmpty_2 rfl (lv_at hl 0 rfl) ?_
  refine lv_bipush (v := 8) hx hb dX3_isEmpty_3 (by decide) ?_
  refine lv_icmp_ge (tgt := 25) hx hb dX3_isEmpty_5 (by decide) (fun h => absurd h (by decide)) (fun _ => ?_)
  refine lv_aload_n hx hb dX3_isEmpty_8 rfl (lv_at hl 1 rfl) ?_
  refine h_getr (C := RX3) (T := TX3) (N := 3) hx hb hts inX3 hown hK hT0 (hY.o rfl) rfl 2 rfl wF_X3_18 rfl dX3_isEmpty_9 ?_
  refine lv_iload_n hx hb dX3_isEmpty_12 rfl (lv_at hl 0 rfl) ?_
  refine h_iald hx hb hK hT0 (hY.at 3 rfl) (h_inc (by decide)) dX3_isEmpty_13 (fun p5 => ?_)
  refine h_top (v := 0) p5 ?_
  refine lv_if_le (tgt := 19) hx hb dX3_isEmpty_14 (by decide) (fun _ => ?_) (fun h => absurd (by decide) h)
  refine lv_iinc (v := 2) (lv' := [(1, .int 2), (0, .ref (o))]) hx hb dX3_isEmpty_19 hl (k := 0) rfl (by decide) (by decide) rfl (fun ls hl => ?_)
  refine lv_goto (tgt := 2) hx hb dX3_isEmpty_22 (by decide) ?_
  refine lv_iload_n hx hb dX3_isEmpty_2 rfl (lv_at hl 0 rfl) ?_
  refine lv_bipush (v := 8) hx hb dX3_isEmpty_3 (by decide) ?_
  refine lv_icmp_ge (tgt := 25) hx hb dX3_isEmpty_5 (by decide) (fun h => absurd h (by decide)) (fun _ => ?_)
  refine lv_aload_n hx hb dX3_isEmpty_8 rfl (lv_at hl 1 rfl) ?_
  refine h_getr (C := RX3) (T := TX3) (N := 3) hx hb hts inX3 hown hK hT0 (hY.o rfl) rfl 2 rfl wF_X3_18 rfl dX3_isEmpty_9 ?_
  refine lv_iload_n hx hb dX3_isEmpty_12 rfl (lv_at hl 0 rfl) ?_
  refine h_iald hx hb hK hT0 (hY.at 3 rfl) (h_inc (by decide)) dX3_isEmpty_13 (fun p8 => ?_)
  refine h_top (v := 0) p8 ?_
  refine lv_if_le (tgt := 19) hx hb dX3_isEmpty_14 (by decide) (fun _ => ?_) (fun h => absurd (by decide) h)
  refine lv_iinc (v := 3) (lv' := [(1, .int 3), (0, .ref (o))]) hx hb dX3_isEmpty_19 hl (k := 0) rfl (by decide) (by decide) rfl (fun ls hl => ?_)
  refine lv_goto (tgt := 2) hx hb dX3_isEmpty_22 (by decide) ?_
  refine lv_iload_n hx hb dX3_isEmpty_2 rfl (lv_at hl 0 rfl) ?_
  refine lv_bipush (v := 8) hx hb dX3_isEmpty_3 (by decide) ?_
  refine lv_icmp_ge (tgt := 25) hx hb dX3_isEmpty_5 (by decide) (fun h => absurd h (by decide)) (fun _ => ?_)
  refine lv_aload_n hx hb dX3_isEmpty_8 rfl (lv_at hl 1 rfl) ?_
  refine h_getr (C := RX3) (T := TX3) (N := 3) hx hb hts inX3 hown hK hT0 (hY.o rfl) rfl 2 rfl wF_X3_18 rfl dX3_isEmpty_9 ?_
  refine lv_iload_n hx hb dX3_isEmpty_12 rfl (lv_at hl 0 rfl) ?_
  refine h_iald hx hb hK hT0 (hY.at 3 rfl) (h_inc (by decide)) dX3_isEmpty_13 (fun p11 => ?_)
  refine h_top (v := 0) p11 ?_
  refine lv_if_le (tgt := 19) hx hb dX3_isEmpty_14 (by decide) (fun _ => ?_) (fun h => absurd (by decide) h)
  refine lv_iinc (v := 4) (lv' := [(1, .int 4), (0, .ref (o))]) hx hb dX3_isEmpty_19 hl (k := 0) rfl (by decide) (by decide) rfl (fun ls hl => ?_)
  refine lv_goto (tgt := 2) hx hb dX3_isEmpty_22 (by decide) ?_
  refine lv_iload_n hx hb dX3_isEmpty_2 rfl (lv_at hl 0 rfl) ?_
  refine lv_bipush (v := 8) hx hb dX3_isEmpty_3 (by decide) ?_
  refine lv_icmp_ge (tgt := 25) hx hb dX3_isEmpty_5 (by decide) (fun h => absurd h (by decide)) (fun _ => ?_)
  refine lv_aload_n hx hb dX3_isEmpty_8 rfl (lv_at hl 1 rfl) ?_
  refine h_getr (C := RX3) (T := TX3) (N := 3) hx hb hts inX3 hown hK hT0 (hY.o rfl) rfl 2 rfl wF_X3_18 rfl dX3_isEmpty_9 ?_
  refine lv_iload_n hx hb dX3_isEmpty_12 rfl (lv_at hl 0 rfl) ?_
  refine h_iald hx hb hK hT0 (hY.at 3 rfl) (h_inc (by decide)) dX3_isEmpty_13 (fun p14 => ?_)
  refine h_top (v := 0) p14 ?_
  refine lv_if_le (tgt := 19) hx hb dX3_isEmpty_14 (by decide) (fun _ => ?_) (fun h => absurd (by decide) h)
  refine lv_iinc (v := 5) (lv' := [(1, .int 5), (0, .ref (o))]) hx hb dX3_isEmpty_19 hl (k := 0) rfl (by decide) (by decide) rfl (fun ls hl => ?_)
  refine lv_goto (tgt := 2) hx hb dX3_isEmpty_22 (by decide) ?_
  refine lv_iload_n hx hb dX3_isEmpty_2 rfl (lv_at hl 0 rfl) ?_
  refine lv_bipush (v := 8) hx hb dX3_isEmpty_3 (by decide) ?_
  refine lv_icmp_ge (tgt := 25) hx hb dX3_isEmpty_5 (by decide) (fun h => absurd h (by decide)) (fun _ => ?_)
  refine lv_aload_n hx hb dX3_isEmpty_8 rfl (lv_at hl 1 rfl) ?_
  refine h_getr (C := RX3) (T := TX3) (N := 3) hx hb hts inX3 hown hK hT0 (hY.o rfl) rfl 2 rfl wF_X3_18 rfl dX3_isEmpty_9 ?_
  refine lv_iload_n hx hb dX3_isEmpty_12 rfl (lv_at hl 0 rfl) ?_
  refine h_iald hx hb hK hT0 (hY.at 3 rfl) (h_inc (by decide)) dX3_isEmpty_13 (fun p17 => ?_)
  refine h_top (v := 0) p17 ?_
  refine lv_if_le (tgt := 19) hx hb dX3_isEmpty_14 (by decide) (fun _ => ?_) (fun h => absurd (by decide) h)
  refine lv_iinc (v := 6) (lv' := [(1, .int 6), (0, .ref (o))]) hx hb dX3_isEmpty_19 hl (k := 0) rfl (by decide) (by decide) rfl (fun ls hl => ?_)
  refine lv_goto (tgt := 2) hx hb dX3_isEmpty_22 (by decide) ?_
  refine lv_iload_n hx hb dX3_isEmpty_2 rfl (lv_at hl 0 rfl) ?_
  refine lv_bipush (v := 8) hx hb dX3_isEmpty_3 (by decide) ?_
  refine lv_icmp_ge (tgt := 25) hx hb dX3_isEmpty_5 (by decide) (fun h => absurd h (by decide)) (fun _ => ?_)
  refine lv_aload_n hx hb dX3_isEmpty_8 rfl (lv_at hl 1 rfl) ?_
  refine h_getr (C := RX3) (T := TX3) (N := 3) hx hb hts inX3 hown hK hT0 (hY.o rfl) rfl 2 rfl wF_X3_18 rfl dX3_isEmpty_9 ?_
  refine lv_iload_n hx hb dX3_isEmpty_12 rfl (lv_at hl 0 rfl) ?_
  refine h_iald hx hb hK hT0 (hY.at 3 rfl) (h_inc (by decide)) dX3_isEmpty_13 (fun p20 => ?_)
  refine h_top (v := 0) p20 ?_
  refine lv_if_le (tgt := 19) hx hb dX3_isEmpty_14 (by decide) (fun _ => ?_) (fun h => absurd (by decide) h)
  refine lv_iinc (v := 7) (lv' := [(1, .int 7), (0, .ref (o))]) hx hb dX3_isEmpty_19 hl (k := 0) rfl (by decide) (by decide) rfl (fun ls hl => ?_)
  refine lv_goto (tgt := 2) hx hb dX3_isEmpty_22 (by decide) ?_
  refine lv_iload_n hx hb dX3_isEmpty_2 rfl (lv_at hl 0 rfl) ?_
  refine lv_bipush (v := 8) hx hb dX3_isEmpty_3 (by decide) ?_
  refine lv_icmp_ge (tgt := 25) hx hb dX3_isEmpty_5 (by decide) (fun h => absurd h (by decide)) (fun _ => ?_)
  refine lv_aload_n hx hb dX3_isEmpty_8 rfl (lv_at hl 1 rfl) ?_
  refine h_getr (C := RX3) (T := TX3) (N := 3) hx hb hts inX3 hown hK hT0 (hY.o rfl) rfl 2 rfl wF_X3_18 rfl dX3_isEmpty_9 ?_
  refine lv_iload_n hx hb dX3_isEmpty_12 rfl (lv_at hl 0 rfl) ?_
  refine h_iald hx hb hK hT0 (hY.at 3 rfl) (h_inc (by decide)) dX3_isEmpty_13 (fun p23 => ?_)
  refine h_top (v := 0) p23 ?_
  refine lv_if_le (tgt := 19) hx hb dX3_isEmpty_14 (by decide) (fun _ => ?_) (fun h => absurd (by decide) h)
  refine lv_iinc (v := 8) (lv' := [(1, .int 8), (0, .ref (o))]) hx hb dX3_isEmpty_19 hl (k := 0) rfl (by decide) (by decide) rfl (fun ls hl => ?_)
  refine lv_goto (tgt := 2) hx hb dX3_isEmpty_22 (by decide) ?_
  refine lv_iload_n hx hb dX3_isEmpty_2 rfl (lv_at hl 0 rfl) ?_
  refine lv_bipush (v := 8) hx hb dX3_isEmpty_3 (by decide) ?_
  refine lv_icmp_ge (tgt := 25) hx hb dX3_isEmpty_5 (by decide) (fun _ => ?_) (fun h => absurd (by decide) h)
  refine lv_iconst (v := 1) hx hb dX3_isEmpty_25 (by decide) ?_
  exact hret _ _ _ _ _ hT0 hS0 ⟨by decide, rfl, rfl⟩ dX3_isEmpty_26
set_option maxHeartbeats 4000000 in
set_option maxRecDepth 100000 in
theorem c_X9_tell (l : Launch) (G : hG) (Y : hW) (o : Nat) (hY : h_On Y o (waE tF o)) (u1 : Int32) : hMi l yX9_tell cX9_tell 2 (some .int) 0 0 G Y [.ref (o), .int u1] (fun H => True) (fun H r H1 => (u1.toInt = 0 → r = 0) ∧ H1 = H) := by
  refine h_ofi (by decide +kernel) (Nat.le_of_ble_eq_true rfl) ?_
  intro p e s m args below meth c H0 ls Q hx hb hts hown hml hK hT0 hpr hS0 hl hret
  have hl : lv_has ls 2 [(0, .ref (o)), (1, .int u1)] := hl
  refine lv_iload_n hx hb dX9_tell_0 rfl (lv_at hl 1 rfl) ?_
  rcases h_sw10 u1 with c1 | c1 | c1 | c1 | c1 | c1 | c1 | c1 | c1 | c1 | c1
  · skip
    refine lv_tableOut (tgt := 122) hx hb dX9_tell_1 c1 (by decide) ?_
    refine lv_iconst (v := (-1)) hx hb dX9_tell_122 (by decide) ?_
    exact hret _ _ _ _ _ hT0 hS0 ⟨(fun h => by first | rfl | exact absurd h (by decide) | (exfalso; omega)), rfl⟩ dX9_tell_123
  · subst c1
    refine lv_tableIn (tgt := 56) hx hb dX9_tell_1 (by decide) (by decide) rfl (by decide) ?_
    refine lv_aload_n hx hb dX9_tell_56 rfl (lv_at hl 0 rfl) ?_
    refine h_getc (v := 0) (C := RX9) (T := TX9) (N := 11) hx hb hts inX9 hown hK hT0 (hY.o rfl) rfl 0 rfl wF_X9_9 rfl (fun _ h => h) dX9_tell_57 ?_
    exact hret _ _ _ _ _ hT0 hS0 ⟨(fun h => by first | rfl | exact absurd h (by decide) | (exfalso; omega)), rfl⟩ dX9_tell_60
  · subst c1
    refine lv_tableIn (tgt := 61) hx hb dX9_tell_1 (by decide) (by decide) rfl (by decide) ?_
    refine lv_aload_n hx hb dX9_tell_61 rfl (lv_at hl 0 rfl) ?_
    refine h_geti (C := RX9) (T := TX9) (N := 11) hx hb hts inX9 hown hK hT0 (hY.o rfl) rfl 1 rfl wF_X9_15 rfl dX9_tell_62 (fun p2 => ?_)
    refine lv_topi (fun x3 ex3 => ?_)
    exact hret _ _ _ _ _ hT0 hS0 ⟨(fun h => by first | rfl | exact absurd h (by decide) | (exfalso; omega)), rfl⟩ dX9_tell_65
  · subst c1
    refine lv_tableIn (tgt := 66) hx hb dX9_tell_1 (by decide) (by decide) rfl (by decide) ?_
    refine lv_aload_n hx hb dX9_tell_66 rfl (lv_at hl 0 rfl) ?_
    refine h_geti (C := RX9) (T := TX9) (N := 11) hx hb hts inX9 hown hK hT0 (hY.o rfl) rfl 2 rfl wF_X9_18 rfl dX9_tell_67 (fun p4 => ?_)
    refine lv_topi (fun x5 ex5 => ?_)
    exact hret _ _ _ _ _ hT0 hS0 ⟨(fun h => by first | rfl | exact absurd h (by decide) | (exfalso; omega)), rfl⟩ dX9_tell_70
  · subst c1
    refine lv_tableIn (tgt := 71) hx hb dX9_tell_1 (by decide) (by decide) rfl (by decide) ?_
    refine lv_aload_n hx hb dX9_tell_71 rfl (lv_at hl 0 rfl) ?_
    refine h_geti (C := RX9) (T := TX9) (N := 11) hx hb hts inX9 hown hK hT0 (hY.o rfl) rfl 3 rfl wF_X9_21 rfl dX9_tell_72 (fun p6 => ?_)
    refine lv_topi (fun x7 ex7 => ?_)
    exact hret _ _ _ _ _ hT0 hS0 ⟨(fun h => by first | rfl | exact absurd h (by decide) | (exfalso; omega)), rfl⟩ dX9_tell_75
  · subst c1
    refine lv_tableIn (tgt := 76) hx hb dX9_tell_1 (by decide) (by decide) rfl (by decide) ?_
    refine lv_aload_n hx hb dX9_tell_76 rfl (lv_at hl 0 rfl) ?_
    refine h_getc (v := 0) (C := RX9) (T := TX9) (N := 11) hx hb hts inX9 hown hK hT0 (hY.o rfl) rfl 4 rfl wF_X9_24 rfl (fun _ h => h) dX9_tell_77 ?_
    refine lv_if_eq (tgt := 87) hx hb dX9_tell_80 (by decide) (fun _ => ?_) (fun h => absurd (by decide) h)
    refine lv_iconst (v := 0) hx hb dX9_tell_87 (by decide) ?_
    exact hret _ _ _ _ _ hT0 hS0 ⟨(fun h => by first | rfl | exact absurd h (by decide) | (exfalso; omega)), rfl⟩ dX9_tell_88
  · subst c1
    refine lv_tableIn (tgt := 89) hx hb dX9_tell_1 (by decide) (by decide) rfl (by decide) ?_
    refine lv_aload_n hx hb dX9_tell_89 rfl (lv_at hl 0 rfl) ?_
    refine h_geti (C := RX9) (T := TX9) (N := 11) hx hb hts inX9 hown hK hT0 (hY.o rfl) rfl 5 rfl wF_X9_28 rfl dX9_tell_90 (fun p9 => ?_)
    refine lv_topi (fun x10 ex10 => ?_)
    exact hret _ _ _ _ _ hT0 hS0 ⟨(fun h => by first | rfl | exact absurd h (by decide) | (exfalso; omega)), rfl⟩ dX9_tell_93
  · subst c1
    refine lv_tableIn (tgt := 94) hx hb dX9_tell_1 (by decide) (by decide) rfl (by decide) ?_
    refine lv_aload_n hx hb dX9_tell_94 rfl (lv_at hl 0 rfl) ?_
    refine h_geti (C := RX9) (T := TX9) (N := 11) hx hb hts inX9 hown hK hT0 (hY.o rfl) rfl 6 rfl wF_X9_31 rfl dX9_tell_95 (fun p11 => ?_)
    refine lv_topi (fun x12 ex12 => ?_)
    exact hret _ _ _ _ _ hT0 hS0 ⟨(fun h => by first | rfl | exact absurd h (by decide) | (exfalso; omega)), rfl⟩ dX9_tell_98
  · subst c1
    refine lv_tableIn (tgt := 99) hx hb dX9_tell_1 (by decide) (by decide) rfl (by decide) ?_
    refine lv_aload_n hx hb dX9_tell_99 rfl (lv_at hl 0 rfl) ?_
    refine h_geti (C := RX9) (T := TX9) (N := 11) hx hb hts inX9 hown hK hT0 (hY.o rfl) rfl 7 rfl wF_X9_34 rfl dX9_tell_100 (fun p13 => ?_)
    refine lv_topi (fun x14 ex14 => ?_)
    exact hret _ _ _ _ _ hT0 hS0 ⟨(fun h => by first | rfl | exact absurd h (by decide) | (exfalso; omega)), rfl⟩ dX9_tell_103
  · subst c1
    refine lv_tableIn (tgt := 104) hx hb dX9_tell_1 (by decide) (by decide) rfl (by decide) ?_
    refine lv_aload_n hx hb dX9_tell_104 rfl (lv_at hl 0 rfl) ?_
    refine h_getc (v := 0) (C := RX9) (T := TX9) (N := 11) hx hb hts inX9 hown hK hT0 (hY.o rfl) rfl 8 rfl wF_X9_37 rfl (fun _ h => h) dX9_tell_105 ?_
    refine lv_if_eq (tgt := 115) hx hb dX9_tell_108 (by decide) (fun _ => ?_) (fun h => absurd (by decide) h)
    refine lv_iconst (v := 0) hx hb dX9_tell_115 (by decide) ?_
    exact hret _ _ _ _ _ hT0 hS0 ⟨(fun h => by first | rfl | exact absurd h (by decide) | (exfalso; omega)), rfl⟩ dX9_tell_116
  · subst c1
    refine lv_tableIn (tgt := 117) hx hb dX9_tell_1 (by decide) (by decide) rfl (by decide) ?_
    refine lv_aload_n hx hb dX9_tell_117 rfl (lv_at hl 0 rfl) ?_
    refine h_geti (C := RX9) (T := TX9) (N := 11) hx hb hts inX9 hown hK hT0 (hY.o rfl) rfl 9 rfl wF_X9_40 rfl dX9_tell_118 (fun p16 => ?_)
    refine lv_topi (fun x17 ex17 => ?_)
    exact hret _ _ _ _ _ hT0 hS0 ⟨(fun h => by first | rfl | exact absurd h (by decide) | (exfalso; omega)), rfl⟩ dX9_tell_121
set_option maxHeartbeats 4000000 in
set_option maxRecDepth 100000 in
theorem c_X0_counted (l : Launch) (G : hG) (Y : hW) (o : Nat) (hY : h_On Y o (boE tF o)) (u1 : Int32) : hMi l yX0_counted cX0_counted 2 (some .int) 0 0 G Y [.ref (o), .int u1] (fun H => True) (fun H r H1 => r = 0 ∧ H1 = H) := by
  refine h_ofi (by decide +kernel) (Nat.le_of_ble_eq_true rfl) ?_
  intro p e s m args below meth c H0 ls Q hx hb hts hown hml hK hT0 hpr hS0 hl hret
  have hl : lv_has ls 2 [(0, .ref (o)), (1, .int u1)] := hl
  refine lv_iload_n hx hb dX0_counted_0 rfl (lv_at hl 1 rfl) ?_
  refine lv_if_lt (tgt := 19) hx hb dX0_counted_1 (by decide) (fun c1 => ?_) (fun c1 => ?_)
  · skip
    refine lv_iconst (v := 0) hx hb dX0_counted_19 (by decide) ?_
    exact hret _ _ _ _ _ hT0 hS0 ⟨rfl, rfl⟩ dX0_counted_20
  · skip
    refine lv_iload_n hx hb dX0_counted_4 rfl (lv_at hl 1 rfl) ?_
    refine lv_bipush (v := 10) hx hb dX0_counted_5 (by decide) ?_
    refine lv_icmp_ge (tgt := 19) hx hb dX0_counted_7 (by decide) (fun c2 => ?_) (fun c2 => ?_)
    · skip
      refine lv_iconst (v := 0) hx hb dX0_counted_19 (by decide) ?_
      exact hret _ _ _ _ _ hT0 hS0 ⟨rfl, rfl⟩ dX0_counted_20
    · skip
      refine lv_aload_n hx hb dX0_counted_10 rfl (lv_at hl 0 rfl) ?_
      refine h_getr (C := RX0) (T := TX0) (N := 6) hx hb hts inX0 hown hK hT0 (hY.o rfl) rfl 0 rfl wF_X0_9 rfl dX0_counted_11 ?_
      refine lv_iload_n hx hb dX0_counted_14 rfl (lv_at hl 1 rfl) ?_
      refine h_iald hx hb hK hT0 (hY.at 1 rfl) (vp_in_iff.mpr (by simp only [Int32.lt_iff_toInt_lt, Int32.le_iff_toInt_le, ← Int32.toInt_inj, Int32.reduceToInt, (show (-1 : Int32).toInt = -1 from rfl)] at c1 c2 ⊢; omega)) dX0_counted_15 (fun p3 => ?_)
      refine h_top (v := 0) p3 ?_
      refine lv_goto (tgt := 20) hx hb dX0_counted_16 (by decide) ?_
      exact hret _ _ _ _ _ hT0 hS0 ⟨rfl, rfl⟩ dX0_counted_20
set_option maxHeartbeats 4000000 in
set_option maxRecDepth 100000 in
theorem c_X0_gotOf (l : Launch) (G : hG) (Y : hW) (o : Nat) (hY : h_On Y o (boE tF o)) (u1 : Int32) : hMi l yX0_gotOf cX0_gotOf 2 (some .int) 0 0 G Y [.ref (o), .int u1] (fun H => True) (fun H r H1 => r = 0 ∧ H1 = H) := by
  refine h_ofi (by decide +kernel) (Nat.le_of_ble_eq_true rfl) ?_
  intro p e s m args below meth c H0 ls Q hx hb hts hown hml hK hT0 hpr hS0 hl hret
  have hl : lv_has ls 2 [(0, .ref (o)), (1, .int u1)] := hl
  refine lv_iload_n hx hb dX0_gotOf_0 rfl (lv_at hl 1 rfl) ?_
  refine lv_if_lt (tgt := 19) hx hb dX0_gotOf_1 (by decide) (fun c1 => ?_) (fun c1 => ?_)
  · skip
    refine lv_iconst (v := 0) hx hb dX0_gotOf_19 (by decide) ?_
    exact hret _ _ _ _ _ hT0 hS0 ⟨rfl, rfl⟩ dX0_gotOf_20
  · skip
    refine lv_iload_n hx hb dX0_gotOf_4 rfl (lv_at hl 1 rfl) ?_
    refine lv_bipush (v := 8) hx hb dX0_gotOf_5 (by decide) ?_
    refine lv_icmp_ge (tgt := 19) hx hb dX0_gotOf_7 (by decide) (fun c2 => ?_) (fun c2 => ?_)
    · skip
      refine lv_iconst (v := 0) hx hb dX0_gotOf_19 (by decide) ?_
      exact hret _ _ _ _ _ hT0 hS0 ⟨rfl, rfl⟩ dX0_gotOf_20
    · skip
      refine lv_aload_n hx hb dX0_gotOf_10 rfl (lv_at hl 0 rfl) ?_
      refine h_getr (C := RX0) (T := TX0) (N := 6) hx hb hts inX0 hown hK hT0 (hY.o rfl) rfl 1 rfl wF_X0_15 rfl dX0_gotOf_11 ?_
      refine lv_iload_n hx hb dX0_gotOf_14 rfl (lv_at hl 1 rfl) ?_
      refine h_iald hx hb hK hT0 (hY.at 2 rfl) (vp_in_iff.mpr (by simp only [Int32.lt_iff_toInt_lt, Int32.le_iff_toInt_le, ← Int32.toInt_inj, Int32.reduceToInt, (show (-1 : Int32).toInt = -1 from rfl)] at c1 c2 ⊢; omega)) dX0_gotOf_15 (fun p3 => ?_)
      refine h_top (v := 0) p3 ?_
      refine lv_goto (tgt := 20) hx hb dX0_gotOf_16 (by decide) ?_
      exact hret _ _ _ _ _ hT0 hS0 ⟨rfl, rfl⟩ dX0_gotOf_20
set_option maxHeartbeats 4000000 in
set_option maxRecDepth 100000 in
theorem c_X0_agesOf (l : Launch) (G : hG) (Y : hW) (o : Nat) (hY : h_On Y o (boE tF o)) (u1 : Int32) : hMi l yX0_agesOf cX0_agesOf 2 (some .int) 0 0 G Y [.ref (o), .int u1] (fun H => True) (fun H r H1 => r = 0 ∧ H1 = H) := by
  refine h_ofi (by decide +kernel) (Nat.le_of_ble_eq_true rfl) ?_
  intro p e s m args below meth c H0 ls Q hx hb hts hown hml hK hT0 hpr hS0 hl hret
  have hl : lv_has ls 2 [(0, .ref (o)), (1, .int u1)] := hl
  refine lv_iload_n hx hb dX0_agesOf_0 rfl (lv_at hl 1 rfl) ?_
  refine lv_if_lt (tgt := 19) hx hb dX0_agesOf_1 (by decide) (fun c1 => ?_) (fun c1 => ?_)
  · skip
    refine lv_iconst (v := 0) hx hb dX0_agesOf_19 (by decide) ?_
    exact hret _ _ _ _ _ hT0 hS0 ⟨rfl, rfl⟩ dX0_agesOf_20
  · skip
    refine lv_iload_n hx hb dX0_agesOf_4 rfl (lv_at hl 1 rfl) ?_
    refine lv_bipush (v := 8) hx hb dX0_agesOf_5 (by decide) ?_
    refine lv_icmp_ge (tgt := 19) hx hb dX0_agesOf_7 (by decide) (fun c2 => ?_) (fun c2 => ?_)
    · skip
      refine lv_iconst (v := 0) hx hb dX0_agesOf_19 (by decide) ?_
      exact hret _ _ _ _ _ hT0 hS0 ⟨rfl, rfl⟩ dX0_agesOf_20
    · skip
      refine lv_aload_n hx hb dX0_agesOf_10 rfl (lv_at hl 0 rfl) ?_
      refine h_getr (C := RX0) (T := TX0) (N := 6) hx hb hts inX0 hown hK hT0 (hY.o rfl) rfl 2 rfl wF_X0_18 rfl dX0_agesOf_11 ?_
      refine lv_iload_n hx hb dX0_agesOf_14 rfl (lv_at hl 1 rfl) ?_
      refine h_iald hx hb hK hT0 (hY.at 3 rfl) (vp_in_iff.mpr (by simp only [Int32.lt_iff_toInt_lt, Int32.le_iff_toInt_le, ← Int32.toInt_inj, Int32.reduceToInt, (show (-1 : Int32).toInt = -1 from rfl)] at c1 c2 ⊢; omega)) dX0_agesOf_15 (fun p3 => ?_)
      refine h_top (v := 0) p3 ?_
      refine lv_goto (tgt := 20) hx hb dX0_agesOf_16 (by decide) ?_
      exact hret _ _ _ _ _ hT0 hS0 ⟨rfl, rfl⟩ dX0_agesOf_20
