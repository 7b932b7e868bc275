set_option maxHeartbeats 4000000 in
set_option maxRecDepth 100000 in
theorem c_pcheckN (l : Launch) (G : hG) (Y : hW) (u1 u2 : Int32) (h0 : ¬ u1 < 0) (h1 : u1 < u2) : hMi l yJ3_checkIndex_8e157 cJ3_checkIndex_8e157 3 (some .int) 0 0 G Y [.int u1, .int u2, .null] (fun H => True) (fun H r H1 => (True) ∧ H1 = H) := by
  refine h_ofi (by decide +kernel) (Nat.le_of_ble_eq_true rfl) ?_
  intro p e s m args below meth c H0 ls Q hx hb hts hown hml hK hZ hT0 hpr hS0 hl hret
  have hl : lv_has ls 3 [(0, .int u1), (1, .int u2), (2, .null)] := hl
  refine lv_iload_n hx hb dJ3_checkIndex_8e157_0 rfl (lv_at hl 0 rfl) ?_
  refine lv_if_lt (tgt := 9) hx hb dJ3_checkIndex_8e157_1 (by decide) (fun h => absurd h h0) (fun _ => ?_)
  refine lv_iload_n hx hb dJ3_checkIndex_8e157_4 rfl (lv_at hl 0 rfl) ?_
  refine lv_iload_n hx hb dJ3_checkIndex_8e157_5 rfl (lv_at hl 1 rfl) ?_
  refine lv_icmp_lt (tgt := 16) hx hb dJ3_checkIndex_8e157_6 (by decide) (fun _ => ?_) (fun h => absurd h1 h)
  refine lv_iload_n hx hb dJ3_checkIndex_8e157_16 rfl (lv_at hl 0 rfl) ?_
  exact hret _ _ _ _ _ hT0 hS0 ⟨trivial, rfl⟩ dJ3_checkIndex_8e157_17
set_option maxHeartbeats 4000000 in
set_option maxRecDepth 100000 in
theorem c_pcheckR (l : Launch) (G : hG) (Y : hW) (q0 : Nat) (u1 u2 : Int32) (h0 : ¬ u1 < 0) (h1 : u1 < u2) : hMi l yJ3_checkIndex_8e157 cJ3_checkIndex_8e157 3 (some .int) 0 0 G Y [.int u1, .int u2, .ref (q0)] (fun H => True) (fun H r H1 => (True) ∧ H1 = H) := by
  refine h_ofi (by decide +kernel) (Nat.le_of_ble_eq_true rfl) ?_
  intro p e s m args below meth c H0 ls Q hx hb hts hown hml hK hZ hT0 hpr hS0 hl hret
  have hl : lv_has ls 3 [(0, .int u1), (1, .int u2), (2, .ref (q0))] := hl
  refine lv_iload_n hx hb dJ3_checkIndex_8e157_0 rfl (lv_at hl 0 rfl) ?_
  refine lv_if_lt (tgt := 9) hx hb dJ3_checkIndex_8e157_1 (by decide) (fun h => absurd h h0) (fun _ => ?_)
  refine lv_iload_n hx hb dJ3_checkIndex_8e157_4 rfl (lv_at hl 0 rfl) ?_
  refine lv_iload_n hx hb dJ3_checkIndex_8e157_5 rfl (lv_at hl 1 rfl) ?_
  refine lv_icmp_lt (tgt := 16) hx hb dJ3_checkIndex_8e157_6 (by decide) (fun _ => ?_) (fun h => absurd h1 h)
  refine lv_iload_n hx hb dJ3_checkIndex_8e157_16 rfl (lv_at hl 0 rfl) ?_
  exact hret _ _ _ _ _ hT0 hS0 ⟨trivial, rfl⟩ dJ3_checkIndex_8e157_17
set_option maxHeartbeats 4000000 in
set_option maxRecDepth 100000 in
theorem c_scheck (l : Launch) (G : hG) (Y : hW) (u1 u2 : Int32) (h0 : ¬ u1 < 0) (h1 : u1 < u2) : hMv l yJ0_checkIndex_df160 cJ0_checkIndex_df160 2 none 1 22 G Y [.int u1, .int u2] (fun H => True) (fun H H1 => H1 = H) := by
  refine h_ofv (by decide +kernel) (Nat.le_of_ble_eq_true rfl) ?_
  intro p e s m args below meth c H0 ls Q hx hb hts hown hml hK hZ hT0 hpr hS0 hl hret
  have hl : lv_has ls 2 [(0, .int u1), (1, .int u2)] := hl
  refine lv_iload_n hx hb dJ0_checkIndex_df160_0 rfl (lv_at hl 0 rfl) ?_
  refine lv_iload_n hx hb dJ0_checkIndex_df160_1 rfl (lv_at hl 1 rfl) ?_
  rcases hZ.2.2.2 with hs | ⟨q0, hs⟩
  · refine va_gets hx hb hs hS0 hown (hts _ wF_J0_1053) (fun _ h => h) dJ0_checkIndex_df160_2 ?_
    refine h_callSi (rest := []) (As := [.int u1, .int u2, .null]) hx hb hml hown hts hK hT0 hZ (fun _ h => h) hS0 (c_pcheckN l G Y u1 u2 h0 h1) trivial wd_J3_checkIndex_8e157 wS_J3_checkIndex_8e157 wL_J0_1059 rfl hl.1 rfl (Nat.le_of_ble_eq_true rfl) dJ0_checkIndex_df160_5 ⟨Nat.le_of_ble_eq_true rfl, Nat.le_of_ble_eq_true rfl⟩ ⟨Nat.zero_le _, Nat.zero_le _⟩ (fun r1 H1 locs hp1 hT1 hS1 hk1 => ?_)
    obtain ⟨hp1, he⟩ := hp1
    have he := he.symm
    subst he
    refine lv_pop hx hb dJ0_checkIndex_df160_8 rfl ?_
    exact hret _ _ _ _ hT0 hS1 rfl dJ0_checkIndex_df160_9
  · refine va_gets hx hb hs hS0 hown (hts _ wF_J0_1053) (fun _ h => h) dJ0_checkIndex_df160_2 ?_
    refine h_callSi (rest := []) (As := [.int u1, .int u2, .ref (q0)]) hx hb hml hown hts hK hT0 hZ (fun _ h => h) hS0 (c_pcheckR l G Y q0 u1 u2 h0 h1) trivial wd_J3_checkIndex_8e157 wS_J3_checkIndex_8e157 wL_J0_1059 rfl hl.1 rfl (Nat.le_of_ble_eq_true rfl) dJ0_checkIndex_df160_5 ⟨Nat.le_of_ble_eq_true rfl, Nat.le_of_ble_eq_true rfl⟩ ⟨Nat.zero_le _, Nat.zero_le _⟩ (fun r2 H2 locs hp2 hT2 hS2 hk2 => ?_)
    obtain ⟨hp2, he⟩ := hp2
    have he := he.symm
    subst he
    refine lv_pop hx hb dJ0_checkIndex_df160_8 rfl ?_
    exact hret _ _ _ _ hT0 hS2 rfl dJ0_checkIndex_df160_9
set_option maxHeartbeats 4000000 in
set_option maxRecDepth 100000 in
theorem c_coder0 (l : Launch) (G : hG) (Y : hW)  : hMi l yJ0_coder_7d493 cJ0_coder_7d493 1 (some .byte) 0 0 G Y [.ref (G.2.2.1 0)] (fun H => True) (fun H r H1 => (r = 0) ∧ H1 = H) := by
  refine h_ofb (by decide +kernel) (Nat.le_of_ble_eq_true rfl) ?_
  intro p e s m args below meth c H0 ls Q hx hb hts hown hml hK hZ hT0 hpr hS0 hl hret
  have hl : lv_has ls 1 [(0, .ref (G.2.2.1 0))] := hl
  refine va_gets hx hb hZ.2.2.1 hS0 hown (hts _ wF_J0_38) (fun _ h => h) dJ0_coder_7d493_0 ?_
  refine lv_if_eq (tgt := 13) hx hb dJ0_coder_7d493_3 (by decide) (fun h => absurd h (by decide)) (fun _ => ?_)
  refine lv_aload_n hx hb dJ0_coder_7d493_6 rfl (lv_at hl 0 rfl) ?_
  refine vk_getf hx hb (hZ.1.1 0 (by decide)).2.1 hS0 hown (hts _ wF_J0_15) (fun _ h => h) dJ0_coder_7d493_7 ?_
  refine lv_goto (tgt := 14) hx hb dJ0_coder_7d493_10 (by decide) ?_
  exact hret _ _ _ _ _ hT0 hS0 ⟨rfl, rfl, rfl⟩ dJ0_coder_7d493_14
set_option maxHeartbeats 4000000 in
set_option maxRecDepth 100000 in
theorem c_isLatin0 (l : Launch) (G : hG) (Y : hW)  : hMi l yJ0_isLatin1_aae02 cJ0_isLatin1_aae02 1 (some .boolean) 0 0 G Y [.ref (G.2.2.1 0)] (fun H => True) (fun H r H1 => ((r = 0 ∨ r = 1) ∧ r = 1) ∧ H1 = H) := by
  refine h_ofz (by decide +kernel) (Nat.le_of_ble_eq_true rfl) ?_
  intro p e s m args below meth c H0 ls Q hx hb hts hown hml hK hZ hT0 hpr hS0 hl hret
  have hl : lv_has ls 1 [(0, .ref (G.2.2.1 0))] := hl
  refine va_gets hx hb hZ.2.2.1 hS0 hown (hts _ wF_J0_38) (fun _ h => h) dJ0_isLatin1_aae02_0 ?_
  refine lv_if_eq (tgt := 17) hx hb dJ0_isLatin1_aae02_3 (by decide) (fun h => absurd h (by decide)) (fun _ => ?_)
  refine lv_aload_n hx hb dJ0_isLatin1_aae02_6 rfl (lv_at hl 0 rfl) ?_
  refine vk_getf hx hb (hZ.1.1 0 (by decide)).2.1 hS0 hown (hts _ wF_J0_15) (fun _ h => h) dJ0_isLatin1_aae02_7 ?_
  refine lv_if_ne (tgt := 17) hx hb dJ0_isLatin1_aae02_10 (by decide) (fun h => absurd (by decide) h) (fun _ => ?_)
  refine lv_iconst (v := 1) hx hb dJ0_isLatin1_aae02_13 (by decide) ?_
  refine lv_goto (tgt := 18) hx hb dJ0_isLatin1_aae02_14 (by decide) ?_
  exact hret _ _ _ _ _ hT0 hS0 ⟨(by decide), ⟨(by decide), rfl⟩, rfl⟩ dJ0_isLatin1_aae02_18
set_option maxHeartbeats 4000000 in
set_option maxRecDepth 100000 in
theorem c_length0 (l : Launch) (G : hG) (Y : hW)  : hMi l yJ0_length_8abf5 cJ0_length_8abf5 1 (some .int) 1 20 G Y [.ref (G.2.2.1 0)] (fun H => True) (fun H r H1 => (r = 7) ∧ H1 = H) := by
  refine h_ofi (by decide +kernel) (Nat.le_of_ble_eq_true rfl) ?_
  intro p e s m args below meth c H0 ls Q hx hb hts hown hml hK hZ hT0 hpr hS0 hl hret
  have hl : lv_has ls 1 [(0, .ref (G.2.2.1 0))] := hl
  refine lv_aload_n hx hb dJ0_length_8abf5_0 rfl (lv_at hl 0 rfl) ?_
  refine vk_getf hx hb (hZ.1.1 0 (by decide)).2.2.1 hS0 hown (hts _ wF_J0_9) (fun _ h => h) dJ0_length_8abf5_1 ?_
  refine va_tlen hx hb (hZ.1.1 0 (by decide)).2.2.2 hS0 (v := 7) (by decide) dJ0_length_8abf5_4 ?_
  refine lv_aload_n hx hb dJ0_length_8abf5_5 rfl (lv_at hl 0 rfl) ?_
  refine h_callWi (rest := [.int 7]) (As := []) hx hb hml hown hts hK hT0 hZ (fun _ h => h) hS0 (c_coder0 l G Y) trivial wd_J0_coder_7d493 wV_J0_coder_7d493 wL_J0_335 (vk_recv hZ.1 (i := 0) (by decide) hS0) rfl hl.1 rfl (Nat.le_of_ble_eq_true rfl) dJ0_length_8abf5_6 ⟨Nat.le_of_ble_eq_true rfl, Nat.le_of_ble_eq_true rfl⟩ ⟨Nat.zero_le _, Nat.zero_le _⟩ (fun r1 H1 locs hp1 hT1 hS1 hk1 => ?_)
  obtain ⟨hp1, he⟩ := hp1
  have he := he.symm
  subst he
  have hp1 : r1 = 0 := hp1
  subst hp1
  refine lv_ishr hx hb dJ0_length_8abf5_9 ?_
  refine h_top (v := 7) (by decide) ?_
  exact hret _ _ _ _ _ hT0 hS1 ⟨rfl, rfl⟩ dJ0_length_8abf5_10
set_option maxHeartbeats 4000000 in
set_option maxRecDepth 100000 in
theorem c_charL0 (l : Launch) (G : hG) (Y : hW) (u1 : Int32) (h0 : ¬ u1 < 0) (h1 : u1 < 7) : hMi l yJ1_charAt_3b067 cJ1_charAt_3b067 2 (some .char) 2 43 G Y [.ref (G.2.2.2 0), .int u1] (fun H => True) (fun H r H1 => (r = h_chr 0 u1) ∧ H1 = H) := by
  refine h_ofc (by decide +kernel) (Nat.le_of_ble_eq_true rfl) ?_
  intro p e s m args below meth c H0 ls Q hx hb hts hown hml hK hZ hT0 hpr hS0 hl hret
  have hl : lv_has ls 2 [(0, .ref (G.2.2.2 0)), (1, .int u1)] := hl
  refine lv_iload_n hx hb dJ1_charAt_3b067_0 rfl (lv_at hl 1 rfl) ?_
  refine lv_aload_n hx hb dJ1_charAt_3b067_1 rfl (lv_at hl 0 rfl) ?_
  refine va_tlen hx hb (hZ.1.1 0 (by decide)).2.2.2 hS0 (v := 7) (by decide) dJ1_charAt_3b067_2 ?_
  refine h_callSv (rest := []) (As := [.int u1, .int 7]) hx hb hml hown hts hK hT0 hZ (fun _ h => h) hS0 (c_scheck l G Y u1 7 h0 h1) trivial wd_J0_checkIndex_df160 wS_J0_checkIndex_df160 wL_J1_9 rfl hl.1 rfl (Nat.le_of_ble_eq_true rfl) dJ1_charAt_3b067_3 ⟨Nat.le_of_ble_eq_true rfl, Nat.le_of_ble_eq_true rfl⟩ ⟨Nat.zero_le _, Nat.zero_le _⟩ (fun H1 locs hp1 hT1 hS1 hk1 => ?_)
  have he := hp1.symm
  subst he
  refine lv_aload_n hx hb dJ1_charAt_3b067_6 rfl (lv_at hl 0 rfl) ?_
  refine lv_iload_n hx hb dJ1_charAt_3b067_7 rfl (lv_at hl 1 rfl) ?_
  refine va_tb hx hb (hZ.1.1 0 (by decide)).2.2.2 hS1 (show vp_in u1 7 from (vp_in_iff.mpr (by (try simp only [Int32.lt_iff_toInt_lt, Int32.le_iff_toInt_le, ← Int32.toInt_inj, Int32.reduceToInt, (show (-1 : Int32).toInt = -1 from rfl)] at h0 h1 ⊢); omega))) (v := .int (h_chr 0 u1)) rfl dJ1_charAt_3b067_8 ?_
  refine lv_sipush (v := 255) hx hb dJ1_charAt_3b067_9 (by decide) ?_
  refine lv_iand hx hb dJ1_charAt_3b067_12 ?_
  refine lv_i2c hx hb dJ1_charAt_3b067_13 (v := (h_chr 0 u1)) (h_cok 0 (by decide) _ (h_ltC (n := 7) (by (try simp only [Int32.lt_iff_toInt_lt, Int32.le_iff_toInt_le, ← Int32.toInt_inj, Int32.reduceToInt, (show (-1 : Int32).toInt = -1 from rfl)] at h0 h1 ⊢); omega) (by (try simp only [Int32.lt_iff_toInt_lt, Int32.le_iff_toInt_le, ← Int32.toInt_inj, Int32.reduceToInt, (show (-1 : Int32).toInt = -1 from rfl)] at h0 h1 ⊢); omega))).1 ?_
  exact hret _ _ _ _ _ hT0 hS1 ⟨(h_cok 0 (by decide) _ (h_ltC (n := 7) (by (try simp only [Int32.lt_iff_toInt_lt, Int32.le_iff_toInt_le, ← Int32.toInt_inj, Int32.reduceToInt, (show (-1 : Int32).toInt = -1 from rfl)] at h0 ⊢); omega) (by (try simp only [Int32.lt_iff_toInt_lt, Int32.le_iff_toInt_le, ← Int32.toInt_inj, Int32.reduceToInt, (show (-1 : Int32).toInt = -1 from rfl)] at h1 ⊢); omega))).2, rfl, rfl⟩ dJ1_charAt_3b067_14
set_option maxHeartbeats 4000000 in
set_option maxRecDepth 100000 in
theorem c_char0 (l : Launch) (G : hG) (Y : hW) (u1 : Int32) (h0 : ¬ u1 < 0) (h1 : u1 < 7) : hMi l yJ0_charAt_5068e cJ0_charAt_5068e 2 (some .char) 3 64 G Y [.ref (G.2.2.1 0), .int u1] (fun H => True) (fun H r H1 => (r = h_chr 0 u1) ∧ H1 = H) := by
  refine h_ofc (by decide +kernel) (Nat.le_of_ble_eq_true rfl) ?_
  intro p e s m args below meth c H0 ls Q hx hb hts hown hml hK hZ hT0 hpr hS0 hl hret
  have hl : lv_has ls 2 [(0, .ref (G.2.2.1 0)), (1, .int u1)] := hl
  refine lv_aload_n hx hb dJ0_charAt_5068e_0 rfl (lv_at hl 0 rfl) ?_
  refine h_callWi (rest := []) (As := []) hx hb hml hown hts hK hT0 hZ (fun _ h => h) hS0 (c_isLatin0 l G Y) trivial wd_J0_isLatin1_aae02 wV_J0_isLatin1_aae02 wL_J0_492 (vk_recv hZ.1 (i := 0) (by decide) hS0) rfl hl.1 rfl (Nat.le_of_ble_eq_true rfl) dJ0_charAt_5068e_1 ⟨Nat.le_of_ble_eq_true rfl, Nat.le_of_ble_eq_true rfl⟩ ⟨Nat.zero_le _, Nat.zero_le _⟩ (fun r1 H1 locs hp1 hT1 hS1 hk1 => ?_)
  obtain ⟨hp1, he⟩ := hp1
  have he := he.symm
  subst he
  have hp1 : r1 = 1 := hp1.2
  subst hp1
  refine lv_if_eq (tgt := 16) hx hb dJ0_charAt_5068e_4 (by decide) (fun h => absurd h (by decide)) (fun _ => ?_)
  refine lv_aload_n hx hb dJ0_charAt_5068e_7 rfl (lv_at hl 0 rfl) ?_
  refine vk_getf hx hb (hZ.1.1 0 (by decide)).2.2.1 hS1 hown (hts _ wF_J0_9) (fun _ h => h) dJ0_charAt_5068e_8 ?_
  refine lv_iload_n hx hb dJ0_charAt_5068e_11 rfl (lv_at hl 1 rfl) ?_
  refine h_callSi (rest := []) (As := [.ref (G.2.2.2 0), .int u1]) hx hb hml hown hts hK hT0 hZ (fun _ h => h) hS1 (c_charL0 l G Y u1 h0 h1) trivial wd_J1_charAt_3b067 wS_J1_charAt_3b067 wL_J0_495 rfl hl.1 rfl (Nat.le_of_ble_eq_true rfl) dJ0_charAt_5068e_12 ⟨Nat.le_of_ble_eq_true rfl, Nat.le_of_ble_eq_true rfl⟩ ⟨Nat.zero_le _, Nat.zero_le _⟩ (fun r3 H2 locs hp2 hT2 hS2 hk2 => ?_)
  obtain ⟨hp2, he⟩ := hp2
  have he := he.symm
  subst he
  have hp2 : r3 = h_chr 0 u1 := hp2
  subst hp2
  exact hret _ _ _ _ _ hT0 hS2 ⟨(h_cok 0 (by decide) _ (h_ltC (n := 7) (by (try simp only [Int32.lt_iff_toInt_lt, Int32.le_iff_toInt_le, ← Int32.toInt_inj, Int32.reduceToInt, (show (-1 : Int32).toInt = -1 from rfl)] at h0 ⊢); omega) (by (try simp only [Int32.lt_iff_toInt_lt, Int32.le_iff_toInt_le, ← Int32.toInt_inj, Int32.reduceToInt, (show (-1 : Int32).toInt = -1 from rfl)] at h1 ⊢); omega))).2, rfl, rfl⟩ dJ0_charAt_5068e_15
set_option maxHeartbeats 4000000 in
set_option maxRecDepth 100000 in
theorem c_coder1 (l : Launch) (G : hG) (Y : hW)  : hMi l yJ0_coder_7d493 cJ0_coder_7d493 1 (some .byte) 0 0 G Y [.ref (G.2.2.1 1)] (fun H => True) (fun H r H1 => (r = 0) ∧ H1 = H) := by
  refine h_ofb (by decide +kernel) (Nat.le_of_ble_eq_true rfl) ?_
  intro p e s m args below meth c H0 ls Q hx hb hts hown hml hK hZ hT0 hpr hS0 hl hret
  have hl : lv_has ls 1 [(0, .ref (G.2.2.1 1))] := hl
  refine va_gets hx hb hZ.2.2.1 hS0 hown (hts _ wF_J0_38) (fun _ h => h) dJ0_coder_7d493_0 ?_
  refine lv_if_eq (tgt := 13) hx hb dJ0_coder_7d493_3 (by decide) (fun h => absurd h (by decide)) (fun _ => ?_)
  refine lv_aload_n hx hb dJ0_coder_7d493_6 rfl (lv_at hl 0 rfl) ?_
  refine vk_getf hx hb (hZ.1.1 1 (by decide)).2.1 hS0 hown (hts _ wF_J0_15) (fun _ h => h) dJ0_coder_7d493_7 ?_
  refine lv_goto (tgt := 14) hx hb dJ0_coder_7d493_10 (by decide) ?_
  exact hret _ _ _ _ _ hT0 hS0 ⟨rfl, rfl, rfl⟩ dJ0_coder_7d493_14
set_option maxHeartbeats 4000000 in
set_option maxRecDepth 100000 in
theorem c_isLatin1 (l : Launch) (G : hG) (Y : hW)  : hMi l yJ0_isLatin1_aae02 cJ0_isLatin1_aae02 1 (some .boolean) 0 0 G Y [.ref (G.2.2.1 1)] (fun H => True) (fun H r H1 => ((r = 0 ∨ r = 1) ∧ r = 1) ∧ H1 = H) := by
  refine h_ofz (by decide +kernel) (Nat.le_of_ble_eq_true rfl) ?_
  intro p e s m args below meth c H0 ls Q hx hb hts hown hml hK hZ hT0 hpr hS0 hl hret
  have hl : lv_has ls 1 [(0, .ref (G.2.2.1 1))] := hl
  refine va_gets hx hb hZ.2.2.1 hS0 hown (hts _ wF_J0_38) (fun _ h => h) dJ0_isLatin1_aae02_0 ?_
  refine lv_if_eq (tgt := 17) hx hb dJ0_isLatin1_aae02_3 (by decide) (fun h => absurd h (by decide)) (fun _ => ?_)
  refine lv_aload_n hx hb dJ0_isLatin1_aae02_6 rfl (lv_at hl 0 rfl) ?_
  refine vk_getf hx hb (hZ.1.1 1 (by decide)).2.1 hS0 hown (hts _ wF_J0_15) (fun _ h => h) dJ0_isLatin1_aae02_7 ?_
  refine lv_if_ne (tgt := 17) hx hb dJ0_isLatin1_aae02_10 (by decide) (fun h => absurd (by decide) h) (fun _ => ?_)
  refine lv_iconst (v := 1) hx hb dJ0_isLatin1_aae02_13 (by decide) ?_
  refine lv_goto (tgt := 18) hx hb dJ0_isLatin1_aae02_14 (by decide) ?_
  exact hret _ _ _ _ _ hT0 hS0 ⟨(by decide), ⟨(by decide), rfl⟩, rfl⟩ dJ0_isLatin1_aae02_18
set_option maxHeartbeats 4000000 in
set_option maxRecDepth 100000 in
theorem c_length1 (l : Launch) (G : hG) (Y : hW)  : hMi l yJ0_length_8abf5 cJ0_length_8abf5 1 (some .int) 1 20 G Y [.ref (G.2.2.1 1)] (fun H => True) (fun H r H1 => (r = 3) ∧ H1 = H) := by
  refine h_ofi (by decide +kernel) (Nat.le_of_ble_eq_true rfl) ?_
  intro p e s m args below meth c H0 ls Q hx hb hts hown hml hK hZ hT0 hpr hS0 hl hret
  have hl : lv_has ls 1 [(0, .ref (G.2.2.1 1))] := hl
  refine lv_aload_n hx hb dJ0_length_8abf5_0 rfl (lv_at hl 0 rfl) ?_
  refine vk_getf hx hb (hZ.1.1 1 (by decide)).2.2.1 hS0 hown (hts _ wF_J0_9) (fun _ h => h) dJ0_length_8abf5_1 ?_
  refine va_tlen hx hb (hZ.1.1 1 (by decide)).2.2.2 hS0 (v := 3) (by decide) dJ0_length_8abf5_4 ?_
  refine lv_aload_n hx hb dJ0_length_8abf5_5 rfl (lv_at hl 0 rfl) ?_
  refine h_callWi (rest := [.int 3]) (As := []) hx hb hml hown hts hK hT0 hZ (fun _ h => h) hS0 (c_coder1 l G Y) trivial wd_J0_coder_7d493 wV_J0_coder_7d493 wL_J0_335 (vk_recv hZ.1 (i := 1) (by decide) hS0) rfl hl.1 rfl (Nat.le_of_ble_eq_true rfl) dJ0_length_8abf5_6 ⟨Nat.le_of_ble_eq_true rfl, Nat.le_of_ble_eq_true rfl⟩ ⟨Nat.zero_le _, Nat.zero_le _⟩ (fun r1 H1 locs hp1 hT1 hS1 hk1 => ?_)
  obtain ⟨hp1, he⟩ := hp1
  have he := he.symm
  subst he
  have hp1 : r1 = 0 := hp1
  subst hp1
  refine lv_ishr hx hb dJ0_length_8abf5_9 ?_
  refine h_top (v := 3) (by decide) ?_
  exact hret _ _ _ _ _ hT0 hS1 ⟨rfl, rfl⟩ dJ0_length_8abf5_10
set_option maxHeartbeats 4000000 in
set_option maxRecDepth 100000 in
theorem c_charL1 (l : Launch) (G : hG) (Y : hW) (u1 : Int32) (h0 : ¬ u1 < 0) (h1 : u1 < 3) : hMi l yJ1_charAt_3b067 cJ1_charAt_3b067 2 (some .char) 2 43 G Y [.ref (G.2.2.2 1), .int u1] (fun H => True) (fun H r H1 => (r = h_chr 1 u1) ∧ H1 = H) := by
  refine h_ofc (by decide +kernel) (Nat.le_of_ble_eq_true rfl) ?_
  intro p e s m args below meth c H0 ls Q hx hb hts hown hml hK hZ hT0 hpr hS0 hl hret
  have hl : lv_has ls 2 [(0, .ref (G.2.2.2 1)), (1, .int u1)] := hl
  refine lv_iload_n hx hb dJ1_charAt_3b067_0 rfl (lv_at hl 1 rfl) ?_
  refine lv_aload_n hx hb dJ1_charAt_3b067_1 rfl (lv_at hl 0 rfl) ?_
  refine va_tlen hx hb (hZ.1.1 1 (by decide)).2.2.2 hS0 (v := 3) (by decide) dJ1_charAt_3b067_2 ?_
  refine h_callSv (rest := []) (As := [.int u1, .int 3]) hx hb hml hown hts hK hT0 hZ (fun _ h => h) hS0 (c_scheck l G Y u1 3 h0 h1) trivial wd_J0_checkIndex_df160 wS_J0_checkIndex_df160 wL_J1_9 rfl hl.1 rfl (Nat.le_of_ble_eq_true rfl) dJ1_charAt_3b067_3 ⟨Nat.le_of_ble_eq_true rfl, Nat.le_of_ble_eq_true rfl⟩ ⟨Nat.zero_le _, Nat.zero_le _⟩ (fun H1 locs hp1 hT1 hS1 hk1 => ?_)
  have he := hp1.symm
  subst he
  refine lv_aload_n hx hb dJ1_charAt_3b067_6 rfl (lv_at hl 0 rfl) ?_
  refine lv_iload_n hx hb dJ1_charAt_3b067_7 rfl (lv_at hl 1 rfl) ?_
  refine va_tb hx hb (hZ.1.1 1 (by decide)).2.2.2 hS1 (show vp_in u1 3 from (vp_in_iff.mpr (by (try simp only [Int32.lt_iff_toInt_lt, Int32.le_iff_toInt_le, ← Int32.toInt_inj, Int32.reduceToInt, (show (-1 : Int32).toInt = -1 from rfl)] at h0 h1 ⊢); omega))) (v := .int (h_chr 1 u1)) rfl dJ1_charAt_3b067_8 ?_
  refine lv_sipush (v := 255) hx hb dJ1_charAt_3b067_9 (by decide) ?_
  refine lv_iand hx hb dJ1_charAt_3b067_12 ?_
  refine lv_i2c hx hb dJ1_charAt_3b067_13 (v := (h_chr 1 u1)) (h_cok 1 (by decide) _ (h_ltC (n := 3) (by (try simp only [Int32.lt_iff_toInt_lt, Int32.le_iff_toInt_le, ← Int32.toInt_inj, Int32.reduceToInt, (show (-1 : Int32).toInt = -1 from rfl)] at h0 h1 ⊢); omega) (by (try simp only [Int32.lt_iff_toInt_lt, Int32.le_iff_toInt_le, ← Int32.toInt_inj, Int32.reduceToInt, (show (-1 : Int32).toInt = -1 from rfl)] at h0 h1 ⊢); omega))).1 ?_
  exact hret _ _ _ _ _ hT0 hS1 ⟨(h_cok 1 (by decide) _ (h_ltC (n := 3) (by (try simp only [Int32.lt_iff_toInt_lt, Int32.le_iff_toInt_le, ← Int32.toInt_inj, Int32.reduceToInt, (show (-1 : Int32).toInt = -1 from rfl)] at h0 ⊢); omega) (by (try simp only [Int32.lt_iff_toInt_lt, Int32.le_iff_toInt_le, ← Int32.toInt_inj, Int32.reduceToInt, (show (-1 : Int32).toInt = -1 from rfl)] at h1 ⊢); omega))).2, rfl, rfl⟩ dJ1_charAt_3b067_14
set_option maxHeartbeats 4000000 in
set_option maxRecDepth 100000 in
theorem c_char1 (l : Launch) (G : hG) (Y : hW) (u1 : Int32) (h0 : ¬ u1 < 0) (h1 : u1 < 3) : hMi l yJ0_charAt_5068e cJ0_charAt_5068e 2 (some .char) 3 64 G Y [.ref (G.2.2.1 1), .int u1] (fun H => True) (fun H r H1 => (r = h_chr 1 u1) ∧ H1 = H) := by
  refine h_ofc (by decide +kernel) (Nat.le_of_ble_eq_true rfl) ?_
  intro p e s m args below meth c H0 ls Q hx hb hts hown hml hK hZ hT0 hpr hS0 hl hret
  have hl : lv_has ls 2 [(0, .ref (G.2.2.1 1)), (1, .int u1)] := hl
  refine lv_aload_n hx hb dJ0_charAt_5068e_0 rfl (lv_at hl 0 rfl) ?_
  refine h_callWi (rest := []) (As := []) hx hb hml hown hts hK hT0 hZ (fun _ h => h) hS0 (c_isLatin1 l G Y) trivial wd_J0_isLatin1_aae02 wV_J0_isLatin1_aae02 wL_J0_492 (vk_recv hZ.1 (i := 1) (by decide) hS0) rfl hl.1 rfl (Nat.le_of_ble_eq_true rfl) dJ0_charAt_5068e_1 ⟨Nat.le_of_ble_eq_true rfl, Nat.le_of_ble_eq_true rfl⟩ ⟨Nat.zero_le _, Nat.zero_le _⟩ (fun r1 H1 locs hp1 hT1 hS1 hk1 => ?_)
  obtain ⟨hp1, he⟩ := hp1
  have he := he.symm
  subst he
  have hp1 : r1 = 1 := hp1.2
  subst hp1
  refine lv_if_eq (tgt := 16) hx hb dJ0_charAt_5068e_4 (by decide) (fun h => absurd h (by decide)) (fun _ => ?_)
  refine lv_aload_n hx hb dJ0_charAt_5068e_7 rfl (lv_at hl 0 rfl) ?_
  refine vk_getf hx hb (hZ.1.1 1 (by decide)).2.2.1 hS1 hown (hts _ wF_J0_9) (fun _ h => h) dJ0_charAt_5068e_8 ?_
  refine lv_iload_n hx hb dJ0_charAt_5068e_11 rfl (lv_at hl 1 rfl) ?_
  refine h_callSi (rest := []) (As := [.ref (G.2.2.2 1), .int u1]) hx hb hml hown hts hK hT0 hZ (fun _ h => h) hS1 (c_charL1 l G Y u1 h0 h1) trivial wd_J1_charAt_3b067 wS_J1_charAt_3b067 wL_J0_495 rfl hl.1 rfl (Nat.le_of_ble_eq_true rfl) dJ0_charAt_5068e_12 ⟨Nat.le_of_ble_eq_true rfl, Nat.le_of_ble_eq_true rfl⟩ ⟨Nat.zero_le _, Nat.zero_le _⟩ (fun r3 H2 locs hp2 hT2 hS2 hk2 => ?_)
  obtain ⟨hp2, he⟩ := hp2
  have he := he.symm
  subst he
  have hp2 : r3 = h_chr 1 u1 := hp2
  subst hp2
  exact hret _ _ _ _ _ hT0 hS2 ⟨(h_cok 1 (by decide) _ (h_ltC (n := 3) (by (try simp only [Int32.lt_iff_toInt_lt, Int32.le_iff_toInt_le, ← Int32.toInt_inj, Int32.reduceToInt, (show (-1 : Int32).toInt = -1 from rfl)] at h0 ⊢); omega) (by (try simp only [Int32.lt_iff_toInt_lt, Int32.le_iff_toInt_le, ← Int32.toInt_inj, Int32.reduceToInt, (show (-1 : Int32).toInt = -1 from rfl)] at h1 ⊢); omega))).2, rfl, rfl⟩ dJ0_charAt_5068e_15
set_option maxHeartbeats 4000000 in
set_option maxRecDepth 100000 in
theorem c_coder2 (l : Launch) (G : hG) (Y : hW)  : hMi l yJ0_coder_7d493 cJ0_coder_7d493 1 (some .byte) 0 0 G Y [.ref (G.2.2.1 2)] (fun H => True) (fun H r H1 => (r = 0) ∧ H1 = H) := by
  refine h_ofb (by decide +kernel) (Nat.le_of_ble_eq_true rfl) ?_
  intro p e s m args below meth c H0 ls Q hx hb hts hown hml hK hZ hT0 hpr hS0 hl hret
  have hl : lv_has ls 1 [(0, .ref (G.2.2.1 2))] := hl
  refine va_gets hx hb hZ.2.2.1 hS0 hown (hts _ wF_J0_38) (fun _ h => h) dJ0_coder_7d493_0 ?_
  refine lv_if_eq (tgt := 13) hx hb dJ0_coder_7d493_3 (by decide) (fun h => absurd h (by decide)) (fun _ => ?_)
  refine lv_aload_n hx hb dJ0_coder_7d493_6 rfl (lv_at hl 0 rfl) ?_
  refine vk_getf hx hb (hZ.1.1 2 (by decide)).2.1 hS0 hown (hts _ wF_J0_15) (fun _ h => h) dJ0_coder_7d493_7 ?_
  refine lv_goto (tgt := 14) hx hb dJ0_coder_7d493_10 (by decide) ?_
  exact hret _ _ _ _ _ hT0 hS0 ⟨rfl, rfl, rfl⟩ dJ0_coder_7d493_14
set_option maxHeartbeats 4000000 in
set_option maxRecDepth 100000 in
theorem c_isLatin2 (l : Launch) (G : hG) (Y : hW)  : hMi l yJ0_isLatin1_aae02 cJ0_isLatin1_aae02 1 (some .boolean) 0 0 G Y [.ref (G.2.2.1 2)] (fun H => True) (fun H r H1 => ((r = 0 ∨ r = 1) ∧ r = 1) ∧ H1 = H) := by
  refine h_ofz (by decide +kernel) (Nat.le_of_ble_eq_true rfl) ?_
  intro p e s m args below meth c H0 ls Q hx hb hts hown hml hK hZ hT0 hpr hS0 hl hret
  have hl : lv_has ls 1 [(0, .ref (G.2.2.1 2))] := hl
  refine va_gets hx hb hZ.2.2.1 hS0 hown (hts _ wF_J0_38) (fun _ h => h) dJ0_isLatin1_aae02_0 ?_
  refine lv_if_eq (tgt := 17) hx hb dJ0_isLatin1_aae02_3 (by decide) (fun h => absurd h (by decide)) (fun _ => ?_)
  refine lv_aload_n hx hb dJ0_isLatin1_aae02_6 rfl (lv_at hl 0 rfl) ?_
  refine vk_getf hx hb (hZ.1.1 2 (by decide)).2.1 hS0 hown (hts _ wF_J0_15) (fun _ h => h) dJ0_isLatin1_aae02_7 ?_
  refine lv_if_ne (tgt := 17) hx hb dJ0_isLatin1_aae02_10 (by decide) (fun h => absurd (by decide) h) (fun _ => ?_)
  refine lv_iconst (v := 1) hx hb dJ0_isLatin1_aae02_13 (by decide) ?_
  refine lv_goto (tgt := 18) hx hb dJ0_isLatin1_aae02_14 (by decide) ?_
  exact hret _ _ _ _ _ hT0 hS0 ⟨(by decide), ⟨(by decide), rfl⟩, rfl⟩ dJ0_isLatin1_aae02_18
set_option maxHeartbeats 4000000 in
set_option maxRecDepth 100000 in
theorem c_length2 (l : Launch) (G : hG) (Y : hW)  : hMi l yJ0_length_8abf5 cJ0_length_8abf5 1 (some .int) 1 20 G Y [.ref (G.2.2.1 2)] (fun H => True) (fun H r H1 => (r = 7) ∧ H1 = H) := by
  refine h_ofi (by decide +kernel) (Nat.le_of_ble_eq_true rfl) ?_
  intro p e s m args below meth c H0 ls Q hx hb hts hown hml hK hZ hT0 hpr hS0 hl hret
  have hl : lv_has ls 1 [(0, .ref (G.2.2.1 2))] := hl
  refine lv_aload_n hx hb dJ0_length_8abf5_0 rfl (lv_at hl 0 rfl) ?_
  refine vk_getf hx hb (hZ.1.1 2 (by decide)).2.2.1 hS0 hown (hts _ wF_J0_9) (fun _ h => h) dJ0_length_8abf5_1 ?_
  refine va_tlen hx hb (hZ.1.1 2 (by decide)).2.2.2 hS0 (v := 7) (by decide) dJ0_length_8abf5_4 ?_
  refine lv_aload_n hx hb dJ0_length_8abf5_5 rfl (lv_at hl 0 rfl) ?_
  refine h_callWi (rest := [.int 7]) (As := []) hx hb hml hown hts hK hT0 hZ (fun _ h => h) hS0 (c_coder2 l G Y) trivial wd_J0_coder_7d493 wV_J0_coder_7d493 wL_J0_335 (vk_recv hZ.1 (i := 2) (by decide) hS0) rfl hl.1 rfl (Nat.le_of_ble_eq_true rfl) dJ0_length_8abf5_6 ⟨Nat.le_of_ble_eq_true rfl, Nat.le_of_ble_eq_true rfl⟩ ⟨Nat.zero_le _, Nat.zero_le _⟩ (fun r1 H1 locs hp1 hT1 hS1 hk1 => ?_)
  obtain ⟨hp1, he⟩ := hp1
  have he := he.symm
  subst he
  have hp1 : r1 = 0 := hp1
  subst hp1
  refine lv_ishr hx hb dJ0_length_8abf5_9 ?_
  refine h_top (v := 7) (by decide) ?_
  exact hret _ _ _ _ _ hT0 hS1 ⟨rfl, rfl⟩ dJ0_length_8abf5_10
set_option maxHeartbeats 4000000 in
set_option maxRecDepth 100000 in
theorem c_charL2 (l : Launch) (G : hG) (Y : hW) (u1 : Int32) (h0 : ¬ u1 < 0) (h1 : u1 < 7) : hMi l yJ1_charAt_3b067 cJ1_charAt_3b067 2 (some .char) 2 43 G Y [.ref (G.2.2.2 2), .int u1] (fun H => True) (fun H r H1 => (r = h_chr 2 u1) ∧ H1 = H) := by
  refine h_ofc (by decide +kernel) (Nat.le_of_ble_eq_true rfl) ?_
  intro p e s m args below meth c H0 ls Q hx hb hts hown hml hK hZ hT0 hpr hS0 hl hret
  have hl : lv_has ls 2 [(0, .ref (G.2.2.2 2)), (1, .int u1)] := hl
  refine lv_iload_n hx hb dJ1_charAt_3b067_0 rfl (lv_at hl 1 rfl) ?_
  refine lv_aload_n hx hb dJ1_charAt_3b067_1 rfl (lv_at hl 0 rfl) ?_
  refine va_tlen hx hb (hZ.1.1 2 (by decide)).2.2.2 hS0 (v := 7) (by decide) dJ1_charAt_3b067_2 ?_
  refine h_callSv (rest := []) (As := [.int u1, .int 7]) hx hb hml hown hts hK hT0 hZ (fun _ h => h) hS0 (c_scheck l G Y u1 7 h0 h1) trivial wd_J0_checkIndex_df160 wS_J0_checkIndex_df160 wL_J1_9 rfl hl.1 rfl (Nat.le_of_ble_eq_true rfl) dJ1_charAt_3b067_3 ⟨Nat.le_of_ble_eq_true rfl, Nat.le_of_ble_eq_true rfl⟩ ⟨Nat.zero_le _, Nat.zero_le _⟩ (fun H1 locs hp1 hT1 hS1 hk1 => ?_)
  have he := hp1.symm
  subst he
  refine lv_aload_n hx hb dJ1_charAt_3b067_6 rfl (lv_at hl 0 rfl) ?_
  refine lv_iload_n hx hb dJ1_charAt_3b067_7 rfl (lv_at hl 1 rfl) ?_
  refine va_tb hx hb (hZ.1.1 2 (by decide)).2.2.2 hS1 (show vp_in u1 7 from (vp_in_iff.mpr (by (try simp only [Int32.lt_iff_toInt_lt, Int32.le_iff_toInt_le, ← Int32.toInt_inj, Int32.reduceToInt, (show (-1 : Int32).toInt = -1 from rfl)] at h0 h1 ⊢); omega))) (v := .int (h_chr 2 u1)) rfl dJ1_charAt_3b067_8 ?_
  refine lv_sipush (v := 255) hx hb dJ1_charAt_3b067_9 (by decide) ?_
  refine lv_iand hx hb dJ1_charAt_3b067_12 ?_
  refine lv_i2c hx hb dJ1_charAt_3b067_13 (v := (h_chr 2 u1)) (h_cok 2 (by decide) _ (h_ltC (n := 7) (by (try simp only [Int32.lt_iff_toInt_lt, Int32.le_iff_toInt_le, ← Int32.toInt_inj, Int32.reduceToInt, (show (-1 : Int32).toInt = -1 from rfl)] at h0 h1 ⊢); omega) (by (try simp only [Int32.lt_iff_toInt_lt, Int32.le_iff_toInt_le, ← Int32.toInt_inj, Int32.reduceToInt, (show (-1 : Int32).toInt = -1 from rfl)] at h0 h1 ⊢); omega))).1 ?_
  exact hret _ _ _ _ _ hT0 hS1 ⟨(h_cok 2 (by decide) _ (h_ltC (n := 7) (by (try simp only [Int32.lt_iff_toInt_lt, Int32.le_iff_toInt_le, ← Int32.toInt_inj, Int32.reduceToInt, (show (-1 : Int32).toInt = -1 from rfl)] at h0 ⊢); omega) (by (try simp only [Int32.lt_iff_toInt_lt, Int32.le_iff_toInt_le, ← Int32.toInt_inj, Int32.reduceToInt, (show (-1 : Int32).toInt = -1 from rfl)] at h1 ⊢); omega))).2, rfl, rfl⟩ dJ1_charAt_3b067_14
set_option maxHeartbeats 4000000 in
set_option maxRecDepth 100000 in
theorem c_char2 (l : Launch) (G : hG) (Y : hW) (u1 : Int32) (h0 : ¬ u1 < 0) (h1 : u1 < 7) : hMi l yJ0_charAt_5068e cJ0_charAt_5068e 2 (some .char) 3 64 G Y [.ref (G.2.2.1 2), .int u1] (fun H => True) (fun H r H1 => (r = h_chr 2 u1) ∧ H1 = H) := by
  refine h_ofc (by decide +kernel) (Nat.le_of_ble_eq_true rfl) ?_
  intro p e s m args below meth c H0 ls Q hx hb hts hown hml hK hZ hT0 hpr hS0 hl hret
  have hl : lv_has ls 2 [(0, .ref (G.2.2.1 2)), (1, .int u1)] := hl
  refine lv_aload_n hx hb dJ0_charAt_5068e_0 rfl (lv_at hl 0 rfl) ?_
  refine h_callWi (rest := []) (As := []) hx hb hml hown hts hK hT0 hZ (fun _ h => h) hS0 (c_isLatin2 l G Y) trivial wd_J0_isLatin1_aae02 wV_J0_isLatin1_aae02 wL_J0_492 (vk_recv hZ.1 (i := 2) (by decide) hS0) rfl hl.1 rfl (Nat.le_of_ble_eq_true rfl) dJ0_charAt_5068e_1 ⟨Nat.le_of_ble_eq_true rfl, Nat.le_of_ble_eq_true rfl⟩ ⟨Nat.zero_le _, Nat.zero_le _⟩ (fun r1 H1 locs hp1 hT1 hS1 hk1 => ?_)
  obtain ⟨hp1, he⟩ := hp1
  have he := he.symm
  subst he
  have hp1 : r1 = 1 := hp1.2
  subst hp1
  refine lv_if_eq (tgt := 16) hx hb dJ0_charAt_5068e_4 (by decide) (fun h => absurd h (by decide)) (fun _ => ?_)
  refine lv_aload_n hx hb dJ0_charAt_5068e_7 rfl (lv_at hl 0 rfl) ?_
  refine vk_getf hx hb (hZ.1.1 2 (by decide)).2.2.1 hS1 hown (hts _ wF_J0_9) (fun _ h => h) dJ0_charAt_5068e_8 ?_
  refine lv_iload_n hx hb dJ0_charAt_5068e_11 rfl (lv_at hl 1 rfl) ?_
  refine h_callSi (rest := []) (As := [.ref (G.2.2.2 2), .int u1]) hx hb hml hown hts hK hT0 hZ (fun _ h => h) hS1 (c_charL2 l G Y u1 h0 h1) trivial wd_J1_charAt_3b067 wS_J1_charAt_3b067 wL_J0_495 rfl hl.1 rfl (Nat.le_of_ble_eq_true rfl) dJ0_charAt_5068e_12 ⟨Nat.le_of_ble_eq_true rfl, Nat.le_of_ble_eq_true rfl⟩ ⟨Nat.zero_le _, Nat.zero_le _⟩ (fun r3 H2 locs hp2 hT2 hS2 hk2 => ?_)
  obtain ⟨hp2, he⟩ := hp2
  have he := he.symm
  subst he
  have hp2 : r3 = h_chr 2 u1 := hp2
  subst hp2
  exact hret _ _ _ _ _ hT0 hS2 ⟨(h_cok 2 (by decide) _ (h_ltC (n := 7) (by (try simp only [Int32.lt_iff_toInt_lt, Int32.le_iff_toInt_le, ← Int32.toInt_inj, Int32.reduceToInt, (show (-1 : Int32).toInt = -1 from rfl)] at h0 ⊢); omega) (by (try simp only [Int32.lt_iff_toInt_lt, Int32.le_iff_toInt_le, ← Int32.toInt_inj, Int32.reduceToInt, (show (-1 : Int32).toInt = -1 from rfl)] at h1 ⊢); omega))).2, rfl, rfl⟩ dJ0_charAt_5068e_15
set_option maxHeartbeats 4000000 in
set_option maxRecDepth 100000 in
theorem c_coder3 (l : Launch) (G : hG) (Y : hW)  : hMi l yJ0_coder_7d493 cJ0_coder_7d493 1 (some .byte) 0 0 G Y [.ref (G.2.2.1 3)] (fun H => True) (fun H r H1 => (r = 0) ∧ H1 = H) := by
  refine h_ofb (by decide +kernel) (Nat.le_of_ble_eq_true rfl) ?_
  intro p e s m args below meth c H0 ls Q hx hb hts hown hml hK hZ hT0 hpr hS0 hl hret
  have hl : lv_has ls 1 [(0, .ref (G.2.2.1 3))] := hl
  refine va_gets hx hb hZ.2.2.1 hS0 hown (hts _ wF_J0_38) (fun _ h => h) dJ0_coder_7d493_0 ?_
  refine lv_if_eq (tgt := 13) hx hb dJ0_coder_7d493_3 (by decide) (fun h => absurd h (by decide)) (fun _ => ?_)
  refine lv_aload_n hx hb dJ0_coder_7d493_6 rfl (lv_at hl 0 rfl) ?_
  refine vk_getf hx hb (hZ.1.1 3 (by decide)).2.1 hS0 hown (hts _ wF_J0_15) (fun _ h => h) dJ0_coder_7d493_7 ?_
  refine lv_goto (tgt := 14) hx hb dJ0_coder_7d493_10 (by decide) ?_
  exact hret _ _ _ _ _ hT0 hS0 ⟨rfl, rfl, rfl⟩ dJ0_coder_7d493_14
set_option maxHeartbeats 4000000 in
set_option maxRecDepth 100000 in
theorem c_isLatin3 (l : Launch) (G : hG) (Y : hW)  : hMi l yJ0_isLatin1_aae02 cJ0_isLatin1_aae02 1 (some .boolean) 0 0 G Y [.ref (G.2.2.1 3)] (fun H => True) (fun H r H1 => ((r = 0 ∨ r = 1) ∧ r = 1) ∧ H1 = H) := by
  refine h_ofz (by decide +kernel) (Nat.le_of_ble_eq_true rfl) ?_
  intro p e s m args below meth c H0 ls Q hx hb hts hown hml hK hZ hT0 hpr hS0 hl hret
  have hl : lv_has ls 1 [(0, .ref (G.2.2.1 3))] := hl
  refine va_gets hx hb hZ.2.2.1 hS0 hown (hts _ wF_J0_38) (fun _ h => h) dJ0_isLatin1_aae02_0 ?_
  refine lv_if_eq (tgt := 17) hx hb dJ0_isLatin1_aae02_3 (by decide) (fun h => absurd h (by decide)) (fun _ => ?_)
  refine lv_aload_n hx hb dJ0_isLatin1_aae02_6 rfl (lv_at hl 0 rfl) ?_
  refine vk_getf hx hb (hZ.1.1 3 (by decide)).2.1 hS0 hown (hts _ wF_J0_15) (fun _ h => h) dJ0_isLatin1_aae02_7 ?_
  refine lv_if_ne (tgt := 17) hx hb dJ0_isLatin1_aae02_10 (by decide) (fun h => absurd (by decide) h) (fun _ => ?_)
  refine lv_iconst (v := 1) hx hb dJ0_isLatin1_aae02_13 (by decide) ?_
  refine lv_goto (tgt := 18) hx hb dJ0_isLatin1_aae02_14 (by decide) ?_
  exact hret _ _ _ _ _ hT0 hS0 ⟨(by decide), ⟨(by decide), rfl⟩, rfl⟩ dJ0_isLatin1_aae02_18
set_option maxHeartbeats 4000000 in
set_option maxRecDepth 100000 in
theorem c_length3 (l : Launch) (G : hG) (Y : hW)  : hMi l yJ0_length_8abf5 cJ0_length_8abf5 1 (some .int) 1 20 G Y [.ref (G.2.2.1 3)] (fun H => True) (fun H r H1 => (r = 4) ∧ H1 = H) := by
  refine h_ofi (by decide +kernel) (Nat.le_of_ble_eq_true rfl) ?_
  intro p e s m args below meth c H0 ls Q hx hb hts hown hml hK hZ hT0 hpr hS0 hl hret
  have hl : lv_has ls 1 [(0, .ref (G.2.2.1 3))] := hl
  refine lv_aload_n hx hb dJ0_length_8abf5_0 rfl (lv_at hl 0 rfl) ?_
  refine vk_getf hx hb (hZ.1.1 3 (by decide)).2.2.1 hS0 hown (hts _ wF_J0_9) (fun _ h => h) dJ0_length_8abf5_1 ?_
  refine va_tlen hx hb (hZ.1.1 3 (by decide)).2.2.2 hS0 (v := 4) (by decide) dJ0_length_8abf5_4 ?_
  refine lv_aload_n hx hb dJ0_length_8abf5_5 rfl (lv_at hl 0 rfl) ?_
  refine h_callWi (rest := [.int 4]) (As := []) hx hb hml hown hts hK hT0 hZ (fun _ h => h) hS0 (c_coder3 l G Y) trivial wd_J0_coder_7d493 wV_J0_coder_7d493 wL_J0_335 (vk_recv hZ.1 (i := 3) (by decide) hS0) rfl hl.1 rfl (Nat.le_of_ble_eq_true rfl) dJ0_length_8abf5_6 ⟨Nat.le_of_ble_eq_true rfl, Nat.le_of_ble_eq_true rfl⟩ ⟨Nat.zero_le _, Nat.zero_le _⟩ (fun r1 H1 locs hp1 hT1 hS1 hk1 => ?_)
  obtain ⟨hp1, he⟩ := hp1
  have he := he.symm
  subst he
  have hp1 : r1 = 0 := hp1
  subst hp1
  refine lv_ishr hx hb dJ0_length_8abf5_9 ?_
  refine h_top (v := 4) (by decide) ?_
  exact hret _ _ _ _ _ hT0 hS1 ⟨rfl, rfl⟩ dJ0_length_8abf5_10
set_option maxHeartbeats 4000000 in
set_option maxRecDepth 100000 in
theorem c_charL3 (l : Launch) (G : hG) (Y : hW) (u1 : Int32) (h0 : ¬ u1 < 0) (h1 : u1 < 4) : hMi l yJ1_charAt_3b067 cJ1_charAt_3b067 2 (some .char) 2 43 G Y [.ref (G.2.2.2 3), .int u1] (fun H => True) (fun H r H1 => (r = h_chr 3 u1) ∧ H1 = H) := by
  refine h_ofc (by decide +kernel) (Nat.le_of_ble_eq_true rfl) ?_
  intro p e s m args below meth c H0 ls Q hx hb hts hown hml hK hZ hT0 hpr hS0 hl hret
  have hl : lv_has ls 2 [(0, .ref (G.2.2.2 3)), (1, .int u1)] := hl
  refine lv_iload_n hx hb dJ1_charAt_3b067_0 rfl (lv_at hl 1 rfl) ?_
  refine lv_aload_n hx hb dJ1_charAt_3b067_1 rfl (lv_at hl 0 rfl) ?_
  refine va_tlen hx hb (hZ.1.1 3 (by decide)).2.2.2 hS0 (v := 4) (by decide) dJ1_charAt_3b067_2 ?_
  refine h_callSv (rest := []) (As := [.int u1, .int 4]) hx hb hml hown hts hK hT0 hZ (fun _ h => h) hS0 (c_scheck l G Y u1 4 h0 h1) trivial wd_J0_checkIndex_df160 wS_J0_checkIndex_df160 wL_J1_9 rfl hl.1 rfl (Nat.le_of_ble_eq_true rfl) dJ1_charAt_3b067_3 ⟨Nat.le_of_ble_eq_true rfl, Nat.le_of_ble_eq_true rfl⟩ ⟨Nat.zero_le _, Nat.zero_le _⟩ (fun H1 locs hp1 hT1 hS1 hk1 => ?_)
  have he := hp1.symm
  subst he
  refine lv_aload_n hx hb dJ1_charAt_3b067_6 rfl (lv_at hl 0 rfl) ?_
  refine lv_iload_n hx hb dJ1_charAt_3b067_7 rfl (lv_at hl 1 rfl) ?_
  refine va_tb hx hb (hZ.1.1 3 (by decide)).2.2.2 hS1 (show vp_in u1 4 from (vp_in_iff.mpr (by (try simp only [Int32.lt_iff_toInt_lt, Int32.le_iff_toInt_le, ← Int32.toInt_inj, Int32.reduceToInt, (show (-1 : Int32).toInt = -1 from rfl)] at h0 h1 ⊢); omega))) (v := .int (h_chr 3 u1)) rfl dJ1_charAt_3b067_8 ?_
  refine lv_sipush (v := 255) hx hb dJ1_charAt_3b067_9 (by decide) ?_
  refine lv_iand hx hb dJ1_charAt_3b067_12 ?_
  refine lv_i2c hx hb dJ1_charAt_3b067_13 (v := (h_chr 3 u1)) (h_cok 3 (by decide) _ (h_ltC (n := 4) (by (try simp only [Int32.lt_iff_toInt_lt, Int32.le_iff_toInt_le, ← Int32.toInt_inj, Int32.reduceToInt, (show (-1 : Int32).toInt = -1 from rfl)] at h0 h1 ⊢); omega) (by (try simp only [Int32.lt_iff_toInt_lt, Int32.le_iff_toInt_le, ← Int32.toInt_inj, Int32.reduceToInt, (show (-1 : Int32).toInt = -1 from rfl)] at h0 h1 ⊢); omega))).1 ?_
  exact hret _ _ _ _ _ hT0 hS1 ⟨(h_cok 3 (by decide) _ (h_ltC (n := 4) (by (try simp only [Int32.lt_iff_toInt_lt, Int32.le_iff_toInt_le, ← Int32.toInt_inj, Int32.reduceToInt, (show (-1 : Int32).toInt = -1 from rfl)] at h0 ⊢); omega) (by (try simp only [Int32.lt_iff_toInt_lt, Int32.le_iff_toInt_le, ← Int32.toInt_inj, Int32.reduceToInt, (show (-1 : Int32).toInt = -1 from rfl)] at h1 ⊢); omega))).2, rfl, rfl⟩ dJ1_charAt_3b067_14
set_option maxHeartbeats 4000000 in
set_option maxRecDepth 100000 in
theorem c_char3 (l : Launch) (G : hG) (Y : hW) (u1 : Int32) (h0 : ¬ u1 < 0) (h1 : u1 < 4) : hMi l yJ0_charAt_5068e cJ0_charAt_5068e 2 (some .char) 3 64 G Y [.ref (G.2.2.1 3), .int u1] (fun H => True) (fun H r H1 => (r = h_chr 3 u1) ∧ H1 = H) := by
  refine h_ofc (by decide +kernel) (Nat.le_of_ble_eq_true rfl) ?_
  intro p e s m args below meth c H0 ls Q hx hb hts hown hml hK hZ hT0 hpr hS0 hl hret
  have hl : lv_has ls 2 [(0, .ref (G.2.2.1 3)), (1, .int u1)] := hl
  refine lv_aload_n hx hb dJ0_charAt_5068e_0 rfl (lv_at hl 0 rfl) ?_
  refine h_callWi (rest := []) (As := []) hx hb hml hown hts hK hT0 hZ (fun _ h => h) hS0 (c_isLatin3 l G Y) trivial wd_J0_isLatin1_aae02 wV_J0_isLatin1_aae02 wL_J0_492 (vk_recv hZ.1 (i := 3) (by decide) hS0) rfl hl.1 rfl (Nat.le_of_ble_eq_true rfl) dJ0_charAt_5068e_1 ⟨Nat.le_of_ble_eq_true rfl, Nat.le_of_ble_eq_true rfl⟩ ⟨Nat.zero_le _, Nat.zero_le _⟩ (fun r1 H1 locs hp1 hT1 hS1 hk1 => ?_)
  obtain ⟨hp1, he⟩ := hp1
  have he := he.symm
  subst he
  have hp1 : r1 = 1 := hp1.2
  subst hp1
  refine lv_if_eq (tgt := 16) hx hb dJ0_charAt_5068e_4 (by decide) (fun h => absurd h (by decide)) (fun _ => ?_)
  refine lv_aload_n hx hb dJ0_charAt_5068e_7 rfl (lv_at hl 0 rfl) ?_
  refine vk_getf hx hb (hZ.1.1 3 (by decide)).2.2.1 hS1 hown (hts _ wF_J0_9) (fun _ h => h) dJ0_charAt_5068e_8 ?_
  refine lv_iload_n hx hb dJ0_charAt_5068e_11 rfl (lv_at hl 1 rfl) ?_
  refine h_callSi (rest := []) (As := [.ref (G.2.2.2 3), .int u1]) hx hb hml hown hts hK hT0 hZ (fun _ h => h) hS1 (c_charL3 l G Y u1 h0 h1) trivial wd_J1_charAt_3b067 wS_J1_charAt_3b067 wL_J0_495 rfl hl.1 rfl (Nat.le_of_ble_eq_true rfl) dJ0_charAt_5068e_12 ⟨Nat.le_of_ble_eq_true rfl, Nat.le_of_ble_eq_true rfl⟩ ⟨Nat.zero_le _, Nat.zero_le _⟩ (fun r3 H2 locs hp2 hT2 hS2 hk2 => ?_)
  obtain ⟨hp2, he⟩ := hp2
  have he := he.symm
  subst he
  have hp2 : r3 = h_chr 3 u1 := hp2
  subst hp2
  exact hret _ _ _ _ _ hT0 hS2 ⟨(h_cok 3 (by decide) _ (h_ltC (n := 4) (by (try simp only [Int32.lt_iff_toInt_lt, Int32.le_iff_toInt_le, ← Int32.toInt_inj, Int32.reduceToInt, (show (-1 : Int32).toInt = -1 from rfl)] at h0 ⊢); omega) (by (try simp only [Int32.lt_iff_toInt_lt, Int32.le_iff_toInt_le, ← Int32.toInt_inj, Int32.reduceToInt, (show (-1 : Int32).toInt = -1 from rfl)] at h1 ⊢); omega))).2, rfl, rfl⟩ dJ0_charAt_5068e_15
set_option maxHeartbeats 4000000 in
set_option maxRecDepth 100000 in
theorem c_coder4 (l : Launch) (G : hG) (Y : hW)  : hMi l yJ0_coder_7d493 cJ0_coder_7d493 1 (some .byte) 0 0 G Y [.ref (G.2.2.1 4)] (fun H => True) (fun H r H1 => (r = 0) ∧ H1 = H) := by
  refine h_ofb (by decide +kernel) (Nat.le_of_ble_eq_true rfl) ?_
  intro p e s m args below meth c H0 ls Q hx hb hts hown hml hK hZ hT0 hpr hS0 hl hret
  have hl : lv_has ls 1 [(0, .ref (G.2.2.1 4))] := hl
  refine va_gets hx hb hZ.2.2.1 hS0 hown (hts _ wF_J0_38) (fun _ h => h) dJ0_coder_7d493_0 ?_
  refine lv_if_eq (tgt := 13) hx hb dJ0_coder_7d493_3 (by decide) (fun h => absurd h (by decide)) (fun _ => ?_)
  refine lv_aload_n hx hb dJ0_coder_7d493_6 rfl (lv_at hl 0 rfl) ?_
  refine vk_getf hx hb (hZ.1.1 4 (by decide)).2.1 hS0 hown (hts _ wF_J0_15) (fun _ h => h) dJ0_coder_7d493_7 ?_
  refine lv_goto (tgt := 14) hx hb dJ0_coder_7d493_10 (by decide) ?_
  exact hret _ _ _ _ _ hT0 hS0 ⟨rfl, rfl, rfl⟩ dJ0_coder_7d493_14
set_option maxHeartbeats 4000000 in
set_option maxRecDepth 100000 in
theorem c_isLatin4 (l : Launch) (G : hG) (Y : hW)  : hMi l yJ0_isLatin1_aae02 cJ0_isLatin1_aae02 1 (some .boolean) 0 0 G Y [.ref (G.2.2.1 4)] (fun H => True) (fun H r H1 => ((r = 0 ∨ r = 1) ∧ r = 1) ∧ H1 = H) := by
  refine h_ofz (by decide +kernel) (Nat.le_of_ble_eq_true rfl) ?_
  intro p e s m args below meth c H0 ls Q hx hb hts hown hml hK hZ hT0 hpr hS0 hl hret
  have hl : lv_has ls 1 [(0, .ref (G.2.2.1 4))] := hl
  refine va_gets hx hb hZ.2.2.1 hS0 hown (hts _ wF_J0_38) (fun _ h => h) dJ0_isLatin1_aae02_0 ?_
  refine lv_if_eq (tgt := 17) hx hb dJ0_isLatin1_aae02_3 (by decide) (fun h => absurd h (by decide)) (fun _ => ?_)
  refine lv_aload_n hx hb dJ0_isLatin1_aae02_6 rfl (lv_at hl 0 rfl) ?_
  refine vk_getf hx hb (hZ.1.1 4 (by decide)).2.1 hS0 hown (hts _ wF_J0_15) (fun _ h => h) dJ0_isLatin1_aae02_7 ?_
  refine lv_if_ne (tgt := 17) hx hb dJ0_isLatin1_aae02_10 (by decide) (fun h => absurd (by decide) h) (fun _ => ?_)
  refine lv_iconst (v := 1) hx hb dJ0_isLatin1_aae02_13 (by decide) ?_
  refine lv_goto (tgt := 18) hx hb dJ0_isLatin1_aae02_14 (by decide) ?_
  exact hret _ _ _ _ _ hT0 hS0 ⟨(by decide), ⟨(by decide), rfl⟩, rfl⟩ dJ0_isLatin1_aae02_18
set_option maxHeartbeats 4000000 in
set_option maxRecDepth 100000 in
theorem c_length4 (l : Launch) (G : hG) (Y : hW)  : hMi l yJ0_length_8abf5 cJ0_length_8abf5 1 (some .int) 1 20 G Y [.ref (G.2.2.1 4)] (fun H => True) (fun H r H1 => (r = 5) ∧ H1 = H) := by
  refine h_ofi (by decide +kernel) (Nat.le_of_ble_eq_true rfl) ?_
  intro p e s m args below meth c H0 ls Q hx hb hts hown hml hK hZ hT0 hpr hS0 hl hret
  have hl : lv_has ls 1 [(0, .ref (G.2.2.1 4))] := hl
  refine lv_aload_n hx hb dJ0_length_8abf5_0 rfl (lv_at hl 0 rfl) ?_
  refine vk_getf hx hb (hZ.1.1 4 (by decide)).2.2.1 hS0 hown (hts _ wF_J0_9) (fun _ h => h) dJ0_length_8abf5_1 ?_
  refine va_tlen hx hb (hZ.1.1 4 (by decide)).2.2.2 hS0 (v := 5) (by decide) dJ0_length_8abf5_4 ?_
  refine lv_aload_n hx hb dJ0_length_8abf5_5 rfl (lv_at hl 0 rfl) ?_
  refine h_callWi (rest := [.int 5]) (As := []) hx hb hml hown hts hK hT0 hZ (fun _ h => h) hS0 (c_coder4 l G Y) trivial wd_J0_coder_7d493 wV_J0_coder_7d493 wL_J0_335 (vk_recv hZ.1 (i := 4) (by decide) hS0) rfl hl.1 rfl (Nat.le_of_ble_eq_true rfl) dJ0_length_8abf5_6 ⟨Nat.le_of_ble_eq_true rfl, Nat.le_of_ble_eq_true rfl⟩ ⟨Nat.zero_le _, Nat.zero_le _⟩ (fun r1 H1 locs hp1 hT1 hS1 hk1 => ?_)
  obtain ⟨hp1, he⟩ := hp1
  have he := he.symm
  subst he
  have hp1 : r1 = 0 := hp1
  subst hp1
  refine lv_ishr hx hb dJ0_length_8abf5_9 ?_
  refine h_top (v := 5) (by decide) ?_
  exact hret _ _ _ _ _ hT0 hS1 ⟨rfl, rfl⟩ dJ0_length_8abf5_10
set_option maxHeartbeats 4000000 in
set_option maxRecDepth 100000 in
theorem c_charL4 (l : Launch) (G : hG) (Y : hW) (u1 : Int32) (h0 : ¬ u1 < 0) (h1 : u1 < 5) : hMi l yJ1_charAt_3b067 cJ1_charAt_3b067 2 (some .char) 2 43 G Y [.ref (G.2.2.2 4), .int u1] (fun H => True) (fun H r H1 => (r = h_chr 4 u1) ∧ H1 = H) := by
  refine h_ofc (by decide +kernel) (Nat.le_of_ble_eq_true rfl) ?_
  intro p e s m args below meth c H0 ls Q hx hb hts hown hml hK hZ hT0 hpr hS0 hl hret
  have hl : lv_has ls 2 [(0, .ref (G.2.2.2 4)), (1, .int u1)] := hl
  refine lv_iload_n hx hb dJ1_charAt_3b067_0 rfl (lv_at hl 1 rfl) ?_
  refine lv_aload_n hx hb dJ1_charAt_3b067_1 rfl (lv_at hl 0 rfl) ?_
  refine va_tlen hx hb (hZ.1.1 4 (by decide)).2.2.2 hS0 (v := 5) (by decide) dJ1_charAt_3b067_2 ?_
  refine h_callSv (rest := []) (As := [.int u1, .int 5]) hx hb hml hown hts hK hT0 hZ (fun _ h => h) hS0 (c_scheck l G Y u1 5 h0 h1) trivial wd_J0_checkIndex_df160 wS_J0_checkIndex_df160 wL_J1_9 rfl hl.1 rfl (Nat.le_of_ble_eq_true rfl) dJ1_charAt_3b067_3 ⟨Nat.le_of_ble_eq_true rfl, Nat.le_of_ble_eq_true rfl⟩ ⟨Nat.zero_le _, Nat.zero_le _⟩ (fun H1 locs hp1 hT1 hS1 hk1 => ?_)
  have he := hp1.symm
  subst he
  refine lv_aload_n hx hb dJ1_charAt_3b067_6 rfl (lv_at hl 0 rfl) ?_
  refine lv_iload_n hx hb dJ1_charAt_3b067_7 rfl (lv_at hl 1 rfl) ?_
  refine va_tb hx hb (hZ.1.1 4 (by decide)).2.2.2 hS1 (show vp_in u1 5 from (vp_in_iff.mpr (by (try simp only [Int32.lt_iff_toInt_lt, Int32.le_iff_toInt_le, ← Int32.toInt_inj, Int32.reduceToInt, (show (-1 : Int32).toInt = -1 from rfl)] at h0 h1 ⊢); omega))) (v := .int (h_chr 4 u1)) rfl dJ1_charAt_3b067_8 ?_
  refine lv_sipush (v := 255) hx hb dJ1_charAt_3b067_9 (by decide) ?_
  refine lv_iand hx hb dJ1_charAt_3b067_12 ?_
  refine lv_i2c hx hb dJ1_charAt_3b067_13 (v := (h_chr 4 u1)) (h_cok 4 (by decide) _ (h_ltC (n := 5) (by (try simp only [Int32.lt_iff_toInt_lt, Int32.le_iff_toInt_le, ← Int32.toInt_inj, Int32.reduceToInt, (show (-1 : Int32).toInt = -1 from rfl)] at h0 h1 ⊢); omega) (by (try simp only [Int32.lt_iff_toInt_lt, Int32.le_iff_toInt_le, ← Int32.toInt_inj, Int32.reduceToInt, (show (-1 : Int32).toInt = -1 from rfl)] at h0 h1 ⊢); omega))).1 ?_
  exact hret _ _ _ _ _ hT0 hS1 ⟨(h_cok 4 (by decide) _ (h_ltC (n := 5) (by (try simp only [Int32.lt_iff_toInt_lt, Int32.le_iff_toInt_le, ← Int32.toInt_inj, Int32.reduceToInt, (show (-1 : Int32).toInt = -1 from rfl)] at h0 ⊢); omega) (by (try simp only [Int32.lt_iff_toInt_lt, Int32.le_iff_toInt_le, ← Int32.toInt_inj, Int32.reduceToInt, (show (-1 : Int32).toInt = -1 from rfl)] at h1 ⊢); omega))).2, rfl, rfl⟩ dJ1_charAt_3b067_14
set_option maxHeartbeats 4000000 in
set_option maxRecDepth 100000 in
theorem c_char4 (l : Launch) (G : hG) (Y : hW) (u1 : Int32) (h0 : ¬ u1 < 0) (h1 : u1 < 5) : hMi l yJ0_charAt_5068e cJ0_charAt_5068e 2 (some .char) 3 64 G Y [.ref (G.2.2.1 4), .int u1] (fun H => True) (fun H r H1 => (r = h_chr 4 u1) ∧ H1 = H) := by
  refine h_ofc (by decide +kernel) (Nat.le_of_ble_eq_true rfl) ?_
  intro p e s m args below meth c H0 ls Q hx hb hts hown hml hK hZ hT0 hpr hS0 hl hret
  have hl : lv_has ls 2 [(0, .ref (G.2.2.1 4)), (1, .int u1)] := hl
  refine lv_aload_n hx hb dJ0_charAt_5068e_0 rfl (lv_at hl 0 rfl) ?_
  refine h_callWi (rest := []) (As := []) hx hb hml hown hts hK hT0 hZ (fun _ h => h) hS0 (c_isLatin4 l G Y) trivial wd_J0_isLatin1_aae02 wV_J0_isLatin1_aae02 wL_J0_492 (vk_recv hZ.1 (i := 4) (by decide) hS0) rfl hl.1 rfl (Nat.le_of_ble_eq_true rfl) dJ0_charAt_5068e_1 ⟨Nat.le_of_ble_eq_true rfl, Nat.le_of_ble_eq_true rfl⟩ ⟨Nat.zero_le _, Nat.zero_le _⟩ (fun r1 H1 locs hp1 hT1 hS1 hk1 => ?_)
  obtain ⟨hp1, he⟩ := hp1
  have he := he.symm
  subst he
  have hp1 : r1 = 1 := hp1.2
  subst hp1
  refine lv_if_eq (tgt := 16) hx hb dJ0_charAt_5068e_4 (by decide) (fun h => absurd h (by decide)) (fun _ => ?_)
  refine lv_aload_n hx hb dJ0_charAt_5068e_7 rfl (lv_at hl 0 rfl) ?_
  refine vk_getf hx hb (hZ.1.1 4 (by decide)).2.2.1 hS1 hown (hts _ wF_J0_9) (fun _ h => h) dJ0_charAt_5068e_8 ?_
  refine lv_iload_n hx hb dJ0_charAt_5068e_11 rfl (lv_at hl 1 rfl) ?_
  refine h_callSi (rest := []) (As := [.ref (G.2.2.2 4), .int u1]) hx hb hml hown hts hK hT0 hZ (fun _ h => h) hS1 (c_charL4 l G Y u1 h0 h1) trivial wd_J1_charAt_3b067 wS_J1_charAt_3b067 wL_J0_495 rfl hl.1 rfl (Nat.le_of_ble_eq_true rfl) dJ0_charAt_5068e_12 ⟨Nat.le_of_ble_eq_true rfl, Nat.le_of_ble_eq_true rfl⟩ ⟨Nat.zero_le _, Nat.zero_le _⟩ (fun r3 H2 locs hp2 hT2 hS2 hk2 => ?_)
  obtain ⟨hp2, he⟩ := hp2
  have he := he.symm
  subst he
  have hp2 : r3 = h_chr 4 u1 := hp2
  subst hp2
  exact hret _ _ _ _ _ hT0 hS2 ⟨(h_cok 4 (by decide) _ (h_ltC (n := 5) (by (try simp only [Int32.lt_iff_toInt_lt, Int32.le_iff_toInt_le, ← Int32.toInt_inj, Int32.reduceToInt, (show (-1 : Int32).toInt = -1 from rfl)] at h0 ⊢); omega) (by (try simp only [Int32.lt_iff_toInt_lt, Int32.le_iff_toInt_le, ← Int32.toInt_inj, Int32.reduceToInt, (show (-1 : Int32).toInt = -1 from rfl)] at h1 ⊢); omega))).2, rfl, rfl⟩ dJ0_charAt_5068e_15
set_option maxHeartbeats 4000000 in
set_option maxRecDepth 100000 in
theorem c_coder5 (l : Launch) (G : hG) (Y : hW)  : hMi l yJ0_coder_7d493 cJ0_coder_7d493 1 (some .byte) 0 0 G Y [.ref (G.2.2.1 5)] (fun H => True) (fun H r H1 => (r = 0) ∧ H1 = H) := by
  refine h_ofb (by decide +kernel) (Nat.le_of_ble_eq_true rfl) ?_
  intro p e s m args below meth c H0 ls Q hx hb hts hown hml hK hZ hT0 hpr hS0 hl hret
  have hl : lv_has ls 1 [(0, .ref (G.2.2.1 5))] := hl
  refine va_gets hx hb hZ.2.2.1 hS0 hown (hts _ wF_J0_38) (fun _ h => h) dJ0_coder_7d493_0 ?_
  refine lv_if_eq (tgt := 13) hx hb dJ0_coder_7d493_3 (by decide) (fun h => absurd h (by decide)) (fun _ => ?_)
  refine lv_aload_n hx hb dJ0_coder_7d493_6 rfl (lv_at hl 0 rfl) ?_
  refine vk_getf hx hb (hZ.1.1 5 (by decide)).2.1 hS0 hown (hts _ wF_J0_15) (fun _ h => h) dJ0_coder_7d493_7 ?_
  refine lv_goto (tgt := 14) hx hb dJ0_coder_7d493_10 (by decide) ?_
  exact hret _ _ _ _ _ hT0 hS0 ⟨rfl, rfl, rfl⟩ dJ0_coder_7d493_14
set_option maxHeartbeats 4000000 in
set_option maxRecDepth 100000 in
theorem c_isLatin5 (l : Launch) (G : hG) (Y : hW)  : hMi l yJ0_isLatin1_aae02 cJ0_isLatin1_aae02 1 (some .boolean) 0 0 G Y [.ref (G.2.2.1 5)] (fun H => True) (fun H r H1 => ((r = 0 ∨ r = 1) ∧ r = 1) ∧ H1 = H) := by
  refine h_ofz (by decide +kernel) (Nat.le_of_ble_eq_true rfl) ?_
  intro p e s m args below meth c H0 ls Q hx hb hts hown hml hK hZ hT0 hpr hS0 hl hret
  have hl : lv_has ls 1 [(0, .ref (G.2.2.1 5))] := hl
  refine va_gets hx hb hZ.2.2.1 hS0 hown (hts _ wF_J0_38) (fun _ h => h) dJ0_isLatin1_aae02_0 ?_
  refine lv_if_eq (tgt := 17) hx hb dJ0_isLatin1_aae02_3 (by decide) (fun h => absurd h (by decide)) (fun _ => ?_)
  refine lv_aload_n hx hb dJ0_isLatin1_aae02_6 rfl (lv_at hl 0 rfl) ?_
  refine vk_getf hx hb (hZ.1.1 5 (by decide)).2.1 hS0 hown (hts _ wF_J0_15) (fun _ h => h) dJ0_isLatin1_aae02_7 ?_
  refine lv_if_ne (tgt := 17) hx hb dJ0_isLatin1_aae02_10 (by decide) (fun h => absurd (by decide) h) (fun _ => ?_)
  refine lv_iconst (v := 1) hx hb dJ0_isLatin1_aae02_13 (by decide) ?_
  refine lv_goto (tgt := 18) hx hb dJ0_isLatin1_aae02_14 (by decide) ?_
  exact hret _ _ _ _ _ hT0 hS0 ⟨(by decide), ⟨(by decide), rfl⟩, rfl⟩ dJ0_isLatin1_aae02_18
set_option maxHeartbeats 4000000 in
set_option maxRecDepth 100000 in
theorem c_length5 (l : Launch) (G : hG) (Y : hW)  : hMi l yJ0_length_8abf5 cJ0_length_8abf5 1 (some .int) 1 20 G Y [.ref (G.2.2.1 5)] (fun H => True) (fun H r H1 => (r = 32) ∧ H1 = H) := by
  refine h_ofi (by decide +kernel) (Nat.le_of_ble_eq_true rfl) ?_
  intro p e s m args below meth c H0 ls Q hx hb hts hown hml hK hZ hT0 hpr hS0 hl hret
  have hl : lv_has ls 1 [(0, .ref (G.2.2.1 5))] := hl
  refine lv_aload_n hx hb dJ0_length_8abf5_0 rfl (lv_at hl 0 rfl) ?_
  refine vk_getf hx hb (hZ.1.1 5 (by decide)).2.2.1 hS0 hown (hts _ wF_J0_9) (fun _ h => h) dJ0_length_8abf5_1 ?_
  refine va_tlen hx hb (hZ.1.1 5 (by decide)).2.2.2 hS0 (v := 32) (by decide) dJ0_length_8abf5_4 ?_
  refine lv_aload_n hx hb dJ0_length_8abf5_5 rfl (lv_at hl 0 rfl) ?_
  refine h_callWi (rest := [.int 32]) (As := []) hx hb hml hown hts hK hT0 hZ (fun _ h => h) hS0 (c_coder5 l G Y) trivial wd_J0_coder_7d493 wV_J0_coder_7d493 wL_J0_335 (vk_recv hZ.1 (i := 5) (by decide) hS0) rfl hl.1 rfl (Nat.le_of_ble_eq_true rfl) dJ0_length_8abf5_6 ⟨Nat.le_of_ble_eq_true rfl, Nat.le_of_ble_eq_true rfl⟩ ⟨Nat.zero_le _, Nat.zero_le _⟩ (fun r1 H1 locs hp1 hT1 hS1 hk1 => ?_)
  obtain ⟨hp1, he⟩ := hp1
  have he := he.symm
  subst he
  have hp1 : r1 = 0 := hp1
  subst hp1
  refine lv_ishr hx hb dJ0_length_8abf5_9 ?_
  refine h_top (v := 32) (by decide) ?_
  exact hret _ _ _ _ _ hT0 hS1 ⟨rfl, rfl⟩ dJ0_length_8abf5_10
set_option maxHeartbeats 4000000 in
set_option maxRecDepth 100000 in
theorem c_charL5 (l : Launch) (G : hG) (Y : hW) (u1 : Int32) (h0 : ¬ u1 < 0) (h1 : u1 < 32) : hMi l yJ1_charAt_3b067 cJ1_charAt_3b067 2 (some .char) 2 43 G Y [.ref (G.2.2.2 5), .int u1] (fun H => True) (fun H r H1 => (r = h_chr 5 u1) ∧ H1 = H) := by
  refine h_ofc (by decide +kernel) (Nat.le_of_ble_eq_true rfl) ?_
  intro p e s m args below meth c H0 ls Q hx hb hts hown hml hK hZ hT0 hpr hS0 hl hret
  have hl : lv_has ls 2 [(0, .ref (G.2.2.2 5)), (1, .int u1)] := hl
  refine lv_iload_n hx hb dJ1_charAt_3b067_0 rfl (lv_at hl 1 rfl) ?_
  refine lv_aload_n hx hb dJ1_charAt_3b067_1 rfl (lv_at hl 0 rfl) ?_
  refine va_tlen hx hb (hZ.1.1 5 (by decide)).2.2.2 hS0 (v := 32) (by decide) dJ1_charAt_3b067_2 ?_
  refine h_callSv (rest := []) (As := [.int u1, .int 32]) hx hb hml hown hts hK hT0 hZ (fun _ h => h) hS0 (c_scheck l G Y u1 32 h0 h1) trivial wd_J0_checkIndex_df160 wS_J0_checkIndex_df160 wL_J1_9 rfl hl.1 rfl (Nat.le_of_ble_eq_true rfl) dJ1_charAt_3b067_3 ⟨Nat.le_of_ble_eq_true rfl, Nat.le_of_ble_eq_true rfl⟩ ⟨Nat.zero_le _, Nat.zero_le _⟩ (fun H1 locs hp1 hT1 hS1 hk1 => ?_)
  have he := hp1.symm
  subst he
  refine lv_aload_n hx hb dJ1_charAt_3b067_6 rfl (lv_at hl 0 rfl) ?_
  refine lv_iload_n hx hb dJ1_charAt_3b067_7 rfl (lv_at hl 1 rfl) ?_
  refine va_tb hx hb (hZ.1.1 5 (by decide)).2.2.2 hS1 (show vp_in u1 32 from (vp_in_iff.mpr (by (try simp only [Int32.lt_iff_toInt_lt, Int32.le_iff_toInt_le, ← Int32.toInt_inj, Int32.reduceToInt, (show (-1 : Int32).toInt = -1 from rfl)] at h0 h1 ⊢); omega))) (v := .int (h_chr 5 u1)) rfl dJ1_charAt_3b067_8 ?_
  refine lv_sipush (v := 255) hx hb dJ1_charAt_3b067_9 (by decide) ?_
  refine lv_iand hx hb dJ1_charAt_3b067_12 ?_
  refine lv_i2c hx hb dJ1_charAt_3b067_13 (v := (h_chr 5 u1)) (h_cok 5 (by decide) _ (h_ltC (n := 32) (by (try simp only [Int32.lt_iff_toInt_lt, Int32.le_iff_toInt_le, ← Int32.toInt_inj, Int32.reduceToInt, (show (-1 : Int32).toInt = -1 from rfl)] at h0 h1 ⊢); omega) (by (try simp only [Int32.lt_iff_toInt_lt, Int32.le_iff_toInt_le, ← Int32.toInt_inj, Int32.reduceToInt, (show (-1 : Int32).toInt = -1 from rfl)] at h0 h1 ⊢); omega))).1 ?_
  exact hret _ _ _ _ _ hT0 hS1 ⟨(h_cok 5 (by decide) _ (h_ltC (n := 32) (by (try simp only [Int32.lt_iff_toInt_lt, Int32.le_iff_toInt_le, ← Int32.toInt_inj, Int32.reduceToInt, (show (-1 : Int32).toInt = -1 from rfl)] at h0 ⊢); omega) (by (try simp only [Int32.lt_iff_toInt_lt, Int32.le_iff_toInt_le, ← Int32.toInt_inj, Int32.reduceToInt, (show (-1 : Int32).toInt = -1 from rfl)] at h1 ⊢); omega))).2, rfl, rfl⟩ dJ1_charAt_3b067_14
set_option maxHeartbeats 4000000 in
set_option maxRecDepth 100000 in
theorem c_char5 (l : Launch) (G : hG) (Y : hW) (u1 : Int32) (h0 : ¬ u1 < 0) (h1 : u1 < 32) : hMi l yJ0_charAt_5068e cJ0_charAt_5068e 2 (some .char) 3 64 G Y [.ref (G.2.2.1 5), .int u1] (fun H => True) (fun H r H1 => (r = h_chr 5 u1) ∧ H1 = H) := by
  refine h_ofc (by decide +kernel) (Nat.le_of_ble_eq_true rfl) ?_
  intro p e s m args below meth c H0 ls Q hx hb hts hown hml hK hZ hT0 hpr hS0 hl hret
  have hl : lv_has ls 2 [(0, .ref (G.2.2.1 5)), (1, .int u1)] := hl
  refine lv_aload_n hx hb dJ0_charAt_5068e_0 rfl (lv_at hl 0 rfl) ?_
  refine h_callWi (rest := []) (As := []) hx hb hml hown hts hK hT0 hZ (fun _ h => h) hS0 (c_isLatin5 l G Y) trivial wd_J0_isLatin1_aae02 wV_J0_isLatin1_aae02 wL_J0_492 (vk_recv hZ.1 (i := 5) (by decide) hS0) rfl hl.1 rfl (Nat.le_of_ble_eq_true rfl) dJ0_charAt_5068e_1 ⟨Nat.le_of_ble_eq_true rfl, Nat.le_of_ble_eq_true rfl⟩ ⟨Nat.zero_le _, Nat.zero_le _⟩ (fun r1 H1 locs hp1 hT1 hS1 hk1 => ?_)
  obtain ⟨hp1, he⟩ := hp1
  have he := he.symm
  subst he
  have hp1 : r1 = 1 := hp1.2
  subst hp1
  refine lv_if_eq (tgt := 16) hx hb dJ0_charAt_5068e_4 (by decide) (fun h => absurd h (by decide)) (fun _ => ?_)
  refine lv_aload_n hx hb dJ0_charAt_5068e_7 rfl (lv_at hl 0 rfl) ?_
  refine vk_getf hx hb (hZ.1.1 5 (by decide)).2.2.1 hS1 hown (hts _ wF_J0_9) (fun _ h => h) dJ0_charAt_5068e_8 ?_
  refine lv_iload_n hx hb dJ0_charAt_5068e_11 rfl (lv_at hl 1 rfl) ?_
  refine h_callSi (rest := []) (As := [.ref (G.2.2.2 5), .int u1]) hx hb hml hown hts hK hT0 hZ (fun _ h => h) hS1 (c_charL5 l G Y u1 h0 h1) trivial wd_J1_charAt_3b067 wS_J1_charAt_3b067 wL_J0_495 rfl hl.1 rfl (Nat.le_of_ble_eq_true rfl) dJ0_charAt_5068e_12 ⟨Nat.le_of_ble_eq_true rfl, Nat.le_of_ble_eq_true rfl⟩ ⟨Nat.zero_le _, Nat.zero_le _⟩ (fun r3 H2 locs hp2 hT2 hS2 hk2 => ?_)
  obtain ⟨hp2, he⟩ := hp2
  have he := he.symm
  subst he
  have hp2 : r3 = h_chr 5 u1 := hp2
  subst hp2
  exact hret _ _ _ _ _ hT0 hS2 ⟨(h_cok 5 (by decide) _ (h_ltC (n := 32) (by (try simp only [Int32.lt_iff_toInt_lt, Int32.le_iff_toInt_le, ← Int32.toInt_inj, Int32.reduceToInt, (show (-1 : Int32).toInt = -1 from rfl)] at h0 ⊢); omega) (by (try simp only [Int32.lt_iff_toInt_lt, Int32.le_iff_toInt_le, ← Int32.toInt_inj, Int32.reduceToInt, (show (-1 : Int32).toInt = -1 from rfl)] at h1 ⊢); omega))).2, rfl, rfl⟩ dJ0_charAt_5068e_15
