set_option maxHeartbeats 4000000 in
set_option maxRecDepth 100000 in
theorem c_X11_peaks (l : Launch) (G : hG) (Y : hW) (P : Int32 → Prop) (o : Nat) (hM : h_On Y o (modE (tM P) o)) : hMv l yX11_peaks cX11_peaks 1 none 1 21 G Y [.ref (o)] (fun H => True) (fun H H1 => (True) ∧ (H1[o + 1]? = H[o + 1]?)) := by
  refine h_ofv (by decide +kernel) (Nat.le_of_ble_eq_true rfl) ?_
  intro p e s m args below meth c H0 ls Q hx hb hts hown hml hK hZ hT0 hpr hS0 hl hret
  have hl : lv_has ls 1 [(0, .ref (o))] := hl
  refine lv_aload_n hx hb dX11_peaks_0 rfl (lv_at hl 0 rfl) ?_
  refine lv_iconst (v := 5) hx hb dX11_peaks_1 (by decide) ?_
  refine h_callVi (T := TX11) (rest := []) (As := [.int 5]) hx hb hml hown hts hK hT0 hZ (fun _ h => h) hS0 (c_of l G Y P (o) hM 5 5 (by decide) (h_inc (by decide))) trivial wd_X11_of wV_X11_of wL_X11_47 (hM.o rfl) rfl rfl hl.1 rfl (Nat.le_of_ble_eq_true rfl) dX11_peaks_2 ⟨Nat.le_of_ble_eq_true rfl, Nat.le_of_ble_eq_true rfl⟩ ⟨Nat.zero_le _, Nat.zero_le _⟩ (fun r1 H1 locs hp1 hT1 hS1 hk1 => ?_)
  obtain ⟨hp1, he⟩ := hp1
  have he := he.symm
  subst he
  have mr1 : h_ai H0 (o + 1) 5 = r1 := hp1.1.symm
  refine lv_if_eq (tgt := 25) hx hb dX11_peaks_5 (by decide) (fun c2 => ?_) (fun c2 => ?_)
  · skip
    have c2 : r1.toInt = (0 : Int) := congrArg Int32.toInt c2
    exact hret _ _ _ _ hT0 hS1 ⟨trivial, rfl⟩ dX11_peaks_25
  · skip
    have c2 : ¬ r1.toInt = (0 : Int) := h_neI c2
    refine lv_aload_n hx hb dX11_peaks_8 rfl (lv_at hl 0 rfl) ?_
    refine lv_aload_n hx hb dX11_peaks_9 rfl (lv_at hl 0 rfl) ?_
    refine h_geti (C := RX11) (T := TX11) (N := 23) hx hb hts inX11 hown hK hT0 (hM.o rfl) rfl 20 rfl wF_X11_316 rfl dX11_peaks_10 (fun p3 => ?_)
    refine lv_topi (fun x4 ex4 => ?_)
    refine lv_aload_n hx hb dX11_peaks_13 rfl (lv_at hl 0 rfl) ?_
    refine lv_bipush (v := 7) hx hb dX11_peaks_14 (by decide) ?_
    refine h_callVi (T := TX11) (rest := [.int x4, .ref (o)]) (As := [.int 7]) hx hb hml hown hts hK hT0 hZ (fun _ h => h) hS1 (c_of l G Y P (o) hM 7 7 (by decide) (h_inc (by decide))) trivial wd_X11_of wV_X11_of wL_X11_47 (hM.o rfl) rfl rfl hl.1 rfl (Nat.le_of_ble_eq_true rfl) dX11_peaks_16 ⟨Nat.le_of_ble_eq_true rfl, Nat.le_of_ble_eq_true rfl⟩ ⟨Nat.zero_le _, Nat.zero_le _⟩ (fun r5 H2 locs hp2 hT2 hS2 hk2 => ?_)
    obtain ⟨hp2, he⟩ := hp2
    have he := he.symm
    subst he
    have mr5 : h_ai H0 (o + 1) 7 = r5 := hp2.1.symm
    have br5 := mP_l hp2.2 (by omega)
    refine h_callSi (rest := [.ref (o)]) (As := [.int x4, .int r5]) hx hb hml hown hts hK hT0 hZ (fun _ h => h) hS2 (c_J_max l G Y x4 r5) trivial wd_J9_max_7cf53 wS_J9_max_7cf53 wL_X11_86 rfl hl.1 rfl (Nat.le_of_ble_eq_true rfl) dX11_peaks_19 ⟨Nat.le_of_ble_eq_true rfl, Nat.le_of_ble_eq_true rfl⟩ ⟨Nat.zero_le _, Nat.zero_le _⟩ (fun r6 H3 locs hp3 hT3 hS3 hk3 => ?_)
    obtain ⟨hp3, he⟩ := hp3
    have he := he.symm
    subst he
    have f7 : ((r6.toInt = x4.toInt ∨ r6.toInt = r5.toInt) ∧ x4.toInt ≤ r6.toInt ∧ r5.toInt ≤ r6.toInt) := by have q := hp3; exact q
    refine h_puti (C := RX11) (T := TX11) (N := 23) hx hb hts inX11 tyX11 tyX11_ok nmX11 hown hK hT0 (fun _ h => h) hS3 (hM.o rfl) rfl 20 rfl wF_X11_316 rfl rfl trivial rfl rfl dX11_peaks_22 (fun H4 locs hT4 hS4 hu4 => ?_)
    have z8 : H4[o + 1]? = H0[o + 1]? := (hu4.2.1 (o + 1) (by omega))
    have m9 : h_ai H4 (o + 1) 5 = r1 := (h_ai_same (hu4.2.1 (o + 1) (by omega))).trans mr1
    have m10 : h_ai H4 (o + 1) 7 = r5 := (h_ai_same (hu4.2.1 (o + 1) (by omega))).trans mr5
    exact hret _ _ _ _ hT4 hS4 ⟨trivial, z8⟩ dX11_peaks_25
set_option maxHeartbeats 4000000 in
set_option maxRecDepth 100000 in
theorem c_X11_onPaper (l : Launch) (G : hG) (Y : hW) (P : Int32 → Prop) (o : Nat) (hM : h_On Y o (modE (tM P) o)) (u1 : Int32) (hz1 : u1 = 0 ∨ u1 = 1) : hMv l yX11_onPaper cX11_onPaper 2 none 2 41 G Y [.ref (o), .int u1] (fun H => mR o H) (fun H H1 => (mRa o H1 600) ∧ (mR o H1 ∧ mV o H H1)) := by
  refine h_ofv (by decide +kernel) (Nat.le_of_ble_eq_true rfl) ?_
  intro p e s m args below meth c H0 ls Q hx hb hts hown hml hK hZ hT0 hpr hS0 hl hret
  have hl : lv_has ls 2 [(0, .ref (o)), (1, .int u1)] := hl
  refine lv_aload_n hx hb dX11_onPaper_0 rfl (lv_at hl 0 rfl) ?_
  refine lv_iconst (v := 0) hx hb dX11_onPaper_1 (by decide) ?_
  refine lv_sipush (v := 600) hx hb dX11_onPaper_2 (by decide) ?_
  refine h_callVv (T := TX11) (rest := []) (As := [.int 0, .int 600]) hx hb hml hown hts hK hT0 hZ (fun _ h => h) hS0 (c_X11_copies l G Y P (o) hM 0 600 0 1 (by decide) (by decide) (by decide) (by decide)) trivial wd_X11_copies wV_X11_copies wL_X11_270 (hM.o rfl) rfl rfl hl.1 rfl (Nat.le_of_ble_eq_true rfl) dX11_onPaper_5 ⟨Nat.le_of_ble_eq_true rfl, Nat.le_of_ble_eq_true rfl⟩ ⟨Nat.zero_le _, Nat.zero_le _⟩ (fun H1 locs hp1 hT1 hS1 hk1 => ?_)
  obtain ⟨hp1, hB1⟩ := hp1
  have z1 : ∀ j : Nat, 1200 ≤ j → h_ai H1 (o + 1) j = h_ai H0 (o + 1) j := fun j hj => (hB1.2.1 j (by omega))
  have A2 : mRa o H1 600 := mR_aside6 hpr hB1.1
  have R3 : mR o H1 := mR_low6 hpr (fun j hj => hB1.2.1 j (by omega))
  refine lv_aload_n hx hb dX11_onPaper_8 rfl (lv_at hl 0 rfl) ?_
  refine lv_iload_n hx hb dX11_onPaper_9 rfl (lv_at hl 1 rfl) ?_
  refine h_puti (C := RX11) (T := TX11) (N := 23) hx hb hts inX11 tyX11 tyX11_ok nmX11 hown hK hT1 (fun _ h => h) hS1 (hM.o rfl) rfl 6 rfl wF_X11_94 rfl rfl hz1 (h_nz hz1) (h_fz hz1) dX11_onPaper_10 (fun H2 locs hT2 hS2 hu2 => ?_)
  have z4 : ∀ j : Nat, 1200 ≤ j → h_ai H2 (o + 1) j = h_ai H0 (o + 1) j := fun j hj => (h_ai_same (hu2.2.1 (o + 1) (by omega))).trans (z1 j hj)
  have R5 : mR o H2 := R3.same (hu2.2.1 (o + 1) (by omega))
  have A6 : mRa o H2 600 := A2.kept (fun j hj => h_ai_same (hu2.2.1 (o + 1) (by omega)))
  refine lv_aload_n hx hb dX11_onPaper_13 rfl (lv_at hl 0 rfl) ?_
  refine lv_iconst (v := 0) hx hb dX11_onPaper_14 (by decide) ?_
  refine h_puti (C := RX11) (T := TX11) (N := 23) hx hb hts inX11 tyX11 tyX11_ok nmX11 hown hK hT2 (fun _ h => h) hS2 (hM.o rfl) rfl 5 rfl wF_X11_82 rfl rfl (Or.inl rfl) rfl rfl dX11_onPaper_15 (fun H3 locs hT3 hS3 hu3 => ?_)
  have z7 : ∀ j : Nat, 1200 ≤ j → h_ai H3 (o + 1) j = h_ai H0 (o + 1) j := fun j hj => (h_ai_same (hu3.2.1 (o + 1) (by omega))).trans (z4 j hj)
  have R8 : mR o H3 := R5.same (hu3.2.1 (o + 1) (by omega))
  have A9 : mRa o H3 600 := A6.kept (fun j hj => h_ai_same (hu3.2.1 (o + 1) (by omega)))
  refine lv_aload_n hx hb dX11_onPaper_18 rfl (lv_at hl 0 rfl) ?_
  refine lv_iconst (v := (-1)) hx hb dX11_onPaper_19 (by decide) ?_
  refine h_puti (C := RX11) (T := TX11) (N := 23) hx hb hts inX11 tyX11 tyX11_ok nmX11 hown hK hT3 (fun _ h => h) hS3 (hM.o rfl) rfl 4 rfl wF_X11_143 rfl rfl trivial rfl rfl dX11_onPaper_20 (fun H4 locs hT4 hS4 hu4 => ?_)
  have z10 : ∀ j : Nat, 1200 ≤ j → h_ai H4 (o + 1) j = h_ai H0 (o + 1) j := fun j hj => (h_ai_same (hu4.2.1 (o + 1) (by omega))).trans (z7 j hj)
  have R11 : mR o H4 := R8.same (hu4.2.1 (o + 1) (by omega))
  have A12 : mRa o H4 600 := A9.kept (fun j hj => h_ai_same (hu4.2.1 (o + 1) (by omega)))
  refine lv_aload_n hx hb dX11_onPaper_23 rfl (lv_at hl 0 rfl) ?_
  refine lv_iconst (v := 0) hx hb dX11_onPaper_24 (by decide) ?_
  refine h_puti (C := RX11) (T := TX11) (N := 23) hx hb hts inX11 tyX11 tyX11_ok nmX11 hown hK hT4 (fun _ h => h) hS4 (hM.o rfl) rfl 20 rfl wF_X11_316 rfl rfl trivial rfl rfl dX11_onPaper_25 (fun H5 locs hT5 hS5 hu5 => ?_)
  have z13 : ∀ j : Nat, 1200 ≤ j → h_ai H5 (o + 1) j = h_ai H0 (o + 1) j := fun j hj => (h_ai_same (hu5.2.1 (o + 1) (by omega))).trans (z10 j hj)
  have R14 : mR o H5 := R11.same (hu5.2.1 (o + 1) (by omega))
  have A15 : mRa o H5 600 := A12.kept (fun j hj => h_ai_same (hu5.2.1 (o + 1) (by omega)))
  refine lv_aload_n hx hb dX11_onPaper_28 rfl (lv_at hl 0 rfl) ?_
  refine h_callVv (T := TX11) (rest := []) (As := []) hx hb hml hown hts hK hT5 hZ (fun _ h => h) hS5 (c_X11_peaks l G Y P (o) hM) trivial wd_X11_peaks wV_X11_peaks wL_X11_319 (hM.o rfl) rfl rfl hl.1 rfl (Nat.le_of_ble_eq_true rfl) dX11_onPaper_29 ⟨Nat.le_of_ble_eq_true rfl, Nat.le_of_ble_eq_true rfl⟩ ⟨Nat.zero_le _, Nat.zero_le _⟩ (fun H6 locs hp6 hT6 hS6 hk6 => ?_)
  obtain ⟨hp6, hB6⟩ := hp6
  have z16 : ∀ j : Nat, 1200 ≤ j → h_ai H6 (o + 1) j = h_ai H0 (o + 1) j := fun j hj => (h_ai_same hB6).trans (z13 j hj)
  have R17 : mR o H6 := R14.same hB6
  have A18 : mRa o H6 600 := A15.kept (fun j hj => h_ai_same hB6)
  exact hret _ _ _ _ hT6 hS6 ⟨A18, ⟨R17, z16⟩⟩ dX11_onPaper_32
set_option maxHeartbeats 4000000 in
set_option maxRecDepth 100000 in
theorem c_X11_offPaper (l : Launch) (G : hG) (Y : hW) (P : Int32 → Prop) (o : Nat) (hM : h_On Y o (modE (tM P) o)) : hMv l yX11_offPaper cX11_offPaper 1 none 1 23 G Y [.ref (o)] (fun H => mRa o H 600) (fun H H1 => (True) ∧ (mR o H1 ∧ mV o H H1)) := by
  refine h_ofv (by decide +kernel) (Nat.le_of_ble_eq_true rfl) ?_
  intro p e s m args below meth c H0 ls Q hx hb hts hown hml hK hZ hT0 hpr hS0 hl hret
  have hl : lv_has ls 1 [(0, .ref (o))] := hl
  refine lv_aload_n hx hb dX11_offPaper_0 rfl (lv_at hl 0 rfl) ?_
  refine lv_sipush (v := 600) hx hb dX11_offPaper_1 (by decide) ?_
  refine lv_iconst (v := 0) hx hb dX11_offPaper_4 (by decide) ?_
  refine h_callVv (T := TX11) (rest := []) (As := [.int 600, .int 0]) hx hb hml hown hts hK hT0 hZ (fun _ h => h) hS0 (c_X11_copies l G Y P (o) hM 600 0 1 0 (by decide) (by decide) (by decide) (by decide)) trivial wd_X11_copies wV_X11_copies wL_X11_270 (hM.o rfl) rfl rfl hl.1 rfl (Nat.le_of_ble_eq_true rfl) dX11_offPaper_5 ⟨Nat.le_of_ble_eq_true rfl, Nat.le_of_ble_eq_true rfl⟩ ⟨Nat.zero_le _, Nat.zero_le _⟩ (fun H1 locs hp1 hT1 hS1 hk1 => ?_)
  obtain ⟨hp1, hB1⟩ := hp1
  have z1 : ∀ j : Nat, 1200 ≤ j → h_ai H1 (o + 1) j = h_ai H0 (o + 1) j := fun j hj => (hB1.2.1 j (by omega))
  have R2 : mR o H1 := mR_copy6 hpr hB1.1
  refine lv_aload_n hx hb dX11_offPaper_8 rfl (lv_at hl 0 rfl) ?_
  refine lv_iconst (v := 0) hx hb dX11_offPaper_9 (by decide) ?_
  refine h_puti (C := RX11) (T := TX11) (N := 23) hx hb hts inX11 tyX11 tyX11_ok nmX11 hown hK hT1 (fun _ h => h) hS1 (hM.o rfl) rfl 6 rfl wF_X11_94 rfl rfl (Or.inl rfl) rfl rfl dX11_offPaper_10 (fun H2 locs hT2 hS2 hu2 => ?_)
  have z3 : ∀ j : Nat, 1200 ≤ j → h_ai H2 (o + 1) j = h_ai H0 (o + 1) j := fun j hj => (h_ai_same (hu2.2.1 (o + 1) (by omega))).trans (z1 j hj)
  have R4 : mR o H2 := R2.same (hu2.2.1 (o + 1) (by omega))
  exact hret _ _ _ _ hT2 hS2 ⟨trivial, ⟨R4, z3⟩⟩ dX11_offPaper_13
set_option maxHeartbeats 4000000 in
set_option maxRecDepth 100000 in
theorem c_X11_reaches (l : Launch) (G : hG) (Y : hW) (P : Int32 → Prop) (o : Nat) (hM : h_On Y o (modE (tM P) o)) (u1 u2 : Int32) (hz2 : u2 = 0 ∨ u2 = 1) : hMi l yX11_reaches cX11_reaches 5 (some .int) 7 151 G Y [.ref (o), .int u1, .int u2] (fun H => mR o H) (fun H r H1 => (True) ∧ (mR o H1 ∧ mV o H H1)) := by
  refine h_ofi (by decide +kernel) (Nat.le_of_ble_eq_true rfl) ?_
  intro p e s m args below meth c H0 ls Q hx hb hts hown hml hK hZ hT0 hpr hS0 hl hret
  have hl : lv_has ls 5 [(0, .ref (o)), (1, .int u1), (2, .int u2)] := hl
  refine lv_aload_n hx hb dX11_reaches_0 rfl (lv_at hl 0 rfl) ?_
  refine lv_iload_n hx hb dX11_reaches_1 rfl (lv_at hl 2 rfl) ?_
  refine h_callVv (T := TX11) (rest := []) (As := [.int u2]) hx hb hml hown hts hK hT0 hZ (fun _ h => h) hS0 (c_X11_onPaper l G Y P (o) hM u2 hz2) hpr wd_X11_onPaper wV_X11_onPaper wL_X11_322 (hM.o rfl) rfl rfl hl.1 rfl (Nat.le_of_ble_eq_true rfl) dX11_reaches_2 ⟨Nat.le_of_ble_eq_true rfl, Nat.le_of_ble_eq_true rfl⟩ ⟨Nat.zero_le _, Nat.zero_le _⟩ (fun H1 locs hp1 hT1 hS1 hk1 => ?_)
  obtain ⟨hp1, hB1⟩ := hp1
  have z1 : ∀ j : Nat, 1200 ≤ j → h_ai H1 (o + 1) j = h_ai H0 (o + 1) j := fun j hj => (hB1.2 j hj)
  have R2 : mR o H1 := hB1.1
  refine lv_iconst (v := 0) hx hb dX11_reaches_5 (by decide) ?_
  refine lv_istore_n (lv' := [(3, .int 0), (0, .ref (o)), (1, .int u1), (2, .int u2)]) hx hb dX11_reaches_6 rfl hl (by decide) rfl (fun ls hl => ?_)
  have LP1 : ∀ (n1 : Nat) (w1_3 : Int32) (H2 : Heap), (2147483647 - w1_3.toInt < (n1 : Int)) → (0 ≤ w1_3.toInt) → (hT G Y H2) → (∀ j : Nat, 1200 ≤ j → h_ai H2 (o + 1) j = h_ai H0 (o + 1) j) → (mR o H2) → (mRa o H2 600) → ∀ (locs : List Loc) (ls : Array Slot), va_S (h_A Y) s.heap H2 locs → lv_has ls 5 [(3, .int w1_3), (0, .ref (o)), (1, .int u1)] → W p l e (h_rm 7 151) s m args below meth c H2 locs 0 0 Q (F0 m 7 ls []) := by
    intro n1
    induction n1 with
    | zero =>
      intro w1_3 H2 hm hlo1_3
      intros
      exfalso
      have := Int32.toInt_lt w1_3; have := Int32.le_toInt w1_3
      omega
    | succ n1 ih1 =>
      intro w1_3 H2 hm hlo1_3 hT2 z3 R4 A5 locs ls hS2 hl
      refine lv_iload_n hx hb dX11_reaches_7 rfl (lv_at hl 0 rfl) ?_
      refine lv_sipush (v := 3000) hx hb dX11_reaches_8 (by decide) ?_
      refine lv_icmp_ge (tgt := 36) hx hb dX11_reaches_11 (by decide) (fun c6 => ?_) (fun c6 => ?_)
      · skip
        have c6 : (3000 : Int) ≤ w1_3.toInt := Int32.le_iff_toInt_le.mp c6
        refine lv_aload_n hx hb dX11_reaches_36 rfl (lv_at hl 1 rfl) ?_
        refine lv_iload_n hx hb dX11_reaches_37 rfl (lv_at hl 2 rfl) ?_
        refine h_callVi (T := TX11) (rest := []) (As := [.int u1]) hx hb hml hown hts hK hT2 hZ (fun _ h => h) hS2 (c_X11_isReached l G Y P (o) hM u1) trivial wd_X11_isReached wV_X11_isReached wL_X11_326 (hM.o rfl) rfl rfl hl.1 rfl (Nat.le_of_ble_eq_true rfl) dX11_reaches_38 ⟨Nat.le_of_ble_eq_true rfl, Nat.le_of_ble_eq_true rfl⟩ ⟨Nat.zero_le _, Nat.zero_le _⟩ (fun r7 H4 locs hp4 hT4 hS4 hk4 => ?_)
        obtain ⟨hp4, he⟩ := hp4
        have he := he.symm
        subst he
        refine lv_istore (lv' := [(4, .int r7), (3, .int w1_3), (0, .ref (o)), (1, .int u1)]) hx hb dX11_reaches_41 hl (by decide) rfl (fun ls hl => ?_)
        refine lv_aload_n hx hb dX11_reaches_43 rfl (lv_at hl 2 rfl) ?_
        refine h_callVv (T := TX11) (rest := []) (As := []) hx hb hml hown hts hK hT2 hZ (fun _ h => h) hS4 (c_X11_offPaper l G Y P (o) hM) A5 wd_X11_offPaper wV_X11_offPaper wL_X11_329 (hM.o rfl) rfl rfl hl.1 rfl (Nat.le_of_ble_eq_true rfl) dX11_reaches_44 ⟨Nat.le_of_ble_eq_true rfl, Nat.le_of_ble_eq_true rfl⟩ ⟨Nat.zero_le _, Nat.zero_le _⟩ (fun H5 locs hp5 hT5 hS5 hk5 => ?_)
        obtain ⟨hp5, hB5⟩ := hp5
        have z8 : ∀ j : Nat, 1200 ≤ j → h_ai H5 (o + 1) j = h_ai H0 (o + 1) j := fun j hj => (hB5.2 j hj).trans (z3 j hj)
        have R9 : mR o H5 := hB5.1
        refine lv_iload hx hb dX11_reaches_47 (lv_at hl 0 rfl) ?_
        refine lv_if_eq (tgt := 56) hx hb dX11_reaches_49 (by decide) (fun c10 => ?_) (fun c10 => ?_)
        · skip
          have c10 : r7.toInt = (0 : Int) := congrArg Int32.toInt c10
          refine lv_iconst (v := (-1)) hx hb dX11_reaches_56 (by decide) ?_
          exact hret _ _ _ _ _ hT5 hS5 ⟨trivial, ⟨R9, z8⟩⟩ dX11_reaches_57
        · skip
          have c10 : ¬ r7.toInt = (0 : Int) := h_neI c10
          refine lv_iload_n hx hb dX11_reaches_52 rfl (lv_at hl 1 rfl) ?_
          refine lv_goto (tgt := 57) hx hb dX11_reaches_53 (by decide) ?_
          exact hret _ _ _ _ _ hT5 hS5 ⟨trivial, ⟨R9, z8⟩⟩ dX11_reaches_57
      · skip
        have c6 : ¬ (3000 : Int) ≤ w1_3.toInt := h_nleI c6
        refine lv_aload_n hx hb dX11_reaches_14 rfl (lv_at hl 1 rfl) ?_
        refine lv_iload_n hx hb dX11_reaches_15 rfl (lv_at hl 2 rfl) ?_
        refine h_callVi (T := TX11) (rest := []) (As := [.int u1]) hx hb hml hown hts hK hT2 hZ (fun _ h => h) hS2 (c_X11_isReached l G Y P (o) hM u1) trivial wd_X11_isReached wV_X11_isReached wL_X11_326 (hM.o rfl) rfl rfl hl.1 rfl (Nat.le_of_ble_eq_true rfl) dX11_reaches_16 ⟨Nat.le_of_ble_eq_true rfl, Nat.le_of_ble_eq_true rfl⟩ ⟨Nat.zero_le _, Nat.zero_le _⟩ (fun r11 H6 locs hp6 hT6 hS6 hk6 => ?_)
        obtain ⟨hp6, he⟩ := hp6
        have he := he.symm
        subst he
        refine lv_if_ne (tgt := 36) hx hb dX11_reaches_19 (by decide) (fun c12 => ?_) (fun c12 => ?_)
        · skip
          have c12 : ¬ r11.toInt = (0 : Int) := h_neI c12
          refine lv_aload_n hx hb dX11_reaches_36 rfl (lv_at hl 1 rfl) ?_
          refine lv_iload_n hx hb dX11_reaches_37 rfl (lv_at hl 2 rfl) ?_
          refine h_callVi (T := TX11) (rest := []) (As := [.int u1]) hx hb hml hown hts hK hT2 hZ (fun _ h => h) hS6 (c_X11_isReached l G Y P (o) hM u1) trivial wd_X11_isReached wV_X11_isReached wL_X11_326 (hM.o rfl) rfl rfl hl.1 rfl (Nat.le_of_ble_eq_true rfl) dX11_reaches_38 ⟨Nat.le_of_ble_eq_true rfl, Nat.le_of_ble_eq_true rfl⟩ ⟨Nat.zero_le _, Nat.zero_le _⟩ (fun r13 H7 locs hp7 hT7 hS7 hk7 => ?_)
          obtain ⟨hp7, he⟩ := hp7
          have he := he.symm
          subst he
          refine lv_istore (lv' := [(4, .int r13), (3, .int w1_3), (0, .ref (o)), (1, .int u1)]) hx hb dX11_reaches_41 hl (by decide) rfl (fun ls hl => ?_)
          refine lv_aload_n hx hb dX11_reaches_43 rfl (lv_at hl 2 rfl) ?_
          refine h_callVv (T := TX11) (rest := []) (As := []) hx hb hml hown hts hK hT2 hZ (fun _ h => h) hS7 (c_X11_offPaper l G Y P (o) hM) A5 wd_X11_offPaper wV_X11_offPaper wL_X11_329 (hM.o rfl) rfl rfl hl.1 rfl (Nat.le_of_ble_eq_true rfl) dX11_reaches_44 ⟨Nat.le_of_ble_eq_true rfl, Nat.le_of_ble_eq_true rfl⟩ ⟨Nat.zero_le _, Nat.zero_le _⟩ (fun H8 locs hp8 hT8 hS8 hk8 => ?_)
          obtain ⟨hp8, hB8⟩ := hp8
          have z14 : ∀ j : Nat, 1200 ≤ j → h_ai H8 (o + 1) j = h_ai H0 (o + 1) j := fun j hj => (hB8.2 j hj).trans (z3 j hj)
          have R15 : mR o H8 := hB8.1
          refine lv_iload hx hb dX11_reaches_47 (lv_at hl 0 rfl) ?_
          refine lv_if_eq (tgt := 56) hx hb dX11_reaches_49 (by decide) (fun c16 => ?_) (fun c16 => ?_)
          · skip
            have c16 : r13.toInt = (0 : Int) := congrArg Int32.toInt c16
            refine lv_iconst (v := (-1)) hx hb dX11_reaches_56 (by decide) ?_
            exact hret _ _ _ _ _ hT8 hS8 ⟨trivial, ⟨R15, z14⟩⟩ dX11_reaches_57
          · skip
            have c16 : ¬ r13.toInt = (0 : Int) := h_neI c16
            refine lv_iload_n hx hb dX11_reaches_52 rfl (lv_at hl 1 rfl) ?_
            refine lv_goto (tgt := 57) hx hb dX11_reaches_53 (by decide) ?_
            exact hret _ _ _ _ _ hT8 hS8 ⟨trivial, ⟨R15, z14⟩⟩ dX11_reaches_57
        · skip
          have c12 : r11.toInt = (0 : Int) := congrArg Int32.toInt c12
          refine lv_aload_n hx hb dX11_reaches_22 rfl (lv_at hl 1 rfl) ?_
          refine h_callVv (T := TX11) (rest := []) (As := []) hx hb hml hown hts hK hT2 hZ (fun _ h => h) hS6 (c_X11_ticks l G Y P (o) hM) R4 wd_X11_ticks wV_X11_ticks wL_X11_297 (hM.o rfl) rfl rfl hl.1 rfl (Nat.le_of_ble_eq_true rfl) dX11_reaches_23 ⟨Nat.le_of_ble_eq_true rfl, Nat.le_of_ble_eq_true rfl⟩ ⟨Nat.zero_le _, Nat.zero_le _⟩ (fun H9 locs hp9 hT9 hS9 hk9 => ?_)
          obtain ⟨hp9, hB9⟩ := hp9
          have z17 : ∀ j : Nat, 1200 ≤ j → h_ai H9 (o + 1) j = h_ai H0 (o + 1) j := fun j hj => (hB9.2 j (by omega)).trans (z3 j hj)
          have R18 : mR o H9 := hB9.1
          have A19 : mRa o H9 600 := A5.kept (fun j hj => hB9.2 _ (by omega))
          refine lv_aload_n hx hb dX11_reaches_26 rfl (lv_at hl 1 rfl) ?_
          refine h_callVv (T := TX11) (rest := []) (As := []) hx hb hml hown hts hK hT9 hZ (fun _ h => h) hS9 (c_X11_peaks l G Y P (o) hM) trivial wd_X11_peaks wV_X11_peaks wL_X11_319 (hM.o rfl) rfl rfl hl.1 rfl (Nat.le_of_ble_eq_true rfl) dX11_reaches_27 ⟨Nat.le_of_ble_eq_true rfl, Nat.le_of_ble_eq_true rfl⟩ ⟨Nat.zero_le _, Nat.zero_le _⟩ (fun H10 locs hp10 hT10 hS10 hk10 => ?_)
          obtain ⟨hp10, hB10⟩ := hp10
          have z20 : ∀ j : Nat, 1200 ≤ j → h_ai H10 (o + 1) j = h_ai H0 (o + 1) j := fun j hj => (h_ai_same hB10).trans (z17 j hj)
          have R21 : mR o H10 := R18.same hB10
          have A22 : mRa o H10 600 := A19.kept (fun j hj => h_ai_same hB10)
          obtain ⟨x23, qx23, ix23⟩ := h_addX w1_3 1 w1_3.toInt (1 : Int) rfl rfl (by omega) (by omega)
          refine lv_iinc (v := x23) (lv' := [(3, .int x23), (0, .ref (o)), (1, .int u1)]) hx hb dX11_reaches_30 hl (k := 0) rfl qx23 (by decide) rfl (fun ls hl => ?_)
          refine lv_goto (tgt := 7) hx hb dX11_reaches_33 (by decide) ?_
          exact ih1 x23 _ (show 2147483647 - x23.toInt < (n1 : Int) from by omega) (show 0 ≤ x23.toInt from by omega) hT10 z20 R21 A22 _ _ hS10 (lv_sub hl [0, 1, 2] rfl)
  exact LP1 4294967296 0 _ (show 2147483647 - (0 : Int) < ((4294967296 : Nat) : Int) from by omega) (show 0 ≤ (0 : Int) from by omega) hT1 z1 R2 hp1 _ _ hS1 (lv_sub hl [0, 1, 2] rfl)
set_option maxHeartbeats 4000000 in
set_option maxRecDepth 100000 in
theorem c_X11_gives (l : Launch) (G : hG) (Y : hW) (P : Int32 → Prop) (o : Nat) (hM : h_On Y o (modE (tM P) o)) (u1 : Int32) : hMi l yX11_gives cX11_gives 2 (some .int) 0 0 G Y [.ref (o), .int u1] (fun H => True) (fun H r H1 => (r.toInt = u1.toInt ∧ h_gi G H1 11 o 2 = h_gi G H 11 o 2) ∧ (H1[o + 1]? = H[o + 1]?)) := by
  refine h_ofi (by decide +kernel) (Nat.le_of_ble_eq_true rfl) ?_
  intro p e s m args below meth c H0 ls Q hx hb hts hown hml hK hZ hT0 hpr hS0 hl hret
  have hl : lv_has ls 2 [(0, .ref (o)), (1, .int u1)] := hl
  refine lv_aload_n hx hb dX11_gives_0 rfl (lv_at hl 0 rfl) ?_
  refine lv_iconst (v := 0) hx hb dX11_gives_1 (by decide) ?_
  refine h_puti (C := RX11) (T := TX11) (N := 23) hx hb hts inX11 tyX11 tyX11_ok nmX11 hown hK hT0 (fun _ h => h) hS0 (hM.o rfl) rfl 1 rfl wF_X11_40 rfl rfl trivial rfl rfl dX11_gives_2 (fun H1 locs hT1 hS1 hu1 => ?_)
  have z1 : H1[o + 1]? = H0[o + 1]? := (hu1.2.1 (o + 1) (by omega))
  refine lv_iload_n hx hb dX11_gives_5 rfl (lv_at hl 1 rfl) ?_
  exact hret _ _ _ _ _ hT1 hS1 ⟨⟨rfl, h_ps hu1 rfl (by decide) (by decide)⟩, z1⟩ dX11_gives_6
set_option maxHeartbeats 4000000 in
set_option maxRecDepth 100000 in
theorem c_X11_refuse (l : Launch) (G : hG) (Y : hW) (P : Int32 → Prop) (o : Nat) (hM : h_On Y o (modE (tM P) o)) (u1 : Int32) : hMi l yX11_refuse cX11_refuse 2 (some .int) 0 0 G Y [.ref (o), .int u1] (fun H => True) (fun H r H1 => (r.toInt = -1 ∧ h_gi G H1 11 o 2 = h_gi G H 11 o 2) ∧ (H1[o + 1]? = H[o + 1]?)) := by
  refine h_ofi (by decide +kernel) (Nat.le_of_ble_eq_true rfl) ?_
  intro p e s m args below meth c H0 ls Q hx hb hts hown hml hK hZ hT0 hpr hS0 hl hret
  have hl : lv_has ls 2 [(0, .ref (o)), (1, .int u1)] := hl
  refine lv_aload_n hx hb dX11_refuse_0 rfl (lv_at hl 0 rfl) ?_
  refine lv_iload_n hx hb dX11_refuse_1 rfl (lv_at hl 1 rfl) ?_
  refine h_puti (C := RX11) (T := TX11) (N := 23) hx hb hts inX11 tyX11 tyX11_ok nmX11 hown hK hT0 (fun _ h => h) hS0 (hM.o rfl) rfl 1 rfl wF_X11_40 rfl rfl trivial rfl rfl dX11_refuse_2 (fun H1 locs hT1 hS1 hu1 => ?_)
  have z1 : H1[o + 1]? = H0[o + 1]? := (hu1.2.1 (o + 1) (by omega))
  refine lv_iconst (v := (-1)) hx hb dX11_refuse_5 (by decide) ?_
  exact hret _ _ _ _ _ hT1 hS1 ⟨⟨rfl, h_ps hu1 rfl (by decide) (by decide)⟩, z1⟩ dX11_refuse_6
set_option maxHeartbeats 4000000 in
set_option maxRecDepth 100000 in
theorem c_X11_isSo (l : Launch) (G : hG) (Y : hW) (P : Int32 → Prop) (o : Nat) (hM : h_On Y o (modE (tM P) o)) (u1 : Int32) : hMi l yX11_isSo cX11_isSo 2 (some .boolean) 0 0 G Y [.ref (o), .int u1] (fun H => True) (fun H r H1 => ((r = 0 ∨ r = 1) ∧ (True)) ∧ (H1[o + 1]? = H[o + 1]?)) := by
  refine h_ofz (by decide +kernel) (Nat.le_of_ble_eq_true rfl) ?_
  intro p e s m args below meth c H0 ls Q hx hb hts hown hml hK hZ hT0 hpr hS0 hl hret
  have hl : lv_has ls 2 [(0, .ref (o)), (1, .int u1)] := hl
  refine lv_aload_n hx hb dX11_isSo_0 rfl (lv_at hl 0 rfl) ?_
  refine lv_iload_n hx hb dX11_isSo_1 rfl (lv_at hl 1 rfl) ?_
  refine h_puti (C := RX11) (T := TX11) (N := 23) hx hb hts inX11 tyX11 tyX11_ok nmX11 hown hK hT0 (fun _ h => h) hS0 (hM.o rfl) rfl 1 rfl wF_X11_40 rfl rfl trivial rfl rfl dX11_isSo_2 (fun H1 locs hT1 hS1 hu1 => ?_)
  have z1 : H1[o + 1]? = H0[o + 1]? := (hu1.2.1 (o + 1) (by omega))
  refine lv_iload_n hx hb dX11_isSo_5 rfl (lv_at hl 1 rfl) ?_
  refine lv_if_ne (tgt := 13) hx hb dX11_isSo_6 (by decide) (fun c2 => ?_) (fun c2 => ?_)
  · skip
    have c2 : ¬ u1.toInt = (0 : Int) := h_neI c2
    refine lv_iconst (v := 0) hx hb dX11_isSo_13 (by decide) ?_
    exact hret _ _ _ _ _ hT1 hS1 ⟨(by decide), ⟨⟨(by decide), trivial⟩, z1⟩⟩ dX11_isSo_14
  · skip
    have c2 : u1.toInt = (0 : Int) := congrArg Int32.toInt c2
    refine lv_iconst (v := 1) hx hb dX11_isSo_9 (by decide) ?_
    refine lv_goto (tgt := 14) hx hb dX11_isSo_10 (by decide) ?_
    exact hret _ _ _ _ _ hT1 hS1 ⟨(by decide), ⟨⟨(by decide), trivial⟩, z1⟩⟩ dX11_isSo_14
set_option maxHeartbeats 4000000 in
set_option maxRecDepth 100000 in
theorem c_X11_givesOr (l : Launch) (G : hG) (Y : hW) (P : Int32 → Prop) (o : Nat) (hM : h_On Y o (modE (tM P) o)) (u1 : Int32) : hMi l yX11_givesOr cX11_givesOr 2 (some .int) 1 21 G Y [.ref (o), .int u1] (fun H => True) (fun H r H1 => (True) ∧ (H1[o + 1]? = H[o + 1]?)) := by
  refine h_ofi (by decide +kernel) (Nat.le_of_ble_eq_true rfl) ?_
  intro p e s m args below meth c H0 ls Q hx hb hts hown hml hK hZ hT0 hpr hS0 hl hret
  have hl : lv_has ls 2 [(0, .ref (o)), (1, .int u1)] := hl
  refine lv_iload_n hx hb dX11_givesOr_0 rfl (lv_at hl 1 rfl) ?_
  refine lv_iconst (v := (-1)) hx hb dX11_givesOr_1 (by decide) ?_
  refine lv_icmp_ne (tgt := 14) hx hb dX11_givesOr_2 (by decide) (fun c1 => ?_) (fun c1 => ?_)
  · skip
    have c1 : ¬ u1.toInt = (-1 : Int) := h_neI c1
    refine lv_aload_n hx hb dX11_givesOr_14 rfl (lv_at hl 0 rfl) ?_
    refine lv_iload_n hx hb dX11_givesOr_15 rfl (lv_at hl 1 rfl) ?_
    refine h_callVi (T := TX11) (rest := []) (As := [.int u1]) hx hb hml hown hts hK hT0 hZ (fun _ h => h) hS0 (c_X11_gives l G Y P (o) hM u1) trivial wd_X11_gives wV_X11_gives wL_X11_276 (hM.o rfl) rfl rfl hl.1 rfl (Nat.le_of_ble_eq_true rfl) dX11_givesOr_16 ⟨Nat.le_of_ble_eq_true rfl, Nat.le_of_ble_eq_true rfl⟩ ⟨Nat.zero_le _, Nat.zero_le _⟩ (fun r2 H1 locs hp1 hT1 hS1 hk1 => ?_)
    obtain ⟨hp1, hB1⟩ := hp1
    have z3 : H1[o + 1]? = H0[o + 1]? := hB1
    have f4 : r2.toInt = u1.toInt := hp1.1
    exact hret _ _ _ _ _ hT1 hS1 ⟨trivial, z3⟩ dX11_givesOr_19
  · skip
    have c1 : u1.toInt = (-1 : Int) := congrArg Int32.toInt c1
    refine lv_aload_n hx hb dX11_givesOr_5 rfl (lv_at hl 0 rfl) ?_
    refine lv_bipush (v := 7) hx hb dX11_givesOr_6 (by decide) ?_
    refine h_callVi (T := TX11) (rest := []) (As := [.int 7]) hx hb hml hown hts hK hT0 hZ (fun _ h => h) hS0 (c_X11_refuse l G Y P (o) hM 7) trivial wd_X11_refuse wV_X11_refuse wL_X11_267 (hM.o rfl) rfl rfl hl.1 rfl (Nat.le_of_ble_eq_true rfl) dX11_givesOr_8 ⟨Nat.le_of_ble_eq_true rfl, Nat.le_of_ble_eq_true rfl⟩ ⟨Nat.zero_le _, Nat.zero_le _⟩ (fun r5 H2 locs hp2 hT2 hS2 hk2 => ?_)
    obtain ⟨hp2, hB2⟩ := hp2
    have z6 : H2[o + 1]? = H0[o + 1]? := hB2
    have f7 : r5.toInt = (-1) := hp2.1
    refine lv_goto (tgt := 19) hx hb dX11_givesOr_11 (by decide) ?_
    exact hret _ _ _ _ _ hT2 hS2 ⟨trivial, z6⟩ dX11_givesOr_19
set_option maxHeartbeats 4000000 in
set_option maxRecDepth 100000 in
theorem c_X11_isAnew (l : Launch) (G : hG) (Y : hW) (P : Int32 → Prop) (o : Nat) (hM : h_On Y o (modE (tM P) o)) : hMv l yX11_isAnew cX11_isAnew 1 none 2 42 G Y [.ref (o)] (fun H => True) (fun H H1 => (True) ∧ (mE o H H1)) := by
  refine h_ofv (by decide +kernel) (Nat.le_of_ble_eq_true rfl) ?_
  intro p e s m args below meth c H0 ls Q hx hb hts hown hml hK hZ hT0 hpr hS0 hl hret
  have hl : lv_has ls 1 [(0, .ref (o))] := hl
  refine lv_aload_n hx hb dX11_isAnew_0 rfl (lv_at hl 0 rfl) ?_
  refine lv_iconst (v := 5) hx hb dX11_isAnew_1 (by decide) ?_
  refine h_callVi (T := TX11) (rest := []) (As := [.int 5]) hx hb hml hown hts hK hT0 hZ (fun _ h => h) hS0 (c_of l G Y P (o) hM 5 5 (by decide) (h_inc (by decide))) trivial wd_X11_of wV_X11_of wL_X11_47 (hM.o rfl) rfl rfl hl.1 rfl (Nat.le_of_ble_eq_true rfl) dX11_isAnew_2 ⟨Nat.le_of_ble_eq_true rfl, Nat.le_of_ble_eq_true rfl⟩ ⟨Nat.zero_le _, Nat.zero_le _⟩ (fun r1 H1 locs hp1 hT1 hS1 hk1 => ?_)
  obtain ⟨hp1, he⟩ := hp1
  have he := he.symm
  subst he
  have mr1 : h_ai H0 (o + 1) 5 = r1 := hp1.1.symm
  refine lv_if_ne (tgt := 12) hx hb dX11_isAnew_5 (by decide) (fun c2 => ?_) (fun c2 => ?_)
  · skip
    have c2 : ¬ r1.toInt = (0 : Int) := h_neI c2
    exact hret _ _ _ _ hT0 hS1 ⟨trivial, (fun _ _ => rfl)⟩ dX11_isAnew_12
  · skip
    have c2 : r1.toInt = (0 : Int) := congrArg Int32.toInt c2
    refine lv_aload_n hx hb dX11_isAnew_8 rfl (lv_at hl 0 rfl) ?_
    refine h_callVv (T := TX11) (rest := []) (As := []) hx hb hml hown hts hK hT0 hZ (fun _ h => h) hS1 (c_X11_isSilent l G Y P (o) hM) trivial wd_X11_isSilent wV_X11_isSilent wL_X11_128 (hM.o rfl) rfl rfl hl.1 rfl (Nat.le_of_ble_eq_true rfl) dX11_isAnew_9 ⟨Nat.le_of_ble_eq_true rfl, Nat.le_of_ble_eq_true rfl⟩ ⟨Nat.zero_le _, Nat.zero_le _⟩ (fun H2 locs hp2 hT2 hS2 hk2 => ?_)
    obtain ⟨hp2, hB2⟩ := hp2
    have z3 : ∀ j : Nat, mK j → h_ai H2 (o + 1) j = h_ai H0 (o + 1) j := fun j hj => (hB2 j hj)
    exact hret _ _ _ _ hT2 hS2 ⟨trivial, z3⟩ dX11_isAnew_12
set_option maxHeartbeats 4000000 in
set_option maxRecDepth 100000 in
theorem c_X11_lives (l : Launch) (G : hG) (Y : hW) (P : Int32 → Prop) (o : Nat) (hM : h_On Y o (modE (tM P) o)) (u1 u2 u3 : Int32) (hu1 : 0 ≤ u1.toInt ∧ u1.toInt ≤ 48) (hu3 : 0 ≤ u3.toInt ∧ u3.toInt ≤ 48) (hz2 : u2 = 0 ∨ u2 = 1) : hMv l yX11_lives cX11_lives 6 none 7 151 G Y [.ref (o), .int u1, .int u2, .int u3] (fun H => mR o H) (fun H H1 => (True) ∧ (mR o H1 ∧ mV o H H1)) := by
  refine h_ofv (by decide +kernel) (Nat.le_of_ble_eq_true rfl) ?_
  intro p e s m args below meth c H0 ls Q hx hb hts hown hml hK hZ hT0 hpr hS0 hl hret
  have hl : lv_has ls 6 [(0, .ref (o)), (1, .int u1), (2, .int u2), (3, .int u3)] := hl
  refine lv_iconst (v := 0) hx hb dX11_lives_0 (by decide) ?_
  refine lv_istore (lv' := [(4, .int 0), (0, .ref (o)), (1, .int u1), (2, .int u2), (3, .int u3)]) hx hb dX11_lives_1 hl (by decide) rfl (fun ls hl => ?_)
  have LP1 : ∀ (n1 : Nat) (w1_4 : Int32) (H1 : Heap), (2147483647 - w1_4.toInt < (n1 : Int)) → (0 ≤ w1_4.toInt) → (hT G Y H1) → (∀ j : Nat, 1200 ≤ j → h_ai H1 (o + 1) j = h_ai H0 (o + 1) j) → (mR o H1) → ∀ (locs : List Loc) (ls : Array Slot), va_S (h_A Y) s.heap H1 locs → lv_has ls 6 [(4, .int w1_4), (0, .ref (o)), (1, .int u1), (2, .int u2), (3, .int u3)] → W p l e (h_rm 7 151) s m args below meth c H1 locs 0 0 Q (F0 m 3 ls []) := by
    intro n1
    induction n1 with
    | zero =>
      intro w1_4 H1 hm hlo1_4
      intros
      exfalso
      have := Int32.toInt_lt w1_4; have := Int32.le_toInt w1_4
      omega
    | succ n1 ih1 =>
      intro w1_4 H1 hm hlo1_4 hT1 z1 R2 locs ls hS1 hl
      refine lv_iload hx hb dX11_lives_3 (lv_at hl 0 rfl) ?_
      refine lv_iload_n hx hb dX11_lives_5 rfl (lv_at hl 2 rfl) ?_
      refine lv_icmp_ge (tgt := 25) hx hb dX11_lives_6 (by decide) (fun c3 => ?_) (fun c3 => ?_)
      · skip
        have c3 : u1.toInt ≤ w1_4.toInt := Int32.le_iff_toInt_le.mp c3
        refine lv_aload_n hx hb dX11_lives_25 rfl (lv_at hl 1 rfl) ?_
        refine lv_iload_n hx hb dX11_lives_26 rfl (lv_at hl 3 rfl) ?_
        refine h_callVv (T := TX11) (rest := []) (As := [.int u2]) hx hb hml hown hts hK hT1 hZ (fun _ h => h) hS1 (c_X11_onPaper l G Y P (o) hM u2 hz2) R2 wd_X11_onPaper wV_X11_onPaper wL_X11_322 (hM.o rfl) rfl rfl hl.1 rfl (Nat.le_of_ble_eq_true rfl) dX11_lives_27 ⟨Nat.le_of_ble_eq_true rfl, Nat.le_of_ble_eq_true rfl⟩ ⟨Nat.zero_le _, Nat.zero_le _⟩ (fun H3 locs hp3 hT3 hS3 hk3 => ?_)
        obtain ⟨hp3, hB3⟩ := hp3
        have z4 : ∀ j : Nat, 1200 ≤ j → h_ai H3 (o + 1) j = h_ai H0 (o + 1) j := fun j hj => (hB3.2 j hj).trans (z1 j hj)
        have R5 : mR o H3 := hB3.1
        refine lv_iconst (v := 1) hx hb dX11_lives_30 (by decide) ?_
        refine lv_istore (lv' := [(4, .int 1), (0, .ref (o)), (1, .int u1), (2, .int u2), (3, .int u3)]) hx hb dX11_lives_31 hl (by decide) rfl (fun ls hl => ?_)
        have LP2 : ∀ (n2 : Nat) (w2_4 : Int32) (H4 : Heap), (2147483647 - w2_4.toInt < (n2 : Int)) → (0 ≤ w2_4.toInt) → (hT G Y H4) → (∀ j : Nat, 1200 ≤ j → h_ai H4 (o + 1) j = h_ai H0 (o + 1) j) → (mR o H4) → (mRa o H4 600) → ∀ (locs : List Loc) (ls : Array Slot), va_S (h_A Y) s.heap H4 locs → lv_has ls 6 [(4, .int w2_4), (0, .ref (o)), (1, .int u1), (3, .int u3)] → W p l e (h_rm 7 151) s m args below meth c H4 locs 0 0 Q (F0 m 33 ls []) := by
          intro n2
          induction n2 with
          | zero =>
            intro w2_4 H4 hm hlo2_4
            intros
            exfalso
            have := Int32.toInt_lt w2_4; have := Int32.le_toInt w2_4
            omega
          | succ n2 ih2 =>
            intro w2_4 H4 hm hlo2_4 hT4 z6 R7 A8 locs ls hS4 hl
            refine lv_iload hx hb dX11_lives_33 (lv_at hl 0 rfl) ?_
            refine lv_sipush (v := 3000) hx hb dX11_lives_35 (by decide) ?_
            refine lv_icmp_gt (tgt := 99) hx hb dX11_lives_38 (by decide) (fun c9 => ?_) (fun c9 => ?_)
            · skip
              have c9 : (3000 : Int) < w2_4.toInt := Int32.lt_iff_toInt_lt.mp c9
              refine lv_aload_n hx hb dX11_lives_99 rfl (lv_at hl 1 rfl) ?_
              refine h_callVv (T := TX11) (rest := []) (As := []) hx hb hml hown hts hK hT4 hZ (fun _ h => h) hS4 (c_X11_offPaper l G Y P (o) hM) A8 wd_X11_offPaper wV_X11_offPaper wL_X11_329 (hM.o rfl) rfl rfl hl.1 rfl (Nat.le_of_ble_eq_true rfl) dX11_lives_100 ⟨Nat.le_of_ble_eq_true rfl, Nat.le_of_ble_eq_true rfl⟩ ⟨Nat.zero_le _, Nat.zero_le _⟩ (fun H6 locs hp6 hT6 hS6 hk6 => ?_)
              obtain ⟨hp6, hB6⟩ := hp6
              have z10 : ∀ j : Nat, 1200 ≤ j → h_ai H6 (o + 1) j = h_ai H0 (o + 1) j := fun j hj => (hB6.2 j hj).trans (z6 j hj)
              have R11 : mR o H6 := hB6.1
              exact hret _ _ _ _ hT6 hS6 ⟨trivial, ⟨R11, z10⟩⟩ dX11_lives_103
            · skip
              have c9 : ¬ (3000 : Int) < w2_4.toInt := h_nltI c9
              refine lv_aload_n hx hb dX11_lives_41 rfl (lv_at hl 1 rfl) ?_
              refine h_callVv (T := TX11) (rest := []) (As := []) hx hb hml hown hts hK hT4 hZ (fun _ h => h) hS4 (c_X11_ticks l G Y P (o) hM) R7 wd_X11_ticks wV_X11_ticks wL_X11_297 (hM.o rfl) rfl rfl hl.1 rfl (Nat.le_of_ble_eq_true rfl) dX11_lives_42 ⟨Nat.le_of_ble_eq_true rfl, Nat.le_of_ble_eq_true rfl⟩ ⟨Nat.zero_le _, Nat.zero_le _⟩ (fun H7 locs hp7 hT7 hS7 hk7 => ?_)
              obtain ⟨hp7, hB7⟩ := hp7
              have z12 : ∀ j : Nat, 1200 ≤ j → h_ai H7 (o + 1) j = h_ai H0 (o + 1) j := fun j hj => (hB7.2 j (by omega)).trans (z6 j hj)
              have R13 : mR o H7 := hB7.1
              have A14 : mRa o H7 600 := A8.kept (fun j hj => hB7.2 _ (by omega))
              refine lv_iconst (v := 0) hx hb dX11_lives_45 (by decide) ?_
              refine lv_istore (lv' := [(5, .int 0), (4, .int w2_4), (0, .ref (o)), (1, .int u1), (3, .int u3)]) hx hb dX11_lives_46 hl (by decide) rfl (fun ls hl => ?_)
              have LP3 : ∀ (n3 : Nat) (w3_5 : Int32) (H8 : Heap), (2147483647 - w3_5.toInt < (n3 : Int)) → (0 ≤ w3_5.toInt) → (hT G Y H8) → (∀ j : Nat, 1200 ≤ j → h_ai H8 (o + 1) j = h_ai H0 (o + 1) j) → (mR o H8) → (mRa o H8 600) → ∀ (locs : List Loc) (ls : Array Slot), va_S (h_A Y) s.heap H8 locs → lv_has ls 6 [(5, .int w3_5), (4, .int w2_4), (0, .ref (o)), (1, .int u1), (3, .int u3)] → W p l e (h_rm 7 151) s m args below meth c H8 locs 0 0 Q (F0 m 48 ls []) := by
                intro n3
                induction n3 with
                | zero =>
                  intro w3_5 H8 hm hlo3_5
                  intros
                  exfalso
                  have := Int32.toInt_lt w3_5; have := Int32.le_toInt w3_5
                  omega
                | succ n3 ih3 =>
                  intro w3_5 H8 hm hlo3_5 hT8 z15 R16 A17 locs ls hS8 hl
                  refine lv_iload hx hb dX11_lives_48 (lv_at hl 0 rfl) ?_
                  refine lv_iload_n hx hb dX11_lives_50 rfl (lv_at hl 3 rfl) ?_
                  refine lv_icmp_ge (tgt := 93) hx hb dX11_lives_51 (by decide) (fun c18 => ?_) (fun c18 => ?_)
                  · skip
                    have c18 : u1.toInt ≤ w3_5.toInt := Int32.le_iff_toInt_le.mp c18
                    obtain ⟨x19, qx19, ix19⟩ := h_addX w2_4 1 w2_4.toInt (1 : Int) rfl rfl (by omega) (by omega)
                    refine lv_iinc (v := x19) (lv' := [(4, .int x19), (5, .int w3_5), (0, .ref (o)), (1, .int u1), (3, .int u3)]) hx hb dX11_lives_93 hl (k := 1) rfl qx19 (by decide) rfl (fun ls hl => ?_)
                    refine lv_goto (tgt := 33) hx hb dX11_lives_96 (by decide) ?_
                    exact ih2 x19 _ (show 2147483647 - x19.toInt < (n2 : Int) from by omega) (show 0 ≤ x19.toInt from by omega) hT8 z15 R16 A17 _ _ hS8 (lv_sub hl [0, 2, 3, 4] rfl)
                  · skip
                    have c18 : ¬ u1.toInt ≤ w3_5.toInt := h_nleI c18
                    refine lv_aload_n hx hb dX11_lives_54 rfl (lv_at hl 2 rfl) ?_
                    refine h_geti (C := RX11) (T := TX11) (N := 23) hx hb hts inX11 hown hK hT8 (hM.o rfl) rfl 3 rfl wF_X11_112 rfl dX11_lives_55 (fun p20 => ?_)
                    refine lv_topi (fun x21 ex21 => ?_)
                    refine lv_iconst (v := (-1)) hx hb dX11_lives_58 (by decide) ?_
                    refine lv_icmp_eq (tgt := 93) hx hb dX11_lives_59 (by decide) (fun c22 => ?_) (fun c22 => ?_)
                    · skip
                      have c22 : x21.toInt = (-1 : Int) := congrArg Int32.toInt c22
                      obtain ⟨x23, qx23, ix23⟩ := h_addX w2_4 1 w2_4.toInt (1 : Int) rfl rfl (by omega) (by omega)
                      refine lv_iinc (v := x23) (lv' := [(4, .int x23), (5, .int w3_5), (0, .ref (o)), (1, .int u1), (3, .int u3)]) hx hb dX11_lives_93 hl (k := 1) rfl qx23 (by decide) rfl (fun ls hl => ?_)
                      refine lv_goto (tgt := 33) hx hb dX11_lives_96 (by decide) ?_
                      exact ih2 x23 _ (show 2147483647 - x23.toInt < (n2 : Int) from by omega) (show 0 ≤ x23.toInt from by omega) hT8 z15 R16 A17 _ _ hS8 (lv_sub hl [0, 2, 3, 4] rfl)
                    · skip
                      have c22 : ¬ x21.toInt = (-1 : Int) := h_neI c22
                      refine lv_aload_n hx hb dX11_lives_62 rfl (lv_at hl 2 rfl) ?_
                      refine h_getr (C := RX11) (T := TX11) (N := 23) hx hb hts inX11 hown hK hT8 (hM.o rfl) rfl 21 rfl wF_X11_31 rfl dX11_lives_63 ?_
                      refine lv_iload hx hb dX11_lives_66 (lv_at hl 0 rfl) ?_
                      refine h_iald hx hb hK hT8 (hM.at 5 rfl) (h_vin (by omega) (by omega)) dX11_lives_68 (fun p24 => ?_)
                      refine lv_topi (fun x25 ex25 => ?_)
                      refine lv_aload_n hx hb dX11_lives_69 rfl (lv_at hl 2 rfl) ?_
                      refine h_geti (C := RX11) (T := TX11) (N := 23) hx hb hts inX11 hown hK hT8 (hM.o rfl) rfl 3 rfl wF_X11_112 rfl dX11_lives_70 (fun p26 => ?_)
                      refine h_top (v := x21) ex21.symm ?_
                      refine lv_icmp_ne (tgt := 87) hx hb dX11_lives_73 (by decide) (fun c27 => ?_) (fun c27 => ?_)
                      · skip
                        have c27 : ¬ x25.toInt = x21.toInt := h_neI c27
                        obtain ⟨x28, qx28, ix28⟩ := h_addX w3_5 1 w3_5.toInt (1 : Int) rfl rfl (by omega) (by omega)
                        refine lv_iinc (v := x28) (lv' := [(5, .int x28), (4, .int w2_4), (0, .ref (o)), (1, .int u1), (3, .int u3)]) hx hb dX11_lives_87 hl (k := 0) rfl qx28 (by decide) rfl (fun ls hl => ?_)
                        refine lv_goto (tgt := 48) hx hb dX11_lives_90 (by decide) ?_
                        exact ih3 x28 _ (show 2147483647 - x28.toInt < (n3 : Int) from by omega) (show 0 ≤ x28.toInt from by omega) hT8 z15 R16 A17 _ _ hS8 (lv_sub hl [0, 1, 2, 3, 4] rfl)
                      · skip
                        have c27 : x25.toInt = x21.toInt := congrArg Int32.toInt c27
                        refine lv_aload_n hx hb dX11_lives_76 rfl (lv_at hl 2 rfl) ?_
                        refine h_getr (C := RX11) (T := TX11) (N := 23) hx hb hts inX11 hown hK hT8 (hM.o rfl) rfl 22 rfl wF_X11_34 rfl dX11_lives_77 ?_
                        refine lv_iload_n hx hb dX11_lives_80 rfl (lv_at hl 4 rfl) ?_
                        refine lv_iload hx hb dX11_lives_81 (lv_at hl 0 rfl) ?_
                        refine lv_iadd hx hb dX11_lives_83 ?_
                        obtain ⟨x29, qx29, ix29⟩ := h_addX u3 w3_5 u3.toInt w3_5.toInt rfl rfl (by omega) (by omega)
                        refine h_top (v := x29) qx29 ?_
                        refine lv_iload hx hb dX11_lives_84 (lv_at hl 1 rfl) ?_
                        refine h_iast hx hb hK hT8 (fun _ h => h) hS8 (hM.at 6 rfl) (h_vin (by omega) (by omega)) trivial dX11_lives_86 (fun H10 locs hT10 hS10 hu10 => ?_)
                        have z30 : ∀ j : Nat, 1200 ≤ j → h_ai H10 (o + 1) j = h_ai H0 (o + 1) j := fun j hj => (h_ai_same (hu10.2.1 (o + 1) (by omega))).trans (z15 j hj)
                        have R31 : mR o H10 := R16.same (hu10.2.1 (o + 1) (by omega))
                        have A32 : mRa o H10 600 := A17.kept (fun j hj => h_ai_same (hu10.2.1 (o + 1) (by omega)))
                        obtain ⟨x33, qx33, ix33⟩ := h_addX w3_5 1 w3_5.toInt (1 : Int) rfl rfl (by omega) (by omega)
                        refine lv_iinc (v := x33) (lv' := [(5, .int x33), (4, .int w2_4), (0, .ref (o)), (1, .int u1), (3, .int u3)]) hx hb dX11_lives_87 hl (k := 0) rfl qx33 (by decide) rfl (fun ls hl => ?_)
                        refine lv_goto (tgt := 48) hx hb dX11_lives_90 (by decide) ?_
                        exact ih3 x33 _ (show 2147483647 - x33.toInt < (n3 : Int) from by omega) (show 0 ≤ x33.toInt from by omega) hT10 z30 R31 A32 _ _ hS10 (lv_sub hl [0, 1, 2, 3, 4] rfl)
              exact LP3 4294967296 0 _ (show 2147483647 - (0 : Int) < ((4294967296 : Nat) : Int) from by omega) (show 0 ≤ (0 : Int) from by omega) hT7 z12 R13 A14 _ _ hS7 (lv_sub hl [0, 1, 2, 3, 4] rfl)
        exact LP2 4294967296 1 _ (show 2147483647 - (1 : Int) < ((4294967296 : Nat) : Int) from by omega) (show 0 ≤ (1 : Int) from by omega) hT3 z4 R5 hp3 _ _ hS3 (lv_sub hl [0, 1, 2, 4] rfl)
      · skip
        have c3 : ¬ u1.toInt ≤ w1_4.toInt := h_nleI c3
        refine lv_aload_n hx hb dX11_lives_9 rfl (lv_at hl 1 rfl) ?_
        refine h_getr (C := RX11) (T := TX11) (N := 23) hx hb hts inX11 hown hK hT1 (hM.o rfl) rfl 22 rfl wF_X11_34 rfl dX11_lives_10 ?_
        refine lv_iload_n hx hb dX11_lives_13 rfl (lv_at hl 4 rfl) ?_
        refine lv_iload hx hb dX11_lives_14 (lv_at hl 0 rfl) ?_
        refine lv_iadd hx hb dX11_lives_16 ?_
        obtain ⟨x34, qx34, ix34⟩ := h_addX u3 w1_4 u3.toInt w1_4.toInt rfl rfl (by omega) (by omega)
        refine h_top (v := x34) qx34 ?_
        refine lv_iconst (v := 0) hx hb dX11_lives_17 (by decide) ?_
        refine h_iast hx hb hK hT1 (fun _ h => h) hS1 (hM.at 6 rfl) (h_vin (by omega) (by omega)) trivial dX11_lives_18 (fun H11 locs hT11 hS11 hu11 => ?_)
        have z35 : ∀ j : Nat, 1200 ≤ j → h_ai H11 (o + 1) j = h_ai H0 (o + 1) j := fun j hj => (h_ai_same (hu11.2.1 (o + 1) (by omega))).trans (z1 j hj)
        have R36 : mR o H11 := R2.same (hu11.2.1 (o + 1) (by omega))
        obtain ⟨x37, qx37, ix37⟩ := h_addX w1_4 1 w1_4.toInt (1 : Int) rfl rfl (by omega) (by omega)
        refine lv_iinc (v := x37) (lv' := [(4, .int x37), (0, .ref (o)), (1, .int u1), (2, .int u2), (3, .int u3)]) hx hb dX11_lives_19 hl (k := 0) rfl qx37 (by decide) rfl (fun ls hl => ?_)
        refine lv_goto (tgt := 3) hx hb dX11_lives_22 (by decide) ?_
        exact ih1 x37 _ (show 2147483647 - x37.toInt < (n1 : Int) from by omega) (show 0 ≤ x37.toInt from by omega) hT11 z35 R36 _ _ hS11 (lv_sub hl [0, 1, 2, 3, 4] rfl)
  exact LP1 4294967296 0 _ (show 2147483647 - (0 : Int) < ((4294967296 : Nat) : Int) from by omega) (show 0 ≤ (0 : Int) from by omega) hT0 (fun _ _ => rfl) hpr _ _ hS0 (lv_sub hl [0, 1, 2, 3, 4] rfl)
set_option maxHeartbeats 4000000 in
set_option maxRecDepth 100000 in
theorem c_X11_waiting (l : Launch) (G : hG) (Y : hW) (P : Int32 → Prop) (o : Nat) (hM : h_On Y o (modE (tM P) o)) : hMi l yX11_waiting cX11_waiting 4 (some .int) 1 21 G Y [.ref (o)] (fun H => True) (fun H r H1 => (0 ≤ r.toInt ∧ r.toInt ≤ 48) ∧ (H1[o + 1]? = H[o + 1]?)) := by
  refine h_ofi (by decide +kernel) (Nat.le_of_ble_eq_true rfl) ?_
  intro p e s m args below meth c H0 ls Q hx hb hts hown hml hK hZ hT0 hpr hS0 hl hret
  have hl : lv_has ls 4 [(0, .ref (o))] := hl
  refine lv_iconst (v := 0) hx hb dX11_waiting_0 (by decide) ?_
  refine lv_istore_n (lv' := [(1, .int 0), (0, .ref (o))]) hx hb dX11_waiting_1 rfl hl (by decide) rfl (fun ls hl => ?_)
  refine lv_iconst (v := 0) hx hb dX11_waiting_2 (by decide) ?_
  refine lv_istore_n (lv' := [(2, .int 0), (1, .int 0), (0, .ref (o))]) hx hb dX11_waiting_3 rfl hl (by decide) rfl (fun ls hl => ?_)
  have LP1 : ∀ (n1 : Nat) (w1_2 : Int32) (w1_1 : Int32) (H1 : Heap), (2147483647 - w1_2.toInt < (n1 : Int)) → (0 ≤ w1_2.toInt) → (w1_2.toInt ≤ 8) → (0 ≤ w1_1.toInt ∧ w1_1.toInt ≤ 6 * w1_2.toInt) → (hT G Y H1) → (H1[o + 1]? = H0[o + 1]?) → ∀ (locs : List Loc) (ls : Array Slot), va_S (h_A Y) s.heap H1 locs → lv_has ls 4 [(2, .int w1_2), (1, .int w1_1), (0, .ref (o))] → W p l e (h_rm 1 21) s m args below meth c H1 locs 0 0 Q (F0 m 4 ls []) := by
    intro n1
    induction n1 with
    | zero =>
      intro w1_2 w1_1 H1 hm hlo1_2 hhi1_2 hv1_0
      intros
      exfalso
      have := Int32.toInt_lt w1_2; have := Int32.le_toInt w1_2
      have := Int32.toInt_lt w1_1; have := Int32.le_toInt w1_1
      omega
    | succ n1 ih1 =>
      intro w1_2 w1_1 H1 hm hlo1_2 hhi1_2 hv1_0 hT1 z1 locs ls hS1 hl
      refine lv_iload_n hx hb dX11_waiting_4 rfl (lv_at hl 0 rfl) ?_
      refine lv_aload_n hx hb dX11_waiting_5 rfl (lv_at hl 2 rfl) ?_
      refine lv_iconst (v := 0) hx hb dX11_waiting_6 (by decide) ?_
      refine h_callVi (T := TX11) (rest := [.int w1_2]) (As := [.int 0]) hx hb hml hown hts hK hT1 hZ (fun _ h => h) hS1 (c_of l G Y P (o) hM 0 0 (by decide) (h_inc (by decide))) trivial wd_X11_of wV_X11_of wL_X11_47 (hM.o rfl) rfl rfl hl.1 rfl (Nat.le_of_ble_eq_true rfl) dX11_waiting_7 ⟨Nat.le_of_ble_eq_true rfl, Nat.le_of_ble_eq_true rfl⟩ ⟨Nat.zero_le _, Nat.zero_le _⟩ (fun r2 H3 locs hp3 hT3 hS3 hk3 => ?_)
      obtain ⟨hp3, he⟩ := hp3
      have he := he.symm
      subst he
      have mr2 : h_ai H1 (o + 1) 0 = r2 := hp3.1.symm
      have br2 := mP_N hp3.2 (by omega)
      refine lv_icmp_ge (tgt := 57) hx hb dX11_waiting_10 (by decide) (fun c3 => ?_) (fun c3 => ?_)
      · skip
        have c3 : r2.toInt ≤ w1_2.toInt := Int32.le_iff_toInt_le.mp c3
        refine lv_iload_n hx hb dX11_waiting_57 rfl (lv_at hl 1 rfl) ?_
        exact hret _ _ _ _ _ hT1 hS3 ⟨(show 0 ≤ w1_1.toInt ∧ w1_1.toInt ≤ 48 from by show 0 ≤ w1_1.toInt ∧ w1_1.toInt ≤ 48; omega), z1⟩ dX11_waiting_58
      · skip
        have c3 : ¬ r2.toInt ≤ w1_2.toInt := h_nleI c3
        refine lv_iconst (v := 0) hx hb dX11_waiting_13 (by decide) ?_
        refine lv_istore_n (lv' := [(3, .int 0), (2, .int w1_2), (1, .int w1_1), (0, .ref (o))]) hx hb dX11_waiting_14 rfl hl (by decide) rfl (fun ls hl => ?_)
        have LP2 : ∀ (n2 : Nat) (w2_3 : Int32) (w2_1 : Int32) (H4 : Heap), (2147483647 - w2_3.toInt < (n2 : Int)) → (0 ≤ w2_3.toInt) → (w2_3.toInt ≤ 6) → (0 ≤ w2_1.toInt ∧ w2_1.toInt ≤ 6 * w1_2.toInt + w2_3.toInt) → (hT G Y H4) → (H4[o + 1]? = H0[o + 1]?) → ∀ (locs : List Loc) (ls : Array Slot), va_S (h_A Y) s.heap H4 locs → lv_has ls 4 [(3, .int w2_3), (2, .int w1_2), (1, .int w2_1), (0, .ref (o))] → W p l e (h_rm 1 21) s m args below meth c H4 locs 0 0 Q (F0 m 15 ls []) := by
          intro n2
          induction n2 with
          | zero =>
            intro w2_3 w2_1 H4 hm hlo2_3 hhi2_3 hv2_0
            intros
            exfalso
            have := Int32.toInt_lt w2_3; have := Int32.le_toInt w2_3
            have := Int32.toInt_lt w2_1; have := Int32.le_toInt w2_1
            omega
          | succ n2 ih2 =>
            intro w2_3 w2_1 H4 hm hlo2_3 hhi2_3 hv2_0 hT4 z4 locs ls hS4 hl
            refine lv_iload_n hx hb dX11_waiting_15 rfl (lv_at hl 0 rfl) ?_
            refine lv_aload_n hx hb dX11_waiting_16 rfl (lv_at hl 3 rfl) ?_
            refine lv_bipush (v := 80) hx hb dX11_waiting_17 (by decide) ?_
            refine lv_iload_n hx hb dX11_waiting_19 rfl (lv_at hl 1 rfl) ?_
            refine lv_iadd hx hb dX11_waiting_20 ?_
            obtain ⟨x5, qx5, ix5⟩ := h_addX 80 w1_2 (80 : Int) w1_2.toInt rfl rfl (by omega) (by omega)
            refine h_top (v := x5) qx5 ?_
            refine h_callVi (T := TX11) (rest := [.int w2_3]) (As := [.int x5]) hx hb hml hown hts hK hT4 hZ (fun _ h => h) hS4 (c_of l G Y P (o) hM x5 (80 + w1_2.toInt).toNat (show x5.toInt.toNat = (80 + w1_2.toInt).toNat from by omega) (h_vin (by omega) (by omega))) trivial wd_X11_of wV_X11_of wL_X11_47 (hM.o rfl) rfl rfl hl.1 rfl (Nat.le_of_ble_eq_true rfl) dX11_waiting_21 ⟨Nat.le_of_ble_eq_true rfl, Nat.le_of_ble_eq_true rfl⟩ ⟨Nat.zero_le _, Nat.zero_le _⟩ (fun r6 H6 locs hp6 hT6 hS6 hk6 => ?_)
            obtain ⟨hp6, he⟩ := hp6
            have he := he.symm
            subst he
            have mr6 : h_ai H4 (o + 1) (80 + w1_2.toInt).toNat = r6 := hp6.1.symm
            have br6 := mP_wm hp6.2 (by omega)
            refine lv_icmp_ge (tgt := 51) hx hb dX11_waiting_24 (by decide) (fun c7 => ?_) (fun c7 => ?_)
            · skip
              have c7 : r6.toInt ≤ w2_3.toInt := Int32.le_iff_toInt_le.mp c7
              obtain ⟨x8, qx8, ix8⟩ := h_addX w1_2 1 w1_2.toInt (1 : Int) rfl rfl (by omega) (by omega)
              refine lv_iinc (v := x8) (lv' := [(2, .int x8), (3, .int w2_3), (1, .int w2_1), (0, .ref (o))]) hx hb dX11_waiting_51 hl (k := 1) rfl qx8 (by decide) rfl (fun ls hl => ?_)
              refine lv_goto (tgt := 4) hx hb dX11_waiting_54 (by decide) ?_
              exact ih1 x8 w2_1 _ (show 2147483647 - x8.toInt < (n1 : Int) from by omega) (show 0 ≤ x8.toInt from by omega) (show x8.toInt ≤ 8 from by omega) (show 0 ≤ w2_1.toInt ∧ w2_1.toInt ≤ 6 * x8.toInt from by omega) hT4 z4 _ _ hS6 (lv_sub hl [0, 2, 3] rfl)
            · skip
              have c7 : ¬ r6.toInt ≤ w2_3.toInt := h_nleI c7
              refine lv_aload_n hx hb dX11_waiting_27 rfl (lv_at hl 3 rfl) ?_
              refine h_getr (C := RX11) (T := TX11) (N := 23) hx hb hts inX11 hown hK hT4 (hM.o rfl) rfl 21 rfl wF_X11_31 rfl dX11_waiting_28 ?_
              refine lv_iload_n hx hb dX11_waiting_31 rfl (lv_at hl 2 rfl) ?_
              refine lv_aload_n hx hb dX11_waiting_32 rfl (lv_at hl 3 rfl) ?_
              refine lv_iload_n hx hb dX11_waiting_33 rfl (lv_at hl 1 rfl) ?_
              refine lv_iload_n hx hb dX11_waiting_34 rfl (lv_at hl 0 rfl) ?_
              refine h_callSi (rest := [.ref (o), .int w2_1, .ref (o + 5)]) (As := [.int w1_2, .int w2_3]) hx hb hml hown hts hK hT4 hZ (fun _ h => h) hS6 (c_X11_waitAt l G Y w1_2 w2_3 (show 0 ≤ w1_2.toInt ∧ w1_2.toInt ≤ 7 from by omega) (show 0 ≤ w2_3.toInt ∧ w2_3.toInt ≤ 6 from by omega)) trivial wd_X11_waitAt wS_X11_waitAt wL_X11_62 rfl hl.1 rfl (Nat.le_of_ble_eq_true rfl) dX11_waiting_35 ⟨Nat.le_of_ble_eq_true rfl, Nat.le_of_ble_eq_true rfl⟩ ⟨Nat.zero_le _, Nat.zero_le _⟩ (fun r9 H7 locs hp7 hT7 hS7 hk7 => ?_)
              obtain ⟨hp7, he⟩ := hp7
              have he := he.symm
              subst he
              have f10 : r9.toInt = 96 + 24 * w1_2.toInt + 4 * w2_3.toInt := by have q := hp7; exact q
              refine h_callVi (T := TX11) (rest := [.int w2_1, .ref (o + 5)]) (As := [.int r9]) hx hb hml hown hts hK hT4 hZ (fun _ h => h) hS7 (c_of l G Y P (o) hM r9 (96 + 24 * w1_2.toInt + 4 * w2_3.toInt).toNat (show r9.toInt.toNat = (96 + 24 * w1_2.toInt + 4 * w2_3.toInt).toNat from by omega) (h_vin (by omega) (by omega))) trivial wd_X11_of wV_X11_of wL_X11_47 (hM.o rfl) rfl rfl hl.1 rfl (Nat.le_of_ble_eq_true rfl) dX11_waiting_38 ⟨Nat.le_of_ble_eq_true rfl, Nat.le_of_ble_eq_true rfl⟩ ⟨Nat.zero_le _, Nat.zero_le _⟩ (fun r11 H8 locs hp8 hT8 hS8 hk8 => ?_)
              obtain ⟨hp8, he⟩ := hp8
              have he := he.symm
              subst he
              have mr11 : h_ai H4 (o + 1) (96 + 24 * w1_2.toInt + 4 * w2_3.toInt).toNat = r11 := hp8.1.symm
              refine h_iast hx hb hK hT4 (fun _ h => h) hS8 (hM.at 5 rfl) (h_vin (by omega) (by omega)) trivial dX11_waiting_41 (fun H9 locs hT9 hS9 hu9 => ?_)
              have z12 : H9[o + 1]? = H0[o + 1]? := (hu9.2.1 (o + 1) (by omega)).trans z4
              have m13 : h_ai H9 (o + 1) (80 + w1_2.toInt).toNat = r6 := (h_ai_same (hu9.2.1 (o + 1) (by omega))).trans mr6
              have m14 : h_ai H9 (o + 1) (96 + 24 * w1_2.toInt + 4 * w2_3.toInt).toNat = r11 := (h_ai_same (hu9.2.1 (o + 1) (by omega))).trans mr11
              obtain ⟨x15, qx15, ix15⟩ := h_addX w2_1 1 w2_1.toInt (1 : Int) rfl rfl (by omega) (by omega)
              refine lv_iinc (v := x15) (lv' := [(1, .int x15), (3, .int w2_3), (2, .int w1_2), (0, .ref (o))]) hx hb dX11_waiting_42 hl (k := 2) rfl qx15 (by decide) rfl (fun ls hl => ?_)
              obtain ⟨x16, qx16, ix16⟩ := h_addX w2_3 1 w2_3.toInt (1 : Int) rfl rfl (by omega) (by omega)
              refine lv_iinc (v := x16) (lv' := [(3, .int x16), (1, .int x15), (2, .int w1_2), (0, .ref (o))]) hx hb dX11_waiting_45 hl (k := 1) rfl qx16 (by decide) rfl (fun ls hl => ?_)
              refine lv_goto (tgt := 15) hx hb dX11_waiting_48 (by decide) ?_
              exact ih2 x16 x15 _ (show 2147483647 - x16.toInt < (n2 : Int) from by omega) (show 0 ≤ x16.toInt from by omega) (show x16.toInt ≤ 6 from by omega) (show 0 ≤ x15.toInt ∧ x15.toInt ≤ 6 * w1_2.toInt + x16.toInt from by omega) hT9 z12 _ _ hS9 (lv_sub hl [0, 2, 1, 3] rfl)
        exact LP2 4294967296 0 w1_1 _ (show 2147483647 - (0 : Int) < ((4294967296 : Nat) : Int) from by have := Int32.le_toInt w1_1; have := Int32.toInt_lt w1_1; omega) (show 0 ≤ (0 : Int) from by omega) (show (0 : Int) ≤ 6 from by omega) (show 0 ≤ w1_1.toInt ∧ w1_1.toInt ≤ 6 * w1_2.toInt + (0 : Int) from by omega) hT1 z1 _ _ hS3 (lv_sub hl [0, 1, 2, 3] rfl)
  exact LP1 4294967296 0 0 _ (show 2147483647 - (0 : Int) < ((4294967296 : Nat) : Int) from by omega) (show 0 ≤ (0 : Int) from by omega) (show (0 : Int) ≤ 8 from by omega) (show 0 ≤ (0 : Int) ∧ (0 : Int) ≤ 6 * (0 : Int) from by omega) hT0 rfl _ _ hS0 (lv_sub hl [0, 1, 2] rfl)
set_option maxHeartbeats 4000000 in
set_option maxRecDepth 100000 in
theorem c_X11_drawBy (l : Launch) (G : hG) (Y : hW) (P : Int32 → Prop) (o : Nat) (hM : h_On Y o (modE (tM P) o)) (u1 : Int32) (hu1 : 1 ≤ u1.toInt ∧ u1.toInt ≤ 16) : hMi l yX11_drawBy cX11_drawBy 2 (some .int) 0 0 G Y [.ref (o), .int u1] (fun H => True) (fun H r H1 => (0 ≤ r.toInt ∧ r.toInt < u1.toInt) ∧ (H1[o + 1]? = H[o + 1]?)) := by
  refine h_ofi (by decide +kernel) (Nat.le_of_ble_eq_true rfl) ?_
  intro p e s m args below meth c H0 ls Q hx hb hts hown hml hK hZ hT0 hpr hS0 hl hret
  have hl : lv_has ls 2 [(0, .ref (o)), (1, .int u1)] := hl
  refine lv_aload_n hx hb dX11_drawBy_0 rfl (lv_at hl 0 rfl) ?_
  refine lv_aload_n hx hb dX11_drawBy_1 rfl (lv_at hl 0 rfl) ?_
  refine h_geti (C := RX11) (T := TX11) (N := 23) hx hb hts inX11 hown hK hT0 (hM.o rfl) rfl 19 rfl wF_X11_300 rfl dX11_drawBy_2 (fun p1 => ?_)
  refine lv_topi (fun x2 ex2 => ?_)
  have bx2 : 0 ≤ x2.toInt ∧ x2.toInt < 139968 := by rw [ex2]; exact p1
  refine lv_sipush (v := 3877) hx hb dX11_drawBy_5 (by decide) ?_
  refine lv_imul hx hb dX11_drawBy_8 ?_
  obtain ⟨x3, qx3, ix3⟩ := h_mulX x2 3877 x2.toInt (3877 : Int) rfl rfl (by omega) (by omega)
  refine h_top (v := x3) qx3 ?_
  refine lv_sipush (v := 29573) hx hb dX11_drawBy_9 (by decide) ?_
  refine lv_iadd hx hb dX11_drawBy_12 ?_
  obtain ⟨x4, qx4, ix4⟩ := h_addX x3 29573 x3.toInt (29573 : Int) rfl rfl (by omega) (by omega)
  refine h_top (v := x4) qx4 ?_
  refine lv_ldcw (v := 139968) hx hb hown (hts _ wC_X11_303) dX11_drawBy_13 ?_
  refine lv_irem hx hb dX11_drawBy_16 (by decide) ?_
  obtain ⟨x5, qx5, gx5⟩ := h_rem0 x4 139968 x4.toInt (139968 : Int) rfl rfl (by omega) (by omega)
  refine h_top (v := x5) qx5 ?_
  refine h_puti (C := RX11) (T := TX11) (N := 23) hx hb hts inX11 tyX11 tyX11_ok nmX11 hown hK hT0 (fun _ h => h) hS0 (hM.o rfl) rfl 19 rfl wF_X11_300 rfl rfl (show 0 ≤ x5.toInt ∧ x5.toInt < 139968 from by omega) rfl rfl dX11_drawBy_17 (fun H1 locs hT1 hS1 hu1 => ?_)
  have z6 : H1[o + 1]? = H0[o + 1]? := (hu1.2.1 (o + 1) (by omega))
  refine lv_aload_n hx hb dX11_drawBy_20 rfl (lv_at hl 0 rfl) ?_
  refine h_geti (C := RX11) (T := TX11) (N := 23) hx hb hts inX11 hown hK hT1 (hM.o rfl) rfl 19 rfl wF_X11_300 rfl dX11_drawBy_21 (fun p7 => ?_)
  refine h_top (v := x5) (h_pu hu1) ?_
  refine lv_iload_n hx hb dX11_drawBy_24 rfl (lv_at hl 1 rfl) ?_
  refine lv_imul hx hb dX11_drawBy_25 ?_
  obtain ⟨x8, qx8, gx8⟩ := h_drawX x5 u1 (by omega) (by omega) (by omega) (by omega)
  refine h_top (v := x8) qx8 ?_
  refine lv_ldcw (v := 139968) hx hb hown (hts _ wC_X11_303) dX11_drawBy_26 ?_
  refine lv_idiv hx hb dX11_drawBy_29 (by decide) ?_
  obtain ⟨x9, qx9, gx9⟩ := h_divX x8 139968 x8.toInt (139968 : Int) u1.toInt rfl rfl (by omega) (by omega) (by omega)
  refine h_top (v := x9) qx9 ?_
  exact hret _ _ _ _ _ hT1 hS1 ⟨(show 0 ≤ x9.toInt ∧ x9.toInt < u1.toInt from by show 0 ≤ x9.toInt ∧ x9.toInt < u1.toInt; omega), z6⟩ dX11_drawBy_30
set_option maxHeartbeats 4000000 in
set_option maxRecDepth 100000 in
theorem c_X11_draws (l : Launch) (G : hG) (Y : hW) (P : Int32 → Prop) (o : Nat) (hM : h_On Y o (modE (tM P) o)) (u1 : Int32) : hMv l yX11_draws cX11_draws 5 none 3 63 G Y [.ref (o), .int u1] (fun H => mR o H) (fun H H1 => (True) ∧ (mR o H1 ∧ mU o H H1)) := by
  refine h_ofv (by decide +kernel) (Nat.le_of_ble_eq_true rfl) ?_
  intro p e s m args below meth c H0 ls Q hx hb hts hown hml hK hZ hT0 hpr hS0 hl hret
  have hl : lv_has ls 5 [(0, .ref (o)), (1, .int u1)] := hl
  refine lv_aload_n hx hb dX11_draws_0 rfl (lv_at hl 0 rfl) ?_
  refine lv_bipush (v := 16) hx hb dX11_draws_1 (by decide) ?_
  refine h_callVi (T := TX11) (rest := []) (As := [.int 16]) hx hb hml hown hts hK hT0 hZ (fun _ h => h) hS0 (c_X11_drawBy l G Y P (o) hM 16 (show 1 ≤ (16 : Int) ∧ (16 : Int) ≤ 16 from by omega)) trivial wd_X11_drawBy wV_X11_drawBy wL_X11_304 (hM.o rfl) rfl rfl hl.1 rfl (Nat.le_of_ble_eq_true rfl) dX11_draws_3 ⟨Nat.le_of_ble_eq_true rfl, Nat.le_of_ble_eq_true rfl⟩ ⟨Nat.zero_le _, Nat.zero_le _⟩ (fun r1 H1 locs hp1 hT1 hS1 hk1 => ?_)
  obtain ⟨hp1, hB1⟩ := hp1
  have z2 : ∀ j : Nat, (j = 0 ∨ 600 ≤ j) → h_ai H1 (o + 1) j = h_ai H0 (o + 1) j := fun j hj => (h_ai_same hB1)
  have R3 : mR o H1 := hpr.same hB1
  have f4 : 0 ≤ r1.toInt ∧ r1.toInt < (16 : Int) := by have q := hp1; exact q
  refine lv_iload_n hx hb dX11_draws_6 rfl (lv_at hl 1 rfl) ?_
  refine lv_icmp_ge (tgt := 18) hx hb dX11_draws_7 (by decide) (fun c5 => ?_) (fun c5 => ?_)
  · skip
    have c5 : u1.toInt ≤ r1.toInt := Int32.le_iff_toInt_le.mp c5
    exact hret _ _ _ _ hT1 hS1 ⟨trivial, ⟨R3, z2⟩⟩ dX11_draws_18
  · skip
    have c5 : ¬ u1.toInt ≤ r1.toInt := h_nleI c5
    refine lv_aload_n hx hb dX11_draws_10 rfl (lv_at hl 0 rfl) ?_
    refine lv_iconst (v := 0) hx hb dX11_draws_11 (by decide) ?_
    refine h_callVi (T := TX11) (rest := []) (As := [.int 0]) hx hb hml hown hts hK hT1 hZ (fun _ h => h) hS1 (c_of l G Y P (o) hM 0 0 (by decide) (h_inc (by decide))) trivial wd_X11_of wV_X11_of wL_X11_47 (hM.o rfl) rfl rfl hl.1 rfl (Nat.le_of_ble_eq_true rfl) dX11_draws_12 ⟨Nat.le_of_ble_eq_true rfl, Nat.le_of_ble_eq_true rfl⟩ ⟨Nat.zero_le _, Nat.zero_le _⟩ (fun r6 H2 locs hp2 hT2 hS2 hk2 => ?_)
    obtain ⟨hp2, he⟩ := hp2
    have he := he.symm
    subst he
    have mr6 : h_ai H1 (o + 1) 0 = r6 := hp2.1.symm
    have br6 := mP_N hp2.2 (by omega)
    refine lv_if_ne (tgt := 19) hx hb dX11_draws_15 (by decide) (fun c7 => ?_) (fun c7 => ?_)
    · skip
      have c7 : ¬ r6.toInt = (0 : Int) := h_neI c7
      refine lv_aload_n hx hb dX11_draws_19 rfl (lv_at hl 0 rfl) ?_
      refine lv_aload_n hx hb dX11_draws_20 rfl (lv_at hl 0 rfl) ?_
      refine lv_iconst (v := 0) hx hb dX11_draws_21 (by decide) ?_
      refine h_callVi (T := TX11) (rest := [.ref (o)]) (As := [.int 0]) hx hb hml hown hts hK hT1 hZ (fun _ h => h) hS2 (c_of l G Y P (o) hM 0 0 (by decide) (h_inc (by decide))) trivial wd_X11_of wV_X11_of wL_X11_47 (hM.o rfl) rfl rfl hl.1 rfl (Nat.le_of_ble_eq_true rfl) dX11_draws_22 ⟨Nat.le_of_ble_eq_true rfl, Nat.le_of_ble_eq_true rfl⟩ ⟨Nat.zero_le _, Nat.zero_le _⟩ (fun r8 H3 locs hp3 hT3 hS3 hk3 => ?_)
      obtain ⟨hp3, he⟩ := hp3
      have he := he.symm
      subst he
      have hp3 : r6 = r8 := (hp3.1.trans mr6).symm
      subst hp3
      refine h_callVi (T := TX11) (rest := []) (As := [.int r6]) hx hb hml hown hts hK hT1 hZ (fun _ h => h) hS3 (c_X11_drawBy l G Y P (o) hM r6 (show 1 ≤ r6.toInt ∧ r6.toInt ≤ 16 from by omega)) trivial wd_X11_drawBy wV_X11_drawBy wL_X11_304 (hM.o rfl) rfl rfl hl.1 rfl (Nat.le_of_ble_eq_true rfl) dX11_draws_25 ⟨Nat.le_of_ble_eq_true rfl, Nat.le_of_ble_eq_true rfl⟩ ⟨Nat.zero_le _, Nat.zero_le _⟩ (fun r9 H4 locs hp4 hT4 hS4 hk4 => ?_)
      obtain ⟨hp4, hB4⟩ := hp4
      have z10 : ∀ j : Nat, (j = 0 ∨ 600 ≤ j) → h_ai H4 (o + 1) j = h_ai H0 (o + 1) j := fun j hj => (h_ai_same hB4).trans (z2 j hj)
      have m11 : h_ai H4 (o + 1) 0 = r6 := (h_ai_same hB4).trans mr6
      have R12 : mR o H4 := R3.same hB4
      have f13 : 0 ≤ r9.toInt ∧ r9.toInt < r6.toInt := by have q := hp4; exact q
      refine lv_istore_n (lv' := [(2, .int r9), (0, .ref (o)), (1, .int u1)]) hx hb dX11_draws_28 rfl hl (by decide) rfl (fun ls hl => ?_)
      refine lv_aload_n hx hb dX11_draws_29 rfl (lv_at hl 1 rfl) ?_
      refine lv_aload_n hx hb dX11_draws_30 rfl (lv_at hl 1 rfl) ?_
      refine lv_iconst (v := 0) hx hb dX11_draws_31 (by decide) ?_
      refine h_callVi (T := TX11) (rest := [.ref (o)]) (As := [.int 0]) hx hb hml hown hts hK hT4 hZ (fun _ h => h) hS4 (c_of l G Y P (o) hM 0 0 (by decide) (h_inc (by decide))) trivial wd_X11_of wV_X11_of wL_X11_47 (hM.o rfl) rfl rfl hl.1 rfl (Nat.le_of_ble_eq_true rfl) dX11_draws_32 ⟨Nat.le_of_ble_eq_true rfl, Nat.le_of_ble_eq_true rfl⟩ ⟨Nat.zero_le _, Nat.zero_le _⟩ (fun r14 H5 locs hp5 hT5 hS5 hk5 => ?_)
      obtain ⟨hp5, he⟩ := hp5
      have he := he.symm
      subst he
      have hp5 : r6 = r14 := (hp5.1.trans m11).symm
      subst hp5
      refine h_callVi (T := TX11) (rest := []) (As := [.int r6]) hx hb hml hown hts hK hT4 hZ (fun _ h => h) hS5 (c_X11_drawBy l G Y P (o) hM r6 (show 1 ≤ r6.toInt ∧ r6.toInt ≤ 16 from by omega)) trivial wd_X11_drawBy wV_X11_drawBy wL_X11_304 (hM.o rfl) rfl rfl hl.1 rfl (Nat.le_of_ble_eq_true rfl) dX11_draws_35 ⟨Nat.le_of_ble_eq_true rfl, Nat.le_of_ble_eq_true rfl⟩ ⟨Nat.zero_le _, Nat.zero_le _⟩ (fun r15 H6 locs hp6 hT6 hS6 hk6 => ?_)
      obtain ⟨hp6, hB6⟩ := hp6
      have z16 : ∀ j : Nat, (j = 0 ∨ 600 ≤ j) → h_ai H6 (o + 1) j = h_ai H0 (o + 1) j := fun j hj => (h_ai_same hB6).trans (z10 j hj)
      have m17 : h_ai H6 (o + 1) 0 = r6 := (h_ai_same hB6).trans m11
      have R18 : mR o H6 := R12.same hB6
      have f19 : 0 ≤ r15.toInt ∧ r15.toInt < r6.toInt := by have q := hp6; exact q
      refine lv_istore_n (lv' := [(3, .int r15), (2, .int r9), (0, .ref (o)), (1, .int u1)]) hx hb dX11_draws_38 rfl hl (by decide) rfl (fun ls hl => ?_)
      refine lv_aload_n hx hb dX11_draws_39 rfl (lv_at hl 2 rfl) ?_
      refine lv_bipush (v := 8) hx hb dX11_draws_40 (by decide) ?_
      refine h_callVi (T := TX11) (rest := []) (As := [.int 8]) hx hb hml hown hts hK hT6 hZ (fun _ h => h) hS6 (c_X11_drawBy l G Y P (o) hM 8 (show 1 ≤ (8 : Int) ∧ (8 : Int) ≤ 16 from by omega)) trivial wd_X11_drawBy wV_X11_drawBy wL_X11_304 (hM.o rfl) rfl rfl hl.1 rfl (Nat.le_of_ble_eq_true rfl) dX11_draws_42 ⟨Nat.le_of_ble_eq_true rfl, Nat.le_of_ble_eq_true rfl⟩ ⟨Nat.zero_le _, Nat.zero_le _⟩ (fun r20 H7 locs hp7 hT7 hS7 hk7 => ?_)
      obtain ⟨hp7, hB7⟩ := hp7
      have z21 : ∀ j : Nat, (j = 0 ∨ 600 ≤ j) → h_ai H7 (o + 1) j = h_ai H0 (o + 1) j := fun j hj => (h_ai_same hB7).trans (z16 j hj)
      have m22 : h_ai H7 (o + 1) 0 = r6 := (h_ai_same hB7).trans m17
      have R23 : mR o H7 := R18.same hB7
      have f24 : 0 ≤ r20.toInt ∧ r20.toInt < (8 : Int) := by have q := hp7; exact q
      refine lv_istore (lv' := [(4, .int r20), (3, .int r15), (2, .int r9), (0, .ref (o)), (1, .int u1)]) hx hb dX11_draws_45 hl (by decide) rfl (fun ls hl => ?_)
      refine lv_aload_n hx hb dX11_draws_47 rfl (lv_at hl 3 rfl) ?_
      refine lv_iload_n hx hb dX11_draws_48 rfl (lv_at hl 2 rfl) ?_
      refine h_callVi (T := TX11) (rest := []) (As := [.int r9]) hx hb hml hown hts hK hT7 hZ (fun _ h => h) hS7 (c_X11_isOn l G Y P (o) hM r9) trivial wd_X11_isOn wV_X11_isOn wL_X11_55 (hM.o rfl) rfl rfl hl.1 rfl (Nat.le_of_ble_eq_true rfl) dX11_draws_49 ⟨Nat.le_of_ble_eq_true rfl, Nat.le_of_ble_eq_true rfl⟩ ⟨Nat.zero_le _, Nat.zero_le _⟩ (fun r25 H8 locs hp8 hT8 hS8 hk8 => ?_)
      obtain ⟨hp8, he⟩ := hp8
      have he := he.symm
      subst he
      have f26 : r25.toInt = 0 ∨ (0 ≤ r9.toInt ∧ r9.toInt < r6.toInt) := by have q := hp8.2; rw [m22] at q; exact q
      refine lv_if_eq (tgt := 85) hx hb dX11_draws_52 (by decide) (fun c27 => ?_) (fun c27 => ?_)
      · skip
        have c27 : r25.toInt = (0 : Int) := congrArg Int32.toInt c27
        refine lv_aload_n hx hb dX11_draws_85 rfl (lv_at hl 3 rfl) ?_
        refine lv_bipush (v := 28) hx hb dX11_draws_86 (by decide) ?_
        refine lv_iconst (v := 1) hx hb dX11_draws_88 (by decide) ?_
        refine h_callVv (T := TX11) (rest := []) (As := [.int 28, .int 1]) hx hb hml hown hts hK hT7 hZ (fun _ h => h) hS8 (c_adds l G Y P (o) hM 28 1 28 (by decide) (h_inc (by decide))) (show mP 28 (h_ai H7 (o + 1) 28 + 1) from (mP_free (by unfold mFree; omega))) wd_X11_adds wV_X11_adds wL_X11_69 (hM.o rfl) rfl rfl hl.1 rfl (Nat.le_of_ble_eq_true rfl) dX11_draws_89 ⟨Nat.le_of_ble_eq_true rfl, Nat.le_of_ble_eq_true rfl⟩ ⟨Nat.zero_le _, Nat.zero_le _⟩ (fun H9 locs hp9 hT9 hS9 hk9 => ?_)
        have hp9 : h_apu H7 H9 (o + 1) 28 (.int (h_ai H7 (o + 1) 28 + 1)) := hp9.2
        have z28 : ∀ j : Nat, (j = 0 ∨ 600 ≤ j) → h_ai H9 (o + 1) j = h_ai H0 (o + 1) j := fun j hj => (h_apn hp9 (by omega)).trans (z21 j hj)
        have m29 : h_ai H9 (o + 1) 0 = r6 := (h_apn hp9 (by omega)).trans m22
        have R30 : mR o H9 := R23.keep (fun j hj => h_apn hp9 (by unfold mK at hj; omega))
        exact hret _ _ _ _ hT9 hS9 ⟨trivial, ⟨R30, z28⟩⟩ dX11_draws_92
      · skip
        have c27 : ¬ r25.toInt = (0 : Int) := h_neI c27
        refine lv_iload_n hx hb dX11_draws_55 rfl (lv_at hl 2 rfl) ?_
        refine lv_iload_n hx hb dX11_draws_56 rfl (lv_at hl 1 rfl) ?_
        refine lv_icmp_eq (tgt := 85) hx hb dX11_draws_57 (by decide) (fun c31 => ?_) (fun c31 => ?_)
        · skip
          have c31 : r9.toInt = r15.toInt := congrArg Int32.toInt c31
          refine lv_aload_n hx hb dX11_draws_85 rfl (lv_at hl 3 rfl) ?_
          refine lv_bipush (v := 28) hx hb dX11_draws_86 (by decide) ?_
          refine lv_iconst (v := 1) hx hb dX11_draws_88 (by decide) ?_
          refine h_callVv (T := TX11) (rest := []) (As := [.int 28, .int 1]) hx hb hml hown hts hK hT7 hZ (fun _ h => h) hS8 (c_adds l G Y P (o) hM 28 1 28 (by decide) (h_inc (by decide))) (show mP 28 (h_ai H7 (o + 1) 28 + 1) from (mP_free (by unfold mFree; omega))) wd_X11_adds wV_X11_adds wL_X11_69 (hM.o rfl) rfl rfl hl.1 rfl (Nat.le_of_ble_eq_true rfl) dX11_draws_89 ⟨Nat.le_of_ble_eq_true rfl, Nat.le_of_ble_eq_true rfl⟩ ⟨Nat.zero_le _, Nat.zero_le _⟩ (fun H10 locs hp10 hT10 hS10 hk10 => ?_)
          have hp10 : h_apu H7 H10 (o + 1) 28 (.int (h_ai H7 (o + 1) 28 + 1)) := hp10.2
          have z32 : ∀ j : Nat, (j = 0 ∨ 600 ≤ j) → h_ai H10 (o + 1) j = h_ai H0 (o + 1) j := fun j hj => (h_apn hp10 (by omega)).trans (z21 j hj)
          have m33 : h_ai H10 (o + 1) 0 = r6 := (h_apn hp10 (by omega)).trans m22
          have R34 : mR o H10 := R23.keep (fun j hj => h_apn hp10 (by unfold mK at hj; omega))
          exact hret _ _ _ _ hT10 hS10 ⟨trivial, ⟨R34, z32⟩⟩ dX11_draws_92
        · skip
          have c31 : ¬ r9.toInt = r15.toInt := h_neI c31
          refine lv_aload_n hx hb dX11_draws_60 rfl (lv_at hl 3 rfl) ?_
          refine lv_bipush (v := 80) hx hb dX11_draws_61 (by decide) ?_
          refine lv_iload_n hx hb dX11_draws_63 rfl (lv_at hl 2 rfl) ?_
          refine lv_iadd hx hb dX11_draws_64 ?_
          obtain ⟨x35, qx35, ix35⟩ := h_addX 80 r9 (80 : Int) r9.toInt rfl rfl (by omega) (by omega)
          refine h_top (v := x35) qx35 ?_
          refine h_callVi (T := TX11) (rest := []) (As := [.int x35]) hx hb hml hown hts hK hT7 hZ (fun _ h => h) hS8 (c_of l G Y P (o) hM x35 (80 + r9.toInt).toNat (show x35.toInt.toNat = (80 + r9.toInt).toNat from by omega) (h_vin (by omega) (by omega))) trivial wd_X11_of wV_X11_of wL_X11_47 (hM.o rfl) rfl rfl hl.1 rfl (Nat.le_of_ble_eq_true rfl) dX11_draws_65 ⟨Nat.le_of_ble_eq_true rfl, Nat.le_of_ble_eq_true rfl⟩ ⟨Nat.zero_le _, Nat.zero_le _⟩ (fun r36 H11 locs hp11 hT11 hS11 hk11 => ?_)
          obtain ⟨hp11, he⟩ := hp11
          have he := he.symm
          subst he
          have mr36 : h_ai H7 (o + 1) (80 + r9.toInt).toNat = r36 := hp11.1.symm
          have br36 := mP_wm hp11.2 (by omega)
          refine lv_bipush (v := 6) hx hb dX11_draws_68 (by decide) ?_
          refine lv_icmp_ge (tgt := 85) hx hb dX11_draws_70 (by decide) (fun c37 => ?_) (fun c37 => ?_)
          · skip
            have c37 : (6 : Int) ≤ r36.toInt := Int32.le_iff_toInt_le.mp c37
            refine lv_aload_n hx hb dX11_draws_85 rfl (lv_at hl 3 rfl) ?_
            refine lv_bipush (v := 28) hx hb dX11_draws_86 (by decide) ?_
            refine lv_iconst (v := 1) hx hb dX11_draws_88 (by decide) ?_
            refine h_callVv (T := TX11) (rest := []) (As := [.int 28, .int 1]) hx hb hml hown hts hK hT7 hZ (fun _ h => h) hS11 (c_adds l G Y P (o) hM 28 1 28 (by decide) (h_inc (by decide))) (show mP 28 (h_ai H7 (o + 1) 28 + 1) from (mP_free (by unfold mFree; omega))) wd_X11_adds wV_X11_adds wL_X11_69 (hM.o rfl) rfl rfl hl.1 rfl (Nat.le_of_ble_eq_true rfl) dX11_draws_89 ⟨Nat.le_of_ble_eq_true rfl, Nat.le_of_ble_eq_true rfl⟩ ⟨Nat.zero_le _, Nat.zero_le _⟩ (fun H12 locs hp12 hT12 hS12 hk12 => ?_)
            have hp12 : h_apu H7 H12 (o + 1) 28 (.int (h_ai H7 (o + 1) 28 + 1)) := hp12.2
            have z38 : ∀ j : Nat, (j = 0 ∨ 600 ≤ j) → h_ai H12 (o + 1) j = h_ai H0 (o + 1) j := fun j hj => (h_apn hp12 (by omega)).trans (z21 j hj)
            have m39 : h_ai H12 (o + 1) 0 = r6 := (h_apn hp12 (by omega)).trans m22
            have m40 : h_ai H12 (o + 1) (80 + r9.toInt).toNat = r36 := (h_apn hp12 (by omega)).trans mr36
            have R41 : mR o H12 := R23.keep (fun j hj => h_apn hp12 (by unfold mK at hj; omega))
            exact hret _ _ _ _ hT12 hS12 ⟨trivial, ⟨R41, z38⟩⟩ dX11_draws_92
          · skip
            have c37 : ¬ (6 : Int) ≤ r36.toInt := h_nleI c37
            refine lv_aload_n hx hb dX11_draws_73 rfl (lv_at hl 3 rfl) ?_
            refine lv_iload_n hx hb dX11_draws_74 rfl (lv_at hl 2 rfl) ?_
            refine lv_iload_n hx hb dX11_draws_75 rfl (lv_at hl 1 rfl) ?_
            refine lv_iload hx hb dX11_draws_76 (lv_at hl 0 rfl) ?_
            refine h_callVi (T := TX11) (rest := []) (As := [.int r9, .int r15, .int r20]) hx hb hml hown hts hK hT7 hZ (fun _ h => h) hS11 (c_X11_sends l G Y P (o) hM r9 r15 r20 (show 0 ≤ r9.toInt ∧ r9.toInt ≤ 7 from by omega) (show 0 ≤ r15.toInt ∧ r15.toInt ≤ 7 from by omega) (show 0 ≤ r20.toInt ∧ r20.toInt ≤ 7 from by omega)) (show (h_ai H7 (o + 1) (80 + r9.toInt).toNat).toInt ≤ 5 from by rw [mr36]; exact (show r36.toInt ≤ 5 from by omega)) wd_X11_sends wV_X11_sends wL_X11_247 (hM.o rfl) rfl rfl hl.1 rfl (Nat.le_of_ble_eq_true rfl) dX11_draws_78 ⟨Nat.le_of_ble_eq_true rfl, Nat.le_of_ble_eq_true rfl⟩ ⟨Nat.zero_le _, Nat.zero_le _⟩ (fun r42 H13 locs hp13 hT13 hS13 hk13 => ?_)
            obtain ⟨hp13, hB13⟩ := hp13
            have z43 : ∀ j : Nat, (j = 0 ∨ 600 ≤ j) → h_ai H13 (o + 1) j = h_ai H0 (o + 1) j := fun j hj => (hB13.1 j (by unfold mK; omega)).trans (z21 j hj)
            have m44 : h_ai H13 (o + 1) 0 = r6 := (hB13.1 _ (by unfold mK; omega)).trans m22
            have R45 : mR o H13 := R23.keep hB13.1
            refine lv_pop hx hb dX11_draws_81 rfl ?_
            refine lv_goto (tgt := 92) hx hb dX11_draws_82 (by decide) ?_
            exact hret _ _ _ _ hT13 hS13 ⟨trivial, ⟨R45, z43⟩⟩ dX11_draws_92
    · skip
      have c7 : r6.toInt = (0 : Int) := congrArg Int32.toInt c7
      exact hret _ _ _ _ hT1 hS2 ⟨trivial, ⟨R3, z2⟩⟩ dX11_draws_18
set_option maxHeartbeats 4000000 in
set_option maxRecDepth 100000 in
theorem c_X11_status (l : Launch) (G : hG) (Y : hW) (P : Int32 → Prop) (o : Nat) (hM : h_On Y o (modE (tM P) o)) : hMi l yX11_status cX11_status 1 (some .int) 0 0 G Y [.ref (o)] (fun H => mR o H) (fun H r H1 => (True) ∧ (mR o H1 ∧ mV o H H1)) := by
  refine h_ofi (by decide +kernel) (Nat.le_of_ble_eq_true rfl) ?_
  intro p e s m args below meth c H0 ls Q hx hb hts hown hml hK hZ hT0 hpr hS0 hl hret
  have hl : lv_has ls 1 [(0, .ref (o))] := hl
  refine lv_aload_n hx hb dX11_status_0 rfl (lv_at hl 0 rfl) ?_
  refine h_geti (C := RX11) (T := TX11) (N := 23) hx hb hts inX11 hown hK hT0 (hM.o rfl) rfl 1 rfl wF_X11_40 rfl dX11_status_1 (fun p1 => ?_)
  refine lv_topi (fun x2 ex2 => ?_)
  exact hret _ _ _ _ _ hT0 hS0 ⟨trivial, ⟨hpr, (fun _ _ => rfl)⟩⟩ dX11_status_4
set_option maxHeartbeats 4000000 in
set_option maxRecDepth 100000 in
theorem c_X11_fault (l : Launch) (G : hG) (Y : hW) (P : Int32 → Prop) (o : Nat) (hM : h_On Y o (modE (tM P) o)) (u1 : Int32) : hMi l yX11_fault cX11_fault 2 (some .int) 0 0 G Y [.ref (o), .int u1] (fun H => mR o H) (fun H r H1 => (True) ∧ (mR o H1 ∧ mV o H H1)) := by
  refine h_ofi (by decide +kernel) (Nat.le_of_ble_eq_true rfl) ?_
  intro p e s m args below meth c H0 ls Q hx hb hts hown hml hK hZ hT0 hpr hS0 hl hret
  have hl : lv_has ls 2 [(0, .ref (o)), (1, .int u1)] := hl
  refine lv_iload_n hx hb dX11_fault_0 rfl (lv_at hl 1 rfl) ?_
  refine lv_if_ne (tgt := 11) hx hb dX11_fault_1 (by decide) (fun c1 => ?_) (fun c1 => ?_)
  · skip
    have c1 : ¬ u1.toInt = (0 : Int) := h_neI c1
    refine lv_iload_n hx hb dX11_fault_11 rfl (lv_at hl 1 rfl) ?_
    refine lv_iconst (v := 1) hx hb dX11_fault_12 (by decide) ?_
    refine lv_icmp_ne (tgt := 23) hx hb dX11_fault_13 (by decide) (fun c2 => ?_) (fun c2 => ?_)
    · skip
      have c2 : ¬ u1.toInt = (1 : Int) := h_neI c2
      refine lv_iconst (v := (-1)) hx hb dX11_fault_23 (by decide) ?_
      exact hret _ _ _ _ _ hT0 hS0 ⟨trivial, ⟨hpr, (fun _ _ => rfl)⟩⟩ dX11_fault_24
    · skip
      have c2 : u1.toInt = (1 : Int) := congrArg Int32.toInt c2
      refine lv_aload_n hx hb dX11_fault_16 rfl (lv_at hl 0 rfl) ?_
      refine h_geti (C := RX11) (T := TX11) (N := 23) hx hb hts inX11 hown hK hT0 (hM.o rfl) rfl 17 rfl wF_X11_24 rfl dX11_fault_17 (fun p3 => ?_)
      refine lv_topi (fun x4 ex4 => ?_)
      refine lv_goto (tgt := 24) hx hb dX11_fault_20 (by decide) ?_
      exact hret _ _ _ _ _ hT0 hS0 ⟨trivial, ⟨hpr, (fun _ _ => rfl)⟩⟩ dX11_fault_24
  · skip
    have c1 : u1.toInt = (0 : Int) := congrArg Int32.toInt c1
    refine lv_aload_n hx hb dX11_fault_4 rfl (lv_at hl 0 rfl) ?_
    refine h_geti (C := RX11) (T := TX11) (N := 23) hx hb hts inX11 hown hK hT0 (hM.o rfl) rfl 18 rfl wF_X11_28 rfl dX11_fault_5 (fun p5 => ?_)
    refine lv_topi (fun x6 ex6 => ?_)
    refine lv_goto (tgt := 24) hx hb dX11_fault_8 (by decide) ?_
    exact hret _ _ _ _ _ hT0 hS0 ⟨trivial, ⟨hpr, (fun _ _ => rfl)⟩⟩ dX11_fault_24
set_option maxHeartbeats 4000000 in
set_option maxRecDepth 100000 in
theorem c_X11_many (l : Launch) (G : hG) (Y : hW) (P : Int32 → Prop) (o : Nat) (hM : h_On Y o (modE (tM P) o)) (u1 : Int32) : hMi l yX11_many cX11_many 2 (some .int) 4 84 G Y [.ref (o), .int u1] (fun H => mR o H) (fun H r H1 => (True) ∧ (mR o H1 ∧ mV o H H1)) := by
  refine h_ofi (by decide +kernel) (Nat.le_of_ble_eq_true rfl) ?_
  intro p e s m args below meth c H0 ls Q hx hb hts hown hml hK hZ hT0 hpr hS0 hl hret
  have hl : lv_has ls 2 [(0, .ref (o)), (1, .int u1)] := hl
  refine lv_iload_n hx hb dX11_many_0 rfl (lv_at hl 1 rfl) ?_
  rcases h_sw11 u1 with c1 | c1 | c1 | c1 | c1 | c1 | c1 | c1 | c1 | c1 | c1 | c1
  · skip
    refine lv_tableOut (tgt := 202) hx hb dX11_many_1 c1 (by decide) ?_
    refine lv_aload_n hx hb dX11_many_202 rfl (lv_at hl 0 rfl) ?_
    refine lv_iconst (v := 1) hx hb dX11_many_203 (by decide) ?_
    refine h_callVi (T := TX11) (rest := []) (As := [.int 1]) hx hb hml hown hts hK hT0 hZ (fun _ h => h) hS0 (c_X11_refuse l G Y P (o) hM 1) trivial wd_X11_refuse wV_X11_refuse wL_X11_267 (hM.o rfl) rfl rfl hl.1 rfl (Nat.le_of_ble_eq_true rfl) dX11_many_204 ⟨Nat.le_of_ble_eq_true rfl, Nat.le_of_ble_eq_true rfl⟩ ⟨Nat.zero_le _, Nat.zero_le _⟩ (fun r2 H1 locs hp1 hT1 hS1 hk1 => ?_)
    obtain ⟨hp1, hB1⟩ := hp1
    have z3 : ∀ j : Nat, 1200 ≤ j → h_ai H1 (o + 1) j = h_ai H0 (o + 1) j := fun j hj => (h_ai_same hB1)
    have R4 : mR o H1 := hpr.same hB1
    have f5 : r2.toInt = (-1) := hp1.1
    exact hret _ _ _ _ _ hT1 hS1 ⟨trivial, ⟨R4, z3⟩⟩ dX11_many_207
  · subst c1
    refine lv_tableIn (tgt := 60) hx hb dX11_many_1 (by decide) (by decide) rfl (by decide) ?_
    refine lv_aload_n hx hb dX11_many_60 rfl (lv_at hl 0 rfl) ?_
    refine lv_aload_n hx hb dX11_many_61 rfl (lv_at hl 0 rfl) ?_
    refine lv_iconst (v := 0) hx hb dX11_many_62 (by decide) ?_
    refine h_callVi (T := TX11) (rest := [.ref (o)]) (As := [.int 0]) hx hb hml hown hts hK hT0 hZ (fun _ h => h) hS0 (c_of l G Y P (o) hM 0 0 (by decide) (h_inc (by decide))) trivial wd_X11_of wV_X11_of wL_X11_47 (hM.o rfl) rfl rfl hl.1 rfl (Nat.le_of_ble_eq_true rfl) dX11_many_63 ⟨Nat.le_of_ble_eq_true rfl, Nat.le_of_ble_eq_true rfl⟩ ⟨Nat.zero_le _, Nat.zero_le _⟩ (fun r6 H2 locs hp2 hT2 hS2 hk2 => ?_)
    obtain ⟨hp2, he⟩ := hp2
    have he := he.symm
    subst he
    have mr6 : h_ai H0 (o + 1) 0 = r6 := hp2.1.symm
    have br6 := mP_N hp2.2 (by omega)
    refine h_callVi (T := TX11) (rest := []) (As := [.int r6]) hx hb hml hown hts hK hT0 hZ (fun _ h => h) hS2 (c_X11_gives l G Y P (o) hM r6) trivial wd_X11_gives wV_X11_gives wL_X11_276 (hM.o rfl) rfl rfl hl.1 rfl (Nat.le_of_ble_eq_true rfl) dX11_many_66 ⟨Nat.le_of_ble_eq_true rfl, Nat.le_of_ble_eq_true rfl⟩ ⟨Nat.zero_le _, Nat.zero_le _⟩ (fun r7 H3 locs hp3 hT3 hS3 hk3 => ?_)
    obtain ⟨hp3, hB3⟩ := hp3
    have z8 : ∀ j : Nat, 1200 ≤ j → h_ai H3 (o + 1) j = h_ai H0 (o + 1) j := fun j hj => (h_ai_same hB3)
    have m9 : h_ai H3 (o + 1) 0 = r6 := (h_ai_same hB3).trans mr6
    have R10 : mR o H3 := hpr.same hB3
    have f11 : r7.toInt = r6.toInt := hp3.1
    exact hret _ _ _ _ _ hT3 hS3 ⟨trivial, ⟨R10, z8⟩⟩ dX11_many_69
  · subst c1
    refine lv_tableIn (tgt := 70) hx hb dX11_many_1 (by decide) (by decide) rfl (by decide) ?_
    refine lv_aload_n hx hb dX11_many_70 rfl (lv_at hl 0 rfl) ?_
    refine lv_aload_n hx hb dX11_many_71 rfl (lv_at hl 0 rfl) ?_
    refine h_callVi (T := TX11) (rest := [.ref (o)]) (As := []) hx hb hml hown hts hK hT0 hZ (fun _ h => h) hS0 (c_X11_onBits l G Y P (o) hM) trivial wd_X11_onBits wV_X11_onBits wL_X11_279 (hM.o rfl) rfl rfl hl.1 rfl (Nat.le_of_ble_eq_true rfl) dX11_many_72 ⟨Nat.le_of_ble_eq_true rfl, Nat.le_of_ble_eq_true rfl⟩ ⟨Nat.zero_le _, Nat.zero_le _⟩ (fun r12 H4 locs hp4 hT4 hS4 hk4 => ?_)
    obtain ⟨hp4, he⟩ := hp4
    have he := he.symm
    subst he
    refine h_callVi (T := TX11) (rest := []) (As := [.int r12]) hx hb hml hown hts hK hT0 hZ (fun _ h => h) hS4 (c_X11_gives l G Y P (o) hM r12) trivial wd_X11_gives wV_X11_gives wL_X11_276 (hM.o rfl) rfl rfl hl.1 rfl (Nat.le_of_ble_eq_true rfl) dX11_many_75 ⟨Nat.le_of_ble_eq_true rfl, Nat.le_of_ble_eq_true rfl⟩ ⟨Nat.zero_le _, Nat.zero_le _⟩ (fun r13 H5 locs hp5 hT5 hS5 hk5 => ?_)
    obtain ⟨hp5, hB5⟩ := hp5
    have z14 : ∀ j : Nat, 1200 ≤ j → h_ai H5 (o + 1) j = h_ai H0 (o + 1) j := fun j hj => (h_ai_same hB5)
    have R15 : mR o H5 := hpr.same hB5
    have f16 : r13.toInt = r12.toInt := hp5.1
    exact hret _ _ _ _ _ hT5 hS5 ⟨trivial, ⟨R15, z14⟩⟩ dX11_many_78
  · subst c1
    refine lv_tableIn (tgt := 79) hx hb dX11_many_1 (by decide) (by decide) rfl (by decide) ?_
    refine lv_aload_n hx hb dX11_many_79 rfl (lv_at hl 0 rfl) ?_
    refine lv_aload_n hx hb dX11_many_80 rfl (lv_at hl 0 rfl) ?_
    refine lv_iconst (v := 1) hx hb dX11_many_81 (by decide) ?_
    refine h_callVi (T := TX11) (rest := [.ref (o)]) (As := [.int 1]) hx hb hml hown hts hK hT0 hZ (fun _ h => h) hS0 (c_of l G Y P (o) hM 1 1 (by decide) (h_inc (by decide))) trivial wd_X11_of wV_X11_of wL_X11_47 (hM.o rfl) rfl rfl hl.1 rfl (Nat.le_of_ble_eq_true rfl) dX11_many_82 ⟨Nat.le_of_ble_eq_true rfl, Nat.le_of_ble_eq_true rfl⟩ ⟨Nat.zero_le _, Nat.zero_le _⟩ (fun r17 H6 locs hp6 hT6 hS6 hk6 => ?_)
    obtain ⟨hp6, he⟩ := hp6
    have he := he.symm
    subst he
    have mr17 : h_ai H0 (o + 1) 1 = r17 := hp6.1.symm
    have br17 := mP_m1 hp6.2 (by omega)
    refine h_callVi (T := TX11) (rest := []) (As := [.int r17]) hx hb hml hown hts hK hT0 hZ (fun _ h => h) hS6 (c_X11_gives l G Y P (o) hM r17) trivial wd_X11_gives wV_X11_gives wL_X11_276 (hM.o rfl) rfl rfl hl.1 rfl (Nat.le_of_ble_eq_true rfl) dX11_many_85 ⟨Nat.le_of_ble_eq_true rfl, Nat.le_of_ble_eq_true rfl⟩ ⟨Nat.zero_le _, Nat.zero_le _⟩ (fun r18 H7 locs hp7 hT7 hS7 hk7 => ?_)
    obtain ⟨hp7, hB7⟩ := hp7
    have z19 : ∀ j : Nat, 1200 ≤ j → h_ai H7 (o + 1) j = h_ai H0 (o + 1) j := fun j hj => (h_ai_same hB7)
    have m20 : h_ai H7 (o + 1) 1 = r17 := (h_ai_same hB7).trans mr17
    have R21 : mR o H7 := hpr.same hB7
    have f22 : r18.toInt = r17.toInt := hp7.1
    exact hret _ _ _ _ _ hT7 hS7 ⟨trivial, ⟨R21, z19⟩⟩ dX11_many_88
  · subst c1
    refine lv_tableIn (tgt := 89) hx hb dX11_many_1 (by decide) (by decide) rfl (by decide) ?_
    refine lv_aload_n hx hb dX11_many_89 rfl (lv_at hl 0 rfl) ?_
    refine lv_aload_n hx hb dX11_many_90 rfl (lv_at hl 0 rfl) ?_
    refine h_callVi (T := TX11) (rest := [.ref (o)]) (As := []) hx hb hml hown hts hK hT0 hZ (fun _ h => h) hS0 (c_X11_waitAll l G Y P (o) hM) trivial wd_X11_waitAll wV_X11_waitAll wL_X11_282 (hM.o rfl) rfl rfl hl.1 rfl (Nat.le_of_ble_eq_true rfl) dX11_many_91 ⟨Nat.le_of_ble_eq_true rfl, Nat.le_of_ble_eq_true rfl⟩ ⟨Nat.zero_le _, Nat.zero_le _⟩ (fun r23 H8 locs hp8 hT8 hS8 hk8 => ?_)
    obtain ⟨hp8, he⟩ := hp8
    have he := he.symm
    subst he
    refine h_callVi (T := TX11) (rest := []) (As := [.int r23]) hx hb hml hown hts hK hT0 hZ (fun _ h => h) hS8 (c_X11_gives l G Y P (o) hM r23) trivial wd_X11_gives wV_X11_gives wL_X11_276 (hM.o rfl) rfl rfl hl.1 rfl (Nat.le_of_ble_eq_true rfl) dX11_many_94 ⟨Nat.le_of_ble_eq_true rfl, Nat.le_of_ble_eq_true rfl⟩ ⟨Nat.zero_le _, Nat.zero_le _⟩ (fun r24 H9 locs hp9 hT9 hS9 hk9 => ?_)
    obtain ⟨hp9, hB9⟩ := hp9
    have z25 : ∀ j : Nat, 1200 ≤ j → h_ai H9 (o + 1) j = h_ai H0 (o + 1) j := fun j hj => (h_ai_same hB9)
    have R26 : mR o H9 := hpr.same hB9
    have f27 : r24.toInt = r23.toInt := hp9.1
    exact hret _ _ _ _ _ hT9 hS9 ⟨trivial, ⟨R26, z25⟩⟩ dX11_many_97
  · subst c1
    refine lv_tableIn (tgt := 98) hx hb dX11_many_1 (by decide) (by decide) rfl (by decide) ?_
    refine lv_aload_n hx hb dX11_many_98 rfl (lv_at hl 0 rfl) ?_
    refine lv_aload_n hx hb dX11_many_99 rfl (lv_at hl 0 rfl) ?_
    refine lv_iconst (v := 2) hx hb dX11_many_100 (by decide) ?_
    refine h_callVi (T := TX11) (rest := [.ref (o)]) (As := [.int 2]) hx hb hml hown hts hK hT0 hZ (fun _ h => h) hS0 (c_of l G Y P (o) hM 2 2 (by decide) (h_inc (by decide))) trivial wd_X11_of wV_X11_of wL_X11_47 (hM.o rfl) rfl rfl hl.1 rfl (Nat.le_of_ble_eq_true rfl) dX11_many_101 ⟨Nat.le_of_ble_eq_true rfl, Nat.le_of_ble_eq_true rfl⟩ ⟨Nat.zero_le _, Nat.zero_le _⟩ (fun r28 H10 locs hp10 hT10 hS10 hk10 => ?_)
    obtain ⟨hp10, he⟩ := hp10
    have he := he.symm
    subst he
    have mr28 : h_ai H0 (o + 1) 2 = r28 := hp10.1.symm
    refine h_callVi (T := TX11) (rest := []) (As := [.int r28]) hx hb hml hown hts hK hT0 hZ (fun _ h => h) hS10 (c_X11_gives l G Y P (o) hM r28) trivial wd_X11_gives wV_X11_gives wL_X11_276 (hM.o rfl) rfl rfl hl.1 rfl (Nat.le_of_ble_eq_true rfl) dX11_many_104 ⟨Nat.le_of_ble_eq_true rfl, Nat.le_of_ble_eq_true rfl⟩ ⟨Nat.zero_le _, Nat.zero_le _⟩ (fun r29 H11 locs hp11 hT11 hS11 hk11 => ?_)
    obtain ⟨hp11, hB11⟩ := hp11
    have z30 : ∀ j : Nat, 1200 ≤ j → h_ai H11 (o + 1) j = h_ai H0 (o + 1) j := fun j hj => (h_ai_same hB11)
    have m31 : h_ai H11 (o + 1) 2 = r28 := (h_ai_same hB11).trans mr28
    have R32 : mR o H11 := hpr.same hB11
    have f33 : r29.toInt = r28.toInt := hp11.1
    exact hret _ _ _ _ _ hT11 hS11 ⟨trivial, ⟨R32, z30⟩⟩ dX11_many_107
  · subst c1
    refine lv_tableIn (tgt := 108) hx hb dX11_many_1 (by decide) (by decide) rfl (by decide) ?_
    refine lv_aload_n hx hb dX11_many_108 rfl (lv_at hl 0 rfl) ?_
    refine lv_aload_n hx hb dX11_many_109 rfl (lv_at hl 0 rfl) ?_
    refine lv_iconst (v := 3) hx hb dX11_many_110 (by decide) ?_
    refine h_callVi (T := TX11) (rest := [.ref (o)]) (As := [.int 3]) hx hb hml hown hts hK hT0 hZ (fun _ h => h) hS0 (c_of l G Y P (o) hM 3 3 (by decide) (h_inc (by decide))) trivial wd_X11_of wV_X11_of wL_X11_47 (hM.o rfl) rfl rfl hl.1 rfl (Nat.le_of_ble_eq_true rfl) dX11_many_111 ⟨Nat.le_of_ble_eq_true rfl, Nat.le_of_ble_eq_true rfl⟩ ⟨Nat.zero_le _, Nat.zero_le _⟩ (fun r34 H12 locs hp12 hT12 hS12 hk12 => ?_)
    obtain ⟨hp12, he⟩ := hp12
    have he := he.symm
    subst he
    have mr34 : h_ai H0 (o + 1) 3 = r34 := hp12.1.symm
    refine h_callVi (T := TX11) (rest := []) (As := [.int r34]) hx hb hml hown hts hK hT0 hZ (fun _ h => h) hS12 (c_X11_gives l G Y P (o) hM r34) trivial wd_X11_gives wV_X11_gives wL_X11_276 (hM.o rfl) rfl rfl hl.1 rfl (Nat.le_of_ble_eq_true rfl) dX11_many_114 ⟨Nat.le_of_ble_eq_true rfl, Nat.le_of_ble_eq_true rfl⟩ ⟨Nat.zero_le _, Nat.zero_le _⟩ (fun r35 H13 locs hp13 hT13 hS13 hk13 => ?_)
    obtain ⟨hp13, hB13⟩ := hp13
    have z36 : ∀ j : Nat, 1200 ≤ j → h_ai H13 (o + 1) j = h_ai H0 (o + 1) j := fun j hj => (h_ai_same hB13)
    have m37 : h_ai H13 (o + 1) 3 = r34 := (h_ai_same hB13).trans mr34
    have R38 : mR o H13 := hpr.same hB13
    have f39 : r35.toInt = r34.toInt := hp13.1
    exact hret _ _ _ _ _ hT13 hS13 ⟨trivial, ⟨R38, z36⟩⟩ dX11_many_117
  · subst c1
    refine lv_tableIn (tgt := 118) hx hb dX11_many_1 (by decide) (by decide) rfl (by decide) ?_
    refine lv_aload_n hx hb dX11_many_118 rfl (lv_at hl 0 rfl) ?_
    refine lv_aload_n hx hb dX11_many_119 rfl (lv_at hl 0 rfl) ?_
    refine lv_iconst (v := 5) hx hb dX11_many_120 (by decide) ?_
    refine h_callVi (T := TX11) (rest := [.ref (o)]) (As := [.int 5]) hx hb hml hown hts hK hT0 hZ (fun _ h => h) hS0 (c_of l G Y P (o) hM 5 5 (by decide) (h_inc (by decide))) trivial wd_X11_of wV_X11_of wL_X11_47 (hM.o rfl) rfl rfl hl.1 rfl (Nat.le_of_ble_eq_true rfl) dX11_many_121 ⟨Nat.le_of_ble_eq_true rfl, Nat.le_of_ble_eq_true rfl⟩ ⟨Nat.zero_le _, Nat.zero_le _⟩ (fun r40 H14 locs hp14 hT14 hS14 hk14 => ?_)
    obtain ⟨hp14, he⟩ := hp14
    have he := he.symm
    subst he
    have mr40 : h_ai H0 (o + 1) 5 = r40 := hp14.1.symm
    refine lv_if_ne (tgt := 135) hx hb dX11_many_124 (by decide) (fun c41 => ?_) (fun c41 => ?_)
    · skip
      have c41 : ¬ r40.toInt = (0 : Int) := h_neI c41
      refine lv_iconst (v := (-1)) hx hb dX11_many_135 (by decide) ?_
      refine h_callVi (T := TX11) (rest := []) (As := [.int (-1)]) hx hb hml hown hts hK hT0 hZ (fun _ h => h) hS14 (c_X11_gives l G Y P (o) hM (-1)) trivial wd_X11_gives wV_X11_gives wL_X11_276 (hM.o rfl) rfl rfl hl.1 rfl (Nat.le_of_ble_eq_true rfl) dX11_many_136 ⟨Nat.le_of_ble_eq_true rfl, Nat.le_of_ble_eq_true rfl⟩ ⟨Nat.zero_le _, Nat.zero_le _⟩ (fun r42 H15 locs hp15 hT15 hS15 hk15 => ?_)
      obtain ⟨hp15, hB15⟩ := hp15
      have z43 : ∀ j : Nat, 1200 ≤ j → h_ai H15 (o + 1) j = h_ai H0 (o + 1) j := fun j hj => (h_ai_same hB15)
      have m44 : h_ai H15 (o + 1) 5 = r40 := (h_ai_same hB15).trans mr40
      have R45 : mR o H15 := hpr.same hB15
      have f46 : r42.toInt = (-1 : Int) := hp15.1
      exact hret _ _ _ _ _ hT15 hS15 ⟨trivial, ⟨R45, z43⟩⟩ dX11_many_139
    · skip
      have c41 : r40.toInt = (0 : Int) := congrArg Int32.toInt c41
      refine lv_aload_n hx hb dX11_many_127 rfl (lv_at hl 0 rfl) ?_
      refine lv_iconst (v := 4) hx hb dX11_many_128 (by decide) ?_
      refine h_callVi (T := TX11) (rest := [.ref (o)]) (As := [.int 4]) hx hb hml hown hts hK hT0 hZ (fun _ h => h) hS14 (c_of l G Y P (o) hM 4 4 (by decide) (h_inc (by decide))) trivial wd_X11_of wV_X11_of wL_X11_47 (hM.o rfl) rfl rfl hl.1 rfl (Nat.le_of_ble_eq_true rfl) dX11_many_129 ⟨Nat.le_of_ble_eq_true rfl, Nat.le_of_ble_eq_true rfl⟩ ⟨Nat.zero_le _, Nat.zero_le _⟩ (fun r47 H16 locs hp16 hT16 hS16 hk16 => ?_)
      obtain ⟨hp16, he⟩ := hp16
      have he := he.symm
      subst he
      have mr47 : h_ai H0 (o + 1) 4 = r47 := hp16.1.symm
      refine lv_goto (tgt := 136) hx hb dX11_many_132 (by decide) ?_
      refine h_callVi (T := TX11) (rest := []) (As := [.int r47]) hx hb hml hown hts hK hT0 hZ (fun _ h => h) hS16 (c_X11_gives l G Y P (o) hM r47) trivial wd_X11_gives wV_X11_gives wL_X11_276 (hM.o rfl) rfl rfl hl.1 rfl (Nat.le_of_ble_eq_true rfl) dX11_many_136 ⟨Nat.le_of_ble_eq_true rfl, Nat.le_of_ble_eq_true rfl⟩ ⟨Nat.zero_le _, Nat.zero_le _⟩ (fun r48 H17 locs hp17 hT17 hS17 hk17 => ?_)
      obtain ⟨hp17, hB17⟩ := hp17
      have z49 : ∀ j : Nat, 1200 ≤ j → h_ai H17 (o + 1) j = h_ai H0 (o + 1) j := fun j hj => (h_ai_same hB17)
      have m50 : h_ai H17 (o + 1) 5 = r40 := (h_ai_same hB17).trans mr40
      have m51 : h_ai H17 (o + 1) 4 = r47 := (h_ai_same hB17).trans mr47
      have R52 : mR o H17 := hpr.same hB17
      have f53 : r48.toInt = r47.toInt := hp17.1
      exact hret _ _ _ _ _ hT17 hS17 ⟨trivial, ⟨R52, z49⟩⟩ dX11_many_139
  · subst c1
    refine lv_tableIn (tgt := 140) hx hb dX11_many_1 (by decide) (by decide) rfl (by decide) ?_
    refine lv_aload_n hx hb dX11_many_140 rfl (lv_at hl 0 rfl) ?_
    refine lv_aload_n hx hb dX11_many_141 rfl (lv_at hl 0 rfl) ?_
    refine h_geti (C := RX11) (T := TX11) (N := 23) hx hb hts inX11 hown hK hT0 (hM.o rfl) rfl 2 rfl wF_X11_285 rfl dX11_many_142 (fun p54 => ?_)
    refine lv_topi (fun x55 ex55 => ?_)
    refine h_callVi (T := TX11) (rest := []) (As := [.int x55]) hx hb hml hown hts hK hT0 hZ (fun _ h => h) hS0 (c_X11_gives l G Y P (o) hM x55) trivial wd_X11_gives wV_X11_gives wL_X11_276 (hM.o rfl) rfl rfl hl.1 rfl (Nat.le_of_ble_eq_true rfl) dX11_many_145 ⟨Nat.le_of_ble_eq_true rfl, Nat.le_of_ble_eq_true rfl⟩ ⟨Nat.zero_le _, Nat.zero_le _⟩ (fun r56 H18 locs hp18 hT18 hS18 hk18 => ?_)
    obtain ⟨hp18, hB18⟩ := hp18
    have z57 : ∀ j : Nat, 1200 ≤ j → h_ai H18 (o + 1) j = h_ai H0 (o + 1) j := fun j hj => (h_ai_same hB18)
    have R58 : mR o H18 := hpr.same hB18
    have f59 : r56.toInt = x55.toInt := hp18.1
    exact hret _ _ _ _ _ hT18 hS18 ⟨trivial, ⟨R58, z57⟩⟩ dX11_many_148
  · subst c1
    refine lv_tableIn (tgt := 149) hx hb dX11_many_1 (by decide) (by decide) rfl (by decide) ?_
    refine lv_aload_n hx hb dX11_many_149 rfl (lv_at hl 0 rfl) ?_
    refine lv_aload_n hx hb dX11_many_150 rfl (lv_at hl 0 rfl) ?_
    refine h_callVi (T := TX11) (rest := [.ref (o)]) (As := []) hx hb hml hown hts hK hT0 hZ (fun _ h => h) hS0 (c_X11_doesCount l G Y P (o) hM) hpr wd_X11_doesCount wV_X11_doesCount wL_X11_58 (hM.o rfl) rfl rfl hl.1 rfl (Nat.le_of_ble_eq_true rfl) dX11_many_151 ⟨Nat.le_of_ble_eq_true rfl, Nat.le_of_ble_eq_true rfl⟩ ⟨Nat.zero_le _, Nat.zero_le _⟩ (fun r60 H19 locs hp19 hT19 hS19 hk19 => ?_)
    obtain ⟨hp19, he⟩ := hp19
    have he := he.symm
    subst he
    refine lv_if_eq (tgt := 161) hx hb dX11_many_154 (by decide) (fun c61 => ?_) (fun c61 => ?_)
    · skip
      have c61 : r60.toInt = (0 : Int) := congrArg Int32.toInt c61
      refine lv_iconst (v := 0) hx hb dX11_many_161 (by decide) ?_
      refine h_callVi (T := TX11) (rest := []) (As := [.int 0]) hx hb hml hown hts hK hT0 hZ (fun _ h => h) hS19 (c_X11_gives l G Y P (o) hM 0) trivial wd_X11_gives wV_X11_gives wL_X11_276 (hM.o rfl) rfl rfl hl.1 rfl (Nat.le_of_ble_eq_true rfl) dX11_many_162 ⟨Nat.le_of_ble_eq_true rfl, Nat.le_of_ble_eq_true rfl⟩ ⟨Nat.zero_le _, Nat.zero_le _⟩ (fun r62 H20 locs hp20 hT20 hS20 hk20 => ?_)
      obtain ⟨hp20, hB20⟩ := hp20
      have z63 : ∀ j : Nat, 1200 ≤ j → h_ai H20 (o + 1) j = h_ai H0 (o + 1) j := fun j hj => (h_ai_same hB20)
      have R64 : mR o H20 := hpr.same hB20
      have f65 : r62.toInt = (0 : Int) := hp20.1
      exact hret _ _ _ _ _ hT20 hS20 ⟨trivial, ⟨R64, z63⟩⟩ dX11_many_165
    · skip
      have c61 : ¬ r60.toInt = (0 : Int) := h_neI c61
      refine lv_iconst (v := 1) hx hb dX11_many_157 (by decide) ?_
      refine lv_goto (tgt := 162) hx hb dX11_many_158 (by decide) ?_
      refine h_callVi (T := TX11) (rest := []) (As := [.int 1]) hx hb hml hown hts hK hT0 hZ (fun _ h => h) hS19 (c_X11_gives l G Y P (o) hM 1) trivial wd_X11_gives wV_X11_gives wL_X11_276 (hM.o rfl) rfl rfl hl.1 rfl (Nat.le_of_ble_eq_true rfl) dX11_many_162 ⟨Nat.le_of_ble_eq_true rfl, Nat.le_of_ble_eq_true rfl⟩ ⟨Nat.zero_le _, Nat.zero_le _⟩ (fun r66 H21 locs hp21 hT21 hS21 hk21 => ?_)
      obtain ⟨hp21, hB21⟩ := hp21
      have z67 : ∀ j : Nat, 1200 ≤ j → h_ai H21 (o + 1) j = h_ai H0 (o + 1) j := fun j hj => (h_ai_same hB21)
      have R68 : mR o H21 := hpr.same hB21
      have f69 : r66.toInt = (1 : Int) := hp21.1
      exact hret _ _ _ _ _ hT21 hS21 ⟨trivial, ⟨R68, z67⟩⟩ dX11_many_165
  · subst c1
    refine lv_tableIn (tgt := 166) hx hb dX11_many_1 (by decide) (by decide) rfl (by decide) ?_
    refine lv_aload_n hx hb dX11_many_166 rfl (lv_at hl 0 rfl) ?_
    refine lv_aload_n hx hb dX11_many_167 rfl (lv_at hl 0 rfl) ?_
    refine lv_bipush (v := 16) hx hb dX11_many_168 (by decide) ?_
    refine h_callVi (T := TX11) (rest := [.ref (o)]) (As := [.int 16]) hx hb hml hown hts hK hT0 hZ (fun _ h => h) hS0 (c_of l G Y P (o) hM 16 16 (by decide) (h_inc (by decide))) trivial wd_X11_of wV_X11_of wL_X11_47 (hM.o rfl) rfl rfl hl.1 rfl (Nat.le_of_ble_eq_true rfl) dX11_many_170 ⟨Nat.le_of_ble_eq_true rfl, Nat.le_of_ble_eq_true rfl⟩ ⟨Nat.zero_le _, Nat.zero_le _⟩ (fun r70 H22 locs hp22 hT22 hS22 hk22 => ?_)
    obtain ⟨hp22, he⟩ := hp22
    have he := he.symm
    subst he
    have mr70 : h_ai H0 (o + 1) 16 = r70 := hp22.1.symm
    have br70 := mP_m1 hp22.2 (by omega)
    refine h_callVi (T := TX11) (rest := []) (As := [.int r70]) hx hb hml hown hts hK hT0 hZ (fun _ h => h) hS22 (c_X11_gives l G Y P (o) hM r70) trivial wd_X11_gives wV_X11_gives wL_X11_276 (hM.o rfl) rfl rfl hl.1 rfl (Nat.le_of_ble_eq_true rfl) dX11_many_173 ⟨Nat.le_of_ble_eq_true rfl, Nat.le_of_ble_eq_true rfl⟩ ⟨Nat.zero_le _, Nat.zero_le _⟩ (fun r71 H23 locs hp23 hT23 hS23 hk23 => ?_)
    obtain ⟨hp23, hB23⟩ := hp23
    have z72 : ∀ j : Nat, 1200 ≤ j → h_ai H23 (o + 1) j = h_ai H0 (o + 1) j := fun j hj => (h_ai_same hB23)
    have m73 : h_ai H23 (o + 1) 16 = r70 := (h_ai_same hB23).trans mr70
    have R74 : mR o H23 := hpr.same hB23
    have f75 : r71.toInt = r70.toInt := hp23.1
    exact hret _ _ _ _ _ hT23 hS23 ⟨trivial, ⟨R74, z72⟩⟩ dX11_many_176
  · subst c1
    refine lv_tableIn (tgt := 177) hx hb dX11_many_1 (by decide) (by decide) rfl (by decide) ?_
    refine lv_aload_n hx hb dX11_many_177 rfl (lv_at hl 0 rfl) ?_
    refine lv_aload_n hx hb dX11_many_178 rfl (lv_at hl 0 rfl) ?_
    refine lv_bipush (v := 16) hx hb dX11_many_179 (by decide) ?_
    refine h_callVi (T := TX11) (rest := [.ref (o)]) (As := [.int 16]) hx hb hml hown hts hK hT0 hZ (fun _ h => h) hS0 (c_of l G Y P (o) hM 16 16 (by decide) (h_inc (by decide))) trivial wd_X11_of wV_X11_of wL_X11_47 (hM.o rfl) rfl rfl hl.1 rfl (Nat.le_of_ble_eq_true rfl) dX11_many_181 ⟨Nat.le_of_ble_eq_true rfl, Nat.le_of_ble_eq_true rfl⟩ ⟨Nat.zero_le _, Nat.zero_le _⟩ (fun r76 H24 locs hp24 hT24 hS24 hk24 => ?_)
    obtain ⟨hp24, he⟩ := hp24
    have he := he.symm
    subst he
    have mr76 : h_ai H0 (o + 1) 16 = r76 := hp24.1.symm
    have br76 := mP_m1 hp24.2 (by omega)
    refine lv_iconst (v := (-1)) hx hb dX11_many_184 (by decide) ?_
    refine lv_icmp_ne (tgt := 192) hx hb dX11_many_185 (by decide) (fun c77 => ?_) (fun c77 => ?_)
    · skip
      have c77 : ¬ r76.toInt = (-1 : Int) := h_neI c77
      refine lv_aload_n hx hb dX11_many_192 rfl (lv_at hl 0 rfl) ?_
      refine lv_bipush (v := 17) hx hb dX11_many_193 (by decide) ?_
      refine h_callVi (T := TX11) (rest := [.ref (o)]) (As := [.int 17]) hx hb hml hown hts hK hT0 hZ (fun _ h => h) hS24 (c_of l G Y P (o) hM 17 17 (by decide) (h_inc (by decide))) trivial wd_X11_of wV_X11_of wL_X11_47 (hM.o rfl) rfl rfl hl.1 rfl (Nat.le_of_ble_eq_true rfl) dX11_many_195 ⟨Nat.le_of_ble_eq_true rfl, Nat.le_of_ble_eq_true rfl⟩ ⟨Nat.zero_le _, Nat.zero_le _⟩ (fun r78 H25 locs hp25 hT25 hS25 hk25 => ?_)
      obtain ⟨hp25, he⟩ := hp25
      have he := he.symm
      subst he
      have mr78 : h_ai H0 (o + 1) 17 = r78 := hp25.1.symm
      refine h_callVi (T := TX11) (rest := []) (As := [.int r78]) hx hb hml hown hts hK hT0 hZ (fun _ h => h) hS25 (c_X11_gives l G Y P (o) hM r78) trivial wd_X11_gives wV_X11_gives wL_X11_276 (hM.o rfl) rfl rfl hl.1 rfl (Nat.le_of_ble_eq_true rfl) dX11_many_198 ⟨Nat.le_of_ble_eq_true rfl, Nat.le_of_ble_eq_true rfl⟩ ⟨Nat.zero_le _, Nat.zero_le _⟩ (fun r79 H26 locs hp26 hT26 hS26 hk26 => ?_)
      obtain ⟨hp26, hB26⟩ := hp26
      have z80 : ∀ j : Nat, 1200 ≤ j → h_ai H26 (o + 1) j = h_ai H0 (o + 1) j := fun j hj => (h_ai_same hB26)
      have m81 : h_ai H26 (o + 1) 16 = r76 := (h_ai_same hB26).trans mr76
      have m82 : h_ai H26 (o + 1) 17 = r78 := (h_ai_same hB26).trans mr78
      have R83 : mR o H26 := hpr.same hB26
      have f84 : r79.toInt = r78.toInt := hp26.1
      exact hret _ _ _ _ _ hT26 hS26 ⟨trivial, ⟨R83, z80⟩⟩ dX11_many_201
    · skip
      have c77 : r76.toInt = (-1 : Int) := congrArg Int32.toInt c77
      refine lv_iconst (v := (-1)) hx hb dX11_many_188 (by decide) ?_
      refine lv_goto (tgt := 198) hx hb dX11_many_189 (by decide) ?_
      refine h_callVi (T := TX11) (rest := []) (As := [.int (-1)]) hx hb hml hown hts hK hT0 hZ (fun _ h => h) hS24 (c_X11_gives l G Y P (o) hM (-1)) trivial wd_X11_gives wV_X11_gives wL_X11_276 (hM.o rfl) rfl rfl hl.1 rfl (Nat.le_of_ble_eq_true rfl) dX11_many_198 ⟨Nat.le_of_ble_eq_true rfl, Nat.le_of_ble_eq_true rfl⟩ ⟨Nat.zero_le _, Nat.zero_le _⟩ (fun r85 H27 locs hp27 hT27 hS27 hk27 => ?_)
      obtain ⟨hp27, hB27⟩ := hp27
      have z86 : ∀ j : Nat, 1200 ≤ j → h_ai H27 (o + 1) j = h_ai H0 (o + 1) j := fun j hj => (h_ai_same hB27)
      have m87 : h_ai H27 (o + 1) 16 = r76 := (h_ai_same hB27).trans mr76
      have R88 : mR o H27 := hpr.same hB27
      have f89 : r85.toInt = (-1 : Int) := hp27.1
      exact hret _ _ _ _ _ hT27 hS27 ⟨trivial, ⟨R88, z86⟩⟩ dX11_many_201
set_option maxHeartbeats 4000000 in
set_option maxRecDepth 100000 in
theorem c_X11_station (l : Launch) (G : hG) (Y : hW) (P : Int32 → Prop) (o : Nat) (hM : h_On Y o (modE (tM P) o)) (u1 u2 : Int32) : hMi l yX11_station cX11_station 5 (some .int) 3 63 G Y [.ref (o), .int u1, .int u2] (fun H => mR o H) (fun H r H1 => (True) ∧ (mR o H1 ∧ mV o H H1)) := by
  refine h_ofi (by decide +kernel) (Nat.le_of_ble_eq_true rfl) ?_
  intro p e s m args below meth c H0 ls Q hx hb hts hown hml hK hZ hT0 hpr hS0 hl hret
  have hl : lv_has ls 5 [(0, .ref (o)), (1, .int u1), (2, .int u2)] := hl
  refine lv_iload_n hx hb dX11_station_0 rfl (lv_at hl 2 rfl) ?_
  refine lv_iconst (v := 0) hx hb dX11_station_1 (by decide) ?_
  refine lv_bipush (v := 9) hx hb dX11_station_2 (by decide) ?_
  refine h_callSi (rest := []) (As := [.int u2, .int 0, .int 9]) hx hb hml hown hts hK hT0 hZ (fun _ h => h) hS0 (c_X11_isFrom l G Y u2 0 9) trivial wd_X11_isFrom wS_X11_isFrom wL_X11_228 rfl hl.1 rfl (Nat.le_of_ble_eq_true rfl) dX11_station_4 ⟨Nat.le_of_ble_eq_true rfl, Nat.le_of_ble_eq_true rfl⟩ ⟨Nat.zero_le _, Nat.zero_le _⟩ (fun r1 H1 locs hp1 hT1 hS1 hk1 => ?_)
  obtain ⟨hp1, he⟩ := hp1
  have he := he.symm
  subst he
  have f2 : (r1.toInt = 1 ∧ (0 : Int) ≤ u2.toInt ∧ u2.toInt ≤ (9 : Int)) ∨ (r1.toInt = 0 ∧ ¬ ((0 : Int) ≤ u2.toInt ∧ u2.toInt ≤ (9 : Int))) := by have q := hp1.2; exact q
  refine lv_if_ne (tgt := 14) hx hb dX11_station_7 (by decide) (fun c3 => ?_) (fun c3 => ?_)
  · skip
    have c3 : ¬ r1.toInt = (0 : Int) := h_neI c3
    refine lv_aload_n hx hb dX11_station_14 rfl (lv_at hl 0 rfl) ?_
    refine lv_iload_n hx hb dX11_station_15 rfl (lv_at hl 1 rfl) ?_
    obtain ⟨v4, mv4⟩ : ∃ x, h_ai H0 (o + 1) 0 = x := ⟨_, rfl⟩
    have bv4 := mP_N (mP_cell hM hT0 (j := 0) (by omega)) (by omega)
    rw [mv4] at bv4
    refine h_callVi (T := TX11) (rest := []) (As := [.int u1]) hx hb hml hown hts hK hT0 hZ (fun _ h => h) hS1 (c_X11_wrongStation l G Y P (o) hM u1) trivial wd_X11_wrongStation wV_X11_wrongStation wL_X11_288 (hM.o rfl) rfl rfl hl.1 rfl (Nat.le_of_ble_eq_true rfl) dX11_station_16 ⟨Nat.le_of_ble_eq_true rfl, Nat.le_of_ble_eq_true rfl⟩ ⟨Nat.zero_le _, Nat.zero_le _⟩ (fun r5 H2 locs hp2 hT2 hS2 hk2 => ?_)
    obtain ⟨hp2, he⟩ := hp2
    have he := he.symm
    subst he
    have f6 : (r5.toInt = 0 ∧ 0 ≤ u1.toInt ∧ u1.toInt < v4.toInt) ∨ r5.toInt = 2 := by have q := hp2; rw [mv4] at q; exact q
    refine lv_istore_n (lv' := [(3, .int r5), (0, .ref (o)), (1, .int u1), (2, .int u2)]) hx hb dX11_station_19 rfl hl (by decide) rfl (fun ls hl => ?_)
    refine lv_iload_n hx hb dX11_station_20 rfl (lv_at hl 0 rfl) ?_
    refine lv_if_le (tgt := 30) hx hb dX11_station_21 (by decide) (fun c7 => ?_) (fun c7 => ?_)
    · skip
      have c7 : r5.toInt ≤ (0 : Int) := Int32.le_iff_toInt_le.mp c7
      refine lv_aload_n hx hb dX11_station_30 rfl (lv_at hl 1 rfl) ?_
      refine lv_bipush (v := 88) hx hb dX11_station_31 (by decide) ?_
      refine lv_iload_n hx hb dX11_station_33 rfl (lv_at hl 2 rfl) ?_
      refine lv_iadd hx hb dX11_station_34 ?_
      obtain ⟨x8, qx8, ix8⟩ := h_addX 88 u1 (88 : Int) u1.toInt rfl rfl (by omega) (by omega)
      refine h_top (v := x8) qx8 ?_
      refine h_callVi (T := TX11) (rest := []) (As := [.int x8]) hx hb hml hown hts hK hT0 hZ (fun _ h => h) hS2 (c_of l G Y P (o) hM x8 (88 + u1.toInt).toNat (show x8.toInt.toNat = (88 + u1.toInt).toNat from by omega) (h_vin (by omega) (by omega))) trivial wd_X11_of wV_X11_of wL_X11_47 (hM.o rfl) rfl rfl hl.1 rfl (Nat.le_of_ble_eq_true rfl) dX11_station_35 ⟨Nat.le_of_ble_eq_true rfl, Nat.le_of_ble_eq_true rfl⟩ ⟨Nat.zero_le _, Nat.zero_le _⟩ (fun r9 H3 locs hp3 hT3 hS3 hk3 => ?_)
      obtain ⟨hp3, he⟩ := hp3
      have he := he.symm
      subst he
      have mr9 : h_ai H0 (o + 1) (88 + u1.toInt).toNat = r9 := hp3.1.symm
      have br9 := mP_rm hp3.2 (by omega)
      refine lv_istore (lv' := [(4, .int r9), (3, .int r5), (0, .ref (o)), (1, .int u1), (2, .int u2)]) hx hb dX11_station_38 hl (by decide) rfl (fun ls hl => ?_)
      refine lv_iload_n hx hb dX11_station_40 rfl (lv_at hl 4 rfl) ?_
      rcases h_sw9 u2 with c10 | c10 | c10 | c10 | c10 | c10 | c10 | c10 | c10 | c10
      · skip
        refine lv_tableOut (tgt := 249) hx hb dX11_station_41 c10 (by decide) ?_
        refine lv_aload_n hx hb dX11_station_249 rfl (lv_at hl 2 rfl) ?_
        refine lv_aload_n hx hb dX11_station_250 rfl (lv_at hl 2 rfl) ?_
        refine lv_bipush (v := 72) hx hb dX11_station_251 (by decide) ?_
        refine lv_iload_n hx hb dX11_station_253 rfl (lv_at hl 3 rfl) ?_
        refine lv_iadd hx hb dX11_station_254 ?_
        obtain ⟨x11, qx11, ix11⟩ := h_addX 72 u1 (72 : Int) u1.toInt rfl rfl (by omega) (by omega)
        refine h_top (v := x11) qx11 ?_
        refine h_callVi (T := TX11) (rest := [.ref (o)]) (As := [.int x11]) hx hb hml hown hts hK hT0 hZ (fun _ h => h) hS3 (c_of l G Y P (o) hM x11 (72 + u1.toInt).toNat (show x11.toInt.toNat = (72 + u1.toInt).toNat from by omega) (h_vin (by omega) (by omega))) trivial wd_X11_of wV_X11_of wL_X11_47 (hM.o rfl) rfl rfl hl.1 rfl (Nat.le_of_ble_eq_true rfl) dX11_station_255 ⟨Nat.le_of_ble_eq_true rfl, Nat.le_of_ble_eq_true rfl⟩ ⟨Nat.zero_le _, Nat.zero_le _⟩ (fun r12 H4 locs hp4 hT4 hS4 hk4 => ?_)
        obtain ⟨hp4, he⟩ := hp4
        have he := he.symm
        subst he
        have mr12 : h_ai H0 (o + 1) (72 + u1.toInt).toNat = r12 := hp4.1.symm
        refine h_callVi (T := TX11) (rest := []) (As := [.int r12]) hx hb hml hown hts hK hT0 hZ (fun _ h => h) hS4 (c_X11_gives l G Y P (o) hM r12) trivial wd_X11_gives wV_X11_gives wL_X11_276 (hM.o rfl) rfl rfl hl.1 rfl (Nat.le_of_ble_eq_true rfl) dX11_station_258 ⟨Nat.le_of_ble_eq_true rfl, Nat.le_of_ble_eq_true rfl⟩ ⟨Nat.zero_le _, Nat.zero_le _⟩ (fun r13 H5 locs hp5 hT5 hS5 hk5 => ?_)
        obtain ⟨hp5, hB5⟩ := hp5
        have z14 : ∀ j : Nat, 1200 ≤ j → h_ai H5 (o + 1) j = h_ai H0 (o + 1) j := fun j hj => (h_ai_same hB5)
        have m15 : h_ai H5 (o + 1) 0 = v4 := (h_ai_same hB5).trans mv4
        have m16 : h_ai H5 (o + 1) (88 + u1.toInt).toNat = r9 := (h_ai_same hB5).trans mr9
        have m17 : h_ai H5 (o + 1) (72 + u1.toInt).toNat = r12 := (h_ai_same hB5).trans mr12
        have R18 : mR o H5 := hpr.same hB5
        have f19 : r13.toInt = r12.toInt := hp5.1
        exact hret _ _ _ _ _ hT5 hS5 ⟨trivial, ⟨R18, z14⟩⟩ dX11_station_261
      · subst c10
        refine lv_tableIn (tgt := 92) hx hb dX11_station_41 (by decide) (by decide) rfl (by decide) ?_
        refine lv_aload_n hx hb dX11_station_92 rfl (lv_at hl 2 rfl) ?_
        refine lv_aload_n hx hb dX11_station_93 rfl (lv_at hl 2 rfl) ?_
        refine lv_bipush (v := 40) hx hb dX11_station_94 (by decide) ?_
        refine lv_iload_n hx hb dX11_station_96 rfl (lv_at hl 3 rfl) ?_
        refine lv_iadd hx hb dX11_station_97 ?_
        obtain ⟨x20, qx20, ix20⟩ := h_addX 40 u1 (40 : Int) u1.toInt rfl rfl (by omega) (by omega)
        refine h_top (v := x20) qx20 ?_
        refine h_callVi (T := TX11) (rest := [.ref (o)]) (As := [.int x20]) hx hb hml hown hts hK hT0 hZ (fun _ h => h) hS3 (c_of l G Y P (o) hM x20 (40 + u1.toInt).toNat (show x20.toInt.toNat = (40 + u1.toInt).toNat from by omega) (h_vin (by omega) (by omega))) trivial wd_X11_of wV_X11_of wL_X11_47 (hM.o rfl) rfl rfl hl.1 rfl (Nat.le_of_ble_eq_true rfl) dX11_station_98 ⟨Nat.le_of_ble_eq_true rfl, Nat.le_of_ble_eq_true rfl⟩ ⟨Nat.zero_le _, Nat.zero_le _⟩ (fun r21 H6 locs hp6 hT6 hS6 hk6 => ?_)
        obtain ⟨hp6, he⟩ := hp6
        have he := he.symm
        subst he
        have mr21 : h_ai H0 (o + 1) (40 + u1.toInt).toNat = r21 := hp6.1.symm
        refine h_callVi (T := TX11) (rest := []) (As := [.int r21]) hx hb hml hown hts hK hT0 hZ (fun _ h => h) hS6 (c_X11_gives l G Y P (o) hM r21) trivial wd_X11_gives wV_X11_gives wL_X11_276 (hM.o rfl) rfl rfl hl.1 rfl (Nat.le_of_ble_eq_true rfl) dX11_station_101 ⟨Nat.le_of_ble_eq_true rfl, Nat.le_of_ble_eq_true rfl⟩ ⟨Nat.zero_le _, Nat.zero_le _⟩ (fun r22 H7 locs hp7 hT7 hS7 hk7 => ?_)
        obtain ⟨hp7, hB7⟩ := hp7
        have z23 : ∀ j : Nat, 1200 ≤ j → h_ai H7 (o + 1) j = h_ai H0 (o + 1) j := fun j hj => (h_ai_same hB7)
        have m24 : h_ai H7 (o + 1) 0 = v4 := (h_ai_same hB7).trans mv4
        have m25 : h_ai H7 (o + 1) (88 + u1.toInt).toNat = r9 := (h_ai_same hB7).trans mr9
        have m26 : h_ai H7 (o + 1) (40 + u1.toInt).toNat = r21 := (h_ai_same hB7).trans mr21
        have R27 : mR o H7 := hpr.same hB7
        have f28 : r22.toInt = r21.toInt := hp7.1
        exact hret _ _ _ _ _ hT7 hS7 ⟨trivial, ⟨R27, z23⟩⟩ dX11_station_104
      · subst c10
        refine lv_tableIn (tgt := 105) hx hb dX11_station_41 (by decide) (by decide) rfl (by decide) ?_
        refine lv_aload_n hx hb dX11_station_105 rfl (lv_at hl 2 rfl) ?_
        refine lv_aload_n hx hb dX11_station_106 rfl (lv_at hl 2 rfl) ?_
        refine lv_bipush (v := 48) hx hb dX11_station_107 (by decide) ?_
        refine lv_iload_n hx hb dX11_station_109 rfl (lv_at hl 3 rfl) ?_
        refine lv_iadd hx hb dX11_station_110 ?_
        obtain ⟨x29, qx29, ix29⟩ := h_addX 48 u1 (48 : Int) u1.toInt rfl rfl (by omega) (by omega)
        refine h_top (v := x29) qx29 ?_
        refine h_callVi (T := TX11) (rest := [.ref (o)]) (As := [.int x29]) hx hb hml hown hts hK hT0 hZ (fun _ h => h) hS3 (c_of l G Y P (o) hM x29 (48 + u1.toInt).toNat (show x29.toInt.toNat = (48 + u1.toInt).toNat from by omega) (h_vin (by omega) (by omega))) trivial wd_X11_of wV_X11_of wL_X11_47 (hM.o rfl) rfl rfl hl.1 rfl (Nat.le_of_ble_eq_true rfl) dX11_station_111 ⟨Nat.le_of_ble_eq_true rfl, Nat.le_of_ble_eq_true rfl⟩ ⟨Nat.zero_le _, Nat.zero_le _⟩ (fun r30 H8 locs hp8 hT8 hS8 hk8 => ?_)
        obtain ⟨hp8, he⟩ := hp8
        have he := he.symm
        subst he
        have mr30 : h_ai H0 (o + 1) (48 + u1.toInt).toNat = r30 := hp8.1.symm
        refine h_callVi (T := TX11) (rest := []) (As := [.int r30]) hx hb hml hown hts hK hT0 hZ (fun _ h => h) hS8 (c_X11_gives l G Y P (o) hM r30) trivial wd_X11_gives wV_X11_gives wL_X11_276 (hM.o rfl) rfl rfl hl.1 rfl (Nat.le_of_ble_eq_true rfl) dX11_station_114 ⟨Nat.le_of_ble_eq_true rfl, Nat.le_of_ble_eq_true rfl⟩ ⟨Nat.zero_le _, Nat.zero_le _⟩ (fun r31 H9 locs hp9 hT9 hS9 hk9 => ?_)
        obtain ⟨hp9, hB9⟩ := hp9
        have z32 : ∀ j : Nat, 1200 ≤ j → h_ai H9 (o + 1) j = h_ai H0 (o + 1) j := fun j hj => (h_ai_same hB9)
        have m33 : h_ai H9 (o + 1) 0 = v4 := (h_ai_same hB9).trans mv4
        have m34 : h_ai H9 (o + 1) (88 + u1.toInt).toNat = r9 := (h_ai_same hB9).trans mr9
        have m35 : h_ai H9 (o + 1) (48 + u1.toInt).toNat = r30 := (h_ai_same hB9).trans mr30
        have R36 : mR o H9 := hpr.same hB9
        have f37 : r31.toInt = r30.toInt := hp9.1
        exact hret _ _ _ _ _ hT9 hS9 ⟨trivial, ⟨R36, z32⟩⟩ dX11_station_117
      · subst c10
        refine lv_tableIn (tgt := 118) hx hb dX11_station_41 (by decide) (by decide) rfl (by decide) ?_
        refine lv_aload_n hx hb dX11_station_118 rfl (lv_at hl 2 rfl) ?_
        refine lv_aload_n hx hb dX11_station_119 rfl (lv_at hl 2 rfl) ?_
        refine lv_bipush (v := 80) hx hb dX11_station_120 (by decide) ?_
        refine lv_iload_n hx hb dX11_station_122 rfl (lv_at hl 3 rfl) ?_
        refine lv_iadd hx hb dX11_station_123 ?_
        obtain ⟨x38, qx38, ix38⟩ := h_addX 80 u1 (80 : Int) u1.toInt rfl rfl (by omega) (by omega)
        refine h_top (v := x38) qx38 ?_
        refine h_callVi (T := TX11) (rest := [.ref (o)]) (As := [.int x38]) hx hb hml hown hts hK hT0 hZ (fun _ h => h) hS3 (c_of l G Y P (o) hM x38 (80 + u1.toInt).toNat (show x38.toInt.toNat = (80 + u1.toInt).toNat from by omega) (h_vin (by omega) (by omega))) trivial wd_X11_of wV_X11_of wL_X11_47 (hM.o rfl) rfl rfl hl.1 rfl (Nat.le_of_ble_eq_true rfl) dX11_station_124 ⟨Nat.le_of_ble_eq_true rfl, Nat.le_of_ble_eq_true rfl⟩ ⟨Nat.zero_le _, Nat.zero_le _⟩ (fun r39 H10 locs hp10 hT10 hS10 hk10 => ?_)
        obtain ⟨hp10, he⟩ := hp10
        have he := he.symm
        subst he
        have mr39 : h_ai H0 (o + 1) (80 + u1.toInt).toNat = r39 := hp10.1.symm
        have br39 := mP_wm hp10.2 (by omega)
        refine h_callVi (T := TX11) (rest := []) (As := [.int r39]) hx hb hml hown hts hK hT0 hZ (fun _ h => h) hS10 (c_X11_gives l G Y P (o) hM r39) trivial wd_X11_gives wV_X11_gives wL_X11_276 (hM.o rfl) rfl rfl hl.1 rfl (Nat.le_of_ble_eq_true rfl) dX11_station_127 ⟨Nat.le_of_ble_eq_true rfl, Nat.le_of_ble_eq_true rfl⟩ ⟨Nat.zero_le _, Nat.zero_le _⟩ (fun r40 H11 locs hp11 hT11 hS11 hk11 => ?_)
        obtain ⟨hp11, hB11⟩ := hp11
        have z41 : ∀ j : Nat, 1200 ≤ j → h_ai H11 (o + 1) j = h_ai H0 (o + 1) j := fun j hj => (h_ai_same hB11)
        have m42 : h_ai H11 (o + 1) 0 = v4 := (h_ai_same hB11).trans mv4
        have m43 : h_ai H11 (o + 1) (88 + u1.toInt).toNat = r9 := (h_ai_same hB11).trans mr9
        have m44 : h_ai H11 (o + 1) (80 + u1.toInt).toNat = r39 := (h_ai_same hB11).trans mr39
        have R45 : mR o H11 := hpr.same hB11
        have f46 : r40.toInt = r39.toInt := hp11.1
        exact hret _ _ _ _ _ hT11 hS11 ⟨trivial, ⟨R45, z41⟩⟩ dX11_station_130
      · subst c10
        refine lv_tableIn (tgt := 131) hx hb dX11_station_41 (by decide) (by decide) rfl (by decide) ?_
        refine lv_aload_n hx hb dX11_station_131 rfl (lv_at hl 2 rfl) ?_
        refine lv_aload_n hx hb dX11_station_132 rfl (lv_at hl 2 rfl) ?_
        refine lv_iload_n hx hb dX11_station_133 rfl (lv_at hl 3 rfl) ?_
        obtain ⟨v47, mv47⟩ : ∃ x, h_ai H0 (o + 1) (80 + u1.toInt).toNat = x := ⟨_, rfl⟩
        have bv47 := mP_wm (mP_cell hM hT0 (j := (80 + u1.toInt).toNat) (by omega)) (by omega)
        rw [mv47] at bv47
        refine h_callVi (T := TX11) (rest := [.ref (o)]) (As := [.int u1]) hx hb hml hown hts hK hT0 hZ (fun _ h => h) hS3 (c_X11_firstOf l G Y P (o) hM u1 (show 0 ≤ u1.toInt ∧ u1.toInt ≤ 7 from by omega)) trivial wd_X11_firstOf wV_X11_firstOf wL_X11_66 (hM.o rfl) rfl rfl hl.1 rfl (Nat.le_of_ble_eq_true rfl) dX11_station_134 ⟨Nat.le_of_ble_eq_true rfl, Nat.le_of_ble_eq_true rfl⟩ ⟨Nat.zero_le _, Nat.zero_le _⟩ (fun r48 H12 locs hp12 hT12 hS12 hk12 => ?_)
        obtain ⟨hp12, he⟩ := hp12
        have he := he.symm
        subst he
        have f49 : (r48.toInt = -1 ∧ v47.toInt ≤ 0) ∨ (0 ≤ r48.toInt ∧ r48.toInt < v47.toInt) := by have q := hp12; rw [mv47] at q; exact q
        refine lv_iconst (v := (-1)) hx hb dX11_station_137 (by decide) ?_
        refine lv_icmp_ne (tgt := 145) hx hb dX11_station_138 (by decide) (fun c50 => ?_) (fun c50 => ?_)
        · skip
          have c50 : ¬ r48.toInt = (-1 : Int) := h_neI c50
          refine lv_aload_n hx hb dX11_station_145 rfl (lv_at hl 2 rfl) ?_
          refine lv_iload_n hx hb dX11_station_146 rfl (lv_at hl 3 rfl) ?_
          refine lv_aload_n hx hb dX11_station_147 rfl (lv_at hl 2 rfl) ?_
          refine lv_iload_n hx hb dX11_station_148 rfl (lv_at hl 3 rfl) ?_
          refine h_callVi (T := TX11) (rest := [.int u1, .ref (o), .ref (o)]) (As := [.int u1]) hx hb hml hown hts hK hT0 hZ (fun _ h => h) hS12 (c_X11_firstOf l G Y P (o) hM u1 (show 0 ≤ u1.toInt ∧ u1.toInt ≤ 7 from by omega)) trivial wd_X11_firstOf wV_X11_firstOf wL_X11_66 (hM.o rfl) rfl rfl hl.1 rfl (Nat.le_of_ble_eq_true rfl) dX11_station_149 ⟨Nat.le_of_ble_eq_true rfl, Nat.le_of_ble_eq_true rfl⟩ ⟨Nat.zero_le _, Nat.zero_le _⟩ (fun r51 H13 locs hp13 hT13 hS13 hk13 => ?_)
          obtain ⟨hp13, he⟩ := hp13
          have he := he.symm
          subst he
          have f52 : (r51.toInt = -1 ∧ v47.toInt ≤ 0) ∨ (0 ≤ r51.toInt ∧ r51.toInt < v47.toInt) := by have q := hp13; rw [mv47] at q; exact q
          refine h_callSi (rest := [.ref (o), .ref (o)]) (As := [.int u1, .int r51]) hx hb hml hown hts hK hT0 hZ (fun _ h => h) hS13 (c_X11_waitAt l G Y u1 r51 (show 0 ≤ u1.toInt ∧ u1.toInt ≤ 7 from by omega) (show 0 ≤ r51.toInt ∧ r51.toInt ≤ 6 from by omega)) trivial wd_X11_waitAt wS_X11_waitAt wL_X11_62 rfl hl.1 rfl (Nat.le_of_ble_eq_true rfl) dX11_station_152 ⟨Nat.le_of_ble_eq_true rfl, Nat.le_of_ble_eq_true rfl⟩ ⟨Nat.zero_le _, Nat.zero_le _⟩ (fun r53 H14 locs hp14 hT14 hS14 hk14 => ?_)
          obtain ⟨hp14, he⟩ := hp14
          have he := he.symm
          subst he
          have f54 : r53.toInt = 96 + 24 * u1.toInt + 4 * r51.toInt := by have q := hp14; exact q
          refine h_callVi (T := TX11) (rest := [.ref (o)]) (As := [.int r53]) hx hb hml hown hts hK hT0 hZ (fun _ h => h) hS14 (c_of l G Y P (o) hM r53 (96 + 4 * r51.toInt + 24 * u1.toInt).toNat (show r53.toInt.toNat = (96 + 4 * r51.toInt + 24 * u1.toInt).toNat from by omega) (h_vin (by omega) (by omega))) trivial wd_X11_of wV_X11_of wL_X11_47 (hM.o rfl) rfl rfl hl.1 rfl (Nat.le_of_ble_eq_true rfl) dX11_station_155 ⟨Nat.le_of_ble_eq_true rfl, Nat.le_of_ble_eq_true rfl⟩ ⟨Nat.zero_le _, Nat.zero_le _⟩ (fun r55 H15 locs hp15 hT15 hS15 hk15 => ?_)
          obtain ⟨hp15, he⟩ := hp15
          have he := he.symm
          subst he
          have mr55 : h_ai H0 (o + 1) (96 + 4 * r51.toInt + 24 * u1.toInt).toNat = r55 := hp15.1.symm
          refine h_callVi (T := TX11) (rest := []) (As := [.int r55]) hx hb hml hown hts hK hT0 hZ (fun _ h => h) hS15 (c_X11_gives l G Y P (o) hM r55) trivial wd_X11_gives wV_X11_gives wL_X11_276 (hM.o rfl) rfl rfl hl.1 rfl (Nat.le_of_ble_eq_true rfl) dX11_station_158 ⟨Nat.le_of_ble_eq_true rfl, Nat.le_of_ble_eq_true rfl⟩ ⟨Nat.zero_le _, Nat.zero_le _⟩ (fun r56 H16 locs hp16 hT16 hS16 hk16 => ?_)
          obtain ⟨hp16, hB16⟩ := hp16
          have z57 : ∀ j : Nat, 1200 ≤ j → h_ai H16 (o + 1) j = h_ai H0 (o + 1) j := fun j hj => (h_ai_same hB16)
          have m58 : h_ai H16 (o + 1) 0 = v4 := (h_ai_same hB16).trans mv4
          have m59 : h_ai H16 (o + 1) (88 + u1.toInt).toNat = r9 := (h_ai_same hB16).trans mr9
          have m60 : h_ai H16 (o + 1) (80 + u1.toInt).toNat = v47 := (h_ai_same hB16).trans mv47
          have m61 : h_ai H16 (o + 1) (96 + 4 * r51.toInt + 24 * u1.toInt).toNat = r55 := (h_ai_same hB16).trans mr55
          have R62 : mR o H16 := hpr.same hB16
          have f63 : r56.toInt = r55.toInt := hp16.1
          exact hret _ _ _ _ _ hT16 hS16 ⟨trivial, ⟨R62, z57⟩⟩ dX11_station_161
        · skip
          have c50 : r48.toInt = (-1 : Int) := congrArg Int32.toInt c50
          refine lv_iconst (v := (-1)) hx hb dX11_station_141 (by decide) ?_
          refine lv_goto (tgt := 158) hx hb dX11_station_142 (by decide) ?_
          refine h_callVi (T := TX11) (rest := []) (As := [.int (-1)]) hx hb hml hown hts hK hT0 hZ (fun _ h => h) hS12 (c_X11_gives l G Y P (o) hM (-1)) trivial wd_X11_gives wV_X11_gives wL_X11_276 (hM.o rfl) rfl rfl hl.1 rfl (Nat.le_of_ble_eq_true rfl) dX11_station_158 ⟨Nat.le_of_ble_eq_true rfl, Nat.le_of_ble_eq_true rfl⟩ ⟨Nat.zero_le _, Nat.zero_le _⟩ (fun r64 H17 locs hp17 hT17 hS17 hk17 => ?_)
          obtain ⟨hp17, hB17⟩ := hp17
          have z65 : ∀ j : Nat, 1200 ≤ j → h_ai H17 (o + 1) j = h_ai H0 (o + 1) j := fun j hj => (h_ai_same hB17)
          have m66 : h_ai H17 (o + 1) 0 = v4 := (h_ai_same hB17).trans mv4
          have m67 : h_ai H17 (o + 1) (88 + u1.toInt).toNat = r9 := (h_ai_same hB17).trans mr9
          have m68 : h_ai H17 (o + 1) (80 + u1.toInt).toNat = v47 := (h_ai_same hB17).trans mv47
          have R69 : mR o H17 := hpr.same hB17
          have f70 : r64.toInt = (-1 : Int) := hp17.1
          exact hret _ _ _ _ _ hT17 hS17 ⟨trivial, ⟨R69, z65⟩⟩ dX11_station_161
      · subst c10
        refine lv_tableIn (tgt := 162) hx hb dX11_station_41 (by decide) (by decide) rfl (by decide) ?_
        refine lv_aload_n hx hb dX11_station_162 rfl (lv_at hl 2 rfl) ?_
        refine lv_iload hx hb dX11_station_163 (lv_at hl 0 rfl) ?_
        refine h_callVi (T := TX11) (rest := []) (As := [.int r9]) hx hb hml hown hts hK hT0 hZ (fun _ h => h) hS3 (c_X11_gives l G Y P (o) hM r9) trivial wd_X11_gives wV_X11_gives wL_X11_276 (hM.o rfl) rfl rfl hl.1 rfl (Nat.le_of_ble_eq_true rfl) dX11_station_165 ⟨Nat.le_of_ble_eq_true rfl, Nat.le_of_ble_eq_true rfl⟩ ⟨Nat.zero_le _, Nat.zero_le _⟩ (fun r71 H18 locs hp18 hT18 hS18 hk18 => ?_)
        obtain ⟨hp18, hB18⟩ := hp18
        have z72 : ∀ j : Nat, 1200 ≤ j → h_ai H18 (o + 1) j = h_ai H0 (o + 1) j := fun j hj => (h_ai_same hB18)
        have m73 : h_ai H18 (o + 1) 0 = v4 := (h_ai_same hB18).trans mv4
        have m74 : h_ai H18 (o + 1) (88 + u1.toInt).toNat = r9 := (h_ai_same hB18).trans mr9
        have R75 : mR o H18 := hpr.same hB18
        have f76 : r71.toInt = r9.toInt := hp18.1
        exact hret _ _ _ _ _ hT18 hS18 ⟨trivial, ⟨R75, z72⟩⟩ dX11_station_168
      · subst c10
        refine lv_tableIn (tgt := 169) hx hb dX11_station_41 (by decide) (by decide) rfl (by decide) ?_
        refine lv_aload_n hx hb dX11_station_169 rfl (lv_at hl 2 rfl) ?_
        refine lv_iload hx hb dX11_station_170 (lv_at hl 0 rfl) ?_
        refine lv_if_ne (tgt := 179) hx hb dX11_station_172 (by decide) (fun c77 => ?_) (fun c77 => ?_)
        · skip
          have c77 : ¬ r9.toInt = (0 : Int) := h_neI c77
          refine lv_aload_n hx hb dX11_station_179 rfl (lv_at hl 2 rfl) ?_
          refine lv_iload_n hx hb dX11_station_180 rfl (lv_at hl 3 rfl) ?_
          refine lv_iload hx hb dX11_station_181 (lv_at hl 0 rfl) ?_
          refine lv_iconst (v := 1) hx hb dX11_station_183 (by decide) ?_
          refine lv_isub hx hb dX11_station_184 ?_
          obtain ⟨x78, qx78, ix78⟩ := h_subX r9 1 r9.toInt (1 : Int) rfl rfl (by omega) (by omega)
          refine h_top (v := x78) qx78 ?_
          refine h_callSi (rest := [.ref (o), .ref (o)]) (As := [.int u1, .int x78]) hx hb hml hown hts hK hT0 hZ (fun _ h => h) hS3 (c_X11_raiseAt l G Y u1 x78 (show 0 ≤ u1.toInt ∧ u1.toInt ≤ 7 from by omega) (show (-1) ≤ x78.toInt ∧ x78.toInt ≤ 8 from by omega)) trivial wd_X11_raiseAt wS_X11_raiseAt wL_X11_91 rfl hl.1 rfl (Nat.le_of_ble_eq_true rfl) dX11_station_185 ⟨Nat.le_of_ble_eq_true rfl, Nat.le_of_ble_eq_true rfl⟩ ⟨Nat.zero_le _, Nat.zero_le _⟩ (fun r79 H19 locs hp19 hT19 hS19 hk19 => ?_)
          obtain ⟨hp19, he⟩ := hp19
          have he := he.symm
          subst he
          have f80 : r79.toInt = 288 + 16 * u1.toInt + 2 * x78.toInt := by have q := hp19; exact q
          refine h_callVi (T := TX11) (rest := [.ref (o)]) (As := [.int r79]) hx hb hml hown hts hK hT0 hZ (fun _ h => h) hS19 (c_of l G Y P (o) hM r79 (286 + 2 * r9.toInt + 16 * u1.toInt).toNat (show r79.toInt.toNat = (286 + 2 * r9.toInt + 16 * u1.toInt).toNat from by omega) (h_vin (by omega) (by omega))) trivial wd_X11_of wV_X11_of wL_X11_47 (hM.o rfl) rfl rfl hl.1 rfl (Nat.le_of_ble_eq_true rfl) dX11_station_188 ⟨Nat.le_of_ble_eq_true rfl, Nat.le_of_ble_eq_true rfl⟩ ⟨Nat.zero_le _, Nat.zero_le _⟩ (fun r81 H20 locs hp20 hT20 hS20 hk20 => ?_)
          obtain ⟨hp20, he⟩ := hp20
          have he := he.symm
          subst he
          have mr81 : h_ai H0 (o + 1) (286 + 2 * r9.toInt + 16 * u1.toInt).toNat = r81 := hp20.1.symm
          have br81 := mP_ra hp20.2 (by omega)
          refine h_callVi (T := TX11) (rest := []) (As := [.int r81]) hx hb hml hown hts hK hT0 hZ (fun _ h => h) hS20 (c_X11_gives l G Y P (o) hM r81) trivial wd_X11_gives wV_X11_gives wL_X11_276 (hM.o rfl) rfl rfl hl.1 rfl (Nat.le_of_ble_eq_true rfl) dX11_station_191 ⟨Nat.le_of_ble_eq_true rfl, Nat.le_of_ble_eq_true rfl⟩ ⟨Nat.zero_le _, Nat.zero_le _⟩ (fun r82 H21 locs hp21 hT21 hS21 hk21 => ?_)
          obtain ⟨hp21, hB21⟩ := hp21
          have z83 : ∀ j : Nat, 1200 ≤ j → h_ai H21 (o + 1) j = h_ai H0 (o + 1) j := fun j hj => (h_ai_same hB21)
          have m84 : h_ai H21 (o + 1) 0 = v4 := (h_ai_same hB21).trans mv4
          have m85 : h_ai H21 (o + 1) (88 + u1.toInt).toNat = r9 := (h_ai_same hB21).trans mr9
          have m86 : h_ai H21 (o + 1) (286 + 2 * r9.toInt + 16 * u1.toInt).toNat = r81 := (h_ai_same hB21).trans mr81
          have R87 : mR o H21 := hpr.same hB21
          have f88 : r82.toInt = r81.toInt := hp21.1
          exact hret _ _ _ _ _ hT21 hS21 ⟨trivial, ⟨R87, z83⟩⟩ dX11_station_194
        · skip
          have c77 : r9.toInt = (0 : Int) := congrArg Int32.toInt c77
          refine lv_iconst (v := (-1)) hx hb dX11_station_175 (by decide) ?_
          refine lv_goto (tgt := 191) hx hb dX11_station_176 (by decide) ?_
          refine h_callVi (T := TX11) (rest := []) (As := [.int (-1)]) hx hb hml hown hts hK hT0 hZ (fun _ h => h) hS3 (c_X11_gives l G Y P (o) hM (-1)) trivial wd_X11_gives wV_X11_gives wL_X11_276 (hM.o rfl) rfl rfl hl.1 rfl (Nat.le_of_ble_eq_true rfl) dX11_station_191 ⟨Nat.le_of_ble_eq_true rfl, Nat.le_of_ble_eq_true rfl⟩ ⟨Nat.zero_le _, Nat.zero_le _⟩ (fun r89 H22 locs hp22 hT22 hS22 hk22 => ?_)
          obtain ⟨hp22, hB22⟩ := hp22
          have z90 : ∀ j : Nat, 1200 ≤ j → h_ai H22 (o + 1) j = h_ai H0 (o + 1) j := fun j hj => (h_ai_same hB22)
          have m91 : h_ai H22 (o + 1) 0 = v4 := (h_ai_same hB22).trans mv4
          have m92 : h_ai H22 (o + 1) (88 + u1.toInt).toNat = r9 := (h_ai_same hB22).trans mr9
          have R93 : mR o H22 := hpr.same hB22
          have f94 : r89.toInt = (-1 : Int) := hp22.1
          exact hret _ _ _ _ _ hT22 hS22 ⟨trivial, ⟨R93, z90⟩⟩ dX11_station_194
      · subst c10
        refine lv_tableIn (tgt := 195) hx hb dX11_station_41 (by decide) (by decide) rfl (by decide) ?_
        refine lv_aload_n hx hb dX11_station_195 rfl (lv_at hl 2 rfl) ?_
        refine lv_iload hx hb dX11_station_196 (lv_at hl 0 rfl) ?_
        refine lv_if_ne (tgt := 205) hx hb dX11_station_198 (by decide) (fun c95 => ?_) (fun c95 => ?_)
        · skip
          have c95 : ¬ r9.toInt = (0 : Int) := h_neI c95
          refine lv_aload_n hx hb dX11_station_205 rfl (lv_at hl 2 rfl) ?_
          refine lv_iload_n hx hb dX11_station_206 rfl (lv_at hl 3 rfl) ?_
          refine lv_iload hx hb dX11_station_207 (lv_at hl 0 rfl) ?_
          refine lv_iconst (v := 1) hx hb dX11_station_209 (by decide) ?_
          refine lv_isub hx hb dX11_station_210 ?_
          obtain ⟨x96, qx96, ix96⟩ := h_subX r9 1 r9.toInt (1 : Int) rfl rfl (by omega) (by omega)
          refine h_top (v := x96) qx96 ?_
          refine h_callSi (rest := [.ref (o), .ref (o)]) (As := [.int u1, .int x96]) hx hb hml hown hts hK hT0 hZ (fun _ h => h) hS3 (c_X11_raiseAt l G Y u1 x96 (show 0 ≤ u1.toInt ∧ u1.toInt ≤ 7 from by omega) (show (-1) ≤ x96.toInt ∧ x96.toInt ≤ 8 from by omega)) trivial wd_X11_raiseAt wS_X11_raiseAt wL_X11_91 rfl hl.1 rfl (Nat.le_of_ble_eq_true rfl) dX11_station_211 ⟨Nat.le_of_ble_eq_true rfl, Nat.le_of_ble_eq_true rfl⟩ ⟨Nat.zero_le _, Nat.zero_le _⟩ (fun r97 H23 locs hp23 hT23 hS23 hk23 => ?_)
          obtain ⟨hp23, he⟩ := hp23
          have he := he.symm
          subst he
          have f98 : r97.toInt = 288 + 16 * u1.toInt + 2 * x96.toInt := by have q := hp23; exact q
          refine lv_iconst (v := 1) hx hb dX11_station_214 (by decide) ?_
          refine lv_iadd hx hb dX11_station_215 ?_
          obtain ⟨x99, qx99, ix99⟩ := h_addX r97 1 r97.toInt (1 : Int) rfl rfl (by omega) (by omega)
          refine h_top (v := x99) qx99 ?_
          refine h_callVi (T := TX11) (rest := [.ref (o)]) (As := [.int x99]) hx hb hml hown hts hK hT0 hZ (fun _ h => h) hS23 (c_of l G Y P (o) hM x99 (287 + 2 * r9.toInt + 16 * u1.toInt).toNat (show x99.toInt.toNat = (287 + 2 * r9.toInt + 16 * u1.toInt).toNat from by omega) (h_vin (by omega) (by omega))) trivial wd_X11_of wV_X11_of wL_X11_47 (hM.o rfl) rfl rfl hl.1 rfl (Nat.le_of_ble_eq_true rfl) dX11_station_216 ⟨Nat.le_of_ble_eq_true rfl, Nat.le_of_ble_eq_true rfl⟩ ⟨Nat.zero_le _, Nat.zero_le _⟩ (fun r100 H24 locs hp24 hT24 hS24 hk24 => ?_)
          obtain ⟨hp24, he⟩ := hp24
          have he := he.symm
          subst he
          have mr100 : h_ai H0 (o + 1) (287 + 2 * r9.toInt + 16 * u1.toInt).toNat = r100 := hp24.1.symm
          have br100 := mP_ra hp24.2 (by omega)
          refine h_callVi (T := TX11) (rest := []) (As := [.int r100]) hx hb hml hown hts hK hT0 hZ (fun _ h => h) hS24 (c_X11_gives l G Y P (o) hM r100) trivial wd_X11_gives wV_X11_gives wL_X11_276 (hM.o rfl) rfl rfl hl.1 rfl (Nat.le_of_ble_eq_true rfl) dX11_station_219 ⟨Nat.le_of_ble_eq_true rfl, Nat.le_of_ble_eq_true rfl⟩ ⟨Nat.zero_le _, Nat.zero_le _⟩ (fun r101 H25 locs hp25 hT25 hS25 hk25 => ?_)
          obtain ⟨hp25, hB25⟩ := hp25
          have z102 : ∀ j : Nat, 1200 ≤ j → h_ai H25 (o + 1) j = h_ai H0 (o + 1) j := fun j hj => (h_ai_same hB25)
          have m103 : h_ai H25 (o + 1) 0 = v4 := (h_ai_same hB25).trans mv4
          have m104 : h_ai H25 (o + 1) (88 + u1.toInt).toNat = r9 := (h_ai_same hB25).trans mr9
          have m105 : h_ai H25 (o + 1) (287 + 2 * r9.toInt + 16 * u1.toInt).toNat = r100 := (h_ai_same hB25).trans mr100
          have R106 : mR o H25 := hpr.same hB25
          have f107 : r101.toInt = r100.toInt := hp25.1
          exact hret _ _ _ _ _ hT25 hS25 ⟨trivial, ⟨R106, z102⟩⟩ dX11_station_222
        · skip
          have c95 : r9.toInt = (0 : Int) := congrArg Int32.toInt c95
          refine lv_iconst (v := (-1)) hx hb dX11_station_201 (by decide) ?_
          refine lv_goto (tgt := 219) hx hb dX11_station_202 (by decide) ?_
          refine h_callVi (T := TX11) (rest := []) (As := [.int (-1)]) hx hb hml hown hts hK hT0 hZ (fun _ h => h) hS3 (c_X11_gives l G Y P (o) hM (-1)) trivial wd_X11_gives wV_X11_gives wL_X11_276 (hM.o rfl) rfl rfl hl.1 rfl (Nat.le_of_ble_eq_true rfl) dX11_station_219 ⟨Nat.le_of_ble_eq_true rfl, Nat.le_of_ble_eq_true rfl⟩ ⟨Nat.zero_le _, Nat.zero_le _⟩ (fun r108 H26 locs hp26 hT26 hS26 hk26 => ?_)
          obtain ⟨hp26, hB26⟩ := hp26
          have z109 : ∀ j : Nat, 1200 ≤ j → h_ai H26 (o + 1) j = h_ai H0 (o + 1) j := fun j hj => (h_ai_same hB26)
          have m110 : h_ai H26 (o + 1) 0 = v4 := (h_ai_same hB26).trans mv4
          have m111 : h_ai H26 (o + 1) (88 + u1.toInt).toNat = r9 := (h_ai_same hB26).trans mr9
          have R112 : mR o H26 := hpr.same hB26
          have f113 : r108.toInt = (-1 : Int) := hp26.1
          exact hret _ _ _ _ _ hT26 hS26 ⟨trivial, ⟨R112, z109⟩⟩ dX11_station_222
      · subst c10
        refine lv_tableIn (tgt := 223) hx hb dX11_station_41 (by decide) (by decide) rfl (by decide) ?_
        refine lv_aload_n hx hb dX11_station_223 rfl (lv_at hl 2 rfl) ?_
        refine lv_aload_n hx hb dX11_station_224 rfl (lv_at hl 2 rfl) ?_
        refine lv_bipush (v := 56) hx hb dX11_station_225 (by decide) ?_
        refine lv_iload_n hx hb dX11_station_227 rfl (lv_at hl 3 rfl) ?_
        refine lv_iadd hx hb dX11_station_228 ?_
        obtain ⟨x114, qx114, ix114⟩ := h_addX 56 u1 (56 : Int) u1.toInt rfl rfl (by omega) (by omega)
        refine h_top (v := x114) qx114 ?_
        refine h_callVi (T := TX11) (rest := [.ref (o)]) (As := [.int x114]) hx hb hml hown hts hK hT0 hZ (fun _ h => h) hS3 (c_of l G Y P (o) hM x114 (56 + u1.toInt).toNat (show x114.toInt.toNat = (56 + u1.toInt).toNat from by omega) (h_vin (by omega) (by omega))) trivial wd_X11_of wV_X11_of wL_X11_47 (hM.o rfl) rfl rfl hl.1 rfl (Nat.le_of_ble_eq_true rfl) dX11_station_229 ⟨Nat.le_of_ble_eq_true rfl, Nat.le_of_ble_eq_true rfl⟩ ⟨Nat.zero_le _, Nat.zero_le _⟩ (fun r115 H27 locs hp27 hT27 hS27 hk27 => ?_)
        obtain ⟨hp27, he⟩ := hp27
        have he := he.symm
        subst he
        have mr115 : h_ai H0 (o + 1) (56 + u1.toInt).toNat = r115 := hp27.1.symm
        refine h_callVi (T := TX11) (rest := []) (As := [.int r115]) hx hb hml hown hts hK hT0 hZ (fun _ h => h) hS27 (c_X11_gives l G Y P (o) hM r115) trivial wd_X11_gives wV_X11_gives wL_X11_276 (hM.o rfl) rfl rfl hl.1 rfl (Nat.le_of_ble_eq_true rfl) dX11_station_232 ⟨Nat.le_of_ble_eq_true rfl, Nat.le_of_ble_eq_true rfl⟩ ⟨Nat.zero_le _, Nat.zero_le _⟩ (fun r116 H28 locs hp28 hT28 hS28 hk28 => ?_)
        obtain ⟨hp28, hB28⟩ := hp28
        have z117 : ∀ j : Nat, 1200 ≤ j → h_ai H28 (o + 1) j = h_ai H0 (o + 1) j := fun j hj => (h_ai_same hB28)
        have m118 : h_ai H28 (o + 1) 0 = v4 := (h_ai_same hB28).trans mv4
        have m119 : h_ai H28 (o + 1) (88 + u1.toInt).toNat = r9 := (h_ai_same hB28).trans mr9
        have m120 : h_ai H28 (o + 1) (56 + u1.toInt).toNat = r115 := (h_ai_same hB28).trans mr115
        have R121 : mR o H28 := hpr.same hB28
        have f122 : r116.toInt = r115.toInt := hp28.1
        exact hret _ _ _ _ _ hT28 hS28 ⟨trivial, ⟨R121, z117⟩⟩ dX11_station_235
      · subst c10
        refine lv_tableIn (tgt := 236) hx hb dX11_station_41 (by decide) (by decide) rfl (by decide) ?_
        refine lv_aload_n hx hb dX11_station_236 rfl (lv_at hl 2 rfl) ?_
        refine lv_aload_n hx hb dX11_station_237 rfl (lv_at hl 2 rfl) ?_
        refine lv_bipush (v := 64) hx hb dX11_station_238 (by decide) ?_
        refine lv_iload_n hx hb dX11_station_240 rfl (lv_at hl 3 rfl) ?_
        refine lv_iadd hx hb dX11_station_241 ?_
        obtain ⟨x123, qx123, ix123⟩ := h_addX 64 u1 (64 : Int) u1.toInt rfl rfl (by omega) (by omega)
        refine h_top (v := x123) qx123 ?_
        refine h_callVi (T := TX11) (rest := [.ref (o)]) (As := [.int x123]) hx hb hml hown hts hK hT0 hZ (fun _ h => h) hS3 (c_of l G Y P (o) hM x123 (64 + u1.toInt).toNat (show x123.toInt.toNat = (64 + u1.toInt).toNat from by omega) (h_vin (by omega) (by omega))) trivial wd_X11_of wV_X11_of wL_X11_47 (hM.o rfl) rfl rfl hl.1 rfl (Nat.le_of_ble_eq_true rfl) dX11_station_242 ⟨Nat.le_of_ble_eq_true rfl, Nat.le_of_ble_eq_true rfl⟩ ⟨Nat.zero_le _, Nat.zero_le _⟩ (fun r124 H29 locs hp29 hT29 hS29 hk29 => ?_)
        obtain ⟨hp29, he⟩ := hp29
        have he := he.symm
        subst he
        have mr124 : h_ai H0 (o + 1) (64 + u1.toInt).toNat = r124 := hp29.1.symm
        refine h_callVi (T := TX11) (rest := []) (As := [.int r124]) hx hb hml hown hts hK hT0 hZ (fun _ h => h) hS29 (c_X11_gives l G Y P (o) hM r124) trivial wd_X11_gives wV_X11_gives wL_X11_276 (hM.o rfl) rfl rfl hl.1 rfl (Nat.le_of_ble_eq_true rfl) dX11_station_245 ⟨Nat.le_of_ble_eq_true rfl, Nat.le_of_ble_eq_true rfl⟩ ⟨Nat.zero_le _, Nat.zero_le _⟩ (fun r125 H30 locs hp30 hT30 hS30 hk30 => ?_)
        obtain ⟨hp30, hB30⟩ := hp30
        have z126 : ∀ j : Nat, 1200 ≤ j → h_ai H30 (o + 1) j = h_ai H0 (o + 1) j := fun j hj => (h_ai_same hB30)
        have m127 : h_ai H30 (o + 1) 0 = v4 := (h_ai_same hB30).trans mv4
        have m128 : h_ai H30 (o + 1) (88 + u1.toInt).toNat = r9 := (h_ai_same hB30).trans mr9
        have m129 : h_ai H30 (o + 1) (64 + u1.toInt).toNat = r124 := (h_ai_same hB30).trans mr124
        have R130 : mR o H30 := hpr.same hB30
        have f131 : r125.toInt = r124.toInt := hp30.1
        exact hret _ _ _ _ _ hT30 hS30 ⟨trivial, ⟨R130, z126⟩⟩ dX11_station_248
    · skip
      have c7 : ¬ r5.toInt ≤ (0 : Int) := h_nleI c7
      refine lv_aload_n hx hb dX11_station_24 rfl (lv_at hl 1 rfl) ?_
      refine lv_iload_n hx hb dX11_station_25 rfl (lv_at hl 0 rfl) ?_
      refine h_callVi (T := TX11) (rest := []) (As := [.int r5]) hx hb hml hown hts hK hT0 hZ (fun _ h => h) hS2 (c_X11_refuse l G Y P (o) hM r5) trivial wd_X11_refuse wV_X11_refuse wL_X11_267 (hM.o rfl) rfl rfl hl.1 rfl (Nat.le_of_ble_eq_true rfl) dX11_station_26 ⟨Nat.le_of_ble_eq_true rfl, Nat.le_of_ble_eq_true rfl⟩ ⟨Nat.zero_le _, Nat.zero_le _⟩ (fun r132 H31 locs hp31 hT31 hS31 hk31 => ?_)
      obtain ⟨hp31, hB31⟩ := hp31
      have z133 : ∀ j : Nat, 1200 ≤ j → h_ai H31 (o + 1) j = h_ai H0 (o + 1) j := fun j hj => (h_ai_same hB31)
      have m134 : h_ai H31 (o + 1) 0 = v4 := (h_ai_same hB31).trans mv4
      have R135 : mR o H31 := hpr.same hB31
      have f136 : r132.toInt = (-1) := hp31.1
      exact hret _ _ _ _ _ hT31 hS31 ⟨trivial, ⟨R135, z133⟩⟩ dX11_station_29
  · skip
    have c3 : r1.toInt = (0 : Int) := congrArg Int32.toInt c3
    refine lv_iconst (v := 1) hx hb dX11_station_10 (by decide) ?_
    refine lv_goto (tgt := 19) hx hb dX11_station_11 (by decide) ?_
    refine lv_istore_n (lv' := [(3, .int 1), (0, .ref (o)), (1, .int u1), (2, .int u2)]) hx hb dX11_station_19 rfl hl (by decide) rfl (fun ls hl => ?_)
    refine lv_iload_n hx hb dX11_station_20 rfl (lv_at hl 0 rfl) ?_
    refine lv_if_le (tgt := 30) hx hb dX11_station_21 (by decide) (fun h => absurd h (by decide)) (fun _ => ?_)
    refine lv_aload_n hx hb dX11_station_24 rfl (lv_at hl 1 rfl) ?_
    refine lv_iload_n hx hb dX11_station_25 rfl (lv_at hl 0 rfl) ?_
    refine h_callVi (T := TX11) (rest := []) (As := [.int 1]) hx hb hml hown hts hK hT0 hZ (fun _ h => h) hS1 (c_X11_refuse l G Y P (o) hM 1) trivial wd_X11_refuse wV_X11_refuse wL_X11_267 (hM.o rfl) rfl rfl hl.1 rfl (Nat.le_of_ble_eq_true rfl) dX11_station_26 ⟨Nat.le_of_ble_eq_true rfl, Nat.le_of_ble_eq_true rfl⟩ ⟨Nat.zero_le _, Nat.zero_le _⟩ (fun r138 H32 locs hp32 hT32 hS32 hk32 => ?_)
    obtain ⟨hp32, hB32⟩ := hp32
    have z139 : ∀ j : Nat, 1200 ≤ j → h_ai H32 (o + 1) j = h_ai H0 (o + 1) j := fun j hj => (h_ai_same hB32)
    have R140 : mR o H32 := hpr.same hB32
    have f141 : r138.toInt = (-1) := hp32.1
    exact hret _ _ _ _ _ hT32 hS32 ⟨trivial, ⟨R140, z139⟩⟩ dX11_station_29
set_option maxHeartbeats 4000000 in
set_option maxRecDepth 100000 in
theorem c_X11_waits (l : Launch) (G : hG) (Y : hW) (P : Int32 → Prop) (o : Nat) (hM : h_On Y o (modE (tM P) o)) (u1 u2 u3 : Int32) : hMi l yX11_waits cX11_waits 5 (some .int) 3 63 G Y [.ref (o), .int u1, .int u2, .int u3] (fun H => mR o H) (fun H r H1 => (True) ∧ (mR o H1 ∧ mV o H H1)) := by
  refine h_ofi (by decide +kernel) (Nat.le_of_ble_eq_true rfl) ?_
  intro p e s m args below meth c H0 ls Q hx hb hts hown hml hK hZ hT0 hpr hS0 hl hret
  have hl : lv_has ls 5 [(0, .ref (o)), (1, .int u1), (2, .int u2), (3, .int u3)] := hl
  refine lv_iload_n hx hb dX11_waits_0 rfl (lv_at hl 2 rfl) ?_
  refine lv_if_lt (tgt := 13) hx hb dX11_waits_1 (by decide) (fun c1 => ?_) (fun c1 => ?_)
  · skip
    have c1 : u2.toInt < (0 : Int) := Int32.lt_iff_toInt_lt.mp c1
    refine lv_iconst (v := 1) hx hb dX11_waits_13 (by decide) ?_
    refine lv_goto (tgt := 22) hx hb dX11_waits_14 (by decide) ?_
    refine lv_istore (lv' := [(4, .int 1), (0, .ref (o)), (1, .int u1), (2, .int u2), (3, .int u3)]) hx hb dX11_waits_22 hl (by decide) rfl (fun ls hl => ?_)
    refine lv_iload hx hb dX11_waits_24 (lv_at hl 0 rfl) ?_
    refine lv_if_ne (tgt := 44) hx hb dX11_waits_26 (by decide) (fun _ => ?_) (fun h => absurd h (by decide))
    refine lv_iload hx hb dX11_waits_44 (lv_at hl 0 rfl) ?_
    refine lv_if_le (tgt := 58) hx hb dX11_waits_46 (by decide) (fun h => absurd h (by decide)) (fun _ => ?_)
    refine lv_aload_n hx hb dX11_waits_49 rfl (lv_at hl 1 rfl) ?_
    refine lv_iload hx hb dX11_waits_50 (lv_at hl 0 rfl) ?_
    refine h_callVi (T := TX11) (rest := []) (As := [.int 1]) hx hb hml hown hts hK hT0 hZ (fun _ h => h) hS0 (c_X11_refuse l G Y P (o) hM 1) trivial wd_X11_refuse wV_X11_refuse wL_X11_267 (hM.o rfl) rfl rfl hl.1 rfl (Nat.le_of_ble_eq_true rfl) dX11_waits_52 ⟨Nat.le_of_ble_eq_true rfl, Nat.le_of_ble_eq_true rfl⟩ ⟨Nat.zero_le _, Nat.zero_le _⟩ (fun r4 H1 locs hp1 hT1 hS1 hk1 => ?_)
    obtain ⟨hp1, hB1⟩ := hp1
    have z5 : ∀ j : Nat, 1200 ≤ j → h_ai H1 (o + 1) j = h_ai H0 (o + 1) j := fun j hj => (h_ai_same hB1)
    have R6 : mR o H1 := hpr.same hB1
    have f7 : r4.toInt = (-1) := hp1.1
    refine lv_goto (tgt := 73) hx hb dX11_waits_55 (by decide) ?_
    exact hret _ _ _ _ _ hT1 hS1 ⟨trivial, ⟨R6, z5⟩⟩ dX11_waits_73
  · skip
    have c1 : ¬ u2.toInt < (0 : Int) := h_nltI c1
    refine lv_iload_n hx hb dX11_waits_4 rfl (lv_at hl 3 rfl) ?_
    refine lv_iconst (v := 0) hx hb dX11_waits_5 (by decide) ?_
    refine lv_iconst (v := 2) hx hb dX11_waits_6 (by decide) ?_
    refine h_callSi (rest := []) (As := [.int u3, .int 0, .int 2]) hx hb hml hown hts hK hT0 hZ (fun _ h => h) hS0 (c_X11_isFrom l G Y u3 0 2) trivial wd_X11_isFrom wS_X11_isFrom wL_X11_228 rfl hl.1 rfl (Nat.le_of_ble_eq_true rfl) dX11_waits_7 ⟨Nat.le_of_ble_eq_true rfl, Nat.le_of_ble_eq_true rfl⟩ ⟨Nat.zero_le _, Nat.zero_le _⟩ (fun r8 H2 locs hp2 hT2 hS2 hk2 => ?_)
    obtain ⟨hp2, he⟩ := hp2
    have he := he.symm
    subst he
    have f9 : (r8.toInt = 1 ∧ (0 : Int) ≤ u3.toInt ∧ u3.toInt ≤ (2 : Int)) ∨ (r8.toInt = 0 ∧ ¬ ((0 : Int) ≤ u3.toInt ∧ u3.toInt ≤ (2 : Int))) := by have q := hp2.2; exact q
    refine lv_if_ne (tgt := 17) hx hb dX11_waits_10 (by decide) (fun c10 => ?_) (fun c10 => ?_)
    · skip
      have c10 : ¬ r8.toInt = (0 : Int) := h_neI c10
      refine lv_aload_n hx hb dX11_waits_17 rfl (lv_at hl 0 rfl) ?_
      refine lv_iload_n hx hb dX11_waits_18 rfl (lv_at hl 1 rfl) ?_
      obtain ⟨v11, mv11⟩ : ∃ x, h_ai H0 (o + 1) 0 = x := ⟨_, rfl⟩
      have bv11 := mP_N (mP_cell hM hT0 (j := 0) (by omega)) (by omega)
      rw [mv11] at bv11
      refine h_callVi (T := TX11) (rest := []) (As := [.int u1]) hx hb hml hown hts hK hT0 hZ (fun _ h => h) hS2 (c_X11_wrongStation l G Y P (o) hM u1) trivial wd_X11_wrongStation wV_X11_wrongStation wL_X11_288 (hM.o rfl) rfl rfl hl.1 rfl (Nat.le_of_ble_eq_true rfl) dX11_waits_19 ⟨Nat.le_of_ble_eq_true rfl, Nat.le_of_ble_eq_true rfl⟩ ⟨Nat.zero_le _, Nat.zero_le _⟩ (fun r12 H3 locs hp3 hT3 hS3 hk3 => ?_)
      obtain ⟨hp3, he⟩ := hp3
      have he := he.symm
      subst he
      have f13 : (r12.toInt = 0 ∧ 0 ≤ u1.toInt ∧ u1.toInt < v11.toInt) ∨ r12.toInt = 2 := by have q := hp3; rw [mv11] at q; exact q
      refine lv_istore (lv' := [(4, .int r12), (0, .ref (o)), (1, .int u1), (2, .int u2), (3, .int u3)]) hx hb dX11_waits_22 hl (by decide) rfl (fun ls hl => ?_)
      refine lv_iload hx hb dX11_waits_24 (lv_at hl 0 rfl) ?_
      refine lv_if_ne (tgt := 44) hx hb dX11_waits_26 (by decide) (fun c14 => ?_) (fun c14 => ?_)
      · skip
        have c14 : ¬ r12.toInt = (0 : Int) := h_neI c14
        refine lv_iload hx hb dX11_waits_44 (lv_at hl 0 rfl) ?_
        refine lv_if_le (tgt := 58) hx hb dX11_waits_46 (by decide) (fun h => absurd h (fun q => absurd (Int32.le_iff_toInt_le.mp q) (show ¬ r12.toInt ≤ (0 : Int) from by omega))) (fun _ => ?_)
        refine lv_aload_n hx hb dX11_waits_49 rfl (lv_at hl 1 rfl) ?_
        refine lv_iload hx hb dX11_waits_50 (lv_at hl 0 rfl) ?_
        refine h_callVi (T := TX11) (rest := []) (As := [.int r12]) hx hb hml hown hts hK hT0 hZ (fun _ h => h) hS3 (c_X11_refuse l G Y P (o) hM r12) trivial wd_X11_refuse wV_X11_refuse wL_X11_267 (hM.o rfl) rfl rfl hl.1 rfl (Nat.le_of_ble_eq_true rfl) dX11_waits_52 ⟨Nat.le_of_ble_eq_true rfl, Nat.le_of_ble_eq_true rfl⟩ ⟨Nat.zero_le _, Nat.zero_le _⟩ (fun r15 H4 locs hp4 hT4 hS4 hk4 => ?_)
        obtain ⟨hp4, hB4⟩ := hp4
        have z16 : ∀ j : Nat, 1200 ≤ j → h_ai H4 (o + 1) j = h_ai H0 (o + 1) j := fun j hj => (h_ai_same hB4)
        have m17 : h_ai H4 (o + 1) 0 = v11 := (h_ai_same hB4).trans mv11
        have R18 : mR o H4 := hpr.same hB4
        have f19 : r15.toInt = (-1) := hp4.1
        refine lv_goto (tgt := 73) hx hb dX11_waits_55 (by decide) ?_
        exact hret _ _ _ _ _ hT4 hS4 ⟨trivial, ⟨R18, z16⟩⟩ dX11_waits_73
      · skip
        have c14 : r12.toInt = (0 : Int) := congrArg Int32.toInt c14
        refine lv_iload_n hx hb dX11_waits_29 rfl (lv_at hl 3 rfl) ?_
        refine lv_aload_n hx hb dX11_waits_30 rfl (lv_at hl 1 rfl) ?_
        refine lv_bipush (v := 80) hx hb dX11_waits_31 (by decide) ?_
        refine lv_iload_n hx hb dX11_waits_33 rfl (lv_at hl 2 rfl) ?_
        refine lv_iadd hx hb dX11_waits_34 ?_
        obtain ⟨x20, qx20, ix20⟩ := h_addX 80 u1 (80 : Int) u1.toInt rfl rfl (by omega) (by omega)
        refine h_top (v := x20) qx20 ?_
        refine h_callVi (T := TX11) (rest := [.int u2]) (As := [.int x20]) hx hb hml hown hts hK hT0 hZ (fun _ h => h) hS3 (c_of l G Y P (o) hM x20 (80 + u1.toInt).toNat (show x20.toInt.toNat = (80 + u1.toInt).toNat from by omega) (h_vin (by omega) (by omega))) trivial wd_X11_of wV_X11_of wL_X11_47 (hM.o rfl) rfl rfl hl.1 rfl (Nat.le_of_ble_eq_true rfl) dX11_waits_35 ⟨Nat.le_of_ble_eq_true rfl, Nat.le_of_ble_eq_true rfl⟩ ⟨Nat.zero_le _, Nat.zero_le _⟩ (fun r21 H5 locs hp5 hT5 hS5 hk5 => ?_)
        obtain ⟨hp5, he⟩ := hp5
        have he := he.symm
        subst he
        have mr21 : h_ai H0 (o + 1) (80 + u1.toInt).toNat = r21 := hp5.1.symm
        have br21 := mP_wm hp5.2 (by omega)
        refine lv_icmp_lt (tgt := 44) hx hb dX11_waits_38 (by decide) (fun c22 => ?_) (fun c22 => ?_)
        · skip
          have c22 : u2.toInt < r21.toInt := Int32.lt_iff_toInt_lt.mp c22
          refine lv_iload hx hb dX11_waits_44 (lv_at hl 0 rfl) ?_
          refine lv_if_le (tgt := 58) hx hb dX11_waits_46 (by decide) (fun _ => ?_) (fun h => absurd (Int32.le_iff_toInt_le.mpr (show r12.toInt ≤ (0 : Int) from by omega)) h)
          refine lv_aload_n hx hb dX11_waits_58 rfl (lv_at hl 1 rfl) ?_
          refine lv_aload_n hx hb dX11_waits_59 rfl (lv_at hl 1 rfl) ?_
          refine lv_iload_n hx hb dX11_waits_60 rfl (lv_at hl 2 rfl) ?_
          refine lv_iload_n hx hb dX11_waits_61 rfl (lv_at hl 3 rfl) ?_
          refine h_callSi (rest := [.ref (o), .ref (o)]) (As := [.int u1, .int u2]) hx hb hml hown hts hK hT0 hZ (fun _ h => h) hS5 (c_X11_waitAt l G Y u1 u2 (show 0 ≤ u1.toInt ∧ u1.toInt ≤ 7 from by omega) (show 0 ≤ u2.toInt ∧ u2.toInt ≤ 6 from by omega)) trivial wd_X11_waitAt wS_X11_waitAt wL_X11_62 rfl hl.1 rfl (Nat.le_of_ble_eq_true rfl) dX11_waits_62 ⟨Nat.le_of_ble_eq_true rfl, Nat.le_of_ble_eq_true rfl⟩ ⟨Nat.zero_le _, Nat.zero_le _⟩ (fun r23 H6 locs hp6 hT6 hS6 hk6 => ?_)
          obtain ⟨hp6, he⟩ := hp6
          have he := he.symm
          subst he
          have f24 : r23.toInt = 96 + 24 * u1.toInt + 4 * u2.toInt := by have q := hp6; exact q
          refine lv_iload_n hx hb dX11_waits_65 rfl (lv_at hl 4 rfl) ?_
          refine lv_iadd hx hb dX11_waits_66 ?_
          obtain ⟨x25, qx25, ix25⟩ := h_addX r23 u3 r23.toInt u3.toInt rfl rfl (by omega) (by omega)
          refine h_top (v := x25) qx25 ?_
          refine h_callVi (T := TX11) (rest := [.ref (o)]) (As := [.int x25]) hx hb hml hown hts hK hT0 hZ (fun _ h => h) hS6 (c_of l G Y P (o) hM x25 (96 + 24 * u1.toInt + 4 * u2.toInt + u3.toInt).toNat (show x25.toInt.toNat = (96 + 24 * u1.toInt + 4 * u2.toInt + u3.toInt).toNat from by omega) (h_vin (by omega) (by omega))) trivial wd_X11_of wV_X11_of wL_X11_47 (hM.o rfl) rfl rfl hl.1 rfl (Nat.le_of_ble_eq_true rfl) dX11_waits_67 ⟨Nat.le_of_ble_eq_true rfl, Nat.le_of_ble_eq_true rfl⟩ ⟨Nat.zero_le _, Nat.zero_le _⟩ (fun r26 H7 locs hp7 hT7 hS7 hk7 => ?_)
          obtain ⟨hp7, he⟩ := hp7
          have he := he.symm
          subst he
          have mr26 : h_ai H0 (o + 1) (96 + 24 * u1.toInt + 4 * u2.toInt + u3.toInt).toNat = r26 := hp7.1.symm
          refine h_callVi (T := TX11) (rest := []) (As := [.int r26]) hx hb hml hown hts hK hT0 hZ (fun _ h => h) hS7 (c_X11_gives l G Y P (o) hM r26) trivial wd_X11_gives wV_X11_gives wL_X11_276 (hM.o rfl) rfl rfl hl.1 rfl (Nat.le_of_ble_eq_true rfl) dX11_waits_70 ⟨Nat.le_of_ble_eq_true rfl, Nat.le_of_ble_eq_true rfl⟩ ⟨Nat.zero_le _, Nat.zero_le _⟩ (fun r27 H8 locs hp8 hT8 hS8 hk8 => ?_)
          obtain ⟨hp8, hB8⟩ := hp8
          have z28 : ∀ j : Nat, 1200 ≤ j → h_ai H8 (o + 1) j = h_ai H0 (o + 1) j := fun j hj => (h_ai_same hB8)
          have m29 : h_ai H8 (o + 1) 0 = v11 := (h_ai_same hB8).trans mv11
          have m30 : h_ai H8 (o + 1) (80 + u1.toInt).toNat = r21 := (h_ai_same hB8).trans mr21
          have m31 : h_ai H8 (o + 1) (96 + 24 * u1.toInt + 4 * u2.toInt + u3.toInt).toNat = r26 := (h_ai_same hB8).trans mr26
          have R32 : mR o H8 := hpr.same hB8
          have f33 : r27.toInt = r26.toInt := hp8.1
          exact hret _ _ _ _ _ hT8 hS8 ⟨trivial, ⟨R32, z28⟩⟩ dX11_waits_73
        · skip
          have c22 : ¬ u2.toInt < r21.toInt := h_nltI c22
          refine lv_iconst (v := 5) hx hb dX11_waits_41 (by decide) ?_
          refine lv_istore (lv' := [(4, .int 5), (0, .ref (o)), (1, .int u1), (2, .int u2), (3, .int u3)]) hx hb dX11_waits_42 hl (by decide) rfl (fun ls hl => ?_)
          refine lv_iload hx hb dX11_waits_44 (lv_at hl 0 rfl) ?_
          refine lv_if_le (tgt := 58) hx hb dX11_waits_46 (by decide) (fun h => absurd h (by decide)) (fun _ => ?_)
          refine lv_aload_n hx hb dX11_waits_49 rfl (lv_at hl 1 rfl) ?_
          refine lv_iload hx hb dX11_waits_50 (lv_at hl 0 rfl) ?_
          refine h_callVi (T := TX11) (rest := []) (As := [.int 5]) hx hb hml hown hts hK hT0 hZ (fun _ h => h) hS5 (c_X11_refuse l G Y P (o) hM 5) trivial wd_X11_refuse wV_X11_refuse wL_X11_267 (hM.o rfl) rfl rfl hl.1 rfl (Nat.le_of_ble_eq_true rfl) dX11_waits_52 ⟨Nat.le_of_ble_eq_true rfl, Nat.le_of_ble_eq_true rfl⟩ ⟨Nat.zero_le _, Nat.zero_le _⟩ (fun r35 H9 locs hp9 hT9 hS9 hk9 => ?_)
          obtain ⟨hp9, hB9⟩ := hp9
          have z36 : ∀ j : Nat, 1200 ≤ j → h_ai H9 (o + 1) j = h_ai H0 (o + 1) j := fun j hj => (h_ai_same hB9)
          have m37 : h_ai H9 (o + 1) 0 = v11 := (h_ai_same hB9).trans mv11
          have m38 : h_ai H9 (o + 1) (80 + u1.toInt).toNat = r21 := (h_ai_same hB9).trans mr21
          have R39 : mR o H9 := hpr.same hB9
          have f40 : r35.toInt = (-1) := hp9.1
          refine lv_goto (tgt := 73) hx hb dX11_waits_55 (by decide) ?_
          exact hret _ _ _ _ _ hT9 hS9 ⟨trivial, ⟨R39, z36⟩⟩ dX11_waits_73
    · skip
      have c10 : r8.toInt = (0 : Int) := congrArg Int32.toInt c10
      refine lv_iconst (v := 1) hx hb dX11_waits_13 (by decide) ?_
      refine lv_goto (tgt := 22) hx hb dX11_waits_14 (by decide) ?_
      refine lv_istore (lv' := [(4, .int 1), (0, .ref (o)), (1, .int u1), (2, .int u2), (3, .int u3)]) hx hb dX11_waits_22 hl (by decide) rfl (fun ls hl => ?_)
      refine lv_iload hx hb dX11_waits_24 (lv_at hl 0 rfl) ?_
      refine lv_if_ne (tgt := 44) hx hb dX11_waits_26 (by decide) (fun _ => ?_) (fun h => absurd h (by decide))
      refine lv_iload hx hb dX11_waits_44 (lv_at hl 0 rfl) ?_
      refine lv_if_le (tgt := 58) hx hb dX11_waits_46 (by decide) (fun h => absurd h (by decide)) (fun _ => ?_)
      refine lv_aload_n hx hb dX11_waits_49 rfl (lv_at hl 1 rfl) ?_
      refine lv_iload hx hb dX11_waits_50 (lv_at hl 0 rfl) ?_
      refine h_callVi (T := TX11) (rest := []) (As := [.int 1]) hx hb hml hown hts hK hT0 hZ (fun _ h => h) hS2 (c_X11_refuse l G Y P (o) hM 1) trivial wd_X11_refuse wV_X11_refuse wL_X11_267 (hM.o rfl) rfl rfl hl.1 rfl (Nat.le_of_ble_eq_true rfl) dX11_waits_52 ⟨Nat.le_of_ble_eq_true rfl, Nat.le_of_ble_eq_true rfl⟩ ⟨Nat.zero_le _, Nat.zero_le _⟩ (fun r43 H10 locs hp10 hT10 hS10 hk10 => ?_)
      obtain ⟨hp10, hB10⟩ := hp10
      have z44 : ∀ j : Nat, 1200 ≤ j → h_ai H10 (o + 1) j = h_ai H0 (o + 1) j := fun j hj => (h_ai_same hB10)
      have R45 : mR o H10 := hpr.same hB10
      have f46 : r43.toInt = (-1) := hp10.1
      refine lv_goto (tgt := 73) hx hb dX11_waits_55 (by decide) ?_
      exact hret _ _ _ _ _ hT10 hS10 ⟨trivial, ⟨R45, z44⟩⟩ dX11_waits_73
set_option maxHeartbeats 4000000 in
set_option maxRecDepth 100000 in
theorem c_X11_way (l : Launch) (G : hG) (Y : hW) (P : Int32 → Prop) (o : Nat) (hM : h_On Y o (modE (tM P) o)) (u1 : Int32) : hMi l yX11_way cX11_way 2 (some .int) 1 22 G Y [.ref (o), .int u1] (fun H => mR o H) (fun H r H1 => (True) ∧ (mR o H1 ∧ mV o H H1)) := by
  refine h_ofi (by decide +kernel) (Nat.le_of_ble_eq_true rfl) ?_
  intro p e s m args below meth c H0 ls Q hx hb hts hown hml hK hZ hT0 hpr hS0 hl hret
  have hl : lv_has ls 2 [(0, .ref (o)), (1, .int u1)] := hl
  refine lv_iload_n hx hb dX11_way_0 rfl (lv_at hl 1 rfl) ?_
  refine lv_iconst (v := 0) hx hb dX11_way_1 (by decide) ?_
  refine lv_bipush (v := 9) hx hb dX11_way_2 (by decide) ?_
  refine h_callSi (rest := []) (As := [.int u1, .int 0, .int 9]) hx hb hml hown hts hK hT0 hZ (fun _ h => h) hS0 (c_X11_isFrom l G Y u1 0 9) trivial wd_X11_isFrom wS_X11_isFrom wL_X11_228 rfl hl.1 rfl (Nat.le_of_ble_eq_true rfl) dX11_way_4 ⟨Nat.le_of_ble_eq_true rfl, Nat.le_of_ble_eq_true rfl⟩ ⟨Nat.zero_le _, Nat.zero_le _⟩ (fun r1 H1 locs hp1 hT1 hS1 hk1 => ?_)
  obtain ⟨hp1, he⟩ := hp1
  have he := he.symm
  subst he
  have f2 : (r1.toInt = 1 ∧ (0 : Int) ≤ u1.toInt ∧ u1.toInt ≤ (9 : Int)) ∨ (r1.toInt = 0 ∧ ¬ ((0 : Int) ≤ u1.toInt ∧ u1.toInt ≤ (9 : Int))) := by have q := hp1.2; exact q
  refine lv_if_ne (tgt := 16) hx hb dX11_way_7 (by decide) (fun c3 => ?_) (fun c3 => ?_)
  · skip
    have c3 : ¬ r1.toInt = (0 : Int) := h_neI c3
    refine lv_iload_n hx hb dX11_way_16 rfl (lv_at hl 1 rfl) ?_
    refine lv_if_ne (tgt := 30) hx hb dX11_way_17 (by decide) (fun c4 => ?_) (fun c4 => ?_)
    · skip
      have c4 : ¬ u1.toInt = (0 : Int) := h_neI c4
      refine lv_aload_n hx hb dX11_way_30 rfl (lv_at hl 0 rfl) ?_
      refine lv_iconst (v := 5) hx hb dX11_way_31 (by decide) ?_
      refine h_callVi (T := TX11) (rest := []) (As := [.int 5]) hx hb hml hown hts hK hT0 hZ (fun _ h => h) hS1 (c_of l G Y P (o) hM 5 5 (by decide) (h_inc (by decide))) trivial wd_X11_of wV_X11_of wL_X11_47 (hM.o rfl) rfl rfl hl.1 rfl (Nat.le_of_ble_eq_true rfl) dX11_way_32 ⟨Nat.le_of_ble_eq_true rfl, Nat.le_of_ble_eq_true rfl⟩ ⟨Nat.zero_le _, Nat.zero_le _⟩ (fun r5 H2 locs hp2 hT2 hS2 hk2 => ?_)
      obtain ⟨hp2, he⟩ := hp2
      have he := he.symm
      subst he
      have mr5 : h_ai H0 (o + 1) 5 = r5 := hp2.1.symm
      refine lv_if_eq (tgt := 52) hx hb dX11_way_35 (by decide) (fun c6 => ?_) (fun c6 => ?_)
      · skip
        have c6 : r5.toInt = (0 : Int) := congrArg Int32.toInt c6
        refine lv_aload_n hx hb dX11_way_52 rfl (lv_at hl 0 rfl) ?_
        refine lv_bipush (v := 6) hx hb dX11_way_53 (by decide) ?_
        refine h_callVi (T := TX11) (rest := []) (As := [.int 6]) hx hb hml hown hts hK hT0 hZ (fun _ h => h) hS2 (c_X11_refuse l G Y P (o) hM 6) trivial wd_X11_refuse wV_X11_refuse wL_X11_267 (hM.o rfl) rfl rfl hl.1 rfl (Nat.le_of_ble_eq_true rfl) dX11_way_55 ⟨Nat.le_of_ble_eq_true rfl, Nat.le_of_ble_eq_true rfl⟩ ⟨Nat.zero_le _, Nat.zero_le _⟩ (fun r7 H3 locs hp3 hT3 hS3 hk3 => ?_)
        obtain ⟨hp3, hB3⟩ := hp3
        have z8 : ∀ j : Nat, 1200 ≤ j → h_ai H3 (o + 1) j = h_ai H0 (o + 1) j := fun j hj => (h_ai_same hB3)
        have m9 : h_ai H3 (o + 1) 5 = r5 := (h_ai_same hB3).trans mr5
        have R10 : mR o H3 := hpr.same hB3
        have f11 : r7.toInt = (-1) := hp3.1
        exact hret _ _ _ _ _ hT3 hS3 ⟨trivial, ⟨R10, z8⟩⟩ dX11_way_58
      · skip
        have c6 : ¬ r5.toInt = (0 : Int) := h_neI c6
        refine lv_iload_n hx hb dX11_way_38 rfl (lv_at hl 1 rfl) ?_
        refine lv_iconst (v := 4) hx hb dX11_way_39 (by decide) ?_
        refine lv_icmp_le (tgt := 59) hx hb dX11_way_40 (by decide) (fun c12 => ?_) (fun c12 => ?_)
        · skip
          have c12 : u1.toInt ≤ (4 : Int) := Int32.le_iff_toInt_le.mp c12
          refine lv_aload_n hx hb dX11_way_59 rfl (lv_at hl 0 rfl) ?_
          refine lv_aload_n hx hb dX11_way_60 rfl (lv_at hl 0 rfl) ?_
          refine lv_iload_n hx hb dX11_way_61 rfl (lv_at hl 1 rfl) ?_
          refine lv_iconst (v := 5) hx hb dX11_way_62 (by decide) ?_
          refine lv_icmp_ge (tgt := 75) hx hb dX11_way_63 (by decide) (fun h => absurd h (fun q => absurd (Int32.le_iff_toInt_le.mp q) (show ¬ (5 : Int) ≤ u1.toInt from by omega))) (fun _ => ?_)
          refine lv_bipush (v := 6) hx hb dX11_way_66 (by decide) ?_
          refine lv_iload_n hx hb dX11_way_68 rfl (lv_at hl 1 rfl) ?_
          refine lv_iadd hx hb dX11_way_69 ?_
          obtain ⟨x13, qx13, ix13⟩ := h_addX 6 u1 (6 : Int) u1.toInt rfl rfl (by omega) (by omega)
          refine h_top (v := x13) qx13 ?_
          refine lv_iconst (v := 1) hx hb dX11_way_70 (by decide) ?_
          refine lv_isub hx hb dX11_way_71 ?_
          obtain ⟨x14, qx14, ix14⟩ := h_subX x13 1 x13.toInt (1 : Int) rfl rfl (by omega) (by omega)
          refine h_top (v := x14) qx14 ?_
          refine lv_goto (tgt := 81) hx hb dX11_way_72 (by decide) ?_
          refine h_callVi (T := TX11) (rest := [.ref (o)]) (As := [.int x14]) hx hb hml hown hts hK hT0 hZ (fun _ h => h) hS2 (c_of l G Y P (o) hM x14 (5 + u1.toInt).toNat (show x14.toInt.toNat = (5 + u1.toInt).toNat from by omega) (h_vin (by omega) (by omega))) trivial wd_X11_of wV_X11_of wL_X11_47 (hM.o rfl) rfl rfl hl.1 rfl (Nat.le_of_ble_eq_true rfl) dX11_way_81 ⟨Nat.le_of_ble_eq_true rfl, Nat.le_of_ble_eq_true rfl⟩ ⟨Nat.zero_le _, Nat.zero_le _⟩ (fun r15 H4 locs hp4 hT4 hS4 hk4 => ?_)
          obtain ⟨hp4, he⟩ := hp4
          have he := he.symm
          subst he
          have mr15 : h_ai H0 (o + 1) (5 + u1.toInt).toNat = r15 := hp4.1.symm
          refine h_callVi (T := TX11) (rest := []) (As := [.int r15]) hx hb hml hown hts hK hT0 hZ (fun _ h => h) hS4 (c_X11_gives l G Y P (o) hM r15) trivial wd_X11_gives wV_X11_gives wL_X11_276 (hM.o rfl) rfl rfl hl.1 rfl (Nat.le_of_ble_eq_true rfl) dX11_way_84 ⟨Nat.le_of_ble_eq_true rfl, Nat.le_of_ble_eq_true rfl⟩ ⟨Nat.zero_le _, Nat.zero_le _⟩ (fun r16 H5 locs hp5 hT5 hS5 hk5 => ?_)
          obtain ⟨hp5, hB5⟩ := hp5
          have z17 : ∀ j : Nat, 1200 ≤ j → h_ai H5 (o + 1) j = h_ai H0 (o + 1) j := fun j hj => (h_ai_same hB5)
          have m18 : h_ai H5 (o + 1) 5 = r5 := (h_ai_same hB5).trans mr5
          have m19 : h_ai H5 (o + 1) (5 + u1.toInt).toNat = r15 := (h_ai_same hB5).trans mr15
          have R20 : mR o H5 := hpr.same hB5
          have f21 : r16.toInt = r15.toInt := hp5.1
          exact hret _ _ _ _ _ hT5 hS5 ⟨trivial, ⟨R20, z17⟩⟩ dX11_way_87
        · skip
          have c12 : ¬ u1.toInt ≤ (4 : Int) := h_nleI c12
          refine lv_aload_n hx hb dX11_way_43 rfl (lv_at hl 0 rfl) ?_
          refine lv_iconst (v := 5) hx hb dX11_way_44 (by decide) ?_
          refine h_callVi (T := TX11) (rest := []) (As := [.int 5]) hx hb hml hown hts hK hT0 hZ (fun _ h => h) hS2 (c_of l G Y P (o) hM 5 5 (by decide) (h_inc (by decide))) trivial wd_X11_of wV_X11_of wL_X11_47 (hM.o rfl) rfl rfl hl.1 rfl (Nat.le_of_ble_eq_true rfl) dX11_way_45 ⟨Nat.le_of_ble_eq_true rfl, Nat.le_of_ble_eq_true rfl⟩ ⟨Nat.zero_le _, Nat.zero_le _⟩ (fun r22 H6 locs hp6 hT6 hS6 hk6 => ?_)
          obtain ⟨hp6, he⟩ := hp6
          have he := he.symm
          subst he
          have hp6 : r5 = r22 := (hp6.1.trans mr5).symm
          subst hp6
          refine lv_iconst (v := 2) hx hb dX11_way_48 (by decide) ?_
          refine lv_icmp_eq (tgt := 59) hx hb dX11_way_49 (by decide) (fun c23 => ?_) (fun c23 => ?_)
          · skip
            have c23 : r5.toInt = (2 : Int) := congrArg Int32.toInt c23
            refine lv_aload_n hx hb dX11_way_59 rfl (lv_at hl 0 rfl) ?_
            refine lv_aload_n hx hb dX11_way_60 rfl (lv_at hl 0 rfl) ?_
            refine lv_iload_n hx hb dX11_way_61 rfl (lv_at hl 1 rfl) ?_
            refine lv_iconst (v := 5) hx hb dX11_way_62 (by decide) ?_
            refine lv_icmp_ge (tgt := 75) hx hb dX11_way_63 (by decide) (fun _ => ?_) (fun h => absurd (show 5 ≤ u1 from (Int32.le_iff_toInt_le.mpr (show (5 : Int) ≤ u1.toInt from by omega))) h)
            refine lv_bipush (v := 10) hx hb dX11_way_75 (by decide) ?_
            refine lv_iload_n hx hb dX11_way_77 rfl (lv_at hl 1 rfl) ?_
            refine lv_iadd hx hb dX11_way_78 ?_
            obtain ⟨x24, qx24, ix24⟩ := h_addX 10 u1 (10 : Int) u1.toInt rfl rfl (by omega) (by omega)
            refine h_top (v := x24) qx24 ?_
            refine lv_iconst (v := 5) hx hb dX11_way_79 (by decide) ?_
            refine lv_isub hx hb dX11_way_80 ?_
            obtain ⟨x25, qx25, ix25⟩ := h_subX x24 5 x24.toInt (5 : Int) rfl rfl (by omega) (by omega)
            refine h_top (v := x25) qx25 ?_
            refine h_callVi (T := TX11) (rest := [.ref (o)]) (As := [.int x25]) hx hb hml hown hts hK hT0 hZ (fun _ h => h) hS6 (c_of l G Y P (o) hM x25 (5 + u1.toInt).toNat (show x25.toInt.toNat = (5 + u1.toInt).toNat from by omega) (h_vin (by omega) (by omega))) trivial wd_X11_of wV_X11_of wL_X11_47 (hM.o rfl) rfl rfl hl.1 rfl (Nat.le_of_ble_eq_true rfl) dX11_way_81 ⟨Nat.le_of_ble_eq_true rfl, Nat.le_of_ble_eq_true rfl⟩ ⟨Nat.zero_le _, Nat.zero_le _⟩ (fun r26 H7 locs hp7 hT7 hS7 hk7 => ?_)
            obtain ⟨hp7, he⟩ := hp7
            have he := he.symm
            subst he
            have mr26 : h_ai H0 (o + 1) (5 + u1.toInt).toNat = r26 := hp7.1.symm
            refine h_callVi (T := TX11) (rest := []) (As := [.int r26]) hx hb hml hown hts hK hT0 hZ (fun _ h => h) hS7 (c_X11_gives l G Y P (o) hM r26) trivial wd_X11_gives wV_X11_gives wL_X11_276 (hM.o rfl) rfl rfl hl.1 rfl (Nat.le_of_ble_eq_true rfl) dX11_way_84 ⟨Nat.le_of_ble_eq_true rfl, Nat.le_of_ble_eq_true rfl⟩ ⟨Nat.zero_le _, Nat.zero_le _⟩ (fun r27 H8 locs hp8 hT8 hS8 hk8 => ?_)
            obtain ⟨hp8, hB8⟩ := hp8
            have z28 : ∀ j : Nat, 1200 ≤ j → h_ai H8 (o + 1) j = h_ai H0 (o + 1) j := fun j hj => (h_ai_same hB8)
            have m29 : h_ai H8 (o + 1) 5 = r5 := (h_ai_same hB8).trans mr5
            have m30 : h_ai H8 (o + 1) (5 + u1.toInt).toNat = r26 := (h_ai_same hB8).trans mr26
            have R31 : mR o H8 := hpr.same hB8
            have f32 : r27.toInt = r26.toInt := hp8.1
            exact hret _ _ _ _ _ hT8 hS8 ⟨trivial, ⟨R31, z28⟩⟩ dX11_way_87
          · skip
            have c23 : ¬ r5.toInt = (2 : Int) := h_neI c23
            refine lv_aload_n hx hb dX11_way_52 rfl (lv_at hl 0 rfl) ?_
            refine lv_bipush (v := 6) hx hb dX11_way_53 (by decide) ?_
            refine h_callVi (T := TX11) (rest := []) (As := [.int 6]) hx hb hml hown hts hK hT0 hZ (fun _ h => h) hS6 (c_X11_refuse l G Y P (o) hM 6) trivial wd_X11_refuse wV_X11_refuse wL_X11_267 (hM.o rfl) rfl rfl hl.1 rfl (Nat.le_of_ble_eq_true rfl) dX11_way_55 ⟨Nat.le_of_ble_eq_true rfl, Nat.le_of_ble_eq_true rfl⟩ ⟨Nat.zero_le _, Nat.zero_le _⟩ (fun r33 H9 locs hp9 hT9 hS9 hk9 => ?_)
            obtain ⟨hp9, hB9⟩ := hp9
            have z34 : ∀ j : Nat, 1200 ≤ j → h_ai H9 (o + 1) j = h_ai H0 (o + 1) j := fun j hj => (h_ai_same hB9)
            have m35 : h_ai H9 (o + 1) 5 = r5 := (h_ai_same hB9).trans mr5
            have R36 : mR o H9 := hpr.same hB9
            have f37 : r33.toInt = (-1) := hp9.1
            exact hret _ _ _ _ _ hT9 hS9 ⟨trivial, ⟨R36, z34⟩⟩ dX11_way_58
    · skip
      have c4 : u1.toInt = (0 : Int) := congrArg Int32.toInt c4
      refine lv_aload_n hx hb dX11_way_20 rfl (lv_at hl 0 rfl) ?_
      refine lv_aload_n hx hb dX11_way_21 rfl (lv_at hl 0 rfl) ?_
      refine lv_iconst (v := 5) hx hb dX11_way_22 (by decide) ?_
      refine h_callVi (T := TX11) (rest := [.ref (o)]) (As := [.int 5]) hx hb hml hown hts hK hT0 hZ (fun _ h => h) hS1 (c_of l G Y P (o) hM 5 5 (by decide) (h_inc (by decide))) trivial wd_X11_of wV_X11_of wL_X11_47 (hM.o rfl) rfl rfl hl.1 rfl (Nat.le_of_ble_eq_true rfl) dX11_way_23 ⟨Nat.le_of_ble_eq_true rfl, Nat.le_of_ble_eq_true rfl⟩ ⟨Nat.zero_le _, Nat.zero_le _⟩ (fun r38 H10 locs hp10 hT10 hS10 hk10 => ?_)
      obtain ⟨hp10, he⟩ := hp10
      have he := he.symm
      subst he
      have mr38 : h_ai H0 (o + 1) 5 = r38 := hp10.1.symm
      refine h_callVi (T := TX11) (rest := []) (As := [.int r38]) hx hb hml hown hts hK hT0 hZ (fun _ h => h) hS10 (c_X11_gives l G Y P (o) hM r38) trivial wd_X11_gives wV_X11_gives wL_X11_276 (hM.o rfl) rfl rfl hl.1 rfl (Nat.le_of_ble_eq_true rfl) dX11_way_26 ⟨Nat.le_of_ble_eq_true rfl, Nat.le_of_ble_eq_true rfl⟩ ⟨Nat.zero_le _, Nat.zero_le _⟩ (fun r39 H11 locs hp11 hT11 hS11 hk11 => ?_)
      obtain ⟨hp11, hB11⟩ := hp11
      have z40 : ∀ j : Nat, 1200 ≤ j → h_ai H11 (o + 1) j = h_ai H0 (o + 1) j := fun j hj => (h_ai_same hB11)
      have m41 : h_ai H11 (o + 1) 5 = r38 := (h_ai_same hB11).trans mr38
      have R42 : mR o H11 := hpr.same hB11
      have f43 : r39.toInt = r38.toInt := hp11.1
      exact hret _ _ _ _ _ hT11 hS11 ⟨trivial, ⟨R42, z40⟩⟩ dX11_way_29
  · skip
    have c3 : r1.toInt = (0 : Int) := congrArg Int32.toInt c3
    refine lv_aload_n hx hb dX11_way_10 rfl (lv_at hl 0 rfl) ?_
    refine lv_iconst (v := 1) hx hb dX11_way_11 (by decide) ?_
    refine h_callVi (T := TX11) (rest := []) (As := [.int 1]) hx hb hml hown hts hK hT0 hZ (fun _ h => h) hS1 (c_X11_refuse l G Y P (o) hM 1) trivial wd_X11_refuse wV_X11_refuse wL_X11_267 (hM.o rfl) rfl rfl hl.1 rfl (Nat.le_of_ble_eq_true rfl) dX11_way_12 ⟨Nat.le_of_ble_eq_true rfl, Nat.le_of_ble_eq_true rfl⟩ ⟨Nat.zero_le _, Nat.zero_le _⟩ (fun r44 H12 locs hp12 hT12 hS12 hk12 => ?_)
    obtain ⟨hp12, hB12⟩ := hp12
    have z45 : ∀ j : Nat, 1200 ≤ j → h_ai H12 (o + 1) j = h_ai H0 (o + 1) j := fun j hj => (h_ai_same hB12)
    have R46 : mR o H12 := hpr.same hB12
    have f47 : r44.toInt = (-1) := hp12.1
    exact hret _ _ _ _ _ hT12 hS12 ⟨trivial, ⟨R46, z45⟩⟩ dX11_way_15
set_option maxHeartbeats 4000000 in
set_option maxRecDepth 100000 in
theorem c_X11_beacon (l : Launch) (G : hG) (Y : hW) (P : Int32 → Prop) (o : Nat) (hM : h_On Y o (modE (tM P) o)) (u1 : Int32) : hMi l yX11_beacon cX11_beacon 2 (some .int) 1 22 G Y [.ref (o), .int u1] (fun H => mR o H) (fun H r H1 => (True) ∧ (mR o H1 ∧ mV o H H1)) := by
  refine h_ofi (by decide +kernel) (Nat.le_of_ble_eq_true rfl) ?_
  intro p e s m args below meth c H0 ls Q hx hb hts hown hml hK hZ hT0 hpr hS0 hl hret
  have hl : lv_has ls 2 [(0, .ref (o)), (1, .int u1)] := hl
  refine lv_iload_n hx hb dX11_beacon_0 rfl (lv_at hl 1 rfl) ?_
  refine lv_iconst (v := 0) hx hb dX11_beacon_1 (by decide) ?_
  refine lv_iconst (v := 2) hx hb dX11_beacon_2 (by decide) ?_
  refine h_callSi (rest := []) (As := [.int u1, .int 0, .int 2]) hx hb hml hown hts hK hT0 hZ (fun _ h => h) hS0 (c_X11_isFrom l G Y u1 0 2) trivial wd_X11_isFrom wS_X11_isFrom wL_X11_228 rfl hl.1 rfl (Nat.le_of_ble_eq_true rfl) dX11_beacon_3 ⟨Nat.le_of_ble_eq_true rfl, Nat.le_of_ble_eq_true rfl⟩ ⟨Nat.zero_le _, Nat.zero_le _⟩ (fun r1 H1 locs hp1 hT1 hS1 hk1 => ?_)
  obtain ⟨hp1, he⟩ := hp1
  have he := he.symm
  subst he
  have f2 : (r1.toInt = 1 ∧ (0 : Int) ≤ u1.toInt ∧ u1.toInt ≤ (2 : Int)) ∨ (r1.toInt = 0 ∧ ¬ ((0 : Int) ≤ u1.toInt ∧ u1.toInt ≤ (2 : Int))) := by have q := hp1.2; exact q
  refine lv_if_ne (tgt := 15) hx hb dX11_beacon_6 (by decide) (fun c3 => ?_) (fun c3 => ?_)
  · skip
    have c3 : ¬ r1.toInt = (0 : Int) := h_neI c3
    refine lv_iload_n hx hb dX11_beacon_15 rfl (lv_at hl 1 rfl) ?_
    refine lv_if_le (tgt := 35) hx hb dX11_beacon_16 (by decide) (fun c4 => ?_) (fun c4 => ?_)
    · skip
      have c4 : u1.toInt ≤ (0 : Int) := Int32.le_iff_toInt_le.mp c4
      refine lv_aload_n hx hb dX11_beacon_35 rfl (lv_at hl 0 rfl) ?_
      refine lv_aload_n hx hb dX11_beacon_36 rfl (lv_at hl 0 rfl) ?_
      refine lv_bipush (v := 18) hx hb dX11_beacon_37 (by decide) ?_
      refine lv_iload_n hx hb dX11_beacon_39 rfl (lv_at hl 1 rfl) ?_
      refine lv_iadd hx hb dX11_beacon_40 ?_
      obtain ⟨x5, qx5, ix5⟩ := h_addX 18 u1 (18 : Int) u1.toInt rfl rfl (by omega) (by omega)
      refine h_top (v := x5) qx5 ?_
      refine h_callVi (T := TX11) (rest := [.ref (o)]) (As := [.int x5]) hx hb hml hown hts hK hT0 hZ (fun _ h => h) hS1 (c_of l G Y P (o) hM x5 (18 + u1.toInt).toNat (show x5.toInt.toNat = (18 + u1.toInt).toNat from by omega) (h_vin (by omega) (by omega))) trivial wd_X11_of wV_X11_of wL_X11_47 (hM.o rfl) rfl rfl hl.1 rfl (Nat.le_of_ble_eq_true rfl) dX11_beacon_41 ⟨Nat.le_of_ble_eq_true rfl, Nat.le_of_ble_eq_true rfl⟩ ⟨Nat.zero_le _, Nat.zero_le _⟩ (fun r6 H2 locs hp2 hT2 hS2 hk2 => ?_)
      obtain ⟨hp2, he⟩ := hp2
      have he := he.symm
      subst he
      have mr6 : h_ai H0 (o + 1) (18 + u1.toInt).toNat = r6 := hp2.1.symm
      refine h_callVi (T := TX11) (rest := []) (As := [.int r6]) hx hb hml hown hts hK hT0 hZ (fun _ h => h) hS2 (c_X11_gives l G Y P (o) hM r6) trivial wd_X11_gives wV_X11_gives wL_X11_276 (hM.o rfl) rfl rfl hl.1 rfl (Nat.le_of_ble_eq_true rfl) dX11_beacon_44 ⟨Nat.le_of_ble_eq_true rfl, Nat.le_of_ble_eq_true rfl⟩ ⟨Nat.zero_le _, Nat.zero_le _⟩ (fun r7 H3 locs hp3 hT3 hS3 hk3 => ?_)
      obtain ⟨hp3, hB3⟩ := hp3
      have z8 : ∀ j : Nat, 1200 ≤ j → h_ai H3 (o + 1) j = h_ai H0 (o + 1) j := fun j hj => (h_ai_same hB3)
      have m9 : h_ai H3 (o + 1) (18 + u1.toInt).toNat = r6 := (h_ai_same hB3).trans mr6
      have R10 : mR o H3 := hpr.same hB3
      have f11 : r7.toInt = r6.toInt := hp3.1
      exact hret _ _ _ _ _ hT3 hS3 ⟨trivial, ⟨R10, z8⟩⟩ dX11_beacon_47
    · skip
      have c4 : ¬ u1.toInt ≤ (0 : Int) := h_nleI c4
      refine lv_aload_n hx hb dX11_beacon_19 rfl (lv_at hl 0 rfl) ?_
      refine lv_bipush (v := 18) hx hb dX11_beacon_20 (by decide) ?_
      refine h_callVi (T := TX11) (rest := []) (As := [.int 18]) hx hb hml hown hts hK hT0 hZ (fun _ h => h) hS1 (c_of l G Y P (o) hM 18 18 (by decide) (h_inc (by decide))) trivial wd_X11_of wV_X11_of wL_X11_47 (hM.o rfl) rfl rfl hl.1 rfl (Nat.le_of_ble_eq_true rfl) dX11_beacon_22 ⟨Nat.le_of_ble_eq_true rfl, Nat.le_of_ble_eq_true rfl⟩ ⟨Nat.zero_le _, Nat.zero_le _⟩ (fun r12 H4 locs hp4 hT4 hS4 hk4 => ?_)
      obtain ⟨hp4, he⟩ := hp4
      have he := he.symm
      subst he
      have mr12 : h_ai H0 (o + 1) 18 = r12 := hp4.1.symm
      refine lv_iconst (v := 2) hx hb dX11_beacon_25 (by decide) ?_
      refine lv_icmp_eq (tgt := 35) hx hb dX11_beacon_26 (by decide) (fun c13 => ?_) (fun c13 => ?_)
      · skip
        have c13 : r12.toInt = (2 : Int) := congrArg Int32.toInt c13
        refine lv_aload_n hx hb dX11_beacon_35 rfl (lv_at hl 0 rfl) ?_
        refine lv_aload_n hx hb dX11_beacon_36 rfl (lv_at hl 0 rfl) ?_
        refine lv_bipush (v := 18) hx hb dX11_beacon_37 (by decide) ?_
        refine lv_iload_n hx hb dX11_beacon_39 rfl (lv_at hl 1 rfl) ?_
        refine lv_iadd hx hb dX11_beacon_40 ?_
        obtain ⟨x14, qx14, ix14⟩ := h_addX 18 u1 (18 : Int) u1.toInt rfl rfl (by omega) (by omega)
        refine h_top (v := x14) qx14 ?_
        refine h_callVi (T := TX11) (rest := [.ref (o)]) (As := [.int x14]) hx hb hml hown hts hK hT0 hZ (fun _ h => h) hS4 (c_of l G Y P (o) hM x14 (18 + u1.toInt).toNat (show x14.toInt.toNat = (18 + u1.toInt).toNat from by omega) (h_vin (by omega) (by omega))) trivial wd_X11_of wV_X11_of wL_X11_47 (hM.o rfl) rfl rfl hl.1 rfl (Nat.le_of_ble_eq_true rfl) dX11_beacon_41 ⟨Nat.le_of_ble_eq_true rfl, Nat.le_of_ble_eq_true rfl⟩ ⟨Nat.zero_le _, Nat.zero_le _⟩ (fun r15 H5 locs hp5 hT5 hS5 hk5 => ?_)
        obtain ⟨hp5, he⟩ := hp5
        have he := he.symm
        subst he
        have mr15 : h_ai H0 (o + 1) (18 + u1.toInt).toNat = r15 := hp5.1.symm
        have br15 := mP_m1 hp5.2 (by omega)
        refine h_callVi (T := TX11) (rest := []) (As := [.int r15]) hx hb hml hown hts hK hT0 hZ (fun _ h => h) hS5 (c_X11_gives l G Y P (o) hM r15) trivial wd_X11_gives wV_X11_gives wL_X11_276 (hM.o rfl) rfl rfl hl.1 rfl (Nat.le_of_ble_eq_true rfl) dX11_beacon_44 ⟨Nat.le_of_ble_eq_true rfl, Nat.le_of_ble_eq_true rfl⟩ ⟨Nat.zero_le _, Nat.zero_le _⟩ (fun r16 H6 locs hp6 hT6 hS6 hk6 => ?_)
        obtain ⟨hp6, hB6⟩ := hp6
        have z17 : ∀ j : Nat, 1200 ≤ j → h_ai H6 (o + 1) j = h_ai H0 (o + 1) j := fun j hj => (h_ai_same hB6)
        have m18 : h_ai H6 (o + 1) 18 = r12 := (h_ai_same hB6).trans mr12
        have m19 : h_ai H6 (o + 1) (18 + u1.toInt).toNat = r15 := (h_ai_same hB6).trans mr15
        have R20 : mR o H6 := hpr.same hB6
        have f21 : r16.toInt = r15.toInt := hp6.1
        exact hret _ _ _ _ _ hT6 hS6 ⟨trivial, ⟨R20, z17⟩⟩ dX11_beacon_47
      · skip
        have c13 : ¬ r12.toInt = (2 : Int) := h_neI c13
        refine lv_aload_n hx hb dX11_beacon_29 rfl (lv_at hl 0 rfl) ?_
        refine lv_iconst (v := 5) hx hb dX11_beacon_30 (by decide) ?_
        refine h_callVi (T := TX11) (rest := []) (As := [.int 5]) hx hb hml hown hts hK hT0 hZ (fun _ h => h) hS4 (c_X11_refuse l G Y P (o) hM 5) trivial wd_X11_refuse wV_X11_refuse wL_X11_267 (hM.o rfl) rfl rfl hl.1 rfl (Nat.le_of_ble_eq_true rfl) dX11_beacon_31 ⟨Nat.le_of_ble_eq_true rfl, Nat.le_of_ble_eq_true rfl⟩ ⟨Nat.zero_le _, Nat.zero_le _⟩ (fun r22 H7 locs hp7 hT7 hS7 hk7 => ?_)
        obtain ⟨hp7, hB7⟩ := hp7
        have z23 : ∀ j : Nat, 1200 ≤ j → h_ai H7 (o + 1) j = h_ai H0 (o + 1) j := fun j hj => (h_ai_same hB7)
        have m24 : h_ai H7 (o + 1) 18 = r12 := (h_ai_same hB7).trans mr12
        have R25 : mR o H7 := hpr.same hB7
        have f26 : r22.toInt = (-1) := hp7.1
        exact hret _ _ _ _ _ hT7 hS7 ⟨trivial, ⟨R25, z23⟩⟩ dX11_beacon_34
  · skip
    have c3 : r1.toInt = (0 : Int) := congrArg Int32.toInt c3
    refine lv_aload_n hx hb dX11_beacon_9 rfl (lv_at hl 0 rfl) ?_
    refine lv_iconst (v := 1) hx hb dX11_beacon_10 (by decide) ?_
    refine h_callVi (T := TX11) (rest := []) (As := [.int 1]) hx hb hml hown hts hK hT0 hZ (fun _ h => h) hS1 (c_X11_refuse l G Y P (o) hM 1) trivial wd_X11_refuse wV_X11_refuse wL_X11_267 (hM.o rfl) rfl rfl hl.1 rfl (Nat.le_of_ble_eq_true rfl) dX11_beacon_11 ⟨Nat.le_of_ble_eq_true rfl, Nat.le_of_ble_eq_true rfl⟩ ⟨Nat.zero_le _, Nat.zero_le _⟩ (fun r27 H8 locs hp8 hT8 hS8 hk8 => ?_)
    obtain ⟨hp8, hB8⟩ := hp8
    have z28 : ∀ j : Nat, 1200 ≤ j → h_ai H8 (o + 1) j = h_ai H0 (o + 1) j := fun j hj => (h_ai_same hB8)
    have R29 : mR o H8 := hpr.same hB8
    have f30 : r27.toInt = (-1) := hp8.1
    exact hret _ _ _ _ _ hT8 hS8 ⟨trivial, ⟨R29, z28⟩⟩ dX11_beacon_14
set_option maxHeartbeats 4000000 in
set_option maxRecDepth 100000 in
theorem c_X11_been (l : Launch) (G : hG) (Y : hW) (P : Int32 → Prop) (o : Nat) (hM : h_On Y o (modE (tM P) o)) (u1 : Int32) : hMi l yX11_been cX11_been 2 (some .int) 1 22 G Y [.ref (o), .int u1] (fun H => mR o H) (fun H r H1 => (True) ∧ (mR o H1 ∧ mV o H H1)) := by
  refine h_ofi (by decide +kernel) (Nat.le_of_ble_eq_true rfl) ?_
  intro p e s m args below meth c H0 ls Q hx hb hts hown hml hK hZ hT0 hpr hS0 hl hret
  have hl : lv_has ls 2 [(0, .ref (o)), (1, .int u1)] := hl
  refine lv_iload_n hx hb dX11_been_0 rfl (lv_at hl 1 rfl) ?_
  refine lv_iconst (v := 0) hx hb dX11_been_1 (by decide) ?_
  refine lv_bipush (v := 9) hx hb dX11_been_2 (by decide) ?_
  refine h_callSi (rest := []) (As := [.int u1, .int 0, .int 9]) hx hb hml hown hts hK hT0 hZ (fun _ h => h) hS0 (c_X11_isFrom l G Y u1 0 9) trivial wd_X11_isFrom wS_X11_isFrom wL_X11_228 rfl hl.1 rfl (Nat.le_of_ble_eq_true rfl) dX11_been_4 ⟨Nat.le_of_ble_eq_true rfl, Nat.le_of_ble_eq_true rfl⟩ ⟨Nat.zero_le _, Nat.zero_le _⟩ (fun r1 H1 locs hp1 hT1 hS1 hk1 => ?_)
  obtain ⟨hp1, he⟩ := hp1
  have he := he.symm
  subst he
  have f2 : (r1.toInt = 1 ∧ (0 : Int) ≤ u1.toInt ∧ u1.toInt ≤ (9 : Int)) ∨ (r1.toInt = 0 ∧ ¬ ((0 : Int) ≤ u1.toInt ∧ u1.toInt ≤ (9 : Int))) := by have q := hp1.2; exact q
  refine lv_if_eq (tgt := 25) hx hb dX11_been_7 (by decide) (fun c3 => ?_) (fun c3 => ?_)
  · skip
    have c3 : r1.toInt = (0 : Int) := congrArg Int32.toInt c3
    refine lv_aload_n hx hb dX11_been_25 rfl (lv_at hl 0 rfl) ?_
    refine lv_iconst (v := 1) hx hb dX11_been_26 (by decide) ?_
    refine h_callVi (T := TX11) (rest := []) (As := [.int 1]) hx hb hml hown hts hK hT0 hZ (fun _ h => h) hS1 (c_X11_refuse l G Y P (o) hM 1) trivial wd_X11_refuse wV_X11_refuse wL_X11_267 (hM.o rfl) rfl rfl hl.1 rfl (Nat.le_of_ble_eq_true rfl) dX11_been_27 ⟨Nat.le_of_ble_eq_true rfl, Nat.le_of_ble_eq_true rfl⟩ ⟨Nat.zero_le _, Nat.zero_le _⟩ (fun r4 H2 locs hp2 hT2 hS2 hk2 => ?_)
    obtain ⟨hp2, hB2⟩ := hp2
    have z5 : ∀ j : Nat, 1200 ≤ j → h_ai H2 (o + 1) j = h_ai H0 (o + 1) j := fun j hj => (h_ai_same hB2)
    have R6 : mR o H2 := hpr.same hB2
    have f7 : r4.toInt = (-1) := hp2.1
    exact hret _ _ _ _ _ hT2 hS2 ⟨trivial, ⟨R6, z5⟩⟩ dX11_been_30
  · skip
    have c3 : ¬ r1.toInt = (0 : Int) := h_neI c3
    refine lv_aload_n hx hb dX11_been_10 rfl (lv_at hl 0 rfl) ?_
    refine lv_aload_n hx hb dX11_been_11 rfl (lv_at hl 0 rfl) ?_
    refine lv_bipush (v := 21) hx hb dX11_been_12 (by decide) ?_
    refine lv_iload_n hx hb dX11_been_14 rfl (lv_at hl 1 rfl) ?_
    refine lv_iadd hx hb dX11_been_15 ?_
    obtain ⟨x8, qx8, ix8⟩ := h_addX 21 u1 (21 : Int) u1.toInt rfl rfl (by omega) (by omega)
    refine h_top (v := x8) qx8 ?_
    refine h_callVi (T := TX11) (rest := [.ref (o)]) (As := [.int x8]) hx hb hml hown hts hK hT0 hZ (fun _ h => h) hS1 (c_of l G Y P (o) hM x8 (21 + u1.toInt).toNat (show x8.toInt.toNat = (21 + u1.toInt).toNat from by omega) (h_vin (by omega) (by omega))) trivial wd_X11_of wV_X11_of wL_X11_47 (hM.o rfl) rfl rfl hl.1 rfl (Nat.le_of_ble_eq_true rfl) dX11_been_16 ⟨Nat.le_of_ble_eq_true rfl, Nat.le_of_ble_eq_true rfl⟩ ⟨Nat.zero_le _, Nat.zero_le _⟩ (fun r9 H3 locs hp3 hT3 hS3 hk3 => ?_)
    obtain ⟨hp3, he⟩ := hp3
    have he := he.symm
    subst he
    have mr9 : h_ai H0 (o + 1) (21 + u1.toInt).toNat = r9 := hp3.1.symm
    refine h_callVi (T := TX11) (rest := []) (As := [.int r9]) hx hb hml hown hts hK hT0 hZ (fun _ h => h) hS3 (c_X11_gives l G Y P (o) hM r9) trivial wd_X11_gives wV_X11_gives wL_X11_276 (hM.o rfl) rfl rfl hl.1 rfl (Nat.le_of_ble_eq_true rfl) dX11_been_19 ⟨Nat.le_of_ble_eq_true rfl, Nat.le_of_ble_eq_true rfl⟩ ⟨Nat.zero_le _, Nat.zero_le _⟩ (fun r10 H4 locs hp4 hT4 hS4 hk4 => ?_)
    obtain ⟨hp4, hB4⟩ := hp4
    have z11 : ∀ j : Nat, 1200 ≤ j → h_ai H4 (o + 1) j = h_ai H0 (o + 1) j := fun j hj => (h_ai_same hB4)
    have m12 : h_ai H4 (o + 1) (21 + u1.toInt).toNat = r9 := (h_ai_same hB4).trans mr9
    have R13 : mR o H4 := hpr.same hB4
    have f14 : r10.toInt = r9.toInt := hp4.1
    refine lv_goto (tgt := 30) hx hb dX11_been_22 (by decide) ?_
    exact hret _ _ _ _ _ hT4 hS4 ⟨trivial, ⟨R13, z11⟩⟩ dX11_been_30
set_option maxHeartbeats 4000000 in
set_option maxRecDepth 100000 in
theorem c_X11_got (l : Launch) (G : hG) (Y : hW) (P : Int32 → Prop) (o : Nat) (hM : h_On Y o (modE (tM P) o)) (u1 u2 : Int32) : hMi l yX11_got cX11_got 3 (some .int) 1 22 G Y [.ref (o), .int u1, .int u2] (fun H => mR o H) (fun H r H1 => (True) ∧ (mR o H1 ∧ mV o H H1)) := by
  refine h_ofi (by decide +kernel) (Nat.le_of_ble_eq_true rfl) ?_
  intro p e s m args below meth c H0 ls Q hx hb hts hown hml hK hZ hT0 hpr hS0 hl hret
  have hl : lv_has ls 3 [(0, .ref (o)), (1, .int u1), (2, .int u2)] := hl
  refine lv_iload_n hx hb dX11_got_0 rfl (lv_at hl 1 rfl) ?_
  refine lv_iconst (v := 0) hx hb dX11_got_1 (by decide) ?_
  refine lv_bipush (v := 15) hx hb dX11_got_2 (by decide) ?_
  refine h_callSi (rest := []) (As := [.int u1, .int 0, .int 15]) hx hb hml hown hts hK hT0 hZ (fun _ h => h) hS0 (c_X11_isFrom l G Y u1 0 15) trivial wd_X11_isFrom wS_X11_isFrom wL_X11_228 rfl hl.1 rfl (Nat.le_of_ble_eq_true rfl) dX11_got_4 ⟨Nat.le_of_ble_eq_true rfl, Nat.le_of_ble_eq_true rfl⟩ ⟨Nat.zero_le _, Nat.zero_le _⟩ (fun r1 H1 locs hp1 hT1 hS1 hk1 => ?_)
  obtain ⟨hp1, he⟩ := hp1
  have he := he.symm
  subst he
  have f2 : (r1.toInt = 1 ∧ (0 : Int) ≤ u1.toInt ∧ u1.toInt ≤ (15 : Int)) ∨ (r1.toInt = 0 ∧ ¬ ((0 : Int) ≤ u1.toInt ∧ u1.toInt ≤ (15 : Int))) := by have q := hp1.2; exact q
  refine lv_if_eq (tgt := 19) hx hb dX11_got_7 (by decide) (fun c3 => ?_) (fun c3 => ?_)
  · skip
    have c3 : r1.toInt = (0 : Int) := congrArg Int32.toInt c3
    refine lv_aload_n hx hb dX11_got_19 rfl (lv_at hl 0 rfl) ?_
    refine lv_iconst (v := 1) hx hb dX11_got_20 (by decide) ?_
    refine h_callVi (T := TX11) (rest := []) (As := [.int 1]) hx hb hml hown hts hK hT0 hZ (fun _ h => h) hS1 (c_X11_refuse l G Y P (o) hM 1) trivial wd_X11_refuse wV_X11_refuse wL_X11_267 (hM.o rfl) rfl rfl hl.1 rfl (Nat.le_of_ble_eq_true rfl) dX11_got_21 ⟨Nat.le_of_ble_eq_true rfl, Nat.le_of_ble_eq_true rfl⟩ ⟨Nat.zero_le _, Nat.zero_le _⟩ (fun r4 H2 locs hp2 hT2 hS2 hk2 => ?_)
    obtain ⟨hp2, hB2⟩ := hp2
    have z5 : ∀ j : Nat, 1200 ≤ j → h_ai H2 (o + 1) j = h_ai H0 (o + 1) j := fun j hj => (h_ai_same hB2)
    have R6 : mR o H2 := hpr.same hB2
    have f7 : r4.toInt = (-1) := hp2.1
    exact hret _ _ _ _ _ hT2 hS2 ⟨trivial, ⟨R6, z5⟩⟩ dX11_got_24
  · skip
    have c3 : ¬ r1.toInt = (0 : Int) := h_neI c3
    refine lv_iload_n hx hb dX11_got_10 rfl (lv_at hl 2 rfl) ?_
    refine lv_iconst (v := 0) hx hb dX11_got_11 (by decide) ?_
    refine lv_iconst (v := 5) hx hb dX11_got_12 (by decide) ?_
    refine h_callSi (rest := []) (As := [.int u2, .int 0, .int 5]) hx hb hml hown hts hK hT0 hZ (fun _ h => h) hS1 (c_X11_isFrom l G Y u2 0 5) trivial wd_X11_isFrom wS_X11_isFrom wL_X11_228 rfl hl.1 rfl (Nat.le_of_ble_eq_true rfl) dX11_got_13 ⟨Nat.le_of_ble_eq_true rfl, Nat.le_of_ble_eq_true rfl⟩ ⟨Nat.zero_le _, Nat.zero_le _⟩ (fun r8 H3 locs hp3 hT3 hS3 hk3 => ?_)
    obtain ⟨hp3, he⟩ := hp3
    have he := he.symm
    subst he
    have f9 : (r8.toInt = 1 ∧ (0 : Int) ≤ u2.toInt ∧ u2.toInt ≤ (5 : Int)) ∨ (r8.toInt = 0 ∧ ¬ ((0 : Int) ≤ u2.toInt ∧ u2.toInt ≤ (5 : Int))) := by have q := hp3.2; exact q
    refine lv_if_ne (tgt := 25) hx hb dX11_got_16 (by decide) (fun c10 => ?_) (fun c10 => ?_)
    · skip
      have c10 : ¬ r8.toInt = (0 : Int) := h_neI c10
      refine lv_iload_n hx hb dX11_got_25 rfl (lv_at hl 1 rfl) ?_
      refine lv_aload_n hx hb dX11_got_26 rfl (lv_at hl 0 rfl) ?_
      refine lv_bipush (v := 31) hx hb dX11_got_27 (by decide) ?_
      refine h_callVi (T := TX11) (rest := [.int u1]) (As := [.int 31]) hx hb hml hown hts hK hT0 hZ (fun _ h => h) hS3 (c_of l G Y P (o) hM 31 31 (by decide) (h_inc (by decide))) trivial wd_X11_of wV_X11_of wL_X11_47 (hM.o rfl) rfl rfl hl.1 rfl (Nat.le_of_ble_eq_true rfl) dX11_got_29 ⟨Nat.le_of_ble_eq_true rfl, Nat.le_of_ble_eq_true rfl⟩ ⟨Nat.zero_le _, Nat.zero_le _⟩ (fun r11 H4 locs hp4 hT4 hS4 hk4 => ?_)
      obtain ⟨hp4, he⟩ := hp4
      have he := he.symm
      subst he
      have mr11 : h_ai H0 (o + 1) 31 = r11 := hp4.1.symm
      have br11 := mP_gm hp4.2 (by omega)
      refine lv_icmp_ge (tgt := 65) hx hb dX11_got_32 (by decide) (fun c12 => ?_) (fun c12 => ?_)
      · skip
        have c12 : r11.toInt ≤ u1.toInt := Int32.le_iff_toInt_le.mp c12
        refine lv_aload_n hx hb dX11_got_65 rfl (lv_at hl 0 rfl) ?_
        refine lv_iconst (v := 5) hx hb dX11_got_66 (by decide) ?_
        refine h_callVi (T := TX11) (rest := []) (As := [.int 5]) hx hb hml hown hts hK hT0 hZ (fun _ h => h) hS4 (c_X11_refuse l G Y P (o) hM 5) trivial wd_X11_refuse wV_X11_refuse wL_X11_267 (hM.o rfl) rfl rfl hl.1 rfl (Nat.le_of_ble_eq_true rfl) dX11_got_67 ⟨Nat.le_of_ble_eq_true rfl, Nat.le_of_ble_eq_true rfl⟩ ⟨Nat.zero_le _, Nat.zero_le _⟩ (fun r13 H5 locs hp5 hT5 hS5 hk5 => ?_)
        obtain ⟨hp5, hB5⟩ := hp5
        have z14 : ∀ j : Nat, 1200 ≤ j → h_ai H5 (o + 1) j = h_ai H0 (o + 1) j := fun j hj => (h_ai_same hB5)
        have m15 : h_ai H5 (o + 1) 31 = r11 := (h_ai_same hB5).trans mr11
        have R16 : mR o H5 := hpr.same hB5
        have f17 : r13.toInt = (-1) := hp5.1
        exact hret _ _ _ _ _ hT5 hS5 ⟨trivial, ⟨R16, z14⟩⟩ dX11_got_70
      · skip
        have c12 : ¬ r11.toInt ≤ u1.toInt := h_nleI c12
        refine lv_aload_n hx hb dX11_got_35 rfl (lv_at hl 0 rfl) ?_
        refine lv_aload_n hx hb dX11_got_36 rfl (lv_at hl 0 rfl) ?_
        refine lv_sipush (v := 416) hx hb dX11_got_37 (by decide) ?_
        refine lv_bipush (v := 6) hx hb dX11_got_40 (by decide) ?_
        refine lv_aload_n hx hb dX11_got_42 rfl (lv_at hl 0 rfl) ?_
        refine lv_bipush (v := 31) hx hb dX11_got_43 (by decide) ?_
        refine h_callVi (T := TX11) (rest := [.int 6, .int 416, .ref (o), .ref (o)]) (As := [.int 31]) hx hb hml hown hts hK hT0 hZ (fun _ h => h) hS4 (c_of l G Y P (o) hM 31 31 (by decide) (h_inc (by decide))) trivial wd_X11_of wV_X11_of wL_X11_47 (hM.o rfl) rfl rfl hl.1 rfl (Nat.le_of_ble_eq_true rfl) dX11_got_45 ⟨Nat.le_of_ble_eq_true rfl, Nat.le_of_ble_eq_true rfl⟩ ⟨Nat.zero_le _, Nat.zero_le _⟩ (fun r18 H6 locs hp6 hT6 hS6 hk6 => ?_)
        obtain ⟨hp6, he⟩ := hp6
        have he := he.symm
        subst he
        have hp6 : r11 = r18 := (hp6.1.trans mr11).symm
        subst hp6
        refine lv_iconst (v := 1) hx hb dX11_got_48 (by decide) ?_
        refine lv_isub hx hb dX11_got_49 ?_
        obtain ⟨x19, qx19, ix19⟩ := h_subX r11 1 r11.toInt (1 : Int) rfl rfl (by omega) (by omega)
        refine h_top (v := x19) qx19 ?_
        refine lv_iload_n hx hb dX11_got_50 rfl (lv_at hl 1 rfl) ?_
        refine lv_isub hx hb dX11_got_51 ?_
        obtain ⟨x20, qx20, ix20⟩ := h_subX x19 u1 x19.toInt u1.toInt rfl rfl (by omega) (by omega)
        refine h_top (v := x20) qx20 ?_
        refine lv_imul hx hb dX11_got_52 ?_
        obtain ⟨x21, qx21, ix21⟩ := h_mulX 6 x20 (6 : Int) x20.toInt rfl rfl (by omega) (by omega)
        refine h_top (v := x21) qx21 ?_
        refine lv_iadd hx hb dX11_got_53 ?_
        obtain ⟨x22, qx22, ix22⟩ := h_addX 416 x21 (416 : Int) x21.toInt rfl rfl (by omega) (by omega)
        refine h_top (v := x22) qx22 ?_
        refine lv_iload_n hx hb dX11_got_54 rfl (lv_at hl 2 rfl) ?_
        refine lv_iadd hx hb dX11_got_55 ?_
        obtain ⟨x23, qx23, ix23⟩ := h_addX x22 u2 x22.toInt u2.toInt rfl rfl (by omega) (by omega)
        refine h_top (v := x23) qx23 ?_
        refine h_callVi (T := TX11) (rest := [.ref (o)]) (As := [.int x23]) hx hb hml hown hts hK hT0 hZ (fun _ h => h) hS6 (c_of l G Y P (o) hM x23 (410 + 6 * r11.toInt + (-6) * u1.toInt + u2.toInt).toNat (show x23.toInt.toNat = (410 + 6 * r11.toInt + (-6) * u1.toInt + u2.toInt).toNat from by omega) (h_vin (by omega) (by omega))) trivial wd_X11_of wV_X11_of wL_X11_47 (hM.o rfl) rfl rfl hl.1 rfl (Nat.le_of_ble_eq_true rfl) dX11_got_56 ⟨Nat.le_of_ble_eq_true rfl, Nat.le_of_ble_eq_true rfl⟩ ⟨Nat.zero_le _, Nat.zero_le _⟩ (fun r24 H7 locs hp7 hT7 hS7 hk7 => ?_)
        obtain ⟨hp7, he⟩ := hp7
        have he := he.symm
        subst he
        have mr24 : h_ai H0 (o + 1) (410 + 6 * r11.toInt + (-6) * u1.toInt + u2.toInt).toNat = r24 := hp7.1.symm
        refine h_callVi (T := TX11) (rest := []) (As := [.int r24]) hx hb hml hown hts hK hT0 hZ (fun _ h => h) hS7 (c_X11_gives l G Y P (o) hM r24) trivial wd_X11_gives wV_X11_gives wL_X11_276 (hM.o rfl) rfl rfl hl.1 rfl (Nat.le_of_ble_eq_true rfl) dX11_got_59 ⟨Nat.le_of_ble_eq_true rfl, Nat.le_of_ble_eq_true rfl⟩ ⟨Nat.zero_le _, Nat.zero_le _⟩ (fun r25 H8 locs hp8 hT8 hS8 hk8 => ?_)
        obtain ⟨hp8, hB8⟩ := hp8
        have z26 : ∀ j : Nat, 1200 ≤ j → h_ai H8 (o + 1) j = h_ai H0 (o + 1) j := fun j hj => (h_ai_same hB8)
        have m27 : h_ai H8 (o + 1) 31 = r11 := (h_ai_same hB8).trans mr11
        have m28 : h_ai H8 (o + 1) (410 + 6 * r11.toInt + (-6) * u1.toInt + u2.toInt).toNat = r24 := (h_ai_same hB8).trans mr24
        have R29 : mR o H8 := hpr.same hB8
        have f30 : r25.toInt = r24.toInt := hp8.1
        refine lv_goto (tgt := 70) hx hb dX11_got_62 (by decide) ?_
        exact hret _ _ _ _ _ hT8 hS8 ⟨trivial, ⟨R29, z26⟩⟩ dX11_got_70
    · skip
      have c10 : r8.toInt = (0 : Int) := congrArg Int32.toInt c10
      refine lv_aload_n hx hb dX11_got_19 rfl (lv_at hl 0 rfl) ?_
      refine lv_iconst (v := 1) hx hb dX11_got_20 (by decide) ?_
      refine h_callVi (T := TX11) (rest := []) (As := [.int 1]) hx hb hml hown hts hK hT0 hZ (fun _ h => h) hS3 (c_X11_refuse l G Y P (o) hM 1) trivial wd_X11_refuse wV_X11_refuse wL_X11_267 (hM.o rfl) rfl rfl hl.1 rfl (Nat.le_of_ble_eq_true rfl) dX11_got_21 ⟨Nat.le_of_ble_eq_true rfl, Nat.le_of_ble_eq_true rfl⟩ ⟨Nat.zero_le _, Nat.zero_le _⟩ (fun r31 H9 locs hp9 hT9 hS9 hk9 => ?_)
      obtain ⟨hp9, hB9⟩ := hp9
      have z32 : ∀ j : Nat, 1200 ≤ j → h_ai H9 (o + 1) j = h_ai H0 (o + 1) j := fun j hj => (h_ai_same hB9)
      have R33 : mR o H9 := hpr.same hB9
      have f34 : r31.toInt = (-1) := hp9.1
      exact hret _ _ _ _ _ hT9 hS9 ⟨trivial, ⟨R33, z32⟩⟩ dX11_got_24
set_option maxHeartbeats 4000000 in
set_option maxRecDepth 100000 in
theorem c_X11_raise (l : Launch) (G : hG) (Y : hW) (P : Int32 → Prop) (o : Nat) (hM : h_On Y o (modE (tM P) o)) (u1 u2 u3 : Int32) : hMi l yX11_raise cX11_raise 5 (some .int) 3 63 G Y [.ref (o), .int u1, .int u2, .int u3] (fun H => mR o H) (fun H r H1 => (True) ∧ (mR o H1 ∧ mV o H H1)) := by
  refine h_ofi (by decide +kernel) (Nat.le_of_ble_eq_true rfl) ?_
  intro p e s m args below meth c H0 ls Q hx hb hts hown hml hK hZ hT0 hpr hS0 hl hret
  have hl : lv_has ls 5 [(0, .ref (o)), (1, .int u1), (2, .int u2), (3, .int u3)] := hl
  refine lv_iload_n hx hb dX11_raise_0 rfl (lv_at hl 2 rfl) ?_
  refine lv_if_lt (tgt := 13) hx hb dX11_raise_1 (by decide) (fun c1 => ?_) (fun c1 => ?_)
  · skip
    have c1 : u2.toInt < (0 : Int) := Int32.lt_iff_toInt_lt.mp c1
    refine lv_iconst (v := 1) hx hb dX11_raise_13 (by decide) ?_
    refine lv_goto (tgt := 22) hx hb dX11_raise_14 (by decide) ?_
    refine lv_istore (lv' := [(4, .int 1), (0, .ref (o)), (1, .int u1), (2, .int u2), (3, .int u3)]) hx hb dX11_raise_22 hl (by decide) rfl (fun ls hl => ?_)
    refine lv_iload hx hb dX11_raise_24 (lv_at hl 0 rfl) ?_
    refine lv_if_ne (tgt := 44) hx hb dX11_raise_26 (by decide) (fun _ => ?_) (fun h => absurd h (by decide))
    refine lv_iload hx hb dX11_raise_44 (lv_at hl 0 rfl) ?_
    refine lv_if_le (tgt := 58) hx hb dX11_raise_46 (by decide) (fun h => absurd h (by decide)) (fun _ => ?_)
    refine lv_aload_n hx hb dX11_raise_49 rfl (lv_at hl 1 rfl) ?_
    refine lv_iload hx hb dX11_raise_50 (lv_at hl 0 rfl) ?_
    refine h_callVi (T := TX11) (rest := []) (As := [.int 1]) hx hb hml hown hts hK hT0 hZ (fun _ h => h) hS0 (c_X11_refuse l G Y P (o) hM 1) trivial wd_X11_refuse wV_X11_refuse wL_X11_267 (hM.o rfl) rfl rfl hl.1 rfl (Nat.le_of_ble_eq_true rfl) dX11_raise_52 ⟨Nat.le_of_ble_eq_true rfl, Nat.le_of_ble_eq_true rfl⟩ ⟨Nat.zero_le _, Nat.zero_le _⟩ (fun r4 H1 locs hp1 hT1 hS1 hk1 => ?_)
    obtain ⟨hp1, hB1⟩ := hp1
    have z5 : ∀ j : Nat, 1200 ≤ j → h_ai H1 (o + 1) j = h_ai H0 (o + 1) j := fun j hj => (h_ai_same hB1)
    have R6 : mR o H1 := hpr.same hB1
    have f7 : r4.toInt = (-1) := hp1.1
    refine lv_goto (tgt := 84) hx hb dX11_raise_55 (by decide) ?_
    exact hret _ _ _ _ _ hT1 hS1 ⟨trivial, ⟨R6, z5⟩⟩ dX11_raise_84
  · skip
    have c1 : ¬ u2.toInt < (0 : Int) := h_nltI c1
    refine lv_iload_n hx hb dX11_raise_4 rfl (lv_at hl 3 rfl) ?_
    refine lv_iconst (v := 0) hx hb dX11_raise_5 (by decide) ?_
    refine lv_iconst (v := 1) hx hb dX11_raise_6 (by decide) ?_
    refine h_callSi (rest := []) (As := [.int u3, .int 0, .int 1]) hx hb hml hown hts hK hT0 hZ (fun _ h => h) hS0 (c_X11_isFrom l G Y u3 0 1) trivial wd_X11_isFrom wS_X11_isFrom wL_X11_228 rfl hl.1 rfl (Nat.le_of_ble_eq_true rfl) dX11_raise_7 ⟨Nat.le_of_ble_eq_true rfl, Nat.le_of_ble_eq_true rfl⟩ ⟨Nat.zero_le _, Nat.zero_le _⟩ (fun r8 H2 locs hp2 hT2 hS2 hk2 => ?_)
    obtain ⟨hp2, he⟩ := hp2
    have he := he.symm
    subst he
    have f9 : (r8.toInt = 1 ∧ (0 : Int) ≤ u3.toInt ∧ u3.toInt ≤ (1 : Int)) ∨ (r8.toInt = 0 ∧ ¬ ((0 : Int) ≤ u3.toInt ∧ u3.toInt ≤ (1 : Int))) := by have q := hp2.2; exact q
    refine lv_if_ne (tgt := 17) hx hb dX11_raise_10 (by decide) (fun c10 => ?_) (fun c10 => ?_)
    · skip
      have c10 : ¬ r8.toInt = (0 : Int) := h_neI c10
      refine lv_aload_n hx hb dX11_raise_17 rfl (lv_at hl 0 rfl) ?_
      refine lv_iload_n hx hb dX11_raise_18 rfl (lv_at hl 1 rfl) ?_
      obtain ⟨v11, mv11⟩ : ∃ x, h_ai H0 (o + 1) 0 = x := ⟨_, rfl⟩
      have bv11 := mP_N (mP_cell hM hT0 (j := 0) (by omega)) (by omega)
      rw [mv11] at bv11
      refine h_callVi (T := TX11) (rest := []) (As := [.int u1]) hx hb hml hown hts hK hT0 hZ (fun _ h => h) hS2 (c_X11_wrongStation l G Y P (o) hM u1) trivial wd_X11_wrongStation wV_X11_wrongStation wL_X11_288 (hM.o rfl) rfl rfl hl.1 rfl (Nat.le_of_ble_eq_true rfl) dX11_raise_19 ⟨Nat.le_of_ble_eq_true rfl, Nat.le_of_ble_eq_true rfl⟩ ⟨Nat.zero_le _, Nat.zero_le _⟩ (fun r12 H3 locs hp3 hT3 hS3 hk3 => ?_)
      obtain ⟨hp3, he⟩ := hp3
      have he := he.symm
      subst he
      have f13 : (r12.toInt = 0 ∧ 0 ≤ u1.toInt ∧ u1.toInt < v11.toInt) ∨ r12.toInt = 2 := by have q := hp3; rw [mv11] at q; exact q
      refine lv_istore (lv' := [(4, .int r12), (0, .ref (o)), (1, .int u1), (2, .int u2), (3, .int u3)]) hx hb dX11_raise_22 hl (by decide) rfl (fun ls hl => ?_)
      refine lv_iload hx hb dX11_raise_24 (lv_at hl 0 rfl) ?_
      refine lv_if_ne (tgt := 44) hx hb dX11_raise_26 (by decide) (fun c14 => ?_) (fun c14 => ?_)
      · skip
        have c14 : ¬ r12.toInt = (0 : Int) := h_neI c14
        refine lv_iload hx hb dX11_raise_44 (lv_at hl 0 rfl) ?_
        refine lv_if_le (tgt := 58) hx hb dX11_raise_46 (by decide) (fun h => absurd h (fun q => absurd (Int32.le_iff_toInt_le.mp q) (show ¬ r12.toInt ≤ (0 : Int) from by omega))) (fun _ => ?_)
        refine lv_aload_n hx hb dX11_raise_49 rfl (lv_at hl 1 rfl) ?_
        refine lv_iload hx hb dX11_raise_50 (lv_at hl 0 rfl) ?_
        refine h_callVi (T := TX11) (rest := []) (As := [.int r12]) hx hb hml hown hts hK hT0 hZ (fun _ h => h) hS3 (c_X11_refuse l G Y P (o) hM r12) trivial wd_X11_refuse wV_X11_refuse wL_X11_267 (hM.o rfl) rfl rfl hl.1 rfl (Nat.le_of_ble_eq_true rfl) dX11_raise_52 ⟨Nat.le_of_ble_eq_true rfl, Nat.le_of_ble_eq_true rfl⟩ ⟨Nat.zero_le _, Nat.zero_le _⟩ (fun r15 H4 locs hp4 hT4 hS4 hk4 => ?_)
        obtain ⟨hp4, hB4⟩ := hp4
        have z16 : ∀ j : Nat, 1200 ≤ j → h_ai H4 (o + 1) j = h_ai H0 (o + 1) j := fun j hj => (h_ai_same hB4)
        have m17 : h_ai H4 (o + 1) 0 = v11 := (h_ai_same hB4).trans mv11
        have R18 : mR o H4 := hpr.same hB4
        have f19 : r15.toInt = (-1) := hp4.1
        refine lv_goto (tgt := 84) hx hb dX11_raise_55 (by decide) ?_
        exact hret _ _ _ _ _ hT4 hS4 ⟨trivial, ⟨R18, z16⟩⟩ dX11_raise_84
      · skip
        have c14 : r12.toInt = (0 : Int) := congrArg Int32.toInt c14
        refine lv_iload_n hx hb dX11_raise_29 rfl (lv_at hl 3 rfl) ?_
        refine lv_aload_n hx hb dX11_raise_30 rfl (lv_at hl 1 rfl) ?_
        refine lv_bipush (v := 88) hx hb dX11_raise_31 (by decide) ?_
        refine lv_iload_n hx hb dX11_raise_33 rfl (lv_at hl 2 rfl) ?_
        refine lv_iadd hx hb dX11_raise_34 ?_
        obtain ⟨x20, qx20, ix20⟩ := h_addX 88 u1 (88 : Int) u1.toInt rfl rfl (by omega) (by omega)
        refine h_top (v := x20) qx20 ?_
        refine h_callVi (T := TX11) (rest := [.int u2]) (As := [.int x20]) hx hb hml hown hts hK hT0 hZ (fun _ h => h) hS3 (c_of l G Y P (o) hM x20 (88 + u1.toInt).toNat (show x20.toInt.toNat = (88 + u1.toInt).toNat from by omega) (h_vin (by omega) (by omega))) trivial wd_X11_of wV_X11_of wL_X11_47 (hM.o rfl) rfl rfl hl.1 rfl (Nat.le_of_ble_eq_true rfl) dX11_raise_35 ⟨Nat.le_of_ble_eq_true rfl, Nat.le_of_ble_eq_true rfl⟩ ⟨Nat.zero_le _, Nat.zero_le _⟩ (fun r21 H5 locs hp5 hT5 hS5 hk5 => ?_)
        obtain ⟨hp5, he⟩ := hp5
        have he := he.symm
        subst he
        have mr21 : h_ai H0 (o + 1) (88 + u1.toInt).toNat = r21 := hp5.1.symm
        have br21 := mP_rm hp5.2 (by omega)
        refine lv_icmp_lt (tgt := 44) hx hb dX11_raise_38 (by decide) (fun c22 => ?_) (fun c22 => ?_)
        · skip
          have c22 : u2.toInt < r21.toInt := Int32.lt_iff_toInt_lt.mp c22
          refine lv_iload hx hb dX11_raise_44 (lv_at hl 0 rfl) ?_
          refine lv_if_le (tgt := 58) hx hb dX11_raise_46 (by decide) (fun _ => ?_) (fun h => absurd (Int32.le_iff_toInt_le.mpr (show r12.toInt ≤ (0 : Int) from by omega)) h)
          refine lv_aload_n hx hb dX11_raise_58 rfl (lv_at hl 1 rfl) ?_
          refine lv_aload_n hx hb dX11_raise_59 rfl (lv_at hl 1 rfl) ?_
          refine lv_iload_n hx hb dX11_raise_60 rfl (lv_at hl 2 rfl) ?_
          refine lv_aload_n hx hb dX11_raise_61 rfl (lv_at hl 1 rfl) ?_
          refine lv_bipush (v := 88) hx hb dX11_raise_62 (by decide) ?_
          refine lv_iload_n hx hb dX11_raise_64 rfl (lv_at hl 2 rfl) ?_
          refine lv_iadd hx hb dX11_raise_65 ?_
          refine h_top (v := x20) (h_addE 88 u1 x20 (88 : Int) u1.toInt rfl rfl (by omega) (by omega) (by omega)) ?_
          refine h_callVi (T := TX11) (rest := [.int u1, .ref (o), .ref (o)]) (As := [.int x20]) hx hb hml hown hts hK hT0 hZ (fun _ h => h) hS5 (c_of l G Y P (o) hM x20 (88 + u1.toInt).toNat (show x20.toInt.toNat = (88 + u1.toInt).toNat from by omega) (h_vin (by omega) (by omega))) trivial wd_X11_of wV_X11_of wL_X11_47 (hM.o rfl) rfl rfl hl.1 rfl (Nat.le_of_ble_eq_true rfl) dX11_raise_66 ⟨Nat.le_of_ble_eq_true rfl, Nat.le_of_ble_eq_true rfl⟩ ⟨Nat.zero_le _, Nat.zero_le _⟩ (fun r23 H6 locs hp6 hT6 hS6 hk6 => ?_)
          obtain ⟨hp6, he⟩ := hp6
          have he := he.symm
          subst he
          have hp6 : r21 = r23 := (hp6.1.trans mr21).symm
          subst hp6
          refine lv_iconst (v := 1) hx hb dX11_raise_69 (by decide) ?_
          refine lv_isub hx hb dX11_raise_70 ?_
          obtain ⟨x24, qx24, ix24⟩ := h_subX r21 1 r21.toInt (1 : Int) rfl rfl (by omega) (by omega)
          refine h_top (v := x24) qx24 ?_
          refine lv_iload_n hx hb dX11_raise_71 rfl (lv_at hl 3 rfl) ?_
          refine lv_isub hx hb dX11_raise_72 ?_
          obtain ⟨x25, qx25, ix25⟩ := h_subX x24 u2 x24.toInt u2.toInt rfl rfl (by omega) (by omega)
          refine h_top (v := x25) qx25 ?_
          refine h_callSi (rest := [.ref (o), .ref (o)]) (As := [.int u1, .int x25]) hx hb hml hown hts hK hT0 hZ (fun _ h => h) hS6 (c_X11_raiseAt l G Y u1 x25 (show 0 ≤ u1.toInt ∧ u1.toInt ≤ 7 from by omega) (show (-1) ≤ x25.toInt ∧ x25.toInt ≤ 8 from by omega)) trivial wd_X11_raiseAt wS_X11_raiseAt wL_X11_91 rfl hl.1 rfl (Nat.le_of_ble_eq_true rfl) dX11_raise_73 ⟨Nat.le_of_ble_eq_true rfl, Nat.le_of_ble_eq_true rfl⟩ ⟨Nat.zero_le _, Nat.zero_le _⟩ (fun r26 H7 locs hp7 hT7 hS7 hk7 => ?_)
          obtain ⟨hp7, he⟩ := hp7
          have he := he.symm
          subst he
          have f27 : r26.toInt = 288 + 16 * u1.toInt + 2 * x25.toInt := by have q := hp7; exact q
          refine lv_iload_n hx hb dX11_raise_76 rfl (lv_at hl 4 rfl) ?_
          refine lv_iadd hx hb dX11_raise_77 ?_
          obtain ⟨x28, qx28, ix28⟩ := h_addX r26 u3 r26.toInt u3.toInt rfl rfl (by omega) (by omega)
          refine h_top (v := x28) qx28 ?_
          refine h_callVi (T := TX11) (rest := [.ref (o)]) (As := [.int x28]) hx hb hml hown hts hK hT0 hZ (fun _ h => h) hS7 (c_of l G Y P (o) hM x28 (286 + 2 * r21.toInt + 16 * u1.toInt + (-2) * u2.toInt + u3.toInt).toNat (show x28.toInt.toNat = (286 + 2 * r21.toInt + 16 * u1.toInt + (-2) * u2.toInt + u3.toInt).toNat from by omega) (h_vin (by omega) (by omega))) trivial wd_X11_of wV_X11_of wL_X11_47 (hM.o rfl) rfl rfl hl.1 rfl (Nat.le_of_ble_eq_true rfl) dX11_raise_78 ⟨Nat.le_of_ble_eq_true rfl, Nat.le_of_ble_eq_true rfl⟩ ⟨Nat.zero_le _, Nat.zero_le _⟩ (fun r29 H8 locs hp8 hT8 hS8 hk8 => ?_)
          obtain ⟨hp8, he⟩ := hp8
          have he := he.symm
          subst he
          have mr29 : h_ai H0 (o + 1) (286 + 2 * r21.toInt + 16 * u1.toInt + (-2) * u2.toInt + u3.toInt).toNat = r29 := hp8.1.symm
          refine h_callVi (T := TX11) (rest := []) (As := [.int r29]) hx hb hml hown hts hK hT0 hZ (fun _ h => h) hS8 (c_X11_gives l G Y P (o) hM r29) trivial wd_X11_gives wV_X11_gives wL_X11_276 (hM.o rfl) rfl rfl hl.1 rfl (Nat.le_of_ble_eq_true rfl) dX11_raise_81 ⟨Nat.le_of_ble_eq_true rfl, Nat.le_of_ble_eq_true rfl⟩ ⟨Nat.zero_le _, Nat.zero_le _⟩ (fun r30 H9 locs hp9 hT9 hS9 hk9 => ?_)
          obtain ⟨hp9, hB9⟩ := hp9
          have z31 : ∀ j : Nat, 1200 ≤ j → h_ai H9 (o + 1) j = h_ai H0 (o + 1) j := fun j hj => (h_ai_same hB9)
          have m32 : h_ai H9 (o + 1) 0 = v11 := (h_ai_same hB9).trans mv11
          have m33 : h_ai H9 (o + 1) (88 + u1.toInt).toNat = r21 := (h_ai_same hB9).trans mr21
          have m34 : h_ai H9 (o + 1) (286 + 2 * r21.toInt + 16 * u1.toInt + (-2) * u2.toInt + u3.toInt).toNat = r29 := (h_ai_same hB9).trans mr29
          have R35 : mR o H9 := hpr.same hB9
          have f36 : r30.toInt = r29.toInt := hp9.1
          exact hret _ _ _ _ _ hT9 hS9 ⟨trivial, ⟨R35, z31⟩⟩ dX11_raise_84
        · skip
          have c22 : ¬ u2.toInt < r21.toInt := h_nltI c22
          refine lv_iconst (v := 5) hx hb dX11_raise_41 (by decide) ?_
          refine lv_istore (lv' := [(4, .int 5), (0, .ref (o)), (1, .int u1), (2, .int u2), (3, .int u3)]) hx hb dX11_raise_42 hl (by decide) rfl (fun ls hl => ?_)
          refine lv_iload hx hb dX11_raise_44 (lv_at hl 0 rfl) ?_
          refine lv_if_le (tgt := 58) hx hb dX11_raise_46 (by decide) (fun h => absurd h (by decide)) (fun _ => ?_)
          refine lv_aload_n hx hb dX11_raise_49 rfl (lv_at hl 1 rfl) ?_
          refine lv_iload hx hb dX11_raise_50 (lv_at hl 0 rfl) ?_
          refine h_callVi (T := TX11) (rest := []) (As := [.int 5]) hx hb hml hown hts hK hT0 hZ (fun _ h => h) hS5 (c_X11_refuse l G Y P (o) hM 5) trivial wd_X11_refuse wV_X11_refuse wL_X11_267 (hM.o rfl) rfl rfl hl.1 rfl (Nat.le_of_ble_eq_true rfl) dX11_raise_52 ⟨Nat.le_of_ble_eq_true rfl, Nat.le_of_ble_eq_true rfl⟩ ⟨Nat.zero_le _, Nat.zero_le _⟩ (fun r38 H10 locs hp10 hT10 hS10 hk10 => ?_)
          obtain ⟨hp10, hB10⟩ := hp10
          have z39 : ∀ j : Nat, 1200 ≤ j → h_ai H10 (o + 1) j = h_ai H0 (o + 1) j := fun j hj => (h_ai_same hB10)
          have m40 : h_ai H10 (o + 1) 0 = v11 := (h_ai_same hB10).trans mv11
          have m41 : h_ai H10 (o + 1) (88 + u1.toInt).toNat = r21 := (h_ai_same hB10).trans mr21
          have R42 : mR o H10 := hpr.same hB10
          have f43 : r38.toInt = (-1) := hp10.1
          refine lv_goto (tgt := 84) hx hb dX11_raise_55 (by decide) ?_
          exact hret _ _ _ _ _ hT10 hS10 ⟨trivial, ⟨R42, z39⟩⟩ dX11_raise_84
    · skip
      have c10 : r8.toInt = (0 : Int) := congrArg Int32.toInt c10
      refine lv_iconst (v := 1) hx hb dX11_raise_13 (by decide) ?_
      refine lv_goto (tgt := 22) hx hb dX11_raise_14 (by decide) ?_
      refine lv_istore (lv' := [(4, .int 1), (0, .ref (o)), (1, .int u1), (2, .int u2), (3, .int u3)]) hx hb dX11_raise_22 hl (by decide) rfl (fun ls hl => ?_)
      refine lv_iload hx hb dX11_raise_24 (lv_at hl 0 rfl) ?_
      refine lv_if_ne (tgt := 44) hx hb dX11_raise_26 (by decide) (fun _ => ?_) (fun h => absurd h (by decide))
      refine lv_iload hx hb dX11_raise_44 (lv_at hl 0 rfl) ?_
      refine lv_if_le (tgt := 58) hx hb dX11_raise_46 (by decide) (fun h => absurd h (by decide)) (fun _ => ?_)
      refine lv_aload_n hx hb dX11_raise_49 rfl (lv_at hl 1 rfl) ?_
      refine lv_iload hx hb dX11_raise_50 (lv_at hl 0 rfl) ?_
      refine h_callVi (T := TX11) (rest := []) (As := [.int 1]) hx hb hml hown hts hK hT0 hZ (fun _ h => h) hS2 (c_X11_refuse l G Y P (o) hM 1) trivial wd_X11_refuse wV_X11_refuse wL_X11_267 (hM.o rfl) rfl rfl hl.1 rfl (Nat.le_of_ble_eq_true rfl) dX11_raise_52 ⟨Nat.le_of_ble_eq_true rfl, Nat.le_of_ble_eq_true rfl⟩ ⟨Nat.zero_le _, Nat.zero_le _⟩ (fun r46 H11 locs hp11 hT11 hS11 hk11 => ?_)
      obtain ⟨hp11, hB11⟩ := hp11
      have z47 : ∀ j : Nat, 1200 ≤ j → h_ai H11 (o + 1) j = h_ai H0 (o + 1) j := fun j hj => (h_ai_same hB11)
      have R48 : mR o H11 := hpr.same hB11
      have f49 : r46.toInt = (-1) := hp11.1
      refine lv_goto (tgt := 84) hx hb dX11_raise_55 (by decide) ?_
      exact hret _ _ _ _ _ hT11 hS11 ⟨trivial, ⟨R48, z47⟩⟩ dX11_raise_84
set_option maxHeartbeats 4000000 in
set_option maxRecDepth 100000 in
theorem c_X11_event (l : Launch) (G : hG) (Y : hW) (P : Int32 → Prop) (o : Nat) (hM : h_On Y o (modE (tM P) o)) (u1 u2 : Int32) : hMi l yX11_event cX11_event 3 (some .int) 1 22 G Y [.ref (o), .int u1, .int u2] (fun H => mR o H) (fun H r H1 => (True) ∧ (mR o H1 ∧ mV o H H1)) := by
  refine h_ofi (by decide +kernel) (Nat.le_of_ble_eq_true rfl) ?_
  intro p e s m args below meth c H0 ls Q hx hb hts hown hml hK hZ hT0 hpr hS0 hl hret
  have hl : lv_has ls 3 [(0, .ref (o)), (1, .int u1), (2, .int u2)] := hl
  refine lv_iload_n hx hb dX11_event_0 rfl (lv_at hl 1 rfl) ?_
  refine lv_iconst (v := 0) hx hb dX11_event_1 (by decide) ?_
  refine lv_bipush (v := 23) hx hb dX11_event_2 (by decide) ?_
  refine h_callSi (rest := []) (As := [.int u1, .int 0, .int 23]) hx hb hml hown hts hK hT0 hZ (fun _ h => h) hS0 (c_X11_isFrom l G Y u1 0 23) trivial wd_X11_isFrom wS_X11_isFrom wL_X11_228 rfl hl.1 rfl (Nat.le_of_ble_eq_true rfl) dX11_event_4 ⟨Nat.le_of_ble_eq_true rfl, Nat.le_of_ble_eq_true rfl⟩ ⟨Nat.zero_le _, Nat.zero_le _⟩ (fun r1 H1 locs hp1 hT1 hS1 hk1 => ?_)
  obtain ⟨hp1, he⟩ := hp1
  have he := he.symm
  subst he
  have f2 : (r1.toInt = 1 ∧ (0 : Int) ≤ u1.toInt ∧ u1.toInt ≤ (23 : Int)) ∨ (r1.toInt = 0 ∧ ¬ ((0 : Int) ≤ u1.toInt ∧ u1.toInt ≤ (23 : Int))) := by have q := hp1.2; exact q
  refine lv_if_eq (tgt := 19) hx hb dX11_event_7 (by decide) (fun c3 => ?_) (fun c3 => ?_)
  · skip
    have c3 : r1.toInt = (0 : Int) := congrArg Int32.toInt c3
    refine lv_aload_n hx hb dX11_event_19 rfl (lv_at hl 0 rfl) ?_
    refine lv_iconst (v := 1) hx hb dX11_event_20 (by decide) ?_
    refine h_callVi (T := TX11) (rest := []) (As := [.int 1]) hx hb hml hown hts hK hT0 hZ (fun _ h => h) hS1 (c_X11_refuse l G Y P (o) hM 1) trivial wd_X11_refuse wV_X11_refuse wL_X11_267 (hM.o rfl) rfl rfl hl.1 rfl (Nat.le_of_ble_eq_true rfl) dX11_event_21 ⟨Nat.le_of_ble_eq_true rfl, Nat.le_of_ble_eq_true rfl⟩ ⟨Nat.zero_le _, Nat.zero_le _⟩ (fun r4 H2 locs hp2 hT2 hS2 hk2 => ?_)
    obtain ⟨hp2, hB2⟩ := hp2
    have z5 : ∀ j : Nat, 1200 ≤ j → h_ai H2 (o + 1) j = h_ai H0 (o + 1) j := fun j hj => (h_ai_same hB2)
    have R6 : mR o H2 := hpr.same hB2
    have f7 : r4.toInt = (-1) := hp2.1
    exact hret _ _ _ _ _ hT2 hS2 ⟨trivial, ⟨R6, z5⟩⟩ dX11_event_24
  · skip
    have c3 : ¬ r1.toInt = (0 : Int) := h_neI c3
    refine lv_iload_n hx hb dX11_event_10 rfl (lv_at hl 2 rfl) ?_
    refine lv_iconst (v := 0) hx hb dX11_event_11 (by decide) ?_
    refine lv_iconst (v := 2) hx hb dX11_event_12 (by decide) ?_
    refine h_callSi (rest := []) (As := [.int u2, .int 0, .int 2]) hx hb hml hown hts hK hT0 hZ (fun _ h => h) hS1 (c_X11_isFrom l G Y u2 0 2) trivial wd_X11_isFrom wS_X11_isFrom wL_X11_228 rfl hl.1 rfl (Nat.le_of_ble_eq_true rfl) dX11_event_13 ⟨Nat.le_of_ble_eq_true rfl, Nat.le_of_ble_eq_true rfl⟩ ⟨Nat.zero_le _, Nat.zero_le _⟩ (fun r8 H3 locs hp3 hT3 hS3 hk3 => ?_)
    obtain ⟨hp3, he⟩ := hp3
    have he := he.symm
    subst he
    have f9 : (r8.toInt = 1 ∧ (0 : Int) ≤ u2.toInt ∧ u2.toInt ≤ (2 : Int)) ∨ (r8.toInt = 0 ∧ ¬ ((0 : Int) ≤ u2.toInt ∧ u2.toInt ≤ (2 : Int))) := by have q := hp3.2; exact q
    refine lv_if_ne (tgt := 25) hx hb dX11_event_16 (by decide) (fun c10 => ?_) (fun c10 => ?_)
    · skip
      have c10 : ¬ r8.toInt = (0 : Int) := h_neI c10
      refine lv_iload_n hx hb dX11_event_25 rfl (lv_at hl 1 rfl) ?_
      refine lv_aload_n hx hb dX11_event_26 rfl (lv_at hl 0 rfl) ?_
      refine lv_bipush (v := 32) hx hb dX11_event_27 (by decide) ?_
      refine h_callVi (T := TX11) (rest := [.int u1]) (As := [.int 32]) hx hb hml hown hts hK hT0 hZ (fun _ h => h) hS3 (c_of l G Y P (o) hM 32 32 (by decide) (h_inc (by decide))) trivial wd_X11_of wV_X11_of wL_X11_47 (hM.o rfl) rfl rfl hl.1 rfl (Nat.le_of_ble_eq_true rfl) dX11_event_29 ⟨Nat.le_of_ble_eq_true rfl, Nat.le_of_ble_eq_true rfl⟩ ⟨Nat.zero_le _, Nat.zero_le _⟩ (fun r11 H4 locs hp4 hT4 hS4 hk4 => ?_)
      obtain ⟨hp4, he⟩ := hp4
      have he := he.symm
      subst he
      have mr11 : h_ai H0 (o + 1) 32 = r11 := hp4.1.symm
      have br11 := mP_em hp4.2 (by omega)
      refine lv_icmp_ge (tgt := 64) hx hb dX11_event_32 (by decide) (fun c12 => ?_) (fun c12 => ?_)
      · skip
        have c12 : r11.toInt ≤ u1.toInt := Int32.le_iff_toInt_le.mp c12
        refine lv_aload_n hx hb dX11_event_64 rfl (lv_at hl 0 rfl) ?_
        refine lv_iconst (v := 5) hx hb dX11_event_65 (by decide) ?_
        refine h_callVi (T := TX11) (rest := []) (As := [.int 5]) hx hb hml hown hts hK hT0 hZ (fun _ h => h) hS4 (c_X11_refuse l G Y P (o) hM 5) trivial wd_X11_refuse wV_X11_refuse wL_X11_267 (hM.o rfl) rfl rfl hl.1 rfl (Nat.le_of_ble_eq_true rfl) dX11_event_66 ⟨Nat.le_of_ble_eq_true rfl, Nat.le_of_ble_eq_true rfl⟩ ⟨Nat.zero_le _, Nat.zero_le _⟩ (fun r13 H5 locs hp5 hT5 hS5 hk5 => ?_)
        obtain ⟨hp5, hB5⟩ := hp5
        have z14 : ∀ j : Nat, 1200 ≤ j → h_ai H5 (o + 1) j = h_ai H0 (o + 1) j := fun j hj => (h_ai_same hB5)
        have m15 : h_ai H5 (o + 1) 32 = r11 := (h_ai_same hB5).trans mr11
        have R16 : mR o H5 := hpr.same hB5
        have f17 : r13.toInt = (-1) := hp5.1
        exact hret _ _ _ _ _ hT5 hS5 ⟨trivial, ⟨R16, z14⟩⟩ dX11_event_69
      · skip
        have c12 : ¬ r11.toInt ≤ u1.toInt := h_nleI c12
        refine lv_aload_n hx hb dX11_event_35 rfl (lv_at hl 0 rfl) ?_
        refine lv_aload_n hx hb dX11_event_36 rfl (lv_at hl 0 rfl) ?_
        refine lv_sipush (v := 512) hx hb dX11_event_37 (by decide) ?_
        refine lv_iconst (v := 3) hx hb dX11_event_40 (by decide) ?_
        refine lv_aload_n hx hb dX11_event_41 rfl (lv_at hl 0 rfl) ?_
        refine lv_bipush (v := 32) hx hb dX11_event_42 (by decide) ?_
        refine h_callVi (T := TX11) (rest := [.int 3, .int 512, .ref (o), .ref (o)]) (As := [.int 32]) hx hb hml hown hts hK hT0 hZ (fun _ h => h) hS4 (c_of l G Y P (o) hM 32 32 (by decide) (h_inc (by decide))) trivial wd_X11_of wV_X11_of wL_X11_47 (hM.o rfl) rfl rfl hl.1 rfl (Nat.le_of_ble_eq_true rfl) dX11_event_44 ⟨Nat.le_of_ble_eq_true rfl, Nat.le_of_ble_eq_true rfl⟩ ⟨Nat.zero_le _, Nat.zero_le _⟩ (fun r18 H6 locs hp6 hT6 hS6 hk6 => ?_)
        obtain ⟨hp6, he⟩ := hp6
        have he := he.symm
        subst he
        have hp6 : r11 = r18 := (hp6.1.trans mr11).symm
        subst hp6
        refine lv_iconst (v := 1) hx hb dX11_event_47 (by decide) ?_
        refine lv_isub hx hb dX11_event_48 ?_
        obtain ⟨x19, qx19, ix19⟩ := h_subX r11 1 r11.toInt (1 : Int) rfl rfl (by omega) (by omega)
        refine h_top (v := x19) qx19 ?_
        refine lv_iload_n hx hb dX11_event_49 rfl (lv_at hl 1 rfl) ?_
        refine lv_isub hx hb dX11_event_50 ?_
        obtain ⟨x20, qx20, ix20⟩ := h_subX x19 u1 x19.toInt u1.toInt rfl rfl (by omega) (by omega)
        refine h_top (v := x20) qx20 ?_
        refine lv_imul hx hb dX11_event_51 ?_
        obtain ⟨x21, qx21, ix21⟩ := h_mulX 3 x20 (3 : Int) x20.toInt rfl rfl (by omega) (by omega)
        refine h_top (v := x21) qx21 ?_
        refine lv_iadd hx hb dX11_event_52 ?_
        obtain ⟨x22, qx22, ix22⟩ := h_addX 512 x21 (512 : Int) x21.toInt rfl rfl (by omega) (by omega)
        refine h_top (v := x22) qx22 ?_
        refine lv_iload_n hx hb dX11_event_53 rfl (lv_at hl 2 rfl) ?_
        refine lv_iadd hx hb dX11_event_54 ?_
        obtain ⟨x23, qx23, ix23⟩ := h_addX x22 u2 x22.toInt u2.toInt rfl rfl (by omega) (by omega)
        refine h_top (v := x23) qx23 ?_
        refine h_callVi (T := TX11) (rest := [.ref (o)]) (As := [.int x23]) hx hb hml hown hts hK hT0 hZ (fun _ h => h) hS6 (c_of l G Y P (o) hM x23 (509 + 3 * r11.toInt + (-3) * u1.toInt + u2.toInt).toNat (show x23.toInt.toNat = (509 + 3 * r11.toInt + (-3) * u1.toInt + u2.toInt).toNat from by omega) (h_vin (by omega) (by omega))) trivial wd_X11_of wV_X11_of wL_X11_47 (hM.o rfl) rfl rfl hl.1 rfl (Nat.le_of_ble_eq_true rfl) dX11_event_55 ⟨Nat.le_of_ble_eq_true rfl, Nat.le_of_ble_eq_true rfl⟩ ⟨Nat.zero_le _, Nat.zero_le _⟩ (fun r24 H7 locs hp7 hT7 hS7 hk7 => ?_)
        obtain ⟨hp7, he⟩ := hp7
        have he := he.symm
        subst he
        have mr24 : h_ai H0 (o + 1) (509 + 3 * r11.toInt + (-3) * u1.toInt + u2.toInt).toNat = r24 := hp7.1.symm
        refine h_callVi (T := TX11) (rest := []) (As := [.int r24]) hx hb hml hown hts hK hT0 hZ (fun _ h => h) hS7 (c_X11_gives l G Y P (o) hM r24) trivial wd_X11_gives wV_X11_gives wL_X11_276 (hM.o rfl) rfl rfl hl.1 rfl (Nat.le_of_ble_eq_true rfl) dX11_event_58 ⟨Nat.le_of_ble_eq_true rfl, Nat.le_of_ble_eq_true rfl⟩ ⟨Nat.zero_le _, Nat.zero_le _⟩ (fun r25 H8 locs hp8 hT8 hS8 hk8 => ?_)
        obtain ⟨hp8, hB8⟩ := hp8
        have z26 : ∀ j : Nat, 1200 ≤ j → h_ai H8 (o + 1) j = h_ai H0 (o + 1) j := fun j hj => (h_ai_same hB8)
        have m27 : h_ai H8 (o + 1) 32 = r11 := (h_ai_same hB8).trans mr11
        have m28 : h_ai H8 (o + 1) (509 + 3 * r11.toInt + (-3) * u1.toInt + u2.toInt).toNat = r24 := (h_ai_same hB8).trans mr24
        have R29 : mR o H8 := hpr.same hB8
        have f30 : r25.toInt = r24.toInt := hp8.1
        refine lv_goto (tgt := 69) hx hb dX11_event_61 (by decide) ?_
        exact hret _ _ _ _ _ hT8 hS8 ⟨trivial, ⟨R29, z26⟩⟩ dX11_event_69
    · skip
      have c10 : r8.toInt = (0 : Int) := congrArg Int32.toInt c10
      refine lv_aload_n hx hb dX11_event_19 rfl (lv_at hl 0 rfl) ?_
      refine lv_iconst (v := 1) hx hb dX11_event_20 (by decide) ?_
      refine h_callVi (T := TX11) (rest := []) (As := [.int 1]) hx hb hml hown hts hK hT0 hZ (fun _ h => h) hS3 (c_X11_refuse l G Y P (o) hM 1) trivial wd_X11_refuse wV_X11_refuse wL_X11_267 (hM.o rfl) rfl rfl hl.1 rfl (Nat.le_of_ble_eq_true rfl) dX11_event_21 ⟨Nat.le_of_ble_eq_true rfl, Nat.le_of_ble_eq_true rfl⟩ ⟨Nat.zero_le _, Nat.zero_le _⟩ (fun r31 H9 locs hp9 hT9 hS9 hk9 => ?_)
      obtain ⟨hp9, hB9⟩ := hp9
      have z32 : ∀ j : Nat, 1200 ≤ j → h_ai H9 (o + 1) j = h_ai H0 (o + 1) j := fun j hj => (h_ai_same hB9)
      have R33 : mR o H9 := hpr.same hB9
      have f34 : r31.toInt = (-1) := hp9.1
      exact hret _ _ _ _ _ hT9 hS9 ⟨trivial, ⟨R33, z32⟩⟩ dX11_event_24
set_option maxHeartbeats 4000000 in
set_option maxRecDepth 100000 in
theorem c_X11_heir (l : Launch) (G : hG) (Y : hW) (P : Int32 → Prop) (o : Nat) (hM : h_On Y o (modE (tM P) o)) : hMi l yX11_heir cX11_heir 2 (some .int) 4 85 G Y [.ref (o)] (fun H => mR o H) (fun H r H1 => (True) ∧ (mR o H1 ∧ mV o H H1)) := by
  refine h_ofi (by decide +kernel) (Nat.le_of_ble_eq_true rfl) ?_
  intro p e s m args below meth c H0 ls Q hx hb hts hown hml hK hZ hT0 hpr hS0 hl hret
  have hl : lv_has ls 2 [(0, .ref (o))] := hl
  refine lv_aload_n hx hb dX11_heir_0 rfl (lv_at hl 0 rfl) ?_
  obtain ⟨v1, mv1⟩ : ∃ x, h_ai H0 (o + 1) 0 = x := ⟨_, rfl⟩
  have bv1 := mP_N (mP_cell hM hT0 (j := 0) (by omega)) (by omega)
  rw [mv1] at bv1
  refine h_callVi (T := TX11) (rest := []) (As := []) hx hb hml hown hts hK hT0 hZ (fun _ h => h) hS0 (c_X11_heirNow l G Y P (o) hM) trivial wd_X11_heirNow wV_X11_heirNow wL_X11_146 (hM.o rfl) rfl rfl hl.1 rfl (Nat.le_of_ble_eq_true rfl) dX11_heir_1 ⟨Nat.le_of_ble_eq_true rfl, Nat.le_of_ble_eq_true rfl⟩ ⟨Nat.zero_le _, Nat.zero_le _⟩ (fun r2 H1 locs hp1 hT1 hS1 hk1 => ?_)
  obtain ⟨hp1, he⟩ := hp1
  have he := he.symm
  subst he
  have f3 : r2.toInt = -1 ∨ (0 ≤ r2.toInt ∧ r2.toInt < v1.toInt) := by have q := hp1; rw [mv1] at q; exact q
  refine lv_istore_n (lv' := [(1, .int r2), (0, .ref (o))]) hx hb dX11_heir_4 rfl hl (by decide) rfl (fun ls hl => ?_)
  refine lv_iload_n hx hb dX11_heir_5 rfl (lv_at hl 0 rfl) ?_
  refine lv_iconst (v := (-1)) hx hb dX11_heir_6 (by decide) ?_
  refine lv_icmp_ne (tgt := 18) hx hb dX11_heir_7 (by decide) (fun c4 => ?_) (fun c4 => ?_)
  · skip
    have c4 : ¬ r2.toInt = (-1 : Int) := h_neI c4
    refine lv_aload_n hx hb dX11_heir_18 rfl (lv_at hl 1 rfl) ?_
    refine lv_iload_n hx hb dX11_heir_19 rfl (lv_at hl 0 rfl) ?_
    refine h_callVi (T := TX11) (rest := []) (As := [.int r2]) hx hb hml hown hts hK hT0 hZ (fun _ h => h) hS1 (c_X11_gives l G Y P (o) hM r2) trivial wd_X11_gives wV_X11_gives wL_X11_276 (hM.o rfl) rfl rfl hl.1 rfl (Nat.le_of_ble_eq_true rfl) dX11_heir_20 ⟨Nat.le_of_ble_eq_true rfl, Nat.le_of_ble_eq_true rfl⟩ ⟨Nat.zero_le _, Nat.zero_le _⟩ (fun r5 H2 locs hp2 hT2 hS2 hk2 => ?_)
    obtain ⟨hp2, hB2⟩ := hp2
    have z6 : ∀ j : Nat, 1200 ≤ j → h_ai H2 (o + 1) j = h_ai H0 (o + 1) j := fun j hj => (h_ai_same hB2)
    have m7 : h_ai H2 (o + 1) 0 = v1 := (h_ai_same hB2).trans mv1
    have R8 : mR o H2 := hpr.same hB2
    have f9 : r5.toInt = r2.toInt := hp2.1
    exact hret _ _ _ _ _ hT2 hS2 ⟨trivial, ⟨R8, z6⟩⟩ dX11_heir_23
  · skip
    have c4 : r2.toInt = (-1 : Int) := congrArg Int32.toInt c4
    refine lv_aload_n hx hb dX11_heir_10 rfl (lv_at hl 1 rfl) ?_
    refine lv_iconst (v := 5) hx hb dX11_heir_11 (by decide) ?_
    refine h_callVi (T := TX11) (rest := []) (As := [.int 5]) hx hb hml hown hts hK hT0 hZ (fun _ h => h) hS1 (c_X11_refuse l G Y P (o) hM 5) trivial wd_X11_refuse wV_X11_refuse wL_X11_267 (hM.o rfl) rfl rfl hl.1 rfl (Nat.le_of_ble_eq_true rfl) dX11_heir_12 ⟨Nat.le_of_ble_eq_true rfl, Nat.le_of_ble_eq_true rfl⟩ ⟨Nat.zero_le _, Nat.zero_le _⟩ (fun r10 H3 locs hp3 hT3 hS3 hk3 => ?_)
    obtain ⟨hp3, hB3⟩ := hp3
    have z11 : ∀ j : Nat, 1200 ≤ j → h_ai H3 (o + 1) j = h_ai H0 (o + 1) j := fun j hj => (h_ai_same hB3)
    have m12 : h_ai H3 (o + 1) 0 = v1 := (h_ai_same hB3).trans mv1
    have R13 : mR o H3 := hpr.same hB3
    have f14 : r10.toInt = (-1) := hp3.1
    refine lv_goto (tgt := 23) hx hb dX11_heir_15 (by decide) ?_
    exact hret _ _ _ _ _ hT3 hS3 ⟨trivial, ⟨R13, z11⟩⟩ dX11_heir_23
set_option maxHeartbeats 4000000 in
set_option maxRecDepth 100000 in
theorem c_X11_add (l : Launch) (G : hG) (Y : hW) (P : Int32 → Prop) (o : Nat) (hM : h_On Y o (modE (tM P) o)) (u1 : Int32) : hMi l yX11_add cX11_add 2 (some .int) 3 62 G Y [.ref (o), .int u1] (fun H => mR o H) (fun H r H1 => (True) ∧ (mR o H1 ∧ mV o H H1)) := by
  refine h_ofi (by decide +kernel) (Nat.le_of_ble_eq_true rfl) ?_
  intro p e s m args below meth c H0 ls Q hx hb hts hown hml hK hZ hT0 hpr hS0 hl hret
  have hl : lv_has ls 2 [(0, .ref (o)), (1, .int u1)] := hl
  refine lv_iload_n hx hb dX11_add_0 rfl (lv_at hl 1 rfl) ?_
  refine lv_iconst (v := 0) hx hb dX11_add_1 (by decide) ?_
  refine lv_bipush (v := 99) hx hb dX11_add_2 (by decide) ?_
  refine h_callSi (rest := []) (As := [.int u1, .int 0, .int 99]) hx hb hml hown hts hK hT0 hZ (fun _ h => h) hS0 (c_X11_isFrom l G Y u1 0 99) trivial wd_X11_isFrom wS_X11_isFrom wL_X11_228 rfl hl.1 rfl (Nat.le_of_ble_eq_true rfl) dX11_add_4 ⟨Nat.le_of_ble_eq_true rfl, Nat.le_of_ble_eq_true rfl⟩ ⟨Nat.zero_le _, Nat.zero_le _⟩ (fun r1 H1 locs hp1 hT1 hS1 hk1 => ?_)
  obtain ⟨hp1, he⟩ := hp1
  have he := he.symm
  subst he
  have f2 : (r1.toInt = 1 ∧ (0 : Int) ≤ u1.toInt ∧ u1.toInt ≤ (99 : Int)) ∨ (r1.toInt = 0 ∧ ¬ ((0 : Int) ≤ u1.toInt ∧ u1.toInt ≤ (99 : Int))) := by have q := hp1.2; exact q
  refine lv_if_ne (tgt := 16) hx hb dX11_add_7 (by decide) (fun c3 => ?_) (fun c3 => ?_)
  · skip
    have c3 : ¬ r1.toInt = (0 : Int) := h_neI c3
    refine lv_aload_n hx hb dX11_add_16 rfl (lv_at hl 0 rfl) ?_
    refine lv_iconst (v := 0) hx hb dX11_add_17 (by decide) ?_
    refine h_callVi (T := TX11) (rest := []) (As := [.int 0]) hx hb hml hown hts hK hT0 hZ (fun _ h => h) hS1 (c_of l G Y P (o) hM 0 0 (by decide) (h_inc (by decide))) trivial wd_X11_of wV_X11_of wL_X11_47 (hM.o rfl) rfl rfl hl.1 rfl (Nat.le_of_ble_eq_true rfl) dX11_add_18 ⟨Nat.le_of_ble_eq_true rfl, Nat.le_of_ble_eq_true rfl⟩ ⟨Nat.zero_le _, Nat.zero_le _⟩ (fun r4 H2 locs hp2 hT2 hS2 hk2 => ?_)
    obtain ⟨hp2, he⟩ := hp2
    have he := he.symm
    subst he
    have mr4 : h_ai H0 (o + 1) 0 = r4 := hp2.1.symm
    have br4 := mP_N hp2.2 (by omega)
    refine lv_bipush (v := 8) hx hb dX11_add_21 (by decide) ?_
    refine lv_icmp_ne (tgt := 32) hx hb dX11_add_23 (by decide) (fun c5 => ?_) (fun c5 => ?_)
    · skip
      have c5 : ¬ r4.toInt = (8 : Int) := h_neI c5
      refine lv_aload_n hx hb dX11_add_32 rfl (lv_at hl 0 rfl) ?_
      refine lv_iload_n hx hb dX11_add_33 rfl (lv_at hl 1 rfl) ?_
      refine h_callVi (T := TX11) (rest := []) (As := [.int u1]) hx hb hml hown hts hK hT0 hZ (fun _ h => h) hS2 (c_X11_isTaken l G Y P (o) hM u1) trivial wd_X11_isTaken wV_X11_isTaken wL_X11_238 (hM.o rfl) rfl rfl hl.1 rfl (Nat.le_of_ble_eq_true rfl) dX11_add_34 ⟨Nat.le_of_ble_eq_true rfl, Nat.le_of_ble_eq_true rfl⟩ ⟨Nat.zero_le _, Nat.zero_le _⟩ (fun r6 H3 locs hp3 hT3 hS3 hk3 => ?_)
      obtain ⟨hp3, he⟩ := hp3
      have he := he.symm
      subst he
      refine lv_if_eq (tgt := 47) hx hb dX11_add_37 (by decide) (fun c7 => ?_) (fun c7 => ?_)
      · skip
        have c7 : r6.toInt = (0 : Int) := congrArg Int32.toInt c7
        refine lv_aload_n hx hb dX11_add_47 rfl (lv_at hl 0 rfl) ?_
        refine h_callVv (T := TX11) (rest := []) (As := []) hx hb hml hown hts hK hT0 hZ (fun _ h => h) hS3 (c_X11_isAnew l G Y P (o) hM) trivial wd_X11_isAnew wV_X11_isAnew wL_X11_291 (hM.o rfl) rfl rfl hl.1 rfl (Nat.le_of_ble_eq_true rfl) dX11_add_48 ⟨Nat.le_of_ble_eq_true rfl, Nat.le_of_ble_eq_true rfl⟩ ⟨Nat.zero_le _, Nat.zero_le _⟩ (fun H4 locs hp4 hT4 hS4 hk4 => ?_)
        obtain ⟨hp4, hB4⟩ := hp4
        have z8 : ∀ j : Nat, 1200 ≤ j → h_ai H4 (o + 1) j = h_ai H0 (o + 1) j := fun j hj => (hB4 j (by unfold mK; omega))
        have m9 : h_ai H4 (o + 1) 0 = r4 := (hB4 _ (by unfold mK; omega)).trans mr4
        have R10 : mR o H4 := hpr.keep hB4
        refine lv_aload_n hx hb dX11_add_51 rfl (lv_at hl 0 rfl) ?_
        refine lv_aload_n hx hb dX11_add_52 rfl (lv_at hl 0 rfl) ?_
        refine lv_iload_n hx hb dX11_add_53 rfl (lv_at hl 1 rfl) ?_
        refine h_callVi (T := TX11) (rest := [.ref (o)]) (As := [.int u1]) hx hb hml hown hts hK hT4 hZ (fun _ h => h) hS4 (c_X11_comes l G Y P (o) hM u1) ⟨R10, (show (h_ai H4 (o + 1) 0).toInt ≤ 7 from by rw [m9]; exact (show r4.toInt ≤ 7 from by omega))⟩ wd_X11_comes wV_X11_comes wL_X11_241 (hM.o rfl) rfl rfl hl.1 rfl (Nat.le_of_ble_eq_true rfl) dX11_add_54 ⟨Nat.le_of_ble_eq_true rfl, Nat.le_of_ble_eq_true rfl⟩ ⟨Nat.zero_le _, Nat.zero_le _⟩ (fun r11 H5 locs hp5 hT5 hS5 hk5 => ?_)
        obtain ⟨hp5, hB5⟩ := hp5
        have z12 : ∀ j : Nat, 1200 ≤ j → h_ai H5 (o + 1) j = h_ai H0 (o + 1) j := fun j hj => (hB5.2.1 j (by omega)).trans (z8 j hj)
        have R13 : mR o H5 := hB5.1
        refine h_callVi (T := TX11) (rest := []) (As := [.int r11]) hx hb hml hown hts hK hT5 hZ (fun _ h => h) hS5 (c_X11_gives l G Y P (o) hM r11) trivial wd_X11_gives wV_X11_gives wL_X11_276 (hM.o rfl) rfl rfl hl.1 rfl (Nat.le_of_ble_eq_true rfl) dX11_add_57 ⟨Nat.le_of_ble_eq_true rfl, Nat.le_of_ble_eq_true rfl⟩ ⟨Nat.zero_le _, Nat.zero_le _⟩ (fun r14 H6 locs hp6 hT6 hS6 hk6 => ?_)
        obtain ⟨hp6, hB6⟩ := hp6
        have z15 : ∀ j : Nat, 1200 ≤ j → h_ai H6 (o + 1) j = h_ai H0 (o + 1) j := fun j hj => (h_ai_same hB6).trans (z12 j hj)
        have R16 : mR o H6 := R13.same hB6
        have f17 : r14.toInt = r11.toInt := hp6.1
        exact hret _ _ _ _ _ hT6 hS6 ⟨trivial, ⟨R16, z15⟩⟩ dX11_add_60
      · skip
        have c7 : ¬ r6.toInt = (0 : Int) := h_neI c7
        refine lv_aload_n hx hb dX11_add_40 rfl (lv_at hl 0 rfl) ?_
        refine lv_bipush (v := 8) hx hb dX11_add_41 (by decide) ?_
        refine h_callVi (T := TX11) (rest := []) (As := [.int 8]) hx hb hml hown hts hK hT0 hZ (fun _ h => h) hS3 (c_X11_refuse l G Y P (o) hM 8) trivial wd_X11_refuse wV_X11_refuse wL_X11_267 (hM.o rfl) rfl rfl hl.1 rfl (Nat.le_of_ble_eq_true rfl) dX11_add_43 ⟨Nat.le_of_ble_eq_true rfl, Nat.le_of_ble_eq_true rfl⟩ ⟨Nat.zero_le _, Nat.zero_le _⟩ (fun r18 H7 locs hp7 hT7 hS7 hk7 => ?_)
        obtain ⟨hp7, hB7⟩ := hp7
        have z19 : ∀ j : Nat, 1200 ≤ j → h_ai H7 (o + 1) j = h_ai H0 (o + 1) j := fun j hj => (h_ai_same hB7)
        have m20 : h_ai H7 (o + 1) 0 = r4 := (h_ai_same hB7).trans mr4
        have R21 : mR o H7 := hpr.same hB7
        have f22 : r18.toInt = (-1) := hp7.1
        exact hret _ _ _ _ _ hT7 hS7 ⟨trivial, ⟨R21, z19⟩⟩ dX11_add_46
    · skip
      have c5 : r4.toInt = (8 : Int) := congrArg Int32.toInt c5
      refine lv_aload_n hx hb dX11_add_26 rfl (lv_at hl 0 rfl) ?_
      refine lv_iconst (v := 3) hx hb dX11_add_27 (by decide) ?_
      refine h_callVi (T := TX11) (rest := []) (As := [.int 3]) hx hb hml hown hts hK hT0 hZ (fun _ h => h) hS2 (c_X11_refuse l G Y P (o) hM 3) trivial wd_X11_refuse wV_X11_refuse wL_X11_267 (hM.o rfl) rfl rfl hl.1 rfl (Nat.le_of_ble_eq_true rfl) dX11_add_28 ⟨Nat.le_of_ble_eq_true rfl, Nat.le_of_ble_eq_true rfl⟩ ⟨Nat.zero_le _, Nat.zero_le _⟩ (fun r23 H8 locs hp8 hT8 hS8 hk8 => ?_)
      obtain ⟨hp8, hB8⟩ := hp8
      have z24 : ∀ j : Nat, 1200 ≤ j → h_ai H8 (o + 1) j = h_ai H0 (o + 1) j := fun j hj => (h_ai_same hB8)
      have m25 : h_ai H8 (o + 1) 0 = r4 := (h_ai_same hB8).trans mr4
      have R26 : mR o H8 := hpr.same hB8
      have f27 : r23.toInt = (-1) := hp8.1
      exact hret _ _ _ _ _ hT8 hS8 ⟨trivial, ⟨R26, z24⟩⟩ dX11_add_31
  · skip
    have c3 : r1.toInt = (0 : Int) := congrArg Int32.toInt c3
    refine lv_aload_n hx hb dX11_add_10 rfl (lv_at hl 0 rfl) ?_
    refine lv_iconst (v := 1) hx hb dX11_add_11 (by decide) ?_
    refine h_callVi (T := TX11) (rest := []) (As := [.int 1]) hx hb hml hown hts hK hT0 hZ (fun _ h => h) hS1 (c_X11_refuse l G Y P (o) hM 1) trivial wd_X11_refuse wV_X11_refuse wL_X11_267 (hM.o rfl) rfl rfl hl.1 rfl (Nat.le_of_ble_eq_true rfl) dX11_add_12 ⟨Nat.le_of_ble_eq_true rfl, Nat.le_of_ble_eq_true rfl⟩ ⟨Nat.zero_le _, Nat.zero_le _⟩ (fun r28 H9 locs hp9 hT9 hS9 hk9 => ?_)
    obtain ⟨hp9, hB9⟩ := hp9
    have z29 : ∀ j : Nat, 1200 ≤ j → h_ai H9 (o + 1) j = h_ai H0 (o + 1) j := fun j hj => (h_ai_same hB9)
    have R30 : mR o H9 := hpr.same hB9
    have f31 : r28.toInt = (-1) := hp9.1
    exact hret _ _ _ _ _ hT9 hS9 ⟨trivial, ⟨R30, z29⟩⟩ dX11_add_15
set_option maxHeartbeats 4000000 in
set_option maxRecDepth 100000 in
theorem c_X11_send (l : Launch) (G : hG) (Y : hW) (P : Int32 → Prop) (o : Nat) (hM : h_On Y o (modE (tM P) o)) (u1 u2 u3 : Int32) : hMi l yX11_send cX11_send 4 (some .int) 2 46 G Y [.ref (o), .int u1, .int u2, .int u3] (fun H => mR o H) (fun H r H1 => (True) ∧ (mR o H1 ∧ mV o H H1)) := by
  refine h_ofi (by decide +kernel) (Nat.le_of_ble_eq_true rfl) ?_
  intro p e s m args below meth c H0 ls Q hx hb hts hown hml hK hZ hT0 hpr hS0 hl hret
  have hl : lv_has ls 4 [(0, .ref (o)), (1, .int u1), (2, .int u2), (3, .int u3)] := hl
  refine lv_iload_n hx hb dX11_send_0 rfl (lv_at hl 3 rfl) ?_
  refine lv_iconst (v := 0) hx hb dX11_send_1 (by decide) ?_
  refine lv_bipush (v := 7) hx hb dX11_send_2 (by decide) ?_
  refine h_callSi (rest := []) (As := [.int u3, .int 0, .int 7]) hx hb hml hown hts hK hT0 hZ (fun _ h => h) hS0 (c_X11_isFrom l G Y u3 0 7) trivial wd_X11_isFrom wS_X11_isFrom wL_X11_228 rfl hl.1 rfl (Nat.le_of_ble_eq_true rfl) dX11_send_4 ⟨Nat.le_of_ble_eq_true rfl, Nat.le_of_ble_eq_true rfl⟩ ⟨Nat.zero_le _, Nat.zero_le _⟩ (fun r1 H1 locs hp1 hT1 hS1 hk1 => ?_)
  obtain ⟨hp1, he⟩ := hp1
  have he := he.symm
  subst he
  have f2 : (r1.toInt = 1 ∧ (0 : Int) ≤ u3.toInt ∧ u3.toInt ≤ (7 : Int)) ∨ (r1.toInt = 0 ∧ ¬ ((0 : Int) ≤ u3.toInt ∧ u3.toInt ≤ (7 : Int))) := by have q := hp1.2; exact q
  refine lv_if_ne (tgt := 16) hx hb dX11_send_7 (by decide) (fun c3 => ?_) (fun c3 => ?_)
  · skip
    have c3 : ¬ r1.toInt = (0 : Int) := h_neI c3
    refine lv_aload_n hx hb dX11_send_16 rfl (lv_at hl 0 rfl) ?_
    refine lv_iload_n hx hb dX11_send_17 rfl (lv_at hl 1 rfl) ?_
    obtain ⟨v4, mv4⟩ : ∃ x, h_ai H0 (o + 1) 0 = x := ⟨_, rfl⟩
    have bv4 := mP_N (mP_cell hM hT0 (j := 0) (by omega)) (by omega)
    rw [mv4] at bv4
    refine h_callVi (T := TX11) (rest := []) (As := [.int u1]) hx hb hml hown hts hK hT0 hZ (fun _ h => h) hS1 (c_X11_isStation l G Y P (o) hM u1) trivial wd_X11_isStation wV_X11_isStation wL_X11_51 (hM.o rfl) rfl rfl hl.1 rfl (Nat.le_of_ble_eq_true rfl) dX11_send_18 ⟨Nat.le_of_ble_eq_true rfl, Nat.le_of_ble_eq_true rfl⟩ ⟨Nat.zero_le _, Nat.zero_le _⟩ (fun r5 H2 locs hp2 hT2 hS2 hk2 => ?_)
    obtain ⟨hp2, he⟩ := hp2
    have he := he.symm
    subst he
    have f6 : r5.toInt = 0 ∨ (0 ≤ u1.toInt ∧ u1.toInt < v4.toInt) := by have q := hp2.2; rw [mv4] at q; exact q
    refine lv_if_eq (tgt := 32) hx hb dX11_send_21 (by decide) (fun c7 => ?_) (fun c7 => ?_)
    · skip
      have c7 : r5.toInt = (0 : Int) := congrArg Int32.toInt c7
      refine lv_aload_n hx hb dX11_send_32 rfl (lv_at hl 0 rfl) ?_
      refine lv_iconst (v := 2) hx hb dX11_send_33 (by decide) ?_
      refine h_callVi (T := TX11) (rest := []) (As := [.int 2]) hx hb hml hown hts hK hT0 hZ (fun _ h => h) hS2 (c_X11_refuse l G Y P (o) hM 2) trivial wd_X11_refuse wV_X11_refuse wL_X11_267 (hM.o rfl) rfl rfl hl.1 rfl (Nat.le_of_ble_eq_true rfl) dX11_send_34 ⟨Nat.le_of_ble_eq_true rfl, Nat.le_of_ble_eq_true rfl⟩ ⟨Nat.zero_le _, Nat.zero_le _⟩ (fun r8 H3 locs hp3 hT3 hS3 hk3 => ?_)
      obtain ⟨hp3, hB3⟩ := hp3
      have z9 : ∀ j : Nat, 1200 ≤ j → h_ai H3 (o + 1) j = h_ai H0 (o + 1) j := fun j hj => (h_ai_same hB3)
      have m10 : h_ai H3 (o + 1) 0 = v4 := (h_ai_same hB3).trans mv4
      have R11 : mR o H3 := hpr.same hB3
      have f12 : r8.toInt = (-1) := hp3.1
      exact hret _ _ _ _ _ hT3 hS3 ⟨trivial, ⟨R11, z9⟩⟩ dX11_send_37
    · skip
      have c7 : ¬ r5.toInt = (0 : Int) := h_neI c7
      refine lv_aload_n hx hb dX11_send_24 rfl (lv_at hl 0 rfl) ?_
      refine lv_iload_n hx hb dX11_send_25 rfl (lv_at hl 2 rfl) ?_
      refine h_callVi (T := TX11) (rest := []) (As := [.int u2]) hx hb hml hown hts hK hT0 hZ (fun _ h => h) hS2 (c_X11_isStation l G Y P (o) hM u2) trivial wd_X11_isStation wV_X11_isStation wL_X11_51 (hM.o rfl) rfl rfl hl.1 rfl (Nat.le_of_ble_eq_true rfl) dX11_send_26 ⟨Nat.le_of_ble_eq_true rfl, Nat.le_of_ble_eq_true rfl⟩ ⟨Nat.zero_le _, Nat.zero_le _⟩ (fun r13 H4 locs hp4 hT4 hS4 hk4 => ?_)
      obtain ⟨hp4, he⟩ := hp4
      have he := he.symm
      subst he
      have f14 : r13.toInt = 0 ∨ (0 ≤ u2.toInt ∧ u2.toInt < v4.toInt) := by have q := hp4.2; rw [mv4] at q; exact q
      refine lv_if_ne (tgt := 38) hx hb dX11_send_29 (by decide) (fun c15 => ?_) (fun c15 => ?_)
      · skip
        have c15 : ¬ r13.toInt = (0 : Int) := h_neI c15
        refine lv_aload_n hx hb dX11_send_38 rfl (lv_at hl 0 rfl) ?_
        refine lv_bipush (v := 80) hx hb dX11_send_39 (by decide) ?_
        refine lv_iload_n hx hb dX11_send_41 rfl (lv_at hl 1 rfl) ?_
        refine lv_iadd hx hb dX11_send_42 ?_
        obtain ⟨x16, qx16, ix16⟩ := h_addX 80 u1 (80 : Int) u1.toInt rfl rfl (by omega) (by omega)
        refine h_top (v := x16) qx16 ?_
        refine h_callVi (T := TX11) (rest := []) (As := [.int x16]) hx hb hml hown hts hK hT0 hZ (fun _ h => h) hS4 (c_of l G Y P (o) hM x16 (80 + u1.toInt).toNat (show x16.toInt.toNat = (80 + u1.toInt).toNat from by omega) (h_vin (by omega) (by omega))) trivial wd_X11_of wV_X11_of wL_X11_47 (hM.o rfl) rfl rfl hl.1 rfl (Nat.le_of_ble_eq_true rfl) dX11_send_43 ⟨Nat.le_of_ble_eq_true rfl, Nat.le_of_ble_eq_true rfl⟩ ⟨Nat.zero_le _, Nat.zero_le _⟩ (fun r17 H5 locs hp5 hT5 hS5 hk5 => ?_)
        obtain ⟨hp5, he⟩ := hp5
        have he := he.symm
        subst he
        have mr17 : h_ai H0 (o + 1) (80 + u1.toInt).toNat = r17 := hp5.1.symm
        have br17 := mP_wm hp5.2 (by omega)
        refine lv_bipush (v := 6) hx hb dX11_send_46 (by decide) ?_
        refine lv_icmp_ne (tgt := 57) hx hb dX11_send_48 (by decide) (fun c18 => ?_) (fun c18 => ?_)
        · skip
          have c18 : ¬ r17.toInt = (6 : Int) := h_neI c18
          refine lv_iload_n hx hb dX11_send_57 rfl (lv_at hl 1 rfl) ?_
          refine lv_iload_n hx hb dX11_send_58 rfl (lv_at hl 2 rfl) ?_
          refine lv_icmp_ne (tgt := 71) hx hb dX11_send_59 (by decide) (fun c19 => ?_) (fun c19 => ?_)
          · skip
            have c19 : ¬ u1.toInt = u2.toInt := h_neI c19
            refine lv_aload_n hx hb dX11_send_71 rfl (lv_at hl 0 rfl) ?_
            refine lv_aload_n hx hb dX11_send_72 rfl (lv_at hl 0 rfl) ?_
            refine lv_iload_n hx hb dX11_send_73 rfl (lv_at hl 1 rfl) ?_
            refine lv_iload_n hx hb dX11_send_74 rfl (lv_at hl 2 rfl) ?_
            refine lv_iload_n hx hb dX11_send_75 rfl (lv_at hl 3 rfl) ?_
            refine h_callVi (T := TX11) (rest := [.ref (o)]) (As := [.int u1, .int u2, .int u3]) hx hb hml hown hts hK hT0 hZ (fun _ h => h) hS5 (c_X11_sends l G Y P (o) hM u1 u2 u3 (show 0 ≤ u1.toInt ∧ u1.toInt ≤ 7 from by omega) (show 0 ≤ u2.toInt ∧ u2.toInt ≤ 7 from by omega) (show 0 ≤ u3.toInt ∧ u3.toInt ≤ 7 from by omega)) (show (h_ai H0 (o + 1) (80 + u1.toInt).toNat).toInt ≤ 5 from by rw [mr17]; exact (show r17.toInt ≤ 5 from by omega)) wd_X11_sends wV_X11_sends wL_X11_247 (hM.o rfl) rfl rfl hl.1 rfl (Nat.le_of_ble_eq_true rfl) dX11_send_76 ⟨Nat.le_of_ble_eq_true rfl, Nat.le_of_ble_eq_true rfl⟩ ⟨Nat.zero_le _, Nat.zero_le _⟩ (fun r20 H6 locs hp6 hT6 hS6 hk6 => ?_)
            obtain ⟨hp6, hB6⟩ := hp6
            have z21 : ∀ j : Nat, 1200 ≤ j → h_ai H6 (o + 1) j = h_ai H0 (o + 1) j := fun j hj => (hB6.1 j (by unfold mK; omega))
            have m22 : h_ai H6 (o + 1) 0 = v4 := (hB6.1 _ (by unfold mK; omega)).trans mv4
            have R23 : mR o H6 := hpr.keep hB6.1
            refine h_callVi (T := TX11) (rest := []) (As := [.int r20]) hx hb hml hown hts hK hT6 hZ (fun _ h => h) hS6 (c_X11_gives l G Y P (o) hM r20) trivial wd_X11_gives wV_X11_gives wL_X11_276 (hM.o rfl) rfl rfl hl.1 rfl (Nat.le_of_ble_eq_true rfl) dX11_send_79 ⟨Nat.le_of_ble_eq_true rfl, Nat.le_of_ble_eq_true rfl⟩ ⟨Nat.zero_le _, Nat.zero_le _⟩ (fun r24 H7 locs hp7 hT7 hS7 hk7 => ?_)
            obtain ⟨hp7, hB7⟩ := hp7
            have z25 : ∀ j : Nat, 1200 ≤ j → h_ai H7 (o + 1) j = h_ai H0 (o + 1) j := fun j hj => (h_ai_same hB7).trans (z21 j hj)
            have m26 : h_ai H7 (o + 1) 0 = v4 := (h_ai_same hB7).trans m22
            have R27 : mR o H7 := R23.same hB7
            have f28 : r24.toInt = r20.toInt := hp7.1
            exact hret _ _ _ _ _ hT7 hS7 ⟨trivial, ⟨R27, z25⟩⟩ dX11_send_82
          · skip
            have c19 : u1.toInt = u2.toInt := congrArg Int32.toInt c19
            refine lv_aload_n hx hb dX11_send_62 rfl (lv_at hl 0 rfl) ?_
            refine lv_bipush (v := 8) hx hb dX11_send_63 (by decide) ?_
            refine h_callVi (T := TX11) (rest := []) (As := [.int 8]) hx hb hml hown hts hK hT0 hZ (fun _ h => h) hS5 (c_X11_refuse l G Y P (o) hM 8) trivial wd_X11_refuse wV_X11_refuse wL_X11_267 (hM.o rfl) rfl rfl hl.1 rfl (Nat.le_of_ble_eq_true rfl) dX11_send_65 ⟨Nat.le_of_ble_eq_true rfl, Nat.le_of_ble_eq_true rfl⟩ ⟨Nat.zero_le _, Nat.zero_le _⟩ (fun r29 H8 locs hp8 hT8 hS8 hk8 => ?_)
            obtain ⟨hp8, hB8⟩ := hp8
            have z30 : ∀ j : Nat, 1200 ≤ j → h_ai H8 (o + 1) j = h_ai H0 (o + 1) j := fun j hj => (h_ai_same hB8)
            have m31 : h_ai H8 (o + 1) 0 = v4 := (h_ai_same hB8).trans mv4
            have m32 : h_ai H8 (o + 1) (80 + u1.toInt).toNat = r17 := (h_ai_same hB8).trans mr17
            have R33 : mR o H8 := hpr.same hB8
            have f34 : r29.toInt = (-1) := hp8.1
            refine lv_goto (tgt := 82) hx hb dX11_send_68 (by decide) ?_
            exact hret _ _ _ _ _ hT8 hS8 ⟨trivial, ⟨R33, z30⟩⟩ dX11_send_82
        · skip
          have c18 : r17.toInt = (6 : Int) := congrArg Int32.toInt c18
          refine lv_aload_n hx hb dX11_send_51 rfl (lv_at hl 0 rfl) ?_
          refine lv_iconst (v := 3) hx hb dX11_send_52 (by decide) ?_
          refine h_callVi (T := TX11) (rest := []) (As := [.int 3]) hx hb hml hown hts hK hT0 hZ (fun _ h => h) hS5 (c_X11_refuse l G Y P (o) hM 3) trivial wd_X11_refuse wV_X11_refuse wL_X11_267 (hM.o rfl) rfl rfl hl.1 rfl (Nat.le_of_ble_eq_true rfl) dX11_send_53 ⟨Nat.le_of_ble_eq_true rfl, Nat.le_of_ble_eq_true rfl⟩ ⟨Nat.zero_le _, Nat.zero_le _⟩ (fun r35 H9 locs hp9 hT9 hS9 hk9 => ?_)
          obtain ⟨hp9, hB9⟩ := hp9
          have z36 : ∀ j : Nat, 1200 ≤ j → h_ai H9 (o + 1) j = h_ai H0 (o + 1) j := fun j hj => (h_ai_same hB9)
          have m37 : h_ai H9 (o + 1) 0 = v4 := (h_ai_same hB9).trans mv4
          have m38 : h_ai H9 (o + 1) (80 + u1.toInt).toNat = r17 := (h_ai_same hB9).trans mr17
          have R39 : mR o H9 := hpr.same hB9
          have f40 : r35.toInt = (-1) := hp9.1
          exact hret _ _ _ _ _ hT9 hS9 ⟨trivial, ⟨R39, z36⟩⟩ dX11_send_56
      · skip
        have c15 : r13.toInt = (0 : Int) := congrArg Int32.toInt c15
        refine lv_aload_n hx hb dX11_send_32 rfl (lv_at hl 0 rfl) ?_
        refine lv_iconst (v := 2) hx hb dX11_send_33 (by decide) ?_
        refine h_callVi (T := TX11) (rest := []) (As := [.int 2]) hx hb hml hown hts hK hT0 hZ (fun _ h => h) hS4 (c_X11_refuse l G Y P (o) hM 2) trivial wd_X11_refuse wV_X11_refuse wL_X11_267 (hM.o rfl) rfl rfl hl.1 rfl (Nat.le_of_ble_eq_true rfl) dX11_send_34 ⟨Nat.le_of_ble_eq_true rfl, Nat.le_of_ble_eq_true rfl⟩ ⟨Nat.zero_le _, Nat.zero_le _⟩ (fun r41 H10 locs hp10 hT10 hS10 hk10 => ?_)
        obtain ⟨hp10, hB10⟩ := hp10
        have z42 : ∀ j : Nat, 1200 ≤ j → h_ai H10 (o + 1) j = h_ai H0 (o + 1) j := fun j hj => (h_ai_same hB10)
        have m43 : h_ai H10 (o + 1) 0 = v4 := (h_ai_same hB10).trans mv4
        have R44 : mR o H10 := hpr.same hB10
        have f45 : r41.toInt = (-1) := hp10.1
        exact hret _ _ _ _ _ hT10 hS10 ⟨trivial, ⟨R44, z42⟩⟩ dX11_send_37
  · skip
    have c3 : r1.toInt = (0 : Int) := congrArg Int32.toInt c3
    refine lv_aload_n hx hb dX11_send_10 rfl (lv_at hl 0 rfl) ?_
    refine lv_iconst (v := 1) hx hb dX11_send_11 (by decide) ?_
    refine h_callVi (T := TX11) (rest := []) (As := [.int 1]) hx hb hml hown hts hK hT0 hZ (fun _ h => h) hS1 (c_X11_refuse l G Y P (o) hM 1) trivial wd_X11_refuse wV_X11_refuse wL_X11_267 (hM.o rfl) rfl rfl hl.1 rfl (Nat.le_of_ble_eq_true rfl) dX11_send_12 ⟨Nat.le_of_ble_eq_true rfl, Nat.le_of_ble_eq_true rfl⟩ ⟨Nat.zero_le _, Nat.zero_le _⟩ (fun r46 H11 locs hp11 hT11 hS11 hk11 => ?_)
    obtain ⟨hp11, hB11⟩ := hp11
    have z47 : ∀ j : Nat, 1200 ≤ j → h_ai H11 (o + 1) j = h_ai H0 (o + 1) j := fun j hj => (h_ai_same hB11)
    have R48 : mR o H11 := hpr.same hB11
    have f49 : r46.toInt = (-1) := hp11.1
    exact hret _ _ _ _ _ hT11 hS11 ⟨trivial, ⟨R48, z47⟩⟩ dX11_send_15
set_option maxHeartbeats 4000000 in
set_option maxRecDepth 100000 in
theorem c_X11_off (l : Launch) (G : hG) (Y : hW) (P : Int32 → Prop) (o : Nat) (hM : h_On Y o (modE (tM P) o)) (u1 : Int32) : hMi l yX11_off cX11_off 2 (some .boolean) 3 64 G Y [.ref (o), .int u1] (fun H => mR o H) (fun H r H1 => ((r = 0 ∨ r = 1) ∧ (True)) ∧ (mR o H1 ∧ mV o H H1)) := by
  refine h_ofz (by decide +kernel) (Nat.le_of_ble_eq_true rfl) ?_
  intro p e s m args below meth c H0 ls Q hx hb hts hown hml hK hZ hT0 hpr hS0 hl hret
  have hl : lv_has ls 2 [(0, .ref (o)), (1, .int u1)] := hl
  refine lv_aload_n hx hb dX11_off_0 rfl (lv_at hl 0 rfl) ?_
  refine lv_iload_n hx hb dX11_off_1 rfl (lv_at hl 1 rfl) ?_
  obtain ⟨v1, mv1⟩ : ∃ x, h_ai H0 (o + 1) 0 = x := ⟨_, rfl⟩
  have bv1 := mP_N (mP_cell hM hT0 (j := 0) (by omega)) (by omega)
  rw [mv1] at bv1
  refine h_callVi (T := TX11) (rest := []) (As := [.int u1]) hx hb hml hown hts hK hT0 hZ (fun _ h => h) hS0 (c_X11_isStation l G Y P (o) hM u1) trivial wd_X11_isStation wV_X11_isStation wL_X11_51 (hM.o rfl) rfl rfl hl.1 rfl (Nat.le_of_ble_eq_true rfl) dX11_off_2 ⟨Nat.le_of_ble_eq_true rfl, Nat.le_of_ble_eq_true rfl⟩ ⟨Nat.zero_le _, Nat.zero_le _⟩ (fun r2 H1 locs hp1 hT1 hS1 hk1 => ?_)
  obtain ⟨hp1, he⟩ := hp1
  have he := he.symm
  subst he
  have f3 : r2.toInt = 0 ∨ (0 ≤ u1.toInt ∧ u1.toInt < v1.toInt) := by have q := hp1.2; rw [mv1] at q; exact q
  refine lv_if_ne (tgt := 14) hx hb dX11_off_5 (by decide) (fun c4 => ?_) (fun c4 => ?_)
  · skip
    have c4 : ¬ r2.toInt = (0 : Int) := h_neI c4
    refine lv_aload_n hx hb dX11_off_14 rfl (lv_at hl 0 rfl) ?_
    refine lv_iload_n hx hb dX11_off_15 rfl (lv_at hl 1 rfl) ?_
    refine h_callVi (T := TX11) (rest := []) (As := [.int u1]) hx hb hml hown hts hK hT0 hZ (fun _ h => h) hS1 (c_X11_isOn l G Y P (o) hM u1) trivial wd_X11_isOn wV_X11_isOn wL_X11_55 (hM.o rfl) rfl rfl hl.1 rfl (Nat.le_of_ble_eq_true rfl) dX11_off_16 ⟨Nat.le_of_ble_eq_true rfl, Nat.le_of_ble_eq_true rfl⟩ ⟨Nat.zero_le _, Nat.zero_le _⟩ (fun r5 H2 locs hp2 hT2 hS2 hk2 => ?_)
    obtain ⟨hp2, he⟩ := hp2
    have he := he.symm
    subst he
    have f6 : r5.toInt = 0 ∨ (0 ≤ u1.toInt ∧ u1.toInt < v1.toInt) := by have q := hp2.2; rw [mv1] at q; exact q
    refine lv_if_ne (tgt := 28) hx hb dX11_off_19 (by decide) (fun c7 => ?_) (fun c7 => ?_)
    · skip
      have c7 : ¬ r5.toInt = (0 : Int) := h_neI c7
      refine lv_aload_n hx hb dX11_off_28 rfl (lv_at hl 0 rfl) ?_
      refine lv_iload_n hx hb dX11_off_29 rfl (lv_at hl 1 rfl) ?_
      refine h_callVv (T := TX11) (rest := []) (As := [.int u1]) hx hb hml hown hts hK hT0 hZ (fun _ h => h) hS2 (c_X11_turnsOff l G Y P (o) hM u1 (show (-1) ≤ u1.toInt ∧ u1.toInt ≤ 7 from by omega)) hpr wd_X11_turnsOff wV_X11_turnsOff wL_X11_140 (hM.o rfl) rfl rfl hl.1 rfl (Nat.le_of_ble_eq_true rfl) dX11_off_30 ⟨Nat.le_of_ble_eq_true rfl, Nat.le_of_ble_eq_true rfl⟩ ⟨Nat.zero_le _, Nat.zero_le _⟩ (fun H3 locs hp3 hT3 hS3 hk3 => ?_)
      obtain ⟨hp3, hB3⟩ := hp3
      have z8 : ∀ j : Nat, 1200 ≤ j → h_ai H3 (o + 1) j = h_ai H0 (o + 1) j := fun j hj => (hB3.2 j (by omega))
      have m9 : h_ai H3 (o + 1) 0 = v1 := (hB3.2 _ (by omega)).trans mv1
      have R10 : mR o H3 := hB3.1
      refine lv_aload_n hx hb dX11_off_33 rfl (lv_at hl 0 rfl) ?_
      refine h_callVv (T := TX11) (rest := []) (As := []) hx hb hml hown hts hK hT3 hZ (fun _ h => h) hS3 (c_X11_isAnew l G Y P (o) hM) trivial wd_X11_isAnew wV_X11_isAnew wL_X11_291 (hM.o rfl) rfl rfl hl.1 rfl (Nat.le_of_ble_eq_true rfl) dX11_off_34 ⟨Nat.le_of_ble_eq_true rfl, Nat.le_of_ble_eq_true rfl⟩ ⟨Nat.zero_le _, Nat.zero_le _⟩ (fun H4 locs hp4 hT4 hS4 hk4 => ?_)
      obtain ⟨hp4, hB4⟩ := hp4
      have z11 : ∀ j : Nat, 1200 ≤ j → h_ai H4 (o + 1) j = h_ai H0 (o + 1) j := fun j hj => (hB4 j (by unfold mK; omega)).trans (z8 j hj)
      have m12 : h_ai H4 (o + 1) 0 = v1 := (hB4 _ (by unfold mK; omega)).trans m9
      have R13 : mR o H4 := R10.keep hB4
      refine lv_aload_n hx hb dX11_off_37 rfl (lv_at hl 0 rfl) ?_
      refine lv_iconst (v := 0) hx hb dX11_off_38 (by decide) ?_
      refine h_callVi (T := TX11) (rest := []) (As := [.int 0]) hx hb hml hown hts hK hT4 hZ (fun _ h => h) hS4 (c_X11_isSo l G Y P (o) hM 0) trivial wd_X11_isSo wV_X11_isSo wL_X11_294 (hM.o rfl) rfl rfl hl.1 rfl (Nat.le_of_ble_eq_true rfl) dX11_off_39 ⟨Nat.le_of_ble_eq_true rfl, Nat.le_of_ble_eq_true rfl⟩ ⟨Nat.zero_le _, Nat.zero_le _⟩ (fun r14 H5 locs hp5 hT5 hS5 hk5 => ?_)
      obtain ⟨hp5, hB5⟩ := hp5
      have z15 : ∀ j : Nat, 1200 ≤ j → h_ai H5 (o + 1) j = h_ai H0 (o + 1) j := fun j hj => (h_ai_same hB5).trans (z11 j hj)
      have m16 : h_ai H5 (o + 1) 0 = v1 := (h_ai_same hB5).trans m12
      have R17 : mR o H5 := R13.same hB5
      exact hret _ _ _ _ _ hT5 hS5 ⟨hp5.1, ⟨⟨hp5.1, trivial⟩, ⟨R17, z15⟩⟩⟩ dX11_off_42
    · skip
      have c7 : r5.toInt = (0 : Int) := congrArg Int32.toInt c7
      refine lv_aload_n hx hb dX11_off_22 rfl (lv_at hl 0 rfl) ?_
      refine lv_iconst (v := 4) hx hb dX11_off_23 (by decide) ?_
      refine h_callVi (T := TX11) (rest := []) (As := [.int 4]) hx hb hml hown hts hK hT0 hZ (fun _ h => h) hS2 (c_X11_isSo l G Y P (o) hM 4) trivial wd_X11_isSo wV_X11_isSo wL_X11_294 (hM.o rfl) rfl rfl hl.1 rfl (Nat.le_of_ble_eq_true rfl) dX11_off_24 ⟨Nat.le_of_ble_eq_true rfl, Nat.le_of_ble_eq_true rfl⟩ ⟨Nat.zero_le _, Nat.zero_le _⟩ (fun r18 H6 locs hp6 hT6 hS6 hk6 => ?_)
      obtain ⟨hp6, hB6⟩ := hp6
      have z19 : ∀ j : Nat, 1200 ≤ j → h_ai H6 (o + 1) j = h_ai H0 (o + 1) j := fun j hj => (h_ai_same hB6)
      have m20 : h_ai H6 (o + 1) 0 = v1 := (h_ai_same hB6).trans mv1
      have R21 : mR o H6 := hpr.same hB6
      exact hret _ _ _ _ _ hT6 hS6 ⟨hp6.1, ⟨⟨hp6.1, trivial⟩, ⟨R21, z19⟩⟩⟩ dX11_off_27
  · skip
    have c4 : r2.toInt = (0 : Int) := congrArg Int32.toInt c4
    refine lv_aload_n hx hb dX11_off_8 rfl (lv_at hl 0 rfl) ?_
    refine lv_iconst (v := 2) hx hb dX11_off_9 (by decide) ?_
    refine h_callVi (T := TX11) (rest := []) (As := [.int 2]) hx hb hml hown hts hK hT0 hZ (fun _ h => h) hS1 (c_X11_isSo l G Y P (o) hM 2) trivial wd_X11_isSo wV_X11_isSo wL_X11_294 (hM.o rfl) rfl rfl hl.1 rfl (Nat.le_of_ble_eq_true rfl) dX11_off_10 ⟨Nat.le_of_ble_eq_true rfl, Nat.le_of_ble_eq_true rfl⟩ ⟨Nat.zero_le _, Nat.zero_le _⟩ (fun r22 H7 locs hp7 hT7 hS7 hk7 => ?_)
    obtain ⟨hp7, hB7⟩ := hp7
    have z23 : ∀ j : Nat, 1200 ≤ j → h_ai H7 (o + 1) j = h_ai H0 (o + 1) j := fun j hj => (h_ai_same hB7)
    have m24 : h_ai H7 (o + 1) 0 = v1 := (h_ai_same hB7).trans mv1
    have R25 : mR o H7 := hpr.same hB7
    exact hret _ _ _ _ _ hT7 hS7 ⟨hp7.1, ⟨⟨hp7.1, trivial⟩, ⟨R25, z23⟩⟩⟩ dX11_off_13
set_option maxHeartbeats 4000000 in
set_option maxRecDepth 100000 in
theorem c_X11_on (l : Launch) (G : hG) (Y : hW) (P : Int32 → Prop) (o : Nat) (hM : h_On Y o (modE (tM P) o)) (u1 : Int32) : hMi l yX11_on cX11_on 2 (some .boolean) 3 63 G Y [.ref (o), .int u1] (fun H => mR o H) (fun H r H1 => ((r = 0 ∨ r = 1) ∧ (True)) ∧ (mR o H1 ∧ mV o H H1)) := by
  refine h_ofz (by decide +kernel) (Nat.le_of_ble_eq_true rfl) ?_
  intro p e s m args below meth c H0 ls Q hx hb hts hown hml hK hZ hT0 hpr hS0 hl hret
  have hl : lv_has ls 2 [(0, .ref (o)), (1, .int u1)] := hl
  refine lv_aload_n hx hb dX11_on_0 rfl (lv_at hl 0 rfl) ?_
  refine lv_iload_n hx hb dX11_on_1 rfl (lv_at hl 1 rfl) ?_
  obtain ⟨v1, mv1⟩ : ∃ x, h_ai H0 (o + 1) 0 = x := ⟨_, rfl⟩
  have bv1 := mP_N (mP_cell hM hT0 (j := 0) (by omega)) (by omega)
  rw [mv1] at bv1
  refine h_callVi (T := TX11) (rest := []) (As := [.int u1]) hx hb hml hown hts hK hT0 hZ (fun _ h => h) hS0 (c_X11_isStation l G Y P (o) hM u1) trivial wd_X11_isStation wV_X11_isStation wL_X11_51 (hM.o rfl) rfl rfl hl.1 rfl (Nat.le_of_ble_eq_true rfl) dX11_on_2 ⟨Nat.le_of_ble_eq_true rfl, Nat.le_of_ble_eq_true rfl⟩ ⟨Nat.zero_le _, Nat.zero_le _⟩ (fun r2 H1 locs hp1 hT1 hS1 hk1 => ?_)
  obtain ⟨hp1, he⟩ := hp1
  have he := he.symm
  subst he
  have f3 : r2.toInt = 0 ∨ (0 ≤ u1.toInt ∧ u1.toInt < v1.toInt) := by have q := hp1.2; rw [mv1] at q; exact q
  refine lv_if_ne (tgt := 14) hx hb dX11_on_5 (by decide) (fun c4 => ?_) (fun c4 => ?_)
  · skip
    have c4 : ¬ r2.toInt = (0 : Int) := h_neI c4
    refine lv_aload_n hx hb dX11_on_14 rfl (lv_at hl 0 rfl) ?_
    refine lv_iload_n hx hb dX11_on_15 rfl (lv_at hl 1 rfl) ?_
    refine h_callVi (T := TX11) (rest := []) (As := [.int u1]) hx hb hml hown hts hK hT0 hZ (fun _ h => h) hS1 (c_X11_isOn l G Y P (o) hM u1) trivial wd_X11_isOn wV_X11_isOn wL_X11_55 (hM.o rfl) rfl rfl hl.1 rfl (Nat.le_of_ble_eq_true rfl) dX11_on_16 ⟨Nat.le_of_ble_eq_true rfl, Nat.le_of_ble_eq_true rfl⟩ ⟨Nat.zero_le _, Nat.zero_le _⟩ (fun r5 H2 locs hp2 hT2 hS2 hk2 => ?_)
    obtain ⟨hp2, he⟩ := hp2
    have he := he.symm
    subst he
    have f6 : r5.toInt = 0 ∨ (0 ≤ u1.toInt ∧ u1.toInt < v1.toInt) := by have q := hp2.2; rw [mv1] at q; exact q
    refine lv_if_eq (tgt := 28) hx hb dX11_on_19 (by decide) (fun c7 => ?_) (fun c7 => ?_)
    · skip
      have c7 : r5.toInt = (0 : Int) := congrArg Int32.toInt c7
      refine lv_aload_n hx hb dX11_on_28 rfl (lv_at hl 0 rfl) ?_
      refine lv_bipush (v := 48) hx hb dX11_on_29 (by decide) ?_
      refine lv_iload_n hx hb dX11_on_31 rfl (lv_at hl 1 rfl) ?_
      refine lv_iadd hx hb dX11_on_32 ?_
      obtain ⟨x8, qx8, ix8⟩ := h_addX 48 u1 (48 : Int) u1.toInt rfl rfl (by omega) (by omega)
      refine h_top (v := x8) qx8 ?_
      refine lv_iconst (v := 1) hx hb dX11_on_33 (by decide) ?_
      refine h_callVv (T := TX11) (rest := []) (As := [.int x8, .int 1]) hx hb hml hown hts hK hT0 hZ (fun _ h => h) hS2 (c_puts l G Y P (o) hM x8 1 (48 + u1.toInt).toNat (show x8.toInt.toNat = (48 + u1.toInt).toNat from by omega) (h_vin (by omega) (by omega)) (mP_free (by unfold mFree; omega))) trivial wd_X11_puts wV_X11_puts wL_X11_43 (hM.o rfl) rfl rfl hl.1 rfl (Nat.le_of_ble_eq_true rfl) dX11_on_34 ⟨Nat.le_of_ble_eq_true rfl, Nat.le_of_ble_eq_true rfl⟩ ⟨Nat.zero_le _, Nat.zero_le _⟩ (fun H3 locs hp3 hT3 hS3 hk3 => ?_)
      have hp3 : h_apu H0 H3 (o + 1) (48 + u1.toInt).toNat (.int 1) := hp3.2
      have z9 : ∀ j : Nat, 1200 ≤ j → h_ai H3 (o + 1) j = h_ai H0 (o + 1) j := fun j hj => (h_apn hp3 (by omega))
      have m10 : h_ai H3 (o + 1) 0 = v1 := (h_apn hp3 (by omega)).trans mv1
      have R11 : mR o H3 := hpr.keep (fun j hj => h_apn hp3 (by unfold mK at hj; omega))
      have m12 : h_ai H3 (o + 1) (48 + u1.toInt).toNat = 1 := h_aps hp3
      refine lv_aload_n hx hb dX11_on_37 rfl (lv_at hl 0 rfl) ?_
      refine lv_bipush (v := 56) hx hb dX11_on_38 (by decide) ?_
      refine lv_iload_n hx hb dX11_on_40 rfl (lv_at hl 1 rfl) ?_
      refine lv_iadd hx hb dX11_on_41 ?_
      obtain ⟨x13, qx13, ix13⟩ := h_addX 56 u1 (56 : Int) u1.toInt rfl rfl (by omega) (by omega)
      refine h_top (v := x13) qx13 ?_
      refine lv_iconst (v := (-1)) hx hb dX11_on_42 (by decide) ?_
      refine h_callVv (T := TX11) (rest := []) (As := [.int x13, .int (-1)]) hx hb hml hown hts hK hT3 hZ (fun _ h => h) hS3 (c_puts l G Y P (o) hM x13 (-1) (56 + u1.toInt).toNat (show x13.toInt.toNat = (56 + u1.toInt).toNat from by omega) (h_vin (by omega) (by omega)) (mP_free (by unfold mFree; omega))) trivial wd_X11_puts wV_X11_puts wL_X11_43 (hM.o rfl) rfl rfl hl.1 rfl (Nat.le_of_ble_eq_true rfl) dX11_on_43 ⟨Nat.le_of_ble_eq_true rfl, Nat.le_of_ble_eq_true rfl⟩ ⟨Nat.zero_le _, Nat.zero_le _⟩ (fun H4 locs hp4 hT4 hS4 hk4 => ?_)
      have hp4 : h_apu H3 H4 (o + 1) (56 + u1.toInt).toNat (.int (-1)) := hp4.2
      have z14 : ∀ j : Nat, 1200 ≤ j → h_ai H4 (o + 1) j = h_ai H0 (o + 1) j := fun j hj => (h_apn hp4 (by omega)).trans (z9 j hj)
      have m15 : h_ai H4 (o + 1) 0 = v1 := (h_apn hp4 (by omega)).trans m10
      have m16 : h_ai H4 (o + 1) (48 + u1.toInt).toNat = 1 := (h_apn hp4 (by omega)).trans m12
      have R17 : mR o H4 := R11.keep (fun j hj => h_apn hp4 (by unfold mK at hj; omega))
      have m18 : h_ai H4 (o + 1) (56 + u1.toInt).toNat = (-1) := h_aps hp4
      refine lv_aload_n hx hb dX11_on_46 rfl (lv_at hl 0 rfl) ?_
      refine h_callVv (T := TX11) (rest := []) (As := []) hx hb hml hown hts hK hT4 hZ (fun _ h => h) hS4 (c_X11_isAnew l G Y P (o) hM) trivial wd_X11_isAnew wV_X11_isAnew wL_X11_291 (hM.o rfl) rfl rfl hl.1 rfl (Nat.le_of_ble_eq_true rfl) dX11_on_47 ⟨Nat.le_of_ble_eq_true rfl, Nat.le_of_ble_eq_true rfl⟩ ⟨Nat.zero_le _, Nat.zero_le _⟩ (fun H5 locs hp5 hT5 hS5 hk5 => ?_)
      obtain ⟨hp5, hB5⟩ := hp5
      have z19 : ∀ j : Nat, 1200 ≤ j → h_ai H5 (o + 1) j = h_ai H0 (o + 1) j := fun j hj => (hB5 j (by unfold mK; omega)).trans (z14 j hj)
      have m20 : h_ai H5 (o + 1) 0 = v1 := (hB5 _ (by unfold mK; omega)).trans m15
      have R21 : mR o H5 := R17.keep hB5
      refine lv_aload_n hx hb dX11_on_50 rfl (lv_at hl 0 rfl) ?_
      refine lv_iconst (v := 0) hx hb dX11_on_51 (by decide) ?_
      refine h_callVi (T := TX11) (rest := []) (As := [.int 0]) hx hb hml hown hts hK hT5 hZ (fun _ h => h) hS5 (c_X11_isSo l G Y P (o) hM 0) trivial wd_X11_isSo wV_X11_isSo wL_X11_294 (hM.o rfl) rfl rfl hl.1 rfl (Nat.le_of_ble_eq_true rfl) dX11_on_52 ⟨Nat.le_of_ble_eq_true rfl, Nat.le_of_ble_eq_true rfl⟩ ⟨Nat.zero_le _, Nat.zero_le _⟩ (fun r22 H6 locs hp6 hT6 hS6 hk6 => ?_)
      obtain ⟨hp6, hB6⟩ := hp6
      have z23 : ∀ j : Nat, 1200 ≤ j → h_ai H6 (o + 1) j = h_ai H0 (o + 1) j := fun j hj => (h_ai_same hB6).trans (z19 j hj)
      have m24 : h_ai H6 (o + 1) 0 = v1 := (h_ai_same hB6).trans m20
      have R25 : mR o H6 := R21.same hB6
      exact hret _ _ _ _ _ hT6 hS6 ⟨hp6.1, ⟨⟨hp6.1, trivial⟩, ⟨R25, z23⟩⟩⟩ dX11_on_55
    · skip
      have c7 : ¬ r5.toInt = (0 : Int) := h_neI c7
      refine lv_aload_n hx hb dX11_on_22 rfl (lv_at hl 0 rfl) ?_
      refine lv_iconst (v := 4) hx hb dX11_on_23 (by decide) ?_
      refine h_callVi (T := TX11) (rest := []) (As := [.int 4]) hx hb hml hown hts hK hT0 hZ (fun _ h => h) hS2 (c_X11_isSo l G Y P (o) hM 4) trivial wd_X11_isSo wV_X11_isSo wL_X11_294 (hM.o rfl) rfl rfl hl.1 rfl (Nat.le_of_ble_eq_true rfl) dX11_on_24 ⟨Nat.le_of_ble_eq_true rfl, Nat.le_of_ble_eq_true rfl⟩ ⟨Nat.zero_le _, Nat.zero_le _⟩ (fun r26 H7 locs hp7 hT7 hS7 hk7 => ?_)
      obtain ⟨hp7, hB7⟩ := hp7
      have z27 : ∀ j : Nat, 1200 ≤ j → h_ai H7 (o + 1) j = h_ai H0 (o + 1) j := fun j hj => (h_ai_same hB7)
      have m28 : h_ai H7 (o + 1) 0 = v1 := (h_ai_same hB7).trans mv1
      have R29 : mR o H7 := hpr.same hB7
      exact hret _ _ _ _ _ hT7 hS7 ⟨hp7.1, ⟨⟨hp7.1, trivial⟩, ⟨R29, z27⟩⟩⟩ dX11_on_27
  · skip
    have c4 : r2.toInt = (0 : Int) := congrArg Int32.toInt c4
    refine lv_aload_n hx hb dX11_on_8 rfl (lv_at hl 0 rfl) ?_
    refine lv_iconst (v := 2) hx hb dX11_on_9 (by decide) ?_
    refine h_callVi (T := TX11) (rest := []) (As := [.int 2]) hx hb hml hown hts hK hT0 hZ (fun _ h => h) hS1 (c_X11_isSo l G Y P (o) hM 2) trivial wd_X11_isSo wV_X11_isSo wL_X11_294 (hM.o rfl) rfl rfl hl.1 rfl (Nat.le_of_ble_eq_true rfl) dX11_on_10 ⟨Nat.le_of_ble_eq_true rfl, Nat.le_of_ble_eq_true rfl⟩ ⟨Nat.zero_le _, Nat.zero_le _⟩ (fun r30 H8 locs hp8 hT8 hS8 hk8 => ?_)
    obtain ⟨hp8, hB8⟩ := hp8
    have z31 : ∀ j : Nat, 1200 ≤ j → h_ai H8 (o + 1) j = h_ai H0 (o + 1) j := fun j hj => (h_ai_same hB8)
    have m32 : h_ai H8 (o + 1) 0 = v1 := (h_ai_same hB8).trans mv1
    have R33 : mR o H8 := hpr.same hB8
    exact hret _ _ _ _ _ hT8 hS8 ⟨hp8.1, ⟨⟨hp8.1, trivial⟩, ⟨R33, z31⟩⟩⟩ dX11_on_13
set_option maxHeartbeats 4000000 in
set_option maxRecDepth 100000 in
theorem c_X11_monitor (l : Launch) (G : hG) (Y : hW) (P : Int32 → Prop) (o : Nat) (hM : h_On Y o (modE (tM P) o)) (u1 : Int32) : hMi l yX11_monitor cX11_monitor 2 (some .boolean) 2 42 G Y [.ref (o), .int u1] (fun H => mR o H) (fun H r H1 => ((r = 0 ∨ r = 1) ∧ (True)) ∧ (mR o H1 ∧ mV o H H1)) := by
  refine h_ofz (by decide +kernel) (Nat.le_of_ble_eq_true rfl) ?_
  intro p e s m args below meth c H0 ls Q hx hb hts hown hml hK hZ hT0 hpr hS0 hl hret
  have hl : lv_has ls 2 [(0, .ref (o)), (1, .int u1)] := hl
  refine lv_aload_n hx hb dX11_monitor_0 rfl (lv_at hl 0 rfl) ?_
  refine lv_iload_n hx hb dX11_monitor_1 rfl (lv_at hl 1 rfl) ?_
  obtain ⟨v1, mv1⟩ : ∃ x, h_ai H0 (o + 1) 0 = x := ⟨_, rfl⟩
  have bv1 := mP_N (mP_cell hM hT0 (j := 0) (by omega)) (by omega)
  rw [mv1] at bv1
  refine h_callVi (T := TX11) (rest := []) (As := [.int u1]) hx hb hml hown hts hK hT0 hZ (fun _ h => h) hS0 (c_X11_isStation l G Y P (o) hM u1) trivial wd_X11_isStation wV_X11_isStation wL_X11_51 (hM.o rfl) rfl rfl hl.1 rfl (Nat.le_of_ble_eq_true rfl) dX11_monitor_2 ⟨Nat.le_of_ble_eq_true rfl, Nat.le_of_ble_eq_true rfl⟩ ⟨Nat.zero_le _, Nat.zero_le _⟩ (fun r2 H1 locs hp1 hT1 hS1 hk1 => ?_)
  obtain ⟨hp1, he⟩ := hp1
  have he := he.symm
  subst he
  have f3 : r2.toInt = 0 ∨ (0 ≤ u1.toInt ∧ u1.toInt < v1.toInt) := by have q := hp1.2; rw [mv1] at q; exact q
  refine lv_if_ne (tgt := 14) hx hb dX11_monitor_5 (by decide) (fun c4 => ?_) (fun c4 => ?_)
  · skip
    have c4 : ¬ r2.toInt = (0 : Int) := h_neI c4
    refine lv_aload_n hx hb dX11_monitor_14 rfl (lv_at hl 0 rfl) ?_
    refine lv_iconst (v := 1) hx hb dX11_monitor_15 (by decide) ?_
    refine h_callVi (T := TX11) (rest := []) (As := [.int 1]) hx hb hml hown hts hK hT0 hZ (fun _ h => h) hS1 (c_of l G Y P (o) hM 1 1 (by decide) (h_inc (by decide))) trivial wd_X11_of wV_X11_of wL_X11_47 (hM.o rfl) rfl rfl hl.1 rfl (Nat.le_of_ble_eq_true rfl) dX11_monitor_16 ⟨Nat.le_of_ble_eq_true rfl, Nat.le_of_ble_eq_true rfl⟩ ⟨Nat.zero_le _, Nat.zero_le _⟩ (fun r5 H2 locs hp2 hT2 hS2 hk2 => ?_)
    obtain ⟨hp2, he⟩ := hp2
    have he := he.symm
    subst he
    have mr5 : h_ai H0 (o + 1) 1 = r5 := hp2.1.symm
    have br5 := mP_m1 hp2.2 (by omega)
    refine lv_iload_n hx hb dX11_monitor_19 rfl (lv_at hl 1 rfl) ?_
    refine lv_icmp_ne (tgt := 29) hx hb dX11_monitor_20 (by decide) (fun c6 => ?_) (fun c6 => ?_)
    · skip
      have c6 : ¬ r5.toInt = u1.toInt := h_neI c6
      refine lv_aload_n hx hb dX11_monitor_29 rfl (lv_at hl 0 rfl) ?_
      refine lv_iconst (v := 1) hx hb dX11_monitor_30 (by decide) ?_
      refine lv_iload_n hx hb dX11_monitor_31 rfl (lv_at hl 1 rfl) ?_
      refine h_callVv (T := TX11) (rest := []) (As := [.int 1, .int u1]) hx hb hml hown hts hK hT0 hZ (fun _ h => h) hS2 (c_puts l G Y P (o) hM 1 u1 1 (by decide) (h_inc (by decide)) (mP_of1 (by omega) (show -1 ≤ u1.toInt from by omega) (show u1.toInt ≤ 7 from by omega))) trivial wd_X11_puts wV_X11_puts wL_X11_43 (hM.o rfl) rfl rfl hl.1 rfl (Nat.le_of_ble_eq_true rfl) dX11_monitor_32 ⟨Nat.le_of_ble_eq_true rfl, Nat.le_of_ble_eq_true rfl⟩ ⟨Nat.zero_le _, Nat.zero_le _⟩ (fun H3 locs hp3 hT3 hS3 hk3 => ?_)
      have hp3 : h_apu H0 H3 (o + 1) 1 (.int u1) := hp3.2
      have z7 : ∀ j : Nat, 1200 ≤ j → h_ai H3 (o + 1) j = h_ai H0 (o + 1) j := fun j hj => (h_apn hp3 (by omega))
      have m8 : h_ai H3 (o + 1) 0 = v1 := (h_apn hp3 (by omega)).trans mv1
      have R9 : mR o H3 := hpr.keep (fun j hj => h_apn hp3 (by unfold mK at hj; omega))
      have m10 : h_ai H3 (o + 1) 1 = u1 := h_aps hp3
      refine lv_aload_n hx hb dX11_monitor_35 rfl (lv_at hl 0 rfl) ?_
      refine lv_iconst (v := 0) hx hb dX11_monitor_36 (by decide) ?_
      refine h_callVi (T := TX11) (rest := []) (As := [.int 0]) hx hb hml hown hts hK hT3 hZ (fun _ h => h) hS3 (c_X11_isSo l G Y P (o) hM 0) trivial wd_X11_isSo wV_X11_isSo wL_X11_294 (hM.o rfl) rfl rfl hl.1 rfl (Nat.le_of_ble_eq_true rfl) dX11_monitor_37 ⟨Nat.le_of_ble_eq_true rfl, Nat.le_of_ble_eq_true rfl⟩ ⟨Nat.zero_le _, Nat.zero_le _⟩ (fun r11 H4 locs hp4 hT4 hS4 hk4 => ?_)
      obtain ⟨hp4, hB4⟩ := hp4
      have z12 : ∀ j : Nat, 1200 ≤ j → h_ai H4 (o + 1) j = h_ai H0 (o + 1) j := fun j hj => (h_ai_same hB4).trans (z7 j hj)
      have m13 : h_ai H4 (o + 1) 0 = v1 := (h_ai_same hB4).trans m8
      have m14 : h_ai H4 (o + 1) 1 = u1 := (h_ai_same hB4).trans m10
      have R15 : mR o H4 := R9.same hB4
      exact hret _ _ _ _ _ hT4 hS4 ⟨hp4.1, ⟨⟨hp4.1, trivial⟩, ⟨R15, z12⟩⟩⟩ dX11_monitor_40
    · skip
      have c6 : r5.toInt = u1.toInt := congrArg Int32.toInt c6
      refine lv_aload_n hx hb dX11_monitor_23 rfl (lv_at hl 0 rfl) ?_
      refine lv_iconst (v := 4) hx hb dX11_monitor_24 (by decide) ?_
      refine h_callVi (T := TX11) (rest := []) (As := [.int 4]) hx hb hml hown hts hK hT0 hZ (fun _ h => h) hS2 (c_X11_isSo l G Y P (o) hM 4) trivial wd_X11_isSo wV_X11_isSo wL_X11_294 (hM.o rfl) rfl rfl hl.1 rfl (Nat.le_of_ble_eq_true rfl) dX11_monitor_25 ⟨Nat.le_of_ble_eq_true rfl, Nat.le_of_ble_eq_true rfl⟩ ⟨Nat.zero_le _, Nat.zero_le _⟩ (fun r16 H5 locs hp5 hT5 hS5 hk5 => ?_)
      obtain ⟨hp5, hB5⟩ := hp5
      have z17 : ∀ j : Nat, 1200 ≤ j → h_ai H5 (o + 1) j = h_ai H0 (o + 1) j := fun j hj => (h_ai_same hB5)
      have m18 : h_ai H5 (o + 1) 0 = v1 := (h_ai_same hB5).trans mv1
      have m19 : h_ai H5 (o + 1) 1 = r5 := (h_ai_same hB5).trans mr5
      have R20 : mR o H5 := hpr.same hB5
      exact hret _ _ _ _ _ hT5 hS5 ⟨hp5.1, ⟨⟨hp5.1, trivial⟩, ⟨R20, z17⟩⟩⟩ dX11_monitor_28
  · skip
    have c4 : r2.toInt = (0 : Int) := congrArg Int32.toInt c4
    refine lv_aload_n hx hb dX11_monitor_8 rfl (lv_at hl 0 rfl) ?_
    refine lv_iconst (v := 2) hx hb dX11_monitor_9 (by decide) ?_
    refine h_callVi (T := TX11) (rest := []) (As := [.int 2]) hx hb hml hown hts hK hT0 hZ (fun _ h => h) hS1 (c_X11_isSo l G Y P (o) hM 2) trivial wd_X11_isSo wV_X11_isSo wL_X11_294 (hM.o rfl) rfl rfl hl.1 rfl (Nat.le_of_ble_eq_true rfl) dX11_monitor_10 ⟨Nat.le_of_ble_eq_true rfl, Nat.le_of_ble_eq_true rfl⟩ ⟨Nat.zero_le _, Nat.zero_le _⟩ (fun r21 H6 locs hp6 hT6 hS6 hk6 => ?_)
    obtain ⟨hp6, hB6⟩ := hp6
    have z22 : ∀ j : Nat, 1200 ≤ j → h_ai H6 (o + 1) j = h_ai H0 (o + 1) j := fun j hj => (h_ai_same hB6)
    have m23 : h_ai H6 (o + 1) 0 = v1 := (h_ai_same hB6).trans mv1
    have R24 : mR o H6 := hpr.same hB6
    exact hret _ _ _ _ _ hT6 hS6 ⟨hp6.1, ⟨⟨hp6.1, trivial⟩, ⟨R24, z22⟩⟩⟩ dX11_monitor_13
set_option maxHeartbeats 4000000 in
set_option maxRecDepth 100000 in
theorem c_X11_lose (l : Launch) (G : hG) (Y : hW) (P : Int32 → Prop) (o : Nat) (hM : h_On Y o (modE (tM P) o)) : hMi l yX11_lose cX11_lose 1 (some .boolean) 3 65 G Y [.ref (o)] (fun H => mR o H) (fun H r H1 => ((r = 0 ∨ r = 1) ∧ (True)) ∧ (mR o H1 ∧ mV o H H1)) := by
  refine h_ofz (by decide +kernel) (Nat.le_of_ble_eq_true rfl) ?_
  intro p e s m args below meth c H0 ls Q hx hb hts hown hml hK hZ hT0 hpr hS0 hl hret
  have hl : lv_has ls 1 [(0, .ref (o))] := hl
  refine lv_aload_n hx hb dX11_lose_0 rfl (lv_at hl 0 rfl) ?_
  refine lv_iconst (v := 5) hx hb dX11_lose_1 (by decide) ?_
  refine h_callVi (T := TX11) (rest := []) (As := [.int 5]) hx hb hml hown hts hK hT0 hZ (fun _ h => h) hS0 (c_of l G Y P (o) hM 5 5 (by decide) (h_inc (by decide))) trivial wd_X11_of wV_X11_of wL_X11_47 (hM.o rfl) rfl rfl hl.1 rfl (Nat.le_of_ble_eq_true rfl) dX11_lose_2 ⟨Nat.le_of_ble_eq_true rfl, Nat.le_of_ble_eq_true rfl⟩ ⟨Nat.zero_le _, Nat.zero_le _⟩ (fun r1 H1 locs hp1 hT1 hS1 hk1 => ?_)
  obtain ⟨hp1, he⟩ := hp1
  have he := he.symm
  subst he
  have mr1 : h_ai H0 (o + 1) 5 = r1 := hp1.1.symm
  refine lv_if_ne (tgt := 15) hx hb dX11_lose_5 (by decide) (fun c2 => ?_) (fun c2 => ?_)
  · skip
    have c2 : ¬ r1.toInt = (0 : Int) := h_neI c2
    refine lv_aload_n hx hb dX11_lose_15 rfl (lv_at hl 0 rfl) ?_
    refine h_callVv (T := TX11) (rest := []) (As := []) hx hb hml hown hts hK hT0 hZ (fun _ h => h) hS1 (c_X11_isLost l G Y P (o) hM) trivial wd_X11_isLost wV_X11_isLost wL_X11_79 (hM.o rfl) rfl rfl hl.1 rfl (Nat.le_of_ble_eq_true rfl) dX11_lose_16 ⟨Nat.le_of_ble_eq_true rfl, Nat.le_of_ble_eq_true rfl⟩ ⟨Nat.zero_le _, Nat.zero_le _⟩ (fun H2 locs hp2 hT2 hS2 hk2 => ?_)
    obtain ⟨hp2, hB2⟩ := hp2
    have z3 : ∀ j : Nat, 1200 ≤ j → h_ai H2 (o + 1) j = h_ai H0 (o + 1) j := fun j hj => (hB2 j (by unfold mK; omega))
    have R4 : mR o H2 := hpr.keep hB2
    refine lv_aload_n hx hb dX11_lose_19 rfl (lv_at hl 0 rfl) ?_
    refine h_callVv (T := TX11) (rest := []) (As := []) hx hb hml hown hts hK hT2 hZ (fun _ h => h) hS2 (c_X11_isSilent l G Y P (o) hM) trivial wd_X11_isSilent wV_X11_isSilent wL_X11_128 (hM.o rfl) rfl rfl hl.1 rfl (Nat.le_of_ble_eq_true rfl) dX11_lose_20 ⟨Nat.le_of_ble_eq_true rfl, Nat.le_of_ble_eq_true rfl⟩ ⟨Nat.zero_le _, Nat.zero_le _⟩ (fun H3 locs hp3 hT3 hS3 hk3 => ?_)
    obtain ⟨hp3, hB3⟩ := hp3
    have z5 : ∀ j : Nat, 1200 ≤ j → h_ai H3 (o + 1) j = h_ai H0 (o + 1) j := fun j hj => (hB3 j (by unfold mK; omega)).trans (z3 j hj)
    have R6 : mR o H3 := R4.keep hB3
    refine lv_aload_n hx hb dX11_lose_23 rfl (lv_at hl 0 rfl) ?_
    refine lv_iconst (v := 0) hx hb dX11_lose_24 (by decide) ?_
    refine h_callVi (T := TX11) (rest := []) (As := [.int 0]) hx hb hml hown hts hK hT3 hZ (fun _ h => h) hS3 (c_X11_isSo l G Y P (o) hM 0) trivial wd_X11_isSo wV_X11_isSo wL_X11_294 (hM.o rfl) rfl rfl hl.1 rfl (Nat.le_of_ble_eq_true rfl) dX11_lose_25 ⟨Nat.le_of_ble_eq_true rfl, Nat.le_of_ble_eq_true rfl⟩ ⟨Nat.zero_le _, Nat.zero_le _⟩ (fun r7 H4 locs hp4 hT4 hS4 hk4 => ?_)
    obtain ⟨hp4, hB4⟩ := hp4
    have z8 : ∀ j : Nat, 1200 ≤ j → h_ai H4 (o + 1) j = h_ai H0 (o + 1) j := fun j hj => (h_ai_same hB4).trans (z5 j hj)
    have R9 : mR o H4 := R6.same hB4
    exact hret _ _ _ _ _ hT4 hS4 ⟨hp4.1, ⟨⟨hp4.1, trivial⟩, ⟨R9, z8⟩⟩⟩ dX11_lose_28
  · skip
    have c2 : r1.toInt = (0 : Int) := congrArg Int32.toInt c2
    refine lv_aload_n hx hb dX11_lose_8 rfl (lv_at hl 0 rfl) ?_
    refine lv_bipush (v := 6) hx hb dX11_lose_9 (by decide) ?_
    refine h_callVi (T := TX11) (rest := []) (As := [.int 6]) hx hb hml hown hts hK hT0 hZ (fun _ h => h) hS1 (c_X11_isSo l G Y P (o) hM 6) trivial wd_X11_isSo wV_X11_isSo wL_X11_294 (hM.o rfl) rfl rfl hl.1 rfl (Nat.le_of_ble_eq_true rfl) dX11_lose_11 ⟨Nat.le_of_ble_eq_true rfl, Nat.le_of_ble_eq_true rfl⟩ ⟨Nat.zero_le _, Nat.zero_le _⟩ (fun r10 H5 locs hp5 hT5 hS5 hk5 => ?_)
    obtain ⟨hp5, hB5⟩ := hp5
    have z11 : ∀ j : Nat, 1200 ≤ j → h_ai H5 (o + 1) j = h_ai H0 (o + 1) j := fun j hj => (h_ai_same hB5)
    have m12 : h_ai H5 (o + 1) 5 = r1 := (h_ai_same hB5).trans mr1
    have R13 : mR o H5 := hpr.same hB5
    exact hret _ _ _ _ _ hT5 hS5 ⟨hp5.1, ⟨⟨hp5.1, trivial⟩, ⟨R13, z11⟩⟩⟩ dX11_lose_14
set_option maxHeartbeats 4000000 in
set_option maxRecDepth 100000 in
theorem c_X11_snap (l : Launch) (G : hG) (Y : hW) (P : Int32 → Prop) (o : Nat) (hM : h_On Y o (modE (tM P) o)) (u1 u2 : Int32) : hMi l yX11_snap cX11_snap 3 (some .boolean) 3 62 G Y [.ref (o), .int u1, .int u2] (fun H => mR o H) (fun H r H1 => ((r = 0 ∨ r = 1) ∧ (True)) ∧ (mR o H1 ∧ mV o H H1)) := by
  refine h_ofz (by decide +kernel) (Nat.le_of_ble_eq_true rfl) ?_
  intro p e s m args below meth c H0 ls Q hx hb hts hown hml hK hZ hT0 hpr hS0 hl hret
  have hl : lv_has ls 3 [(0, .ref (o)), (1, .int u1), (2, .int u2)] := hl
  refine lv_iload_n hx hb dX11_snap_0 rfl (lv_at hl 2 rfl) ?_
  refine lv_iconst (v := 0) hx hb dX11_snap_1 (by decide) ?_
  refine lv_iconst (v := 2) hx hb dX11_snap_2 (by decide) ?_
  refine h_callSi (rest := []) (As := [.int u2, .int 0, .int 2]) hx hb hml hown hts hK hT0 hZ (fun _ h => h) hS0 (c_X11_isFrom l G Y u2 0 2) trivial wd_X11_isFrom wS_X11_isFrom wL_X11_228 rfl hl.1 rfl (Nat.le_of_ble_eq_true rfl) dX11_snap_3 ⟨Nat.le_of_ble_eq_true rfl, Nat.le_of_ble_eq_true rfl⟩ ⟨Nat.zero_le _, Nat.zero_le _⟩ (fun r1 H1 locs hp1 hT1 hS1 hk1 => ?_)
  obtain ⟨hp1, he⟩ := hp1
  have he := he.symm
  subst he
  have f2 : (r1.toInt = 1 ∧ (0 : Int) ≤ u2.toInt ∧ u2.toInt ≤ (2 : Int)) ∨ (r1.toInt = 0 ∧ ¬ ((0 : Int) ≤ u2.toInt ∧ u2.toInt ≤ (2 : Int))) := by have q := hp1.2; exact q
  refine lv_if_ne (tgt := 15) hx hb dX11_snap_6 (by decide) (fun c3 => ?_) (fun c3 => ?_)
  · skip
    have c3 : ¬ r1.toInt = (0 : Int) := h_neI c3
    refine lv_aload_n hx hb dX11_snap_15 rfl (lv_at hl 0 rfl) ?_
    refine lv_iload_n hx hb dX11_snap_16 rfl (lv_at hl 1 rfl) ?_
    obtain ⟨v4, mv4⟩ : ∃ x, h_ai H0 (o + 1) 0 = x := ⟨_, rfl⟩
    have bv4 := mP_N (mP_cell hM hT0 (j := 0) (by omega)) (by omega)
    rw [mv4] at bv4
    refine h_callVi (T := TX11) (rest := []) (As := [.int u1]) hx hb hml hown hts hK hT0 hZ (fun _ h => h) hS1 (c_X11_isStation l G Y P (o) hM u1) trivial wd_X11_isStation wV_X11_isStation wL_X11_51 (hM.o rfl) rfl rfl hl.1 rfl (Nat.le_of_ble_eq_true rfl) dX11_snap_17 ⟨Nat.le_of_ble_eq_true rfl, Nat.le_of_ble_eq_true rfl⟩ ⟨Nat.zero_le _, Nat.zero_le _⟩ (fun r5 H2 locs hp2 hT2 hS2 hk2 => ?_)
    obtain ⟨hp2, he⟩ := hp2
    have he := he.symm
    subst he
    have f6 : r5.toInt = 0 ∨ (0 ≤ u1.toInt ∧ u1.toInt < v4.toInt) := by have q := hp2.2; rw [mv4] at q; exact q
    refine lv_if_ne (tgt := 29) hx hb dX11_snap_20 (by decide) (fun c7 => ?_) (fun c7 => ?_)
    · skip
      have c7 : ¬ r5.toInt = (0 : Int) := h_neI c7
      refine lv_aload_n hx hb dX11_snap_29 rfl (lv_at hl 0 rfl) ?_
      refine lv_bipush (v := 16) hx hb dX11_snap_30 (by decide) ?_
      refine h_callVi (T := TX11) (rest := []) (As := [.int 16]) hx hb hml hown hts hK hT0 hZ (fun _ h => h) hS2 (c_of l G Y P (o) hM 16 16 (by decide) (h_inc (by decide))) trivial wd_X11_of wV_X11_of wL_X11_47 (hM.o rfl) rfl rfl hl.1 rfl (Nat.le_of_ble_eq_true rfl) dX11_snap_32 ⟨Nat.le_of_ble_eq_true rfl, Nat.le_of_ble_eq_true rfl⟩ ⟨Nat.zero_le _, Nat.zero_le _⟩ (fun r8 H3 locs hp3 hT3 hS3 hk3 => ?_)
      obtain ⟨hp3, he⟩ := hp3
      have he := he.symm
      subst he
      have mr8 : h_ai H0 (o + 1) 16 = r8 := hp3.1.symm
      have br8 := mP_m1 hp3.2 (by omega)
      refine lv_iconst (v := (-1)) hx hb dX11_snap_35 (by decide) ?_
      refine lv_icmp_eq (tgt := 45) hx hb dX11_snap_36 (by decide) (fun c9 => ?_) (fun c9 => ?_)
      · skip
        have c9 : r8.toInt = (-1 : Int) := congrArg Int32.toInt c9
        refine lv_aload_n hx hb dX11_snap_45 rfl (lv_at hl 0 rfl) ?_
        refine lv_bipush (v := 16) hx hb dX11_snap_46 (by decide) ?_
        refine lv_iload_n hx hb dX11_snap_48 rfl (lv_at hl 1 rfl) ?_
        refine h_callVv (T := TX11) (rest := []) (As := [.int 16, .int u1]) hx hb hml hown hts hK hT0 hZ (fun _ h => h) hS3 (c_puts l G Y P (o) hM 16 u1 16 (by decide) (h_inc (by decide)) (mP_of1 (by omega) (show -1 ≤ u1.toInt from by omega) (show u1.toInt ≤ 7 from by omega))) trivial wd_X11_puts wV_X11_puts wL_X11_43 (hM.o rfl) rfl rfl hl.1 rfl (Nat.le_of_ble_eq_true rfl) dX11_snap_49 ⟨Nat.le_of_ble_eq_true rfl, Nat.le_of_ble_eq_true rfl⟩ ⟨Nat.zero_le _, Nat.zero_le _⟩ (fun H4 locs hp4 hT4 hS4 hk4 => ?_)
        have hp4 : h_apu H0 H4 (o + 1) 16 (.int u1) := hp4.2
        have z10 : ∀ j : Nat, 1200 ≤ j → h_ai H4 (o + 1) j = h_ai H0 (o + 1) j := fun j hj => (h_apn hp4 (by omega))
        have m11 : h_ai H4 (o + 1) 0 = v4 := (h_apn hp4 (by omega)).trans mv4
        have R12 : mR o H4 := mR_break hp4 (by rw [mv4]; exact (show u1.toInt < v4.toInt from by omega)) hpr
        have m13 : h_ai H4 (o + 1) 16 = u1 := h_aps hp4
        refine lv_aload_n hx hb dX11_snap_52 rfl (lv_at hl 0 rfl) ?_
        refine lv_bipush (v := 17) hx hb dX11_snap_53 (by decide) ?_
        refine lv_iload_n hx hb dX11_snap_55 rfl (lv_at hl 2 rfl) ?_
        refine h_callVv (T := TX11) (rest := []) (As := [.int 17, .int u2]) hx hb hml hown hts hK hT4 hZ (fun _ h => h) hS4 (c_puts l G Y P (o) hM 17 u2 17 (by decide) (h_inc (by decide)) (mP_free (by unfold mFree; omega))) trivial wd_X11_puts wV_X11_puts wL_X11_43 (hM.o rfl) rfl rfl hl.1 rfl (Nat.le_of_ble_eq_true rfl) dX11_snap_56 ⟨Nat.le_of_ble_eq_true rfl, Nat.le_of_ble_eq_true rfl⟩ ⟨Nat.zero_le _, Nat.zero_le _⟩ (fun H5 locs hp5 hT5 hS5 hk5 => ?_)
        have hp5 : h_apu H4 H5 (o + 1) 17 (.int u2) := hp5.2
        have z14 : ∀ j : Nat, 1200 ≤ j → h_ai H5 (o + 1) j = h_ai H0 (o + 1) j := fun j hj => (h_apn hp5 (by omega)).trans (z10 j hj)
        have m15 : h_ai H5 (o + 1) 0 = v4 := (h_apn hp5 (by omega)).trans m11
        have m16 : h_ai H5 (o + 1) 16 = u1 := (h_apn hp5 (by omega)).trans m13
        have R17 : mR o H5 := R12.keep (fun j hj => h_apn hp5 (by unfold mK at hj; omega))
        have m18 : h_ai H5 (o + 1) 17 = u2 := h_aps hp5
        refine lv_aload_n hx hb dX11_snap_59 rfl (lv_at hl 0 rfl) ?_
        refine h_callVv (T := TX11) (rest := []) (As := []) hx hb hml hown hts hK hT5 hZ (fun _ h => h) hS5 (c_X11_isAnew l G Y P (o) hM) trivial wd_X11_isAnew wV_X11_isAnew wL_X11_291 (hM.o rfl) rfl rfl hl.1 rfl (Nat.le_of_ble_eq_true rfl) dX11_snap_60 ⟨Nat.le_of_ble_eq_true rfl, Nat.le_of_ble_eq_true rfl⟩ ⟨Nat.zero_le _, Nat.zero_le _⟩ (fun H6 locs hp6 hT6 hS6 hk6 => ?_)
        obtain ⟨hp6, hB6⟩ := hp6
        have z19 : ∀ j : Nat, 1200 ≤ j → h_ai H6 (o + 1) j = h_ai H0 (o + 1) j := fun j hj => (hB6 j (by unfold mK; omega)).trans (z14 j hj)
        have m20 : h_ai H6 (o + 1) 0 = v4 := (hB6 _ (by unfold mK; omega)).trans m15
        have m21 : h_ai H6 (o + 1) 16 = u1 := (hB6 _ (by unfold mK; omega)).trans m16
        have R22 : mR o H6 := R17.keep hB6
        refine lv_aload_n hx hb dX11_snap_63 rfl (lv_at hl 0 rfl) ?_
        refine lv_iconst (v := 0) hx hb dX11_snap_64 (by decide) ?_
        refine h_callVi (T := TX11) (rest := []) (As := [.int 0]) hx hb hml hown hts hK hT6 hZ (fun _ h => h) hS6 (c_X11_isSo l G Y P (o) hM 0) trivial wd_X11_isSo wV_X11_isSo wL_X11_294 (hM.o rfl) rfl rfl hl.1 rfl (Nat.le_of_ble_eq_true rfl) dX11_snap_65 ⟨Nat.le_of_ble_eq_true rfl, Nat.le_of_ble_eq_true rfl⟩ ⟨Nat.zero_le _, Nat.zero_le _⟩ (fun r23 H7 locs hp7 hT7 hS7 hk7 => ?_)
        obtain ⟨hp7, hB7⟩ := hp7
        have z24 : ∀ j : Nat, 1200 ≤ j → h_ai H7 (o + 1) j = h_ai H0 (o + 1) j := fun j hj => (h_ai_same hB7).trans (z19 j hj)
        have m25 : h_ai H7 (o + 1) 0 = v4 := (h_ai_same hB7).trans m20
        have m26 : h_ai H7 (o + 1) 16 = u1 := (h_ai_same hB7).trans m21
        have R27 : mR o H7 := R22.same hB7
        exact hret _ _ _ _ _ hT7 hS7 ⟨hp7.1, ⟨⟨hp7.1, trivial⟩, ⟨R27, z24⟩⟩⟩ dX11_snap_68
      · skip
        have c9 : ¬ r8.toInt = (-1 : Int) := h_neI c9
        refine lv_aload_n hx hb dX11_snap_39 rfl (lv_at hl 0 rfl) ?_
        refine lv_iconst (v := 3) hx hb dX11_snap_40 (by decide) ?_
        refine h_callVi (T := TX11) (rest := []) (As := [.int 3]) hx hb hml hown hts hK hT0 hZ (fun _ h => h) hS3 (c_X11_isSo l G Y P (o) hM 3) trivial wd_X11_isSo wV_X11_isSo wL_X11_294 (hM.o rfl) rfl rfl hl.1 rfl (Nat.le_of_ble_eq_true rfl) dX11_snap_41 ⟨Nat.le_of_ble_eq_true rfl, Nat.le_of_ble_eq_true rfl⟩ ⟨Nat.zero_le _, Nat.zero_le _⟩ (fun r28 H8 locs hp8 hT8 hS8 hk8 => ?_)
        obtain ⟨hp8, hB8⟩ := hp8
        have z29 : ∀ j : Nat, 1200 ≤ j → h_ai H8 (o + 1) j = h_ai H0 (o + 1) j := fun j hj => (h_ai_same hB8)
        have m30 : h_ai H8 (o + 1) 0 = v4 := (h_ai_same hB8).trans mv4
        have m31 : h_ai H8 (o + 1) 16 = r8 := (h_ai_same hB8).trans mr8
        have R32 : mR o H8 := hpr.same hB8
        exact hret _ _ _ _ _ hT8 hS8 ⟨hp8.1, ⟨⟨hp8.1, trivial⟩, ⟨R32, z29⟩⟩⟩ dX11_snap_44
    · skip
      have c7 : r5.toInt = (0 : Int) := congrArg Int32.toInt c7
      refine lv_aload_n hx hb dX11_snap_23 rfl (lv_at hl 0 rfl) ?_
      refine lv_iconst (v := 2) hx hb dX11_snap_24 (by decide) ?_
      refine h_callVi (T := TX11) (rest := []) (As := [.int 2]) hx hb hml hown hts hK hT0 hZ (fun _ h => h) hS2 (c_X11_isSo l G Y P (o) hM 2) trivial wd_X11_isSo wV_X11_isSo wL_X11_294 (hM.o rfl) rfl rfl hl.1 rfl (Nat.le_of_ble_eq_true rfl) dX11_snap_25 ⟨Nat.le_of_ble_eq_true rfl, Nat.le_of_ble_eq_true rfl⟩ ⟨Nat.zero_le _, Nat.zero_le _⟩ (fun r33 H9 locs hp9 hT9 hS9 hk9 => ?_)
      obtain ⟨hp9, hB9⟩ := hp9
      have z34 : ∀ j : Nat, 1200 ≤ j → h_ai H9 (o + 1) j = h_ai H0 (o + 1) j := fun j hj => (h_ai_same hB9)
      have m35 : h_ai H9 (o + 1) 0 = v4 := (h_ai_same hB9).trans mv4
      have R36 : mR o H9 := hpr.same hB9
      exact hret _ _ _ _ _ hT9 hS9 ⟨hp9.1, ⟨⟨hp9.1, trivial⟩, ⟨R36, z34⟩⟩⟩ dX11_snap_28
  · skip
    have c3 : r1.toInt = (0 : Int) := congrArg Int32.toInt c3
    refine lv_aload_n hx hb dX11_snap_9 rfl (lv_at hl 0 rfl) ?_
    refine lv_iconst (v := 1) hx hb dX11_snap_10 (by decide) ?_
    refine h_callVi (T := TX11) (rest := []) (As := [.int 1]) hx hb hml hown hts hK hT0 hZ (fun _ h => h) hS1 (c_X11_isSo l G Y P (o) hM 1) trivial wd_X11_isSo wV_X11_isSo wL_X11_294 (hM.o rfl) rfl rfl hl.1 rfl (Nat.le_of_ble_eq_true rfl) dX11_snap_11 ⟨Nat.le_of_ble_eq_true rfl, Nat.le_of_ble_eq_true rfl⟩ ⟨Nat.zero_le _, Nat.zero_le _⟩ (fun r37 H10 locs hp10 hT10 hS10 hk10 => ?_)
    obtain ⟨hp10, hB10⟩ := hp10
    have z38 : ∀ j : Nat, 1200 ≤ j → h_ai H10 (o + 1) j = h_ai H0 (o + 1) j := fun j hj => (h_ai_same hB10)
    have R39 : mR o H10 := hpr.same hB10
    exact hret _ _ _ _ _ hT10 hS10 ⟨hp10.1, ⟨⟨hp10.1, trivial⟩, ⟨R39, z38⟩⟩⟩ dX11_snap_14
set_option maxHeartbeats 4000000 in
set_option maxRecDepth 100000 in
theorem c_X11_mend (l : Launch) (G : hG) (Y : hW) (P : Int32 → Prop) (o : Nat) (hM : h_On Y o (modE (tM P) o)) : hMi l yX11_mend cX11_mend 1 (some .boolean) 3 62 G Y [.ref (o)] (fun H => mR o H) (fun H r H1 => ((r = 0 ∨ r = 1) ∧ (True)) ∧ (mR o H1 ∧ mV o H H1)) := by
  refine h_ofz (by decide +kernel) (Nat.le_of_ble_eq_true rfl) ?_
  intro p e s m args below meth c H0 ls Q hx hb hts hown hml hK hZ hT0 hpr hS0 hl hret
  have hl : lv_has ls 1 [(0, .ref (o))] := hl
  refine lv_aload_n hx hb dX11_mend_0 rfl (lv_at hl 0 rfl) ?_
  refine lv_bipush (v := 16) hx hb dX11_mend_1 (by decide) ?_
  refine h_callVi (T := TX11) (rest := []) (As := [.int 16]) hx hb hml hown hts hK hT0 hZ (fun _ h => h) hS0 (c_of l G Y P (o) hM 16 16 (by decide) (h_inc (by decide))) trivial wd_X11_of wV_X11_of wL_X11_47 (hM.o rfl) rfl rfl hl.1 rfl (Nat.le_of_ble_eq_true rfl) dX11_mend_3 ⟨Nat.le_of_ble_eq_true rfl, Nat.le_of_ble_eq_true rfl⟩ ⟨Nat.zero_le _, Nat.zero_le _⟩ (fun r1 H1 locs hp1 hT1 hS1 hk1 => ?_)
  obtain ⟨hp1, he⟩ := hp1
  have he := he.symm
  subst he
  have mr1 : h_ai H0 (o + 1) 16 = r1 := hp1.1.symm
  have br1 := mP_m1 hp1.2 (by omega)
  refine lv_iconst (v := (-1)) hx hb dX11_mend_6 (by decide) ?_
  refine lv_icmp_ne (tgt := 16) hx hb dX11_mend_7 (by decide) (fun c2 => ?_) (fun c2 => ?_)
  · skip
    have c2 : ¬ r1.toInt = (-1 : Int) := h_neI c2
    refine lv_aload_n hx hb dX11_mend_16 rfl (lv_at hl 0 rfl) ?_
    refine lv_bipush (v := 16) hx hb dX11_mend_17 (by decide) ?_
    refine lv_iconst (v := (-1)) hx hb dX11_mend_19 (by decide) ?_
    obtain ⟨v3, mv3⟩ : ∃ x, h_ai H0 (o + 1) 0 = x := ⟨_, rfl⟩
    have bv3 := mP_N (mP_cell hM hT0 (j := 0) (by omega)) (by omega)
    rw [mv3] at bv3
    refine h_callVv (T := TX11) (rest := []) (As := [.int 16, .int (-1)]) hx hb hml hown hts hK hT0 hZ (fun _ h => h) hS1 (c_puts l G Y P (o) hM 16 (-1) 16 (by decide) (h_inc (by decide)) (mP_of1 (by omega) (show -1 ≤ (-1 : Int) from by omega) (show (-1 : Int) ≤ 7 from by omega))) trivial wd_X11_puts wV_X11_puts wL_X11_43 (hM.o rfl) rfl rfl hl.1 rfl (Nat.le_of_ble_eq_true rfl) dX11_mend_20 ⟨Nat.le_of_ble_eq_true rfl, Nat.le_of_ble_eq_true rfl⟩ ⟨Nat.zero_le _, Nat.zero_le _⟩ (fun H2 locs hp2 hT2 hS2 hk2 => ?_)
    have hp2 : h_apu H0 H2 (o + 1) 16 (.int (-1)) := hp2.2
    have z4 : ∀ j : Nat, 1200 ≤ j → h_ai H2 (o + 1) j = h_ai H0 (o + 1) j := fun j hj => (h_apn hp2 (by omega))
    have m5 : h_ai H2 (o + 1) 0 = v3 := (h_apn hp2 (by omega)).trans mv3
    have R6 : mR o H2 := mR_break hp2 (by rw [mv3]; exact (show (-1 : Int) < v3.toInt from by omega)) hpr
    have m7 : h_ai H2 (o + 1) 16 = (-1) := h_aps hp2
    refine lv_aload_n hx hb dX11_mend_23 rfl (lv_at hl 0 rfl) ?_
    refine h_callVv (T := TX11) (rest := []) (As := []) hx hb hml hown hts hK hT2 hZ (fun _ h => h) hS2 (c_X11_isAnew l G Y P (o) hM) trivial wd_X11_isAnew wV_X11_isAnew wL_X11_291 (hM.o rfl) rfl rfl hl.1 rfl (Nat.le_of_ble_eq_true rfl) dX11_mend_24 ⟨Nat.le_of_ble_eq_true rfl, Nat.le_of_ble_eq_true rfl⟩ ⟨Nat.zero_le _, Nat.zero_le _⟩ (fun H3 locs hp3 hT3 hS3 hk3 => ?_)
    obtain ⟨hp3, hB3⟩ := hp3
    have z8 : ∀ j : Nat, 1200 ≤ j → h_ai H3 (o + 1) j = h_ai H0 (o + 1) j := fun j hj => (hB3 j (by unfold mK; omega)).trans (z4 j hj)
    have m9 : h_ai H3 (o + 1) 0 = v3 := (hB3 _ (by unfold mK; omega)).trans m5
    have m10 : h_ai H3 (o + 1) 16 = (-1) := (hB3 _ (by unfold mK; omega)).trans m7
    have R11 : mR o H3 := R6.keep hB3
    refine lv_aload_n hx hb dX11_mend_27 rfl (lv_at hl 0 rfl) ?_
    refine lv_iconst (v := 0) hx hb dX11_mend_28 (by decide) ?_
    refine h_callVi (T := TX11) (rest := []) (As := [.int 0]) hx hb hml hown hts hK hT3 hZ (fun _ h => h) hS3 (c_X11_isSo l G Y P (o) hM 0) trivial wd_X11_isSo wV_X11_isSo wL_X11_294 (hM.o rfl) rfl rfl hl.1 rfl (Nat.le_of_ble_eq_true rfl) dX11_mend_29 ⟨Nat.le_of_ble_eq_true rfl, Nat.le_of_ble_eq_true rfl⟩ ⟨Nat.zero_le _, Nat.zero_le _⟩ (fun r12 H4 locs hp4 hT4 hS4 hk4 => ?_)
    obtain ⟨hp4, hB4⟩ := hp4
    have z13 : ∀ j : Nat, 1200 ≤ j → h_ai H4 (o + 1) j = h_ai H0 (o + 1) j := fun j hj => (h_ai_same hB4).trans (z8 j hj)
    have m14 : h_ai H4 (o + 1) 0 = v3 := (h_ai_same hB4).trans m9
    have m15 : h_ai H4 (o + 1) 16 = (-1) := (h_ai_same hB4).trans m10
    have R16 : mR o H4 := R11.same hB4
    exact hret _ _ _ _ _ hT4 hS4 ⟨hp4.1, ⟨⟨hp4.1, trivial⟩, ⟨R16, z13⟩⟩⟩ dX11_mend_32
  · skip
    have c2 : r1.toInt = (-1 : Int) := congrArg Int32.toInt c2
    refine lv_aload_n hx hb dX11_mend_10 rfl (lv_at hl 0 rfl) ?_
    refine lv_iconst (v := 5) hx hb dX11_mend_11 (by decide) ?_
    refine h_callVi (T := TX11) (rest := []) (As := [.int 5]) hx hb hml hown hts hK hT0 hZ (fun _ h => h) hS1 (c_X11_isSo l G Y P (o) hM 5) trivial wd_X11_isSo wV_X11_isSo wL_X11_294 (hM.o rfl) rfl rfl hl.1 rfl (Nat.le_of_ble_eq_true rfl) dX11_mend_12 ⟨Nat.le_of_ble_eq_true rfl, Nat.le_of_ble_eq_true rfl⟩ ⟨Nat.zero_le _, Nat.zero_le _⟩ (fun r17 H5 locs hp5 hT5 hS5 hk5 => ?_)
    obtain ⟨hp5, hB5⟩ := hp5
    have z18 : ∀ j : Nat, 1200 ≤ j → h_ai H5 (o + 1) j = h_ai H0 (o + 1) j := fun j hj => (h_ai_same hB5)
    have m19 : h_ai H5 (o + 1) 16 = r1 := (h_ai_same hB5).trans mr1
    have R20 : mR o H5 := hpr.same hB5
    exact hret _ _ _ _ _ hT5 hS5 ⟨hp5.1, ⟨⟨hp5.1, trivial⟩, ⟨R20, z18⟩⟩⟩ dX11_mend_15
set_option maxHeartbeats 4000000 in
set_option maxRecDepth 100000 in
theorem c_X11_tick (l : Launch) (G : hG) (Y : hW) (P : Int32 → Prop) (o : Nat) (hM : h_On Y o (modE (tM P) o)) (u1 : Int32) : hMi l yX11_tick cX11_tick 3 (some .int) 7 151 G Y [.ref (o), .int u1] (fun H => mR o H) (fun H r H1 => (True) ∧ (mR o H1 ∧ mV o H H1)) := by
  refine h_ofi (by decide +kernel) (Nat.le_of_ble_eq_true rfl) ?_
  intro p e s m args below meth c H0 ls Q hx hb hts hown hml hK hZ hT0 hpr hS0 hl hret
  have hl : lv_has ls 3 [(0, .ref (o)), (1, .int u1)] := hl
  refine lv_iload_n hx hb dX11_tick_0 rfl (lv_at hl 1 rfl) ?_
  refine lv_iconst (v := 1) hx hb dX11_tick_1 (by decide) ?_
  refine lv_sipush (v := 500) hx hb dX11_tick_2 (by decide) ?_
  refine h_callSi (rest := []) (As := [.int u1, .int 1, .int 500]) hx hb hml hown hts hK hT0 hZ (fun _ h => h) hS0 (c_X11_isFrom l G Y u1 1 500) trivial wd_X11_isFrom wS_X11_isFrom wL_X11_228 rfl hl.1 rfl (Nat.le_of_ble_eq_true rfl) dX11_tick_5 ⟨Nat.le_of_ble_eq_true rfl, Nat.le_of_ble_eq_true rfl⟩ ⟨Nat.zero_le _, Nat.zero_le _⟩ (fun r1 H1 locs hp1 hT1 hS1 hk1 => ?_)
  obtain ⟨hp1, he⟩ := hp1
  have he := he.symm
  subst he
  have f2 : (r1.toInt = 1 ∧ (1 : Int) ≤ u1.toInt ∧ u1.toInt ≤ (500 : Int)) ∨ (r1.toInt = 0 ∧ ¬ ((1 : Int) ≤ u1.toInt ∧ u1.toInt ≤ (500 : Int))) := by have q := hp1.2; exact q
  refine lv_if_ne (tgt := 17) hx hb dX11_tick_8 (by decide) (fun c3 => ?_) (fun c3 => ?_)
  · skip
    have c3 : ¬ r1.toInt = (0 : Int) := h_neI c3
    refine lv_iconst (v := 0) hx hb dX11_tick_17 (by decide) ?_
    refine lv_istore_n (lv' := [(2, .int 0), (0, .ref (o)), (1, .int u1)]) hx hb dX11_tick_18 rfl hl (by decide) rfl (fun ls hl => ?_)
    have LP1 : ∀ (n1 : Nat) (w1_2 : Int32) (H2 : Heap), (2147483647 - w1_2.toInt < (n1 : Int)) → (0 ≤ w1_2.toInt) → (hT G Y H2) → (∀ j : Nat, 1200 ≤ j → h_ai H2 (o + 1) j = h_ai H0 (o + 1) j) → (mR o H2) → ∀ (locs : List Loc) (ls : Array Slot), va_S (h_A Y) s.heap H2 locs → lv_has ls 3 [(2, .int w1_2), (0, .ref (o)), (1, .int u1)] → W p l e (h_rm 7 151) s m args below meth c H2 locs 0 0 Q (F0 m 19 ls []) := by
      intro n1
      induction n1 with
      | zero =>
        intro w1_2 H2 hm hlo1_2
        intros
        exfalso
        have := Int32.toInt_lt w1_2; have := Int32.le_toInt w1_2
        omega
      | succ n1 ih1 =>
        intro w1_2 H2 hm hlo1_2 hT2 z4 R5 locs ls hS2 hl
        refine lv_iload_n hx hb dX11_tick_19 rfl (lv_at hl 0 rfl) ?_
        refine lv_iload_n hx hb dX11_tick_20 rfl (lv_at hl 2 rfl) ?_
        refine lv_icmp_ge (tgt := 34) hx hb dX11_tick_21 (by decide) (fun c6 => ?_) (fun c6 => ?_)
        · skip
          have c6 : u1.toInt ≤ w1_2.toInt := Int32.le_iff_toInt_le.mp c6
          refine lv_aload_n hx hb dX11_tick_34 rfl (lv_at hl 1 rfl) ?_
          refine lv_aload_n hx hb dX11_tick_35 rfl (lv_at hl 1 rfl) ?_
          refine lv_iconst (v := 3) hx hb dX11_tick_36 (by decide) ?_
          refine h_callVi (T := TX11) (rest := [.ref (o)]) (As := [.int 3]) hx hb hml hown hts hK hT2 hZ (fun _ h => h) hS2 (c_of l G Y P (o) hM 3 3 (by decide) (h_inc (by decide))) trivial wd_X11_of wV_X11_of wL_X11_47 (hM.o rfl) rfl rfl hl.1 rfl (Nat.le_of_ble_eq_true rfl) dX11_tick_37 ⟨Nat.le_of_ble_eq_true rfl, Nat.le_of_ble_eq_true rfl⟩ ⟨Nat.zero_le _, Nat.zero_le _⟩ (fun r7 H4 locs hp4 hT4 hS4 hk4 => ?_)
          obtain ⟨hp4, he⟩ := hp4
          have he := he.symm
          subst he
          have mr7 : h_ai H2 (o + 1) 3 = r7 := hp4.1.symm
          refine h_callVi (T := TX11) (rest := []) (As := [.int r7]) hx hb hml hown hts hK hT2 hZ (fun _ h => h) hS4 (c_X11_gives l G Y P (o) hM r7) trivial wd_X11_gives wV_X11_gives wL_X11_276 (hM.o rfl) rfl rfl hl.1 rfl (Nat.le_of_ble_eq_true rfl) dX11_tick_40 ⟨Nat.le_of_ble_eq_true rfl, Nat.le_of_ble_eq_true rfl⟩ ⟨Nat.zero_le _, Nat.zero_le _⟩ (fun r8 H5 locs hp5 hT5 hS5 hk5 => ?_)
          obtain ⟨hp5, hB5⟩ := hp5
          have z9 : ∀ j : Nat, 1200 ≤ j → h_ai H5 (o + 1) j = h_ai H0 (o + 1) j := fun j hj => (h_ai_same hB5).trans (z4 j hj)
          have m10 : h_ai H5 (o + 1) 3 = r7 := (h_ai_same hB5).trans mr7
          have R11 : mR o H5 := R5.same hB5
          have f12 : r8.toInt = r7.toInt := hp5.1
          exact hret _ _ _ _ _ hT5 hS5 ⟨trivial, ⟨R11, z9⟩⟩ dX11_tick_43
        · skip
          have c6 : ¬ u1.toInt ≤ w1_2.toInt := h_nleI c6
          refine lv_aload_n hx hb dX11_tick_24 rfl (lv_at hl 1 rfl) ?_
          refine h_callVv (T := TX11) (rest := []) (As := []) hx hb hml hown hts hK hT2 hZ (fun _ h => h) hS2 (c_X11_ticks l G Y P (o) hM) R5 wd_X11_ticks wV_X11_ticks wL_X11_297 (hM.o rfl) rfl rfl hl.1 rfl (Nat.le_of_ble_eq_true rfl) dX11_tick_25 ⟨Nat.le_of_ble_eq_true rfl, Nat.le_of_ble_eq_true rfl⟩ ⟨Nat.zero_le _, Nat.zero_le _⟩ (fun H6 locs hp6 hT6 hS6 hk6 => ?_)
          obtain ⟨hp6, hB6⟩ := hp6
          have z13 : ∀ j : Nat, 1200 ≤ j → h_ai H6 (o + 1) j = h_ai H0 (o + 1) j := fun j hj => (hB6.2 j (by omega)).trans (z4 j hj)
          have R14 : mR o H6 := hB6.1
          obtain ⟨x15, qx15, ix15⟩ := h_addX w1_2 1 w1_2.toInt (1 : Int) rfl rfl (by omega) (by omega)
          refine lv_iinc (v := x15) (lv' := [(2, .int x15), (0, .ref (o)), (1, .int u1)]) hx hb dX11_tick_28 hl (k := 0) rfl qx15 (by decide) rfl (fun ls hl => ?_)
          refine lv_goto (tgt := 19) hx hb dX11_tick_31 (by decide) ?_
          exact ih1 x15 _ (show 2147483647 - x15.toInt < (n1 : Int) from by omega) (show 0 ≤ x15.toInt from by omega) hT6 z13 R14 _ _ hS6 (lv_sub hl [0, 1, 2] rfl)
    exact LP1 4294967296 0 _ (show 2147483647 - (0 : Int) < ((4294967296 : Nat) : Int) from by omega) (show 0 ≤ (0 : Int) from by omega) hT0 (fun _ _ => rfl) hpr _ _ hS1 (lv_sub hl [0, 1, 2] rfl)
  · skip
    have c3 : r1.toInt = (0 : Int) := congrArg Int32.toInt c3
    refine lv_aload_n hx hb dX11_tick_11 rfl (lv_at hl 0 rfl) ?_
    refine lv_iconst (v := 1) hx hb dX11_tick_12 (by decide) ?_
    refine h_callVi (T := TX11) (rest := []) (As := [.int 1]) hx hb hml hown hts hK hT0 hZ (fun _ h => h) hS1 (c_X11_refuse l G Y P (o) hM 1) trivial wd_X11_refuse wV_X11_refuse wL_X11_267 (hM.o rfl) rfl rfl hl.1 rfl (Nat.le_of_ble_eq_true rfl) dX11_tick_13 ⟨Nat.le_of_ble_eq_true rfl, Nat.le_of_ble_eq_true rfl⟩ ⟨Nat.zero_le _, Nat.zero_le _⟩ (fun r16 H7 locs hp7 hT7 hS7 hk7 => ?_)
    obtain ⟨hp7, hB7⟩ := hp7
    have z17 : ∀ j : Nat, 1200 ≤ j → h_ai H7 (o + 1) j = h_ai H0 (o + 1) j := fun j hj => (h_ai_same hB7)
    have R18 : mR o H7 := hpr.same hB7
    have f19 : r16.toInt = (-1) := hp7.1
    exact hret _ _ _ _ _ hT7 hS7 ⟨trivial, ⟨R18, z17⟩⟩ dX11_tick_16
set_option maxHeartbeats 4000000 in
set_option maxRecDepth 100000 in
theorem c_X11_run (l : Launch) (G : hG) (Y : hW) (P : Int32 → Prop) (o : Nat) (hM : h_On Y o (modE (tM P) o)) (u1 u2 u3 : Int32) : hMi l yX11_run cX11_run 6 (some .int) 7 151 G Y [.ref (o), .int u1, .int u2, .int u3] (fun H => mR o H) (fun H r H1 => (True) ∧ (mR o H1 ∧ mV o H H1)) := by
  refine h_ofi (by decide +kernel) (Nat.le_of_ble_eq_true rfl) ?_
  intro p e s m args below meth c H0 ls Q hx hb hts hown hml hK hZ hT0 hpr hS0 hl hret
  have hl : lv_has ls 6 [(0, .ref (o)), (1, .int u1), (2, .int u2), (3, .int u3)] := hl
  refine lv_iload_n hx hb dX11_run_0 rfl (lv_at hl 1 rfl) ?_
  refine lv_iconst (v := 1) hx hb dX11_run_1 (by decide) ?_
  refine lv_sipush (v := 500) hx hb dX11_run_2 (by decide) ?_
  refine h_callSi (rest := []) (As := [.int u1, .int 1, .int 500]) hx hb hml hown hts hK hT0 hZ (fun _ h => h) hS0 (c_X11_isFrom l G Y u1 1 500) trivial wd_X11_isFrom wS_X11_isFrom wL_X11_228 rfl hl.1 rfl (Nat.le_of_ble_eq_true rfl) dX11_run_5 ⟨Nat.le_of_ble_eq_true rfl, Nat.le_of_ble_eq_true rfl⟩ ⟨Nat.zero_le _, Nat.zero_le _⟩ (fun r1 H1 locs hp1 hT1 hS1 hk1 => ?_)
  obtain ⟨hp1, he⟩ := hp1
  have he := he.symm
  subst he
  have f2 : (r1.toInt = 1 ∧ (1 : Int) ≤ u1.toInt ∧ u1.toInt ≤ (500 : Int)) ∨ (r1.toInt = 0 ∧ ¬ ((1 : Int) ≤ u1.toInt ∧ u1.toInt ≤ (500 : Int))) := by have q := hp1.2; exact q
  refine lv_if_eq (tgt := 32) hx hb dX11_run_8 (by decide) (fun c3 => ?_) (fun c3 => ?_)
  · skip
    have c3 : r1.toInt = (0 : Int) := congrArg Int32.toInt c3
    refine lv_aload_n hx hb dX11_run_32 rfl (lv_at hl 0 rfl) ?_
    refine lv_iconst (v := 1) hx hb dX11_run_33 (by decide) ?_
    refine h_callVi (T := TX11) (rest := []) (As := [.int 1]) hx hb hml hown hts hK hT0 hZ (fun _ h => h) hS1 (c_X11_refuse l G Y P (o) hM 1) trivial wd_X11_refuse wV_X11_refuse wL_X11_267 (hM.o rfl) rfl rfl hl.1 rfl (Nat.le_of_ble_eq_true rfl) dX11_run_34 ⟨Nat.le_of_ble_eq_true rfl, Nat.le_of_ble_eq_true rfl⟩ ⟨Nat.zero_le _, Nat.zero_le _⟩ (fun r4 H2 locs hp2 hT2 hS2 hk2 => ?_)
    obtain ⟨hp2, hB2⟩ := hp2
    have z5 : ∀ j : Nat, 1200 ≤ j → h_ai H2 (o + 1) j = h_ai H0 (o + 1) j := fun j hj => (h_ai_same hB2)
    have R6 : mR o H2 := hpr.same hB2
    have f7 : r4.toInt = (-1) := hp2.1
    exact hret _ _ _ _ _ hT2 hS2 ⟨trivial, ⟨R6, z5⟩⟩ dX11_run_37
  · skip
    have c3 : ¬ r1.toInt = (0 : Int) := h_neI c3
    refine lv_iload_n hx hb dX11_run_11 rfl (lv_at hl 2 rfl) ?_
    refine lv_iconst (v := 0) hx hb dX11_run_12 (by decide) ?_
    refine lv_sipush (v := 9999) hx hb dX11_run_13 (by decide) ?_
    refine h_callSi (rest := []) (As := [.int u2, .int 0, .int 9999]) hx hb hml hown hts hK hT0 hZ (fun _ h => h) hS1 (c_X11_isFrom l G Y u2 0 9999) trivial wd_X11_isFrom wS_X11_isFrom wL_X11_228 rfl hl.1 rfl (Nat.le_of_ble_eq_true rfl) dX11_run_16 ⟨Nat.le_of_ble_eq_true rfl, Nat.le_of_ble_eq_true rfl⟩ ⟨Nat.zero_le _, Nat.zero_le _⟩ (fun r8 H3 locs hp3 hT3 hS3 hk3 => ?_)
    obtain ⟨hp3, he⟩ := hp3
    have he := he.symm
    subst he
    have f9 : (r8.toInt = 1 ∧ (0 : Int) ≤ u2.toInt ∧ u2.toInt ≤ (9999 : Int)) ∨ (r8.toInt = 0 ∧ ¬ ((0 : Int) ≤ u2.toInt ∧ u2.toInt ≤ (9999 : Int))) := by have q := hp3.2; exact q
    refine lv_if_eq (tgt := 32) hx hb dX11_run_19 (by decide) (fun c10 => ?_) (fun c10 => ?_)
    · skip
      have c10 : r8.toInt = (0 : Int) := congrArg Int32.toInt c10
      refine lv_aload_n hx hb dX11_run_32 rfl (lv_at hl 0 rfl) ?_
      refine lv_iconst (v := 1) hx hb dX11_run_33 (by decide) ?_
      refine h_callVi (T := TX11) (rest := []) (As := [.int 1]) hx hb hml hown hts hK hT0 hZ (fun _ h => h) hS3 (c_X11_refuse l G Y P (o) hM 1) trivial wd_X11_refuse wV_X11_refuse wL_X11_267 (hM.o rfl) rfl rfl hl.1 rfl (Nat.le_of_ble_eq_true rfl) dX11_run_34 ⟨Nat.le_of_ble_eq_true rfl, Nat.le_of_ble_eq_true rfl⟩ ⟨Nat.zero_le _, Nat.zero_le _⟩ (fun r11 H4 locs hp4 hT4 hS4 hk4 => ?_)
      obtain ⟨hp4, hB4⟩ := hp4
      have z12 : ∀ j : Nat, 1200 ≤ j → h_ai H4 (o + 1) j = h_ai H0 (o + 1) j := fun j hj => (h_ai_same hB4)
      have R13 : mR o H4 := hpr.same hB4
      have f14 : r11.toInt = (-1) := hp4.1
      exact hret _ _ _ _ _ hT4 hS4 ⟨trivial, ⟨R13, z12⟩⟩ dX11_run_37
    · skip
      have c10 : ¬ r8.toInt = (0 : Int) := h_neI c10
      refine lv_iload_n hx hb dX11_run_22 rfl (lv_at hl 3 rfl) ?_
      refine lv_iconst (v := 0) hx hb dX11_run_23 (by decide) ?_
      refine lv_bipush (v := 16) hx hb dX11_run_24 (by decide) ?_
      refine h_callSi (rest := []) (As := [.int u3, .int 0, .int 16]) hx hb hml hown hts hK hT0 hZ (fun _ h => h) hS3 (c_X11_isFrom l G Y u3 0 16) trivial wd_X11_isFrom wS_X11_isFrom wL_X11_228 rfl hl.1 rfl (Nat.le_of_ble_eq_true rfl) dX11_run_26 ⟨Nat.le_of_ble_eq_true rfl, Nat.le_of_ble_eq_true rfl⟩ ⟨Nat.zero_le _, Nat.zero_le _⟩ (fun r15 H5 locs hp5 hT5 hS5 hk5 => ?_)
      obtain ⟨hp5, he⟩ := hp5
      have he := he.symm
      subst he
      have f16 : (r15.toInt = 1 ∧ (0 : Int) ≤ u3.toInt ∧ u3.toInt ≤ (16 : Int)) ∨ (r15.toInt = 0 ∧ ¬ ((0 : Int) ≤ u3.toInt ∧ u3.toInt ≤ (16 : Int))) := by have q := hp5.2; exact q
      refine lv_if_ne (tgt := 38) hx hb dX11_run_29 (by decide) (fun c17 => ?_) (fun c17 => ?_)
      · skip
        have c17 : ¬ r15.toInt = (0 : Int) := h_neI c17
        refine lv_iconst (v := 0) hx hb dX11_run_38 (by decide) ?_
        refine lv_istore (lv' := [(4, .int 0), (0, .ref (o)), (1, .int u1), (2, .int u2), (3, .int u3)]) hx hb dX11_run_39 hl (by decide) rfl (fun ls hl => ?_)
        refine lv_aload_n hx hb dX11_run_41 rfl (lv_at hl 1 rfl) ?_
        refine lv_iload_n hx hb dX11_run_42 rfl (lv_at hl 3 rfl) ?_
        refine h_puti (C := RX11) (T := TX11) (N := 23) hx hb hts inX11 tyX11 tyX11_ok nmX11 hown hK hT0 (fun _ h => h) hS5 (hM.o rfl) rfl 19 rfl wF_X11_300 rfl rfl (show 0 ≤ u2.toInt ∧ u2.toInt < 139968 from by omega) rfl rfl dX11_run_43 (fun H6 locs hT6 hS6 hu6 => ?_)
        have z18 : ∀ j : Nat, 1200 ≤ j → h_ai H6 (o + 1) j = h_ai H0 (o + 1) j := fun j hj => (h_ai_same (hu6.2.1 (o + 1) (by omega)))
        have R19 : mR o H6 := hpr.same (hu6.2.1 (o + 1) (by omega))
        refine lv_iconst (v := 0) hx hb dX11_run_46 (by decide) ?_
        refine lv_istore (lv' := [(5, .int 0), (4, .int 0), (0, .ref (o)), (1, .int u1), (2, .int u2), (3, .int u3)]) hx hb dX11_run_47 hl (by decide) rfl (fun ls hl => ?_)
        have LP1 : ∀ (n1 : Nat) (w1_5 : Int32) (w1_4 : Int32) (H7 : Heap), (2147483647 - w1_5.toInt < (n1 : Int)) → (0 ≤ w1_5.toInt) → (hT G Y H7) → (∀ j : Nat, 1200 ≤ j → h_ai H7 (o + 1) j = h_ai H0 (o + 1) j) → (mR o H7) → ∀ (locs : List Loc) (ls : Array Slot), va_S (h_A Y) s.heap H7 locs → lv_has ls 6 [(5, .int w1_5), (4, .int w1_4), (0, .ref (o)), (1, .int u1), (3, .int u3)] → W p l e (h_rm 7 151) s m args below meth c H7 locs 0 0 Q (F0 m 49 ls []) := by
          intro n1
          induction n1 with
          | zero =>
            intro w1_5 w1_4 H7 hm hlo1_5
            intros
            exfalso
            have := Int32.toInt_lt w1_5; have := Int32.le_toInt w1_5
            have := Int32.toInt_lt w1_4; have := Int32.le_toInt w1_4
            omega
          | succ n1 ih1 =>
            intro w1_5 w1_4 H7 hm hlo1_5 hT7 z20 R21 locs ls hS7 hl
            refine lv_iload hx hb dX11_run_49 (lv_at hl 0 rfl) ?_
            refine lv_iload_n hx hb dX11_run_51 rfl (lv_at hl 3 rfl) ?_
            refine lv_icmp_ge (tgt := 88) hx hb dX11_run_52 (by decide) (fun c22 => ?_) (fun c22 => ?_)
            · skip
              have c22 : u1.toInt ≤ w1_5.toInt := Int32.le_iff_toInt_le.mp c22
              refine lv_aload_n hx hb dX11_run_88 rfl (lv_at hl 2 rfl) ?_
              refine lv_iload hx hb dX11_run_89 (lv_at hl 1 rfl) ?_
              refine h_callVi (T := TX11) (rest := []) (As := [.int w1_4]) hx hb hml hown hts hK hT7 hZ (fun _ h => h) hS7 (c_X11_gives l G Y P (o) hM w1_4) trivial wd_X11_gives wV_X11_gives wL_X11_276 (hM.o rfl) rfl rfl hl.1 rfl (Nat.le_of_ble_eq_true rfl) dX11_run_91 ⟨Nat.le_of_ble_eq_true rfl, Nat.le_of_ble_eq_true rfl⟩ ⟨Nat.zero_le _, Nat.zero_le _⟩ (fun r23 H9 locs hp9 hT9 hS9 hk9 => ?_)
              obtain ⟨hp9, hB9⟩ := hp9
              have z24 : ∀ j : Nat, 1200 ≤ j → h_ai H9 (o + 1) j = h_ai H0 (o + 1) j := fun j hj => (h_ai_same hB9).trans (z20 j hj)
              have R25 : mR o H9 := R21.same hB9
              have f26 : r23.toInt = w1_4.toInt := hp9.1
              exact hret _ _ _ _ _ hT9 hS9 ⟨trivial, ⟨R25, z24⟩⟩ dX11_run_94
            · skip
              have c22 : ¬ u1.toInt ≤ w1_5.toInt := h_nleI c22
              refine lv_aload_n hx hb dX11_run_55 rfl (lv_at hl 2 rfl) ?_
              refine lv_iload_n hx hb dX11_run_56 rfl (lv_at hl 4 rfl) ?_
              refine h_callVv (T := TX11) (rest := []) (As := [.int u3]) hx hb hml hown hts hK hT7 hZ (fun _ h => h) hS7 (c_X11_draws l G Y P (o) hM u3) R21 wd_X11_draws wV_X11_draws wL_X11_307 (hM.o rfl) rfl rfl hl.1 rfl (Nat.le_of_ble_eq_true rfl) dX11_run_57 ⟨Nat.le_of_ble_eq_true rfl, Nat.le_of_ble_eq_true rfl⟩ ⟨Nat.zero_le _, Nat.zero_le _⟩ (fun H10 locs hp10 hT10 hS10 hk10 => ?_)
              obtain ⟨hp10, hB10⟩ := hp10
              have z27 : ∀ j : Nat, 1200 ≤ j → h_ai H10 (o + 1) j = h_ai H0 (o + 1) j := fun j hj => (hB10.2 j (by omega)).trans (z20 j hj)
              have R28 : mR o H10 := hB10.1
              refine lv_aload_n hx hb dX11_run_60 rfl (lv_at hl 2 rfl) ?_
              refine h_callVv (T := TX11) (rest := []) (As := []) hx hb hml hown hts hK hT10 hZ (fun _ h => h) hS10 (c_X11_ticks l G Y P (o) hM) R28 wd_X11_ticks wV_X11_ticks wL_X11_297 (hM.o rfl) rfl rfl hl.1 rfl (Nat.le_of_ble_eq_true rfl) dX11_run_61 ⟨Nat.le_of_ble_eq_true rfl, Nat.le_of_ble_eq_true rfl⟩ ⟨Nat.zero_le _, Nat.zero_le _⟩ (fun H11 locs hp11 hT11 hS11 hk11 => ?_)
              obtain ⟨hp11, hB11⟩ := hp11
              have z29 : ∀ j : Nat, 1200 ≤ j → h_ai H11 (o + 1) j = h_ai H0 (o + 1) j := fun j hj => (hB11.2 j (by omega)).trans (z27 j hj)
              have R30 : mR o H11 := hB11.1
              refine lv_iload hx hb dX11_run_64 (lv_at hl 1 rfl) ?_
              refine lv_aload_n hx hb dX11_run_66 rfl (lv_at hl 2 rfl) ?_
              refine h_geti (C := RX11) (T := TX11) (N := 23) hx hb hts inX11 hown hK hT11 (hM.o rfl) rfl 3 rfl wF_X11_112 rfl dX11_run_67 (fun p31 => ?_)
              refine lv_topi (fun x32 ex32 => ?_)
              refine lv_iconst (v := (-1)) hx hb dX11_run_70 (by decide) ?_
              refine lv_icmp_ne (tgt := 78) hx hb dX11_run_71 (by decide) (fun c33 => ?_) (fun c33 => ?_)
              · skip
                have c33 : ¬ x32.toInt = (-1 : Int) := h_neI c33
                refine lv_iconst (v := 1) hx hb dX11_run_78 (by decide) ?_
                refine lv_iadd hx hb dX11_run_79 ?_
                refine lv_topi (fun x34 ex34 => ?_)
                refine lv_istore (lv' := [(4, .int x34), (5, .int w1_5), (0, .ref (o)), (1, .int u1), (3, .int u3)]) hx hb dX11_run_80 hl (by decide) rfl (fun ls hl => ?_)
                obtain ⟨x35, qx35, ix35⟩ := h_addX w1_5 1 w1_5.toInt (1 : Int) rfl rfl (by omega) (by omega)
                refine lv_iinc (v := x35) (lv' := [(5, .int x35), (4, .int x34), (0, .ref (o)), (1, .int u1), (3, .int u3)]) hx hb dX11_run_82 hl (k := 1) rfl qx35 (by decide) rfl (fun ls hl => ?_)
                refine lv_goto (tgt := 49) hx hb dX11_run_85 (by decide) ?_
                exact ih1 x35 x34 _ (show 2147483647 - x35.toInt < (n1 : Int) from by omega) (show 0 ≤ x35.toInt from by omega) hT11 z29 R30 _ _ hS11 (lv_sub hl [0, 1, 2, 3, 4] rfl)
              · skip
                have c33 : x32.toInt = (-1 : Int) := congrArg Int32.toInt c33
                refine lv_iconst (v := 0) hx hb dX11_run_74 (by decide) ?_
                refine lv_goto (tgt := 79) hx hb dX11_run_75 (by decide) ?_
                refine lv_iadd hx hb dX11_run_79 ?_
                refine h_top (v := w1_4) (h_addE w1_4 0 w1_4 w1_4.toInt (0 : Int) rfl rfl (by have := Int32.le_toInt w1_4; have := Int32.toInt_lt w1_4; omega) (by have := Int32.le_toInt w1_4; have := Int32.toInt_lt w1_4; omega) (by omega)) ?_
                refine lv_istore (lv' := [(4, .int w1_4), (5, .int w1_5), (0, .ref (o)), (1, .int u1), (3, .int u3)]) hx hb dX11_run_80 hl (by decide) rfl (fun ls hl => ?_)
                obtain ⟨x36, qx36, ix36⟩ := h_addX w1_5 1 w1_5.toInt (1 : Int) rfl rfl (by omega) (by omega)
                refine lv_iinc (v := x36) (lv' := [(5, .int x36), (4, .int w1_4), (0, .ref (o)), (1, .int u1), (3, .int u3)]) hx hb dX11_run_82 hl (k := 1) rfl qx36 (by decide) rfl (fun ls hl => ?_)
                refine lv_goto (tgt := 49) hx hb dX11_run_85 (by decide) ?_
                exact ih1 x36 w1_4 _ (show 2147483647 - x36.toInt < (n1 : Int) from by omega) (show 0 ≤ x36.toInt from by omega) hT11 z29 R30 _ _ hS11 (lv_sub hl [0, 1, 2, 3, 4] rfl)
        exact LP1 4294967296 0 0 _ (show 2147483647 - (0 : Int) < ((4294967296 : Nat) : Int) from by omega) (show 0 ≤ (0 : Int) from by omega) hT6 z18 R19 _ _ hS6 (lv_sub hl [0, 1, 2, 3, 5] rfl)
      · skip
        have c17 : r15.toInt = (0 : Int) := congrArg Int32.toInt c17
        refine lv_aload_n hx hb dX11_run_32 rfl (lv_at hl 0 rfl) ?_
        refine lv_iconst (v := 1) hx hb dX11_run_33 (by decide) ?_
        refine h_callVi (T := TX11) (rest := []) (As := [.int 1]) hx hb hml hown hts hK hT0 hZ (fun _ h => h) hS5 (c_X11_refuse l G Y P (o) hM 1) trivial wd_X11_refuse wV_X11_refuse wL_X11_267 (hM.o rfl) rfl rfl hl.1 rfl (Nat.le_of_ble_eq_true rfl) dX11_run_34 ⟨Nat.le_of_ble_eq_true rfl, Nat.le_of_ble_eq_true rfl⟩ ⟨Nat.zero_le _, Nat.zero_le _⟩ (fun r37 H12 locs hp12 hT12 hS12 hk12 => ?_)
        obtain ⟨hp12, hB12⟩ := hp12
        have z38 : ∀ j : Nat, 1200 ≤ j → h_ai H12 (o + 1) j = h_ai H0 (o + 1) j := fun j hj => (h_ai_same hB12)
        have R39 : mR o H12 := hpr.same hB12
        have f40 : r37.toInt = (-1) := hp12.1
        exact hret _ _ _ _ _ hT12 hS12 ⟨trivial, ⟨R39, z38⟩⟩ dX11_run_37
set_option maxHeartbeats 4000000 in
set_option maxRecDepth 100000 in
theorem c_X11_notice (l : Launch) (G : hG) (Y : hW) (P : Int32 → Prop) (o : Nat) (hM : h_On Y o (modE (tM P) o)) : hMi l yX11_notice cX11_notice 3 (some .int) 4 87 G Y [.ref (o)] (fun H => mR o H) (fun H r H1 => (True) ∧ (mR o H1 ∧ mV o H H1)) := by
  refine h_ofi (by decide +kernel) (Nat.le_of_ble_eq_true rfl) ?_
  intro p e s m args below meth c H0 ls Q hx hb hts hown hml hK hZ hT0 hpr hS0 hl hret
  have hl : lv_has ls 3 [(0, .ref (o))] := hl
  refine lv_aload_n hx hb dX11_notice_0 rfl (lv_at hl 0 rfl) ?_
  refine h_callVi (T := TX11) (rest := []) (As := []) hx hb hml hown hts hK hT0 hZ (fun _ h => h) hS0 (c_X11_doesCount l G Y P (o) hM) hpr wd_X11_doesCount wV_X11_doesCount wL_X11_58 (hM.o rfl) rfl rfl hl.1 rfl (Nat.le_of_ble_eq_true rfl) dX11_notice_1 ⟨Nat.le_of_ble_eq_true rfl, Nat.le_of_ble_eq_true rfl⟩ ⟨Nat.zero_le _, Nat.zero_le _⟩ (fun r1 H1 locs hp1 hT1 hS1 hk1 => ?_)
  obtain ⟨hp1, he⟩ := hp1
  have he := he.symm
  subst he
  refine lv_if_eq (tgt := 13) hx hb dX11_notice_4 (by decide) (fun c2 => ?_) (fun c2 => ?_)
  · skip
    have c2 : r1.toInt = (0 : Int) := congrArg Int32.toInt c2
    refine lv_aload_n hx hb dX11_notice_13 rfl (lv_at hl 0 rfl) ?_
    refine lv_aload_n hx hb dX11_notice_14 rfl (lv_at hl 0 rfl) ?_
    refine lv_iconst (v := 1) hx hb dX11_notice_15 (by decide) ?_
    refine h_callVi (T := TX11) (rest := [.ref (o)]) (As := [.int 1]) hx hb hml hown hts hK hT0 hZ (fun _ h => h) hS1 (c_of l G Y P (o) hM 1 1 (by decide) (h_inc (by decide))) trivial wd_X11_of wV_X11_of wL_X11_47 (hM.o rfl) rfl rfl hl.1 rfl (Nat.le_of_ble_eq_true rfl) dX11_notice_16 ⟨Nat.le_of_ble_eq_true rfl, Nat.le_of_ble_eq_true rfl⟩ ⟨Nat.zero_le _, Nat.zero_le _⟩ (fun r3 H2 locs hp2 hT2 hS2 hk2 => ?_)
    obtain ⟨hp2, he⟩ := hp2
    have he := he.symm
    subst he
    have mr3 : h_ai H0 (o + 1) 1 = r3 := hp2.1.symm
    have br3 := mP_m1 hp2.2 (by omega)
    obtain ⟨v4, mv4⟩ : ∃ x, h_ai H0 (o + 1) 0 = x := ⟨_, rfl⟩
    have bv4 := mP_N (mP_cell hM hT0 (j := 0) (by omega)) (by omega)
    rw [mv4] at bv4
    refine h_callVi (T := TX11) (rest := []) (As := [.int r3]) hx hb hml hown hts hK hT0 hZ (fun _ h => h) hS2 (c_X11_isOn l G Y P (o) hM r3) trivial wd_X11_isOn wV_X11_isOn wL_X11_55 (hM.o rfl) rfl rfl hl.1 rfl (Nat.le_of_ble_eq_true rfl) dX11_notice_19 ⟨Nat.le_of_ble_eq_true rfl, Nat.le_of_ble_eq_true rfl⟩ ⟨Nat.zero_le _, Nat.zero_le _⟩ (fun r5 H3 locs hp3 hT3 hS3 hk3 => ?_)
    obtain ⟨hp3, he⟩ := hp3
    have he := he.symm
    subst he
    have f6 : r5.toInt = 0 ∨ (0 ≤ r3.toInt ∧ r3.toInt < v4.toInt) := by have q := hp3.2; rw [mv4] at q; exact q
    refine lv_if_ne (tgt := 31) hx hb dX11_notice_22 (by decide) (fun c7 => ?_) (fun c7 => ?_)
    · skip
      have c7 : ¬ r5.toInt = (0 : Int) := h_neI c7
      refine lv_aload_n hx hb dX11_notice_31 rfl (lv_at hl 0 rfl) ?_
      refine lv_iconst (v := 5) hx hb dX11_notice_32 (by decide) ?_
      refine h_callVi (T := TX11) (rest := []) (As := [.int 5]) hx hb hml hown hts hK hT0 hZ (fun _ h => h) hS3 (c_of l G Y P (o) hM 5 5 (by decide) (h_inc (by decide))) trivial wd_X11_of wV_X11_of wL_X11_47 (hM.o rfl) rfl rfl hl.1 rfl (Nat.le_of_ble_eq_true rfl) dX11_notice_33 ⟨Nat.le_of_ble_eq_true rfl, Nat.le_of_ble_eq_true rfl⟩ ⟨Nat.zero_le _, Nat.zero_le _⟩ (fun r8 H4 locs hp4 hT4 hS4 hk4 => ?_)
      obtain ⟨hp4, he⟩ := hp4
      have he := he.symm
      subst he
      have mr8 : h_ai H0 (o + 1) 5 = r8 := hp4.1.symm
      refine lv_iconst (v := 1) hx hb dX11_notice_36 (by decide) ?_
      refine lv_icmp_eq (tgt := 47) hx hb dX11_notice_37 (by decide) (fun c9 => ?_) (fun c9 => ?_)
      · skip
        have c9 : r8.toInt = (1 : Int) := congrArg Int32.toInt c9
        refine lv_iconst (v := 0) hx hb dX11_notice_47 (by decide) ?_
        refine lv_istore_n (lv' := [(1, .int 0), (0, .ref (o))]) hx hb dX11_notice_48 rfl hl (by decide) rfl (fun ls hl => ?_)
        refine lv_iconst (v := 0) hx hb dX11_notice_49 (by decide) ?_
        refine lv_istore_n (lv' := [(2, .int 0), (1, .int 0), (0, .ref (o))]) hx hb dX11_notice_50 rfl hl (by decide) rfl (fun ls hl => ?_)
        have LP1 : ∀ (n1 : Nat) (w1_2 : Int32) (w1_1 : Int32) (H5 : Heap), (2147483647 - w1_2.toInt < (n1 : Int)) → (0 ≤ w1_2.toInt) → (hT G Y H5) → (∀ j : Nat, 1200 ≤ j → h_ai H5 (o + 1) j = h_ai H0 (o + 1) j) → (mR o H5) → ∀ (locs : List Loc) (ls : Array Slot), va_S (h_A Y) s.heap H5 locs → lv_has ls 3 [(2, .int w1_2), (1, .int w1_1), (0, .ref (o))] → W p l e (h_rm 4 87) s m args below meth c H5 locs 0 0 Q (F0 m 51 ls []) := by
          intro n1
          induction n1 with
          | zero =>
            intro w1_2 w1_1 H5 hm hlo1_2
            intros
            exfalso
            have := Int32.toInt_lt w1_2; have := Int32.le_toInt w1_2
            have := Int32.toInt_lt w1_1; have := Int32.le_toInt w1_1
            omega
          | succ n1 ih1 =>
            intro w1_2 w1_1 H5 hm hlo1_2 hT5 z10 R11 locs ls hS5 hl
            refine lv_iload_n hx hb dX11_notice_51 rfl (lv_at hl 0 rfl) ?_
            refine lv_aload_n hx hb dX11_notice_52 rfl (lv_at hl 2 rfl) ?_
            refine lv_iconst (v := 0) hx hb dX11_notice_53 (by decide) ?_
            refine h_callVi (T := TX11) (rest := [.int w1_2]) (As := [.int 0]) hx hb hml hown hts hK hT5 hZ (fun _ h => h) hS5 (c_of l G Y P (o) hM 0 0 (by decide) (h_inc (by decide))) trivial wd_X11_of wV_X11_of wL_X11_47 (hM.o rfl) rfl rfl hl.1 rfl (Nat.le_of_ble_eq_true rfl) dX11_notice_54 ⟨Nat.le_of_ble_eq_true rfl, Nat.le_of_ble_eq_true rfl⟩ ⟨Nat.zero_le _, Nat.zero_le _⟩ (fun r12 H7 locs hp7 hT7 hS7 hk7 => ?_)
            obtain ⟨hp7, he⟩ := hp7
            have he := he.symm
            subst he
            have mr12 : h_ai H5 (o + 1) 0 = r12 := hp7.1.symm
            have br12 := mP_N hp7.2 (by omega)
            refine lv_icmp_ge (tgt := 111) hx hb dX11_notice_57 (by decide) (fun c13 => ?_) (fun c13 => ?_)
            · skip
              have c13 : r12.toInt ≤ w1_2.toInt := Int32.le_iff_toInt_le.mp c13
              refine lv_aload_n hx hb dX11_notice_111 rfl (lv_at hl 2 rfl) ?_
              refine lv_iload_n hx hb dX11_notice_112 rfl (lv_at hl 1 rfl) ?_
              refine h_callVi (T := TX11) (rest := []) (As := [.int w1_1]) hx hb hml hown hts hK hT5 hZ (fun _ h => h) hS7 (c_X11_gives l G Y P (o) hM w1_1) trivial wd_X11_gives wV_X11_gives wL_X11_276 (hM.o rfl) rfl rfl hl.1 rfl (Nat.le_of_ble_eq_true rfl) dX11_notice_113 ⟨Nat.le_of_ble_eq_true rfl, Nat.le_of_ble_eq_true rfl⟩ ⟨Nat.zero_le _, Nat.zero_le _⟩ (fun r14 H8 locs hp8 hT8 hS8 hk8 => ?_)
              obtain ⟨hp8, hB8⟩ := hp8
              have z15 : ∀ j : Nat, 1200 ≤ j → h_ai H8 (o + 1) j = h_ai H0 (o + 1) j := fun j hj => (h_ai_same hB8).trans (z10 j hj)
              have m16 : h_ai H8 (o + 1) 0 = r12 := (h_ai_same hB8).trans mr12
              have R17 : mR o H8 := R11.same hB8
              have f18 : r14.toInt = w1_1.toInt := hp8.1
              exact hret _ _ _ _ _ hT8 hS8 ⟨trivial, ⟨R17, z15⟩⟩ dX11_notice_116
            · skip
              have c13 : ¬ r12.toInt ≤ w1_2.toInt := h_nleI c13
              refine lv_aload_n hx hb dX11_notice_60 rfl (lv_at hl 2 rfl) ?_
              refine lv_iload_n hx hb dX11_notice_61 rfl (lv_at hl 0 rfl) ?_
              refine h_callVi (T := TX11) (rest := []) (As := [.int w1_2]) hx hb hml hown hts hK hT5 hZ (fun _ h => h) hS7 (c_X11_isOn l G Y P (o) hM w1_2) trivial wd_X11_isOn wV_X11_isOn wL_X11_55 (hM.o rfl) rfl rfl hl.1 rfl (Nat.le_of_ble_eq_true rfl) dX11_notice_62 ⟨Nat.le_of_ble_eq_true rfl, Nat.le_of_ble_eq_true rfl⟩ ⟨Nat.zero_le _, Nat.zero_le _⟩ (fun r19 H9 locs hp9 hT9 hS9 hk9 => ?_)
              obtain ⟨hp9, he⟩ := hp9
              have he := he.symm
              subst he
              have f20 : r19.toInt = 0 ∨ (0 ≤ w1_2.toInt ∧ w1_2.toInt < r12.toInt) := by have q := hp9.2; rw [mr12] at q; exact q
              refine lv_if_eq (tgt := 105) hx hb dX11_notice_65 (by decide) (fun c21 => ?_) (fun c21 => ?_)
              · skip
                have c21 : r19.toInt = (0 : Int) := congrArg Int32.toInt c21
                obtain ⟨x22, qx22, ix22⟩ := h_addX w1_2 1 w1_2.toInt (1 : Int) rfl rfl (by omega) (by omega)
                refine lv_iinc (v := x22) (lv' := [(2, .int x22), (1, .int w1_1), (0, .ref (o))]) hx hb dX11_notice_105 hl (k := 0) rfl qx22 (by decide) rfl (fun ls hl => ?_)
                refine lv_goto (tgt := 51) hx hb dX11_notice_108 (by decide) ?_
                exact ih1 x22 w1_1 _ (show 2147483647 - x22.toInt < (n1 : Int) from by omega) (show 0 ≤ x22.toInt from by omega) hT5 z10 R11 _ _ hS9 (lv_sub hl [0, 1, 2] rfl)
              · skip
                have c21 : ¬ r19.toInt = (0 : Int) := h_neI c21
                refine lv_aload_n hx hb dX11_notice_68 rfl (lv_at hl 2 rfl) ?_
                refine lv_bipush (v := 56) hx hb dX11_notice_69 (by decide) ?_
                refine lv_iload_n hx hb dX11_notice_71 rfl (lv_at hl 0 rfl) ?_
                refine lv_iadd hx hb dX11_notice_72 ?_
                obtain ⟨x23, qx23, ix23⟩ := h_addX 56 w1_2 (56 : Int) w1_2.toInt rfl rfl (by omega) (by omega)
                refine h_top (v := x23) qx23 ?_
                refine h_callVi (T := TX11) (rest := []) (As := [.int x23]) hx hb hml hown hts hK hT5 hZ (fun _ h => h) hS9 (c_of l G Y P (o) hM x23 (56 + w1_2.toInt).toNat (show x23.toInt.toNat = (56 + w1_2.toInt).toNat from by omega) (h_vin (by omega) (by omega))) trivial wd_X11_of wV_X11_of wL_X11_47 (hM.o rfl) rfl rfl hl.1 rfl (Nat.le_of_ble_eq_true rfl) dX11_notice_73 ⟨Nat.le_of_ble_eq_true rfl, Nat.le_of_ble_eq_true rfl⟩ ⟨Nat.zero_le _, Nat.zero_le _⟩ (fun r24 H10 locs hp10 hT10 hS10 hk10 => ?_)
                obtain ⟨hp10, he⟩ := hp10
                have he := he.symm
                subst he
                have mr24 : h_ai H5 (o + 1) (56 + w1_2.toInt).toNat = r24 := hp10.1.symm
                refine lv_aload_n hx hb dX11_notice_76 rfl (lv_at hl 2 rfl) ?_
                refine lv_iload_n hx hb dX11_notice_77 rfl (lv_at hl 0 rfl) ?_
                refine lv_iconst (v := (-1)) hx hb dX11_notice_78 (by decide) ?_
                refine h_callVi (T := TX11) (rest := [.int r24]) (As := [.int w1_2, .int (-1)]) hx hb hml hown hts hK hT5 hZ (fun _ h => h) hS10 (c_X11_nextOn l G Y P (o) hM w1_2 (-1)) trivial wd_X11_nextOn wV_X11_nextOn wL_X11_121 (hM.o rfl) rfl rfl hl.1 rfl (Nat.le_of_ble_eq_true rfl) dX11_notice_79 ⟨Nat.le_of_ble_eq_true rfl, Nat.le_of_ble_eq_true rfl⟩ ⟨Nat.zero_le _, Nat.zero_le _⟩ (fun r25 H11 locs hp11 hT11 hS11 hk11 => ?_)
                obtain ⟨hp11, he⟩ := hp11
                have he := he.symm
                subst he
                have f26 : r25.toInt = -1 ∨ (0 ≤ r25.toInt ∧ r25.toInt < r12.toInt) := by have q := hp11; rw [mr12] at q; exact q
                refine lv_icmp_ne (tgt := 88) hx hb dX11_notice_82 (by decide) (fun c27 => ?_) (fun c27 => ?_)
                · skip
                  have c27 : ¬ r24.toInt = r25.toInt := h_neI c27
                  refine lv_aload_n hx hb dX11_notice_88 rfl (lv_at hl 2 rfl) ?_
                  refine lv_bipush (v := 56) hx hb dX11_notice_89 (by decide) ?_
                  refine lv_iload_n hx hb dX11_notice_91 rfl (lv_at hl 0 rfl) ?_
                  refine lv_iadd hx hb dX11_notice_92 ?_
                  refine h_top (v := x23) (h_addE 56 w1_2 x23 (56 : Int) w1_2.toInt rfl rfl (by omega) (by omega) (by omega)) ?_
                  refine lv_aload_n hx hb dX11_notice_93 rfl (lv_at hl 2 rfl) ?_
                  refine lv_iload_n hx hb dX11_notice_94 rfl (lv_at hl 0 rfl) ?_
                  refine lv_iconst (v := (-1)) hx hb dX11_notice_95 (by decide) ?_
                  refine h_callVi (T := TX11) (rest := [.int x23, .ref (o)]) (As := [.int w1_2, .int (-1)]) hx hb hml hown hts hK hT5 hZ (fun _ h => h) hS11 (c_X11_nextOn l G Y P (o) hM w1_2 (-1)) trivial wd_X11_nextOn wV_X11_nextOn wL_X11_121 (hM.o rfl) rfl rfl hl.1 rfl (Nat.le_of_ble_eq_true rfl) dX11_notice_96 ⟨Nat.le_of_ble_eq_true rfl, Nat.le_of_ble_eq_true rfl⟩ ⟨Nat.zero_le _, Nat.zero_le _⟩ (fun r28 H12 locs hp12 hT12 hS12 hk12 => ?_)
                  obtain ⟨hp12, he⟩ := hp12
                  have he := he.symm
                  subst he
                  have f29 : r28.toInt = -1 ∨ (0 ≤ r28.toInt ∧ r28.toInt < r12.toInt) := by have q := hp12; rw [mr12] at q; exact q
                  refine h_callVv (T := TX11) (rest := []) (As := [.int x23, .int r28]) hx hb hml hown hts hK hT5 hZ (fun _ h => h) hS12 (c_puts l G Y P (o) hM x23 r28 (56 + w1_2.toInt).toNat (show x23.toInt.toNat = (56 + w1_2.toInt).toNat from by omega) (h_vin (by omega) (by omega)) (mP_free (by unfold mFree; omega))) trivial wd_X11_puts wV_X11_puts wL_X11_43 (hM.o rfl) rfl rfl hl.1 rfl (Nat.le_of_ble_eq_true rfl) dX11_notice_99 ⟨Nat.le_of_ble_eq_true rfl, Nat.le_of_ble_eq_true rfl⟩ ⟨Nat.zero_le _, Nat.zero_le _⟩ (fun H13 locs hp13 hT13 hS13 hk13 => ?_)
                  have hp13 : h_apu H5 H13 (o + 1) (56 + w1_2.toInt).toNat (.int r28) := hp13.2
                  have z30 : ∀ j : Nat, 1200 ≤ j → h_ai H13 (o + 1) j = h_ai H0 (o + 1) j := fun j hj => (h_apn hp13 (by omega)).trans (z10 j hj)
                  have m31 : h_ai H13 (o + 1) 0 = r12 := (h_apn hp13 (by omega)).trans mr12
                  have R32 : mR o H13 := R11.keep (fun j hj => h_apn hp13 (by unfold mK at hj; omega))
                  have m33 : h_ai H13 (o + 1) (56 + w1_2.toInt).toNat = r28 := h_aps hp13
                  obtain ⟨x34, ex34⟩ : ∃ y : Int32, y = w1_1 + 1 := ⟨_, rfl⟩
                  refine lv_iinc (v := x34) (lv' := [(1, .int x34), (2, .int w1_2), (0, .ref (o))]) hx hb dX11_notice_102 hl (k := 1) rfl (by rw [ex34]; rfl) (by decide) rfl (fun ls hl => ?_)
                  obtain ⟨x35, qx35, ix35⟩ := h_addX w1_2 1 w1_2.toInt (1 : Int) rfl rfl (by omega) (by omega)
                  refine lv_iinc (v := x35) (lv' := [(2, .int x35), (1, .int x34), (0, .ref (o))]) hx hb dX11_notice_105 hl (k := 1) rfl qx35 (by decide) rfl (fun ls hl => ?_)
                  refine lv_goto (tgt := 51) hx hb dX11_notice_108 (by decide) ?_
                  exact ih1 x35 x34 _ (show 2147483647 - x35.toInt < (n1 : Int) from by omega) (show 0 ≤ x35.toInt from by omega) hT13 z30 R32 _ _ hS13 (lv_sub hl [0, 1, 2] rfl)
                · skip
                  have c27 : r24.toInt = r25.toInt := congrArg Int32.toInt c27
                  refine lv_goto (tgt := 105) hx hb dX11_notice_85 (by decide) ?_
                  obtain ⟨x36, qx36, ix36⟩ := h_addX w1_2 1 w1_2.toInt (1 : Int) rfl rfl (by omega) (by omega)
                  refine lv_iinc (v := x36) (lv' := [(2, .int x36), (1, .int w1_1), (0, .ref (o))]) hx hb dX11_notice_105 hl (k := 0) rfl qx36 (by decide) rfl (fun ls hl => ?_)
                  refine lv_goto (tgt := 51) hx hb dX11_notice_108 (by decide) ?_
                  exact ih1 x36 w1_1 _ (show 2147483647 - x36.toInt < (n1 : Int) from by omega) (show 0 ≤ x36.toInt from by omega) hT5 z10 R11 _ _ hS11 (lv_sub hl [0, 1, 2] rfl)
        exact LP1 4294967296 0 0 _ (show 2147483647 - (0 : Int) < ((4294967296 : Nat) : Int) from by omega) (show 0 ≤ (0 : Int) from by omega) hT0 (fun _ _ => rfl) hpr _ _ hS4 (lv_sub hl [0, 1, 2] rfl)
      · skip
        have c9 : ¬ r8.toInt = (1 : Int) := h_neI c9
        refine lv_aload_n hx hb dX11_notice_40 rfl (lv_at hl 0 rfl) ?_
        refine lv_bipush (v := 6) hx hb dX11_notice_41 (by decide) ?_
        refine h_callVi (T := TX11) (rest := []) (As := [.int 6]) hx hb hml hown hts hK hT0 hZ (fun _ h => h) hS4 (c_X11_refuse l G Y P (o) hM 6) trivial wd_X11_refuse wV_X11_refuse wL_X11_267 (hM.o rfl) rfl rfl hl.1 rfl (Nat.le_of_ble_eq_true rfl) dX11_notice_43 ⟨Nat.le_of_ble_eq_true rfl, Nat.le_of_ble_eq_true rfl⟩ ⟨Nat.zero_le _, Nat.zero_le _⟩ (fun r37 H14 locs hp14 hT14 hS14 hk14 => ?_)
        obtain ⟨hp14, hB14⟩ := hp14
        have z38 : ∀ j : Nat, 1200 ≤ j → h_ai H14 (o + 1) j = h_ai H0 (o + 1) j := fun j hj => (h_ai_same hB14)
        have m39 : h_ai H14 (o + 1) 1 = r3 := (h_ai_same hB14).trans mr3
        have m40 : h_ai H14 (o + 1) 0 = v4 := (h_ai_same hB14).trans mv4
        have m41 : h_ai H14 (o + 1) 5 = r8 := (h_ai_same hB14).trans mr8
        have R42 : mR o H14 := hpr.same hB14
        have f43 : r37.toInt = (-1) := hp14.1
        exact hret _ _ _ _ _ hT14 hS14 ⟨trivial, ⟨R42, z38⟩⟩ dX11_notice_46
    · skip
      have c7 : r5.toInt = (0 : Int) := congrArg Int32.toInt c7
      refine lv_aload_n hx hb dX11_notice_25 rfl (lv_at hl 0 rfl) ?_
      refine lv_iconst (v := 5) hx hb dX11_notice_26 (by decide) ?_
      refine h_callVi (T := TX11) (rest := []) (As := [.int 5]) hx hb hml hown hts hK hT0 hZ (fun _ h => h) hS3 (c_X11_refuse l G Y P (o) hM 5) trivial wd_X11_refuse wV_X11_refuse wL_X11_267 (hM.o rfl) rfl rfl hl.1 rfl (Nat.le_of_ble_eq_true rfl) dX11_notice_27 ⟨Nat.le_of_ble_eq_true rfl, Nat.le_of_ble_eq_true rfl⟩ ⟨Nat.zero_le _, Nat.zero_le _⟩ (fun r44 H15 locs hp15 hT15 hS15 hk15 => ?_)
      obtain ⟨hp15, hB15⟩ := hp15
      have z45 : ∀ j : Nat, 1200 ≤ j → h_ai H15 (o + 1) j = h_ai H0 (o + 1) j := fun j hj => (h_ai_same hB15)
      have m46 : h_ai H15 (o + 1) 1 = r3 := (h_ai_same hB15).trans mr3
      have m47 : h_ai H15 (o + 1) 0 = v4 := (h_ai_same hB15).trans mv4
      have R48 : mR o H15 := hpr.same hB15
      have f49 : r44.toInt = (-1) := hp15.1
      exact hret _ _ _ _ _ hT15 hS15 ⟨trivial, ⟨R48, z45⟩⟩ dX11_notice_30
  · skip
    have c2 : ¬ r1.toInt = (0 : Int) := h_neI c2
    refine lv_aload_n hx hb dX11_notice_7 rfl (lv_at hl 0 rfl) ?_
    refine lv_iconst (v := 3) hx hb dX11_notice_8 (by decide) ?_
    refine h_callVi (T := TX11) (rest := []) (As := [.int 3]) hx hb hml hown hts hK hT0 hZ (fun _ h => h) hS1 (c_X11_refuse l G Y P (o) hM 3) trivial wd_X11_refuse wV_X11_refuse wL_X11_267 (hM.o rfl) rfl rfl hl.1 rfl (Nat.le_of_ble_eq_true rfl) dX11_notice_9 ⟨Nat.le_of_ble_eq_true rfl, Nat.le_of_ble_eq_true rfl⟩ ⟨Nat.zero_le _, Nat.zero_le _⟩ (fun r50 H16 locs hp16 hT16 hS16 hk16 => ?_)
    obtain ⟨hp16, hB16⟩ := hp16
    have z51 : ∀ j : Nat, 1200 ≤ j → h_ai H16 (o + 1) j = h_ai H0 (o + 1) j := fun j hj => (h_ai_same hB16)
    have R52 : mR o H16 := hpr.same hB16
    have f53 : r50.toInt = (-1) := hp16.1
    exact hret _ _ _ _ _ hT16 hS16 ⟨trivial, ⟨R52, z51⟩⟩ dX11_notice_12
set_option maxHeartbeats 4000000 in
set_option maxRecDepth 100000 in
theorem c_X11_feed (l : Launch) (G : hG) (Y : hW) (P : Int32 → Prop) (o : Nat) (hM : h_On Y o (modE (tM P) o)) (u1 u2 u3 u4 u5 : Int32) : hMi l yX11_feed cX11_feed 6 (some .int) 1 22 G Y [.ref (o), .int u1, .int u2, .int u3, .int u4, .int u5] (fun H => mR o H) (fun H r H1 => (True) ∧ (mR o H1 ∧ mV o H H1)) := by
  refine h_ofi (by decide +kernel) (Nat.le_of_ble_eq_true rfl) ?_
  intro p e s m args below meth c H0 ls Q hx hb hts hown hml hK hZ hT0 hpr hS0 hl hret
  have hl : lv_has ls 6 [(0, .ref (o)), (1, .int u1), (2, .int u2), (3, .int u3), (4, .int u4), (5, .int u5)] := hl
  refine lv_aload_n hx hb dX11_feed_0 rfl (lv_at hl 0 rfl) ?_
  refine h_geti (C := RX11) (T := TX11) (N := 23) hx hb hts inX11 hown hK hT0 (hM.o rfl) rfl 10 rfl wF_X11_168 rfl dX11_feed_1 (fun p1 => ?_)
  refine lv_topi (fun x2 ex2 => ?_)
  have bx2 : 0 ≤ x2.toInt ∧ x2.toInt ≤ 500 := by rw [ex2]; exact p1
  refine lv_sipush (v := 480) hx hb dX11_feed_4 (by decide) ?_
  refine lv_icmp_le (tgt := 12) hx hb dX11_feed_7 (by decide) (fun c3 => ?_) (fun c3 => ?_)
  · skip
    have c3 : x2.toInt ≤ (480 : Int) := Int32.le_iff_toInt_le.mp c3
    refine lv_aload_n hx hb dX11_feed_12 rfl (lv_at hl 0 rfl) ?_
    refine lv_iload_n hx hb dX11_feed_13 rfl (lv_at hl 1 rfl) ?_
    refine h_callVv (T := TX11) (rest := []) (As := [.int u1]) hx hb hml hown hts hK hT0 hZ (fun _ h => h) hS0 (c_X11_four l G Y P (o) hM u1 x2 (show 0 ≤ x2.toInt ∧ x2.toInt ≤ 496 from by omega)) ex2.symm wd_X11_four wV_X11_four wL_X11_171 (hM.o rfl) rfl rfl hl.1 rfl (Nat.le_of_ble_eq_true rfl) dX11_feed_14 ⟨Nat.le_of_ble_eq_true rfl, Nat.le_of_ble_eq_true rfl⟩ ⟨Nat.zero_le _, Nat.zero_le _⟩ (fun H1 locs hp1 hT1 hS1 hk1 => ?_)
    obtain ⟨hp1, hB1⟩ := hp1
    have z4 : ∀ j : Nat, 1200 ≤ j → h_ai H1 (o + 1) j = h_ai H0 (o + 1) j := fun j hj => (h_ai_same hB1)
    have R5 : mR o H1 := hpr.same hB1
    obtain ⟨y6, my6⟩ : ∃ x, h_gi G H1 11 o 10 = x := ⟨_, rfl⟩
    have by6 : 0 ≤ y6.toInt ∧ y6.toInt ≤ 500 := by rw [← my6]; exact (hT1.gi (hM.o rfl) 10 rfl).1
    have f7 : y6.toInt = x2.toInt + 4 := by have q := hp1; rw [my6] at q; exact q
    refine lv_aload_n hx hb dX11_feed_17 rfl (lv_at hl 0 rfl) ?_
    refine lv_iload_n hx hb dX11_feed_18 rfl (lv_at hl 2 rfl) ?_
    refine h_callVv (T := TX11) (rest := []) (As := [.int u2]) hx hb hml hown hts hK hT1 hZ (fun _ h => h) hS1 (c_X11_four l G Y P (o) hM u2 y6 (show 0 ≤ y6.toInt ∧ y6.toInt ≤ 496 from by omega)) my6 wd_X11_four wV_X11_four wL_X11_171 (hM.o rfl) rfl rfl hl.1 rfl (Nat.le_of_ble_eq_true rfl) dX11_feed_19 ⟨Nat.le_of_ble_eq_true rfl, Nat.le_of_ble_eq_true rfl⟩ ⟨Nat.zero_le _, Nat.zero_le _⟩ (fun H2 locs hp2 hT2 hS2 hk2 => ?_)
    obtain ⟨hp2, hB2⟩ := hp2
    have z8 : ∀ j : Nat, 1200 ≤ j → h_ai H2 (o + 1) j = h_ai H0 (o + 1) j := fun j hj => (h_ai_same hB2).trans (z4 j hj)
    have R9 : mR o H2 := R5.same hB2
    obtain ⟨y10, my10⟩ : ∃ x, h_gi G H2 11 o 10 = x := ⟨_, rfl⟩
    have by10 : 0 ≤ y10.toInt ∧ y10.toInt ≤ 500 := by rw [← my10]; exact (hT2.gi (hM.o rfl) 10 rfl).1
    have f11 : y10.toInt = y6.toInt + 4 := by have q := hp2; rw [my10] at q; exact q
    refine lv_aload_n hx hb dX11_feed_22 rfl (lv_at hl 0 rfl) ?_
    refine lv_iload_n hx hb dX11_feed_23 rfl (lv_at hl 3 rfl) ?_
    refine h_callVv (T := TX11) (rest := []) (As := [.int u3]) hx hb hml hown hts hK hT2 hZ (fun _ h => h) hS2 (c_X11_four l G Y P (o) hM u3 y10 (show 0 ≤ y10.toInt ∧ y10.toInt ≤ 496 from by omega)) my10 wd_X11_four wV_X11_four wL_X11_171 (hM.o rfl) rfl rfl hl.1 rfl (Nat.le_of_ble_eq_true rfl) dX11_feed_24 ⟨Nat.le_of_ble_eq_true rfl, Nat.le_of_ble_eq_true rfl⟩ ⟨Nat.zero_le _, Nat.zero_le _⟩ (fun H3 locs hp3 hT3 hS3 hk3 => ?_)
    obtain ⟨hp3, hB3⟩ := hp3
    have z12 : ∀ j : Nat, 1200 ≤ j → h_ai H3 (o + 1) j = h_ai H0 (o + 1) j := fun j hj => (h_ai_same hB3).trans (z8 j hj)
    have R13 : mR o H3 := R9.same hB3
    obtain ⟨y14, my14⟩ : ∃ x, h_gi G H3 11 o 10 = x := ⟨_, rfl⟩
    have by14 : 0 ≤ y14.toInt ∧ y14.toInt ≤ 500 := by rw [← my14]; exact (hT3.gi (hM.o rfl) 10 rfl).1
    have f15 : y14.toInt = y10.toInt + 4 := by have q := hp3; rw [my14] at q; exact q
    refine lv_aload_n hx hb dX11_feed_27 rfl (lv_at hl 0 rfl) ?_
    refine lv_iload hx hb dX11_feed_28 (lv_at hl 4 rfl) ?_
    refine h_callVv (T := TX11) (rest := []) (As := [.int u4]) hx hb hml hown hts hK hT3 hZ (fun _ h => h) hS3 (c_X11_four l G Y P (o) hM u4 y14 (show 0 ≤ y14.toInt ∧ y14.toInt ≤ 496 from by omega)) my14 wd_X11_four wV_X11_four wL_X11_171 (hM.o rfl) rfl rfl hl.1 rfl (Nat.le_of_ble_eq_true rfl) dX11_feed_30 ⟨Nat.le_of_ble_eq_true rfl, Nat.le_of_ble_eq_true rfl⟩ ⟨Nat.zero_le _, Nat.zero_le _⟩ (fun H4 locs hp4 hT4 hS4 hk4 => ?_)
    obtain ⟨hp4, hB4⟩ := hp4
    have z16 : ∀ j : Nat, 1200 ≤ j → h_ai H4 (o + 1) j = h_ai H0 (o + 1) j := fun j hj => (h_ai_same hB4).trans (z12 j hj)
    have R17 : mR o H4 := R13.same hB4
    obtain ⟨y18, my18⟩ : ∃ x, h_gi G H4 11 o 10 = x := ⟨_, rfl⟩
    have by18 : 0 ≤ y18.toInt ∧ y18.toInt ≤ 500 := by rw [← my18]; exact (hT4.gi (hM.o rfl) 10 rfl).1
    have f19 : y18.toInt = y14.toInt + 4 := by have q := hp4; rw [my18] at q; exact q
    refine lv_aload_n hx hb dX11_feed_33 rfl (lv_at hl 0 rfl) ?_
    refine lv_iload hx hb dX11_feed_34 (lv_at hl 5 rfl) ?_
    refine h_callVv (T := TX11) (rest := []) (As := [.int u5]) hx hb hml hown hts hK hT4 hZ (fun _ h => h) hS4 (c_X11_four l G Y P (o) hM u5 y18 (show 0 ≤ y18.toInt ∧ y18.toInt ≤ 496 from by omega)) my18 wd_X11_four wV_X11_four wL_X11_171 (hM.o rfl) rfl rfl hl.1 rfl (Nat.le_of_ble_eq_true rfl) dX11_feed_36 ⟨Nat.le_of_ble_eq_true rfl, Nat.le_of_ble_eq_true rfl⟩ ⟨Nat.zero_le _, Nat.zero_le _⟩ (fun H5 locs hp5 hT5 hS5 hk5 => ?_)
    obtain ⟨hp5, hB5⟩ := hp5
    have z20 : ∀ j : Nat, 1200 ≤ j → h_ai H5 (o + 1) j = h_ai H0 (o + 1) j := fun j hj => (h_ai_same hB5).trans (z16 j hj)
    have R21 : mR o H5 := R17.same hB5
    obtain ⟨y22, my22⟩ : ∃ x, h_gi G H5 11 o 10 = x := ⟨_, rfl⟩
    have by22 : 0 ≤ y22.toInt ∧ y22.toInt ≤ 500 := by rw [← my22]; exact (hT5.gi (hM.o rfl) 10 rfl).1
    have f23 : y22.toInt = y18.toInt + 4 := by have q := hp5; rw [my22] at q; exact q
    refine lv_aload_n hx hb dX11_feed_39 rfl (lv_at hl 0 rfl) ?_
    refine h_geti (C := RX11) (T := TX11) (N := 23) hx hb hts inX11 hown hK hT5 (hM.o rfl) rfl 10 rfl wF_X11_168 rfl dX11_feed_40 (fun p24 => ?_)
    refine h_top (v := y22) my22 ?_
    exact hret _ _ _ _ _ hT5 hS5 ⟨trivial, ⟨R21, z20⟩⟩ dX11_feed_43
  · skip
    have c3 : ¬ x2.toInt ≤ (480 : Int) := h_nleI c3
    refine lv_iconst (v := (-1)) hx hb dX11_feed_10 (by decide) ?_
    exact hret _ _ _ _ _ hT0 hS0 ⟨trivial, ⟨hpr, (fun _ _ => rfl)⟩⟩ dX11_feed_11
set_option maxHeartbeats 4000000 in
set_option maxRecDepth 100000 in
theorem c_X11_ranks (l : Launch) (G : hG) (Y : hW) (P : Int32 → Prop) (o : Nat) (hM : h_On Y o (modE (tM P) o)) (u1 u2 : Int32) : hMi l yX11_ranks cX11_ranks 6 (some .int) 1 22 G Y [.ref (o), .int u1, .int u2] (fun H => mR o H) (fun H r H1 => (True) ∧ (mR o H1 ∧ mV o H H1)) := by
  refine h_ofi (by decide +kernel) (Nat.le_of_ble_eq_true rfl) ?_
  intro p e s m args below meth c H0 ls Q hx hb hts hown hml hK hZ hT0 hpr hS0 hl hret
  have hl : lv_has ls 6 [(0, .ref (o)), (1, .int u1), (2, .int u2)] := hl
  refine lv_iload_n hx hb dX11_ranks_0 rfl (lv_at hl 1 rfl) ?_
  refine lv_iconst (v := 0) hx hb dX11_ranks_1 (by decide) ?_
  refine lv_bipush (v := 7) hx hb dX11_ranks_2 (by decide) ?_
  refine h_callSi (rest := []) (As := [.int u1, .int 0, .int 7]) hx hb hml hown hts hK hT0 hZ (fun _ h => h) hS0 (c_X11_isFrom l G Y u1 0 7) trivial wd_X11_isFrom wS_X11_isFrom wL_X11_228 rfl hl.1 rfl (Nat.le_of_ble_eq_true rfl) dX11_ranks_4 ⟨Nat.le_of_ble_eq_true rfl, Nat.le_of_ble_eq_true rfl⟩ ⟨Nat.zero_le _, Nat.zero_le _⟩ (fun r1 H1 locs hp1 hT1 hS1 hk1 => ?_)
  obtain ⟨hp1, he⟩ := hp1
  have he := he.symm
  subst he
  have f2 : (r1.toInt = 1 ∧ (0 : Int) ≤ u1.toInt ∧ u1.toInt ≤ (7 : Int)) ∨ (r1.toInt = 0 ∧ ¬ ((0 : Int) ≤ u1.toInt ∧ u1.toInt ≤ (7 : Int))) := by have q := hp1.2; exact q
  refine lv_if_eq (tgt := 19) hx hb dX11_ranks_7 (by decide) (fun c3 => ?_) (fun c3 => ?_)
  · skip
    have c3 : r1.toInt = (0 : Int) := congrArg Int32.toInt c3
    refine lv_aload_n hx hb dX11_ranks_19 rfl (lv_at hl 0 rfl) ?_
    refine lv_iconst (v := 1) hx hb dX11_ranks_20 (by decide) ?_
    refine h_callVi (T := TX11) (rest := []) (As := [.int 1]) hx hb hml hown hts hK hT0 hZ (fun _ h => h) hS1 (c_X11_refuse l G Y P (o) hM 1) trivial wd_X11_refuse wV_X11_refuse wL_X11_267 (hM.o rfl) rfl rfl hl.1 rfl (Nat.le_of_ble_eq_true rfl) dX11_ranks_21 ⟨Nat.le_of_ble_eq_true rfl, Nat.le_of_ble_eq_true rfl⟩ ⟨Nat.zero_le _, Nat.zero_le _⟩ (fun r4 H2 locs hp2 hT2 hS2 hk2 => ?_)
    obtain ⟨hp2, hB2⟩ := hp2
    have z5 : ∀ j : Nat, 1200 ≤ j → h_ai H2 (o + 1) j = h_ai H0 (o + 1) j := fun j hj => (h_ai_same hB2)
    have R6 : mR o H2 := hpr.same hB2
    have f7 : r4.toInt = (-1) := hp2.1
    exact hret _ _ _ _ _ hT2 hS2 ⟨trivial, ⟨R6, z5⟩⟩ dX11_ranks_24
  · skip
    have c3 : ¬ r1.toInt = (0 : Int) := h_neI c3
    refine lv_iload_n hx hb dX11_ranks_10 rfl (lv_at hl 2 rfl) ?_
    refine lv_iconst (v := 0) hx hb dX11_ranks_11 (by decide) ?_
    refine lv_iconst (v := 2) hx hb dX11_ranks_12 (by decide) ?_
    refine h_callSi (rest := []) (As := [.int u2, .int 0, .int 2]) hx hb hml hown hts hK hT0 hZ (fun _ h => h) hS1 (c_X11_isFrom l G Y u2 0 2) trivial wd_X11_isFrom wS_X11_isFrom wL_X11_228 rfl hl.1 rfl (Nat.le_of_ble_eq_true rfl) dX11_ranks_13 ⟨Nat.le_of_ble_eq_true rfl, Nat.le_of_ble_eq_true rfl⟩ ⟨Nat.zero_le _, Nat.zero_le _⟩ (fun r8 H3 locs hp3 hT3 hS3 hk3 => ?_)
    obtain ⟨hp3, he⟩ := hp3
    have he := he.symm
    subst he
    have f9 : (r8.toInt = 1 ∧ (0 : Int) ≤ u2.toInt ∧ u2.toInt ≤ (2 : Int)) ∨ (r8.toInt = 0 ∧ ¬ ((0 : Int) ≤ u2.toInt ∧ u2.toInt ≤ (2 : Int))) := by have q := hp3.2; exact q
    refine lv_if_ne (tgt := 25) hx hb dX11_ranks_16 (by decide) (fun c10 => ?_) (fun c10 => ?_)
    · skip
      have c10 : ¬ r8.toInt = (0 : Int) := h_neI c10
      refine lv_iload_n hx hb dX11_ranks_25 rfl (lv_at hl 2 rfl) ?_
      refine lv_if_le (tgt := 50) hx hb dX11_ranks_26 (by decide) (fun c11 => ?_) (fun c11 => ?_)
      · skip
        have c11 : u2.toInt ≤ (0 : Int) := Int32.le_iff_toInt_le.mp c11
        refine lv_iconst (v := 0) hx hb dX11_ranks_50 (by decide) ?_
        refine lv_istore_n (lv' := [(3, .int 0), (0, .ref (o)), (1, .int u1), (2, .int u2)]) hx hb dX11_ranks_51 rfl hl (by decide) rfl (fun ls hl => ?_)
        refine lv_iconst (v := 0) hx hb dX11_ranks_52 (by decide) ?_
        refine lv_istore (lv' := [(4, .int 0), (3, .int 0), (0, .ref (o)), (1, .int u1), (2, .int u2)]) hx hb dX11_ranks_53 hl (by decide) rfl (fun ls hl => ?_)
        have LP1 : ∀ (n1 : Nat) (w1_4 : Int32) (w1_3 : Int32), (2147483647 - w1_4.toInt < (n1 : Int)) → (0 ≤ w1_4.toInt) → ∀ (locs : List Loc) (ls : Array Slot), va_S (h_A Y) s.heap H0 locs → lv_has ls 6 [(4, .int w1_4), (3, .int w1_3), (0, .ref (o)), (1, .int u1)] → W p l e (h_rm 1 22) s m args below meth c H0 locs 0 0 Q (F0 m 55 ls []) := by
          intro n1
          induction n1 with
          | zero =>
            intro w1_4 w1_3 hm hlo1_4
            intros
            exfalso
            have := Int32.toInt_lt w1_4; have := Int32.le_toInt w1_4
            have := Int32.toInt_lt w1_3; have := Int32.le_toInt w1_3
            omega
          | succ n1 ih1 =>
            intro w1_4 w1_3 hm hlo1_4  locs ls hS5 hl
            refine lv_iload hx hb dX11_ranks_55 (lv_at hl 0 rfl) ?_
            refine lv_aload_n hx hb dX11_ranks_57 rfl (lv_at hl 2 rfl) ?_
            refine lv_iconst (v := 0) hx hb dX11_ranks_58 (by decide) ?_
            refine h_callVi (T := TX11) (rest := [.int w1_4]) (As := [.int 0]) hx hb hml hown hts hK hT0 hZ (fun _ h => h) hS5 (c_of l G Y P (o) hM 0 0 (by decide) (h_inc (by decide))) trivial wd_X11_of wV_X11_of wL_X11_47 (hM.o rfl) rfl rfl hl.1 rfl (Nat.le_of_ble_eq_true rfl) dX11_ranks_59 ⟨Nat.le_of_ble_eq_true rfl, Nat.le_of_ble_eq_true rfl⟩ ⟨Nat.zero_le _, Nat.zero_le _⟩ (fun r12 H6 locs hp6 hT6 hS6 hk6 => ?_)
            obtain ⟨hp6, he⟩ := hp6
            have he := he.symm
            subst he
            have mr12 : h_ai H0 (o + 1) 0 = r12 := hp6.1.symm
            have br12 := mP_N hp6.2 (by omega)
            refine lv_icmp_ge (tgt := 119) hx hb dX11_ranks_62 (by decide) (fun c13 => ?_) (fun c13 => ?_)
            · skip
              have c13 : r12.toInt ≤ w1_4.toInt := Int32.le_iff_toInt_le.mp c13
              refine lv_aload_n hx hb dX11_ranks_119 rfl (lv_at hl 2 rfl) ?_
              refine lv_iload_n hx hb dX11_ranks_120 rfl (lv_at hl 1 rfl) ?_
              refine h_callVi (T := TX11) (rest := []) (As := [.int w1_3]) hx hb hml hown hts hK hT0 hZ (fun _ h => h) hS6 (c_X11_gives l G Y P (o) hM w1_3) trivial wd_X11_gives wV_X11_gives wL_X11_276 (hM.o rfl) rfl rfl hl.1 rfl (Nat.le_of_ble_eq_true rfl) dX11_ranks_121 ⟨Nat.le_of_ble_eq_true rfl, Nat.le_of_ble_eq_true rfl⟩ ⟨Nat.zero_le _, Nat.zero_le _⟩ (fun r14 H7 locs hp7 hT7 hS7 hk7 => ?_)
              obtain ⟨hp7, hB7⟩ := hp7
              have z15 : ∀ j : Nat, 1200 ≤ j → h_ai H7 (o + 1) j = h_ai H0 (o + 1) j := fun j hj => (h_ai_same hB7)
              have m16 : h_ai H7 (o + 1) 0 = r12 := (h_ai_same hB7).trans mr12
              have R17 : mR o H7 := hpr.same hB7
              have f18 : r14.toInt = w1_3.toInt := hp7.1
              exact hret _ _ _ _ _ hT7 hS7 ⟨trivial, ⟨R17, z15⟩⟩ dX11_ranks_124
            · skip
              have c13 : ¬ r12.toInt ≤ w1_4.toInt := h_nleI c13
              refine lv_iconst (v := 0) hx hb dX11_ranks_65 (by decide) ?_
              refine lv_istore (lv' := [(5, .int 0), (4, .int w1_4), (3, .int w1_3), (0, .ref (o)), (1, .int u1)]) hx hb dX11_ranks_66 hl (by decide) rfl (fun ls hl => ?_)
              have LP2 : ∀ (n2 : Nat) (w2_5 : Int32) (w2_3 : Int32), (2147483647 - w2_5.toInt < (n2 : Int)) → (0 ≤ w2_5.toInt) → ∀ (locs : List Loc) (ls : Array Slot), va_S (h_A Y) s.heap H0 locs → lv_has ls 6 [(5, .int w2_5), (4, .int w1_4), (3, .int w2_3), (0, .ref (o)), (1, .int u1)] → W p l e (h_rm 1 22) s m args below meth c H0 locs 0 0 Q (F0 m 68 ls []) := by
                intro n2
                induction n2 with
                | zero =>
                  intro w2_5 w2_3 hm hlo2_5
                  intros
                  exfalso
                  have := Int32.toInt_lt w2_5; have := Int32.le_toInt w2_5
                  have := Int32.toInt_lt w2_3; have := Int32.le_toInt w2_3
                  omega
                | succ n2 ih2 =>
                  intro w2_5 w2_3 hm hlo2_5  locs ls hS9 hl
                  refine lv_iload hx hb dX11_ranks_68 (lv_at hl 0 rfl) ?_
                  refine lv_aload_n hx hb dX11_ranks_70 rfl (lv_at hl 3 rfl) ?_
                  refine lv_bipush (v := 80) hx hb dX11_ranks_71 (by decide) ?_
                  refine lv_iload hx hb dX11_ranks_73 (lv_at hl 1 rfl) ?_
                  refine lv_iadd hx hb dX11_ranks_75 ?_
                  obtain ⟨x19, qx19, ix19⟩ := h_addX 80 w1_4 (80 : Int) w1_4.toInt rfl rfl (by omega) (by omega)
                  refine h_top (v := x19) qx19 ?_
                  refine h_callVi (T := TX11) (rest := [.int w2_5]) (As := [.int x19]) hx hb hml hown hts hK hT0 hZ (fun _ h => h) hS9 (c_of l G Y P (o) hM x19 (80 + w1_4.toInt).toNat (show x19.toInt.toNat = (80 + w1_4.toInt).toNat from by omega) (h_vin (by omega) (by omega))) trivial wd_X11_of wV_X11_of wL_X11_47 (hM.o rfl) rfl rfl hl.1 rfl (Nat.le_of_ble_eq_true rfl) dX11_ranks_76 ⟨Nat.le_of_ble_eq_true rfl, Nat.le_of_ble_eq_true rfl⟩ ⟨Nat.zero_le _, Nat.zero_le _⟩ (fun r20 H10 locs hp10 hT10 hS10 hk10 => ?_)
                  obtain ⟨hp10, he⟩ := hp10
                  have he := he.symm
                  subst he
                  have mr20 : h_ai H0 (o + 1) (80 + w1_4.toInt).toNat = r20 := hp10.1.symm
                  have br20 := mP_wm hp10.2 (by omega)
                  refine lv_icmp_ge (tgt := 113) hx hb dX11_ranks_79 (by decide) (fun c21 => ?_) (fun c21 => ?_)
                  · skip
                    have c21 : r20.toInt ≤ w2_5.toInt := Int32.le_iff_toInt_le.mp c21
                    obtain ⟨x22, qx22, ix22⟩ := h_addX w1_4 1 w1_4.toInt (1 : Int) rfl rfl (by omega) (by omega)
                    refine lv_iinc (v := x22) (lv' := [(4, .int x22), (5, .int w2_5), (3, .int w2_3), (0, .ref (o)), (1, .int u1)]) hx hb dX11_ranks_113 hl (k := 1) rfl qx22 (by decide) rfl (fun ls hl => ?_)
                    refine lv_goto (tgt := 55) hx hb dX11_ranks_116 (by decide) ?_
                    exact ih1 x22 w2_3 (show 2147483647 - x22.toInt < (n1 : Int) from by omega) (show 0 ≤ x22.toInt from by omega) _ _ hS10 (lv_sub hl [0, 2, 3, 4] rfl)
                  · skip
                    have c21 : ¬ r20.toInt ≤ w2_5.toInt := h_nleI c21
                    refine lv_iload_n hx hb dX11_ranks_82 rfl (lv_at hl 2 rfl) ?_
                    refine lv_aload_n hx hb dX11_ranks_83 rfl (lv_at hl 3 rfl) ?_
                    refine lv_iload hx hb dX11_ranks_84 (lv_at hl 1 rfl) ?_
                    refine lv_iload hx hb dX11_ranks_86 (lv_at hl 0 rfl) ?_
                    refine h_callSi (rest := [.ref (o), .int w2_3]) (As := [.int w1_4, .int w2_5]) hx hb hml hown hts hK hT0 hZ (fun _ h => h) hS10 (c_X11_waitAt l G Y w1_4 w2_5 (show 0 ≤ w1_4.toInt ∧ w1_4.toInt ≤ 7 from by omega) (show 0 ≤ w2_5.toInt ∧ w2_5.toInt ≤ 6 from by omega)) trivial wd_X11_waitAt wS_X11_waitAt wL_X11_62 rfl hl.1 rfl (Nat.le_of_ble_eq_true rfl) dX11_ranks_88 ⟨Nat.le_of_ble_eq_true rfl, Nat.le_of_ble_eq_true rfl⟩ ⟨Nat.zero_le _, Nat.zero_le _⟩ (fun r23 H11 locs hp11 hT11 hS11 hk11 => ?_)
                    obtain ⟨hp11, he⟩ := hp11
                    have he := he.symm
                    subst he
                    have f24 : r23.toInt = 96 + 24 * w1_4.toInt + 4 * w2_5.toInt := by have q := hp11; exact q
                    refine lv_iconst (v := 2) hx hb dX11_ranks_91 (by decide) ?_
                    refine lv_iadd hx hb dX11_ranks_92 ?_
                    obtain ⟨x25, qx25, ix25⟩ := h_addX r23 2 r23.toInt (2 : Int) rfl rfl (by omega) (by omega)
                    refine h_top (v := x25) qx25 ?_
                    refine h_callVi (T := TX11) (rest := [.int w2_3]) (As := [.int x25]) hx hb hml hown hts hK hT0 hZ (fun _ h => h) hS11 (c_of l G Y P (o) hM x25 (98 + 24 * w1_4.toInt + 4 * w2_5.toInt).toNat (show x25.toInt.toNat = (98 + 24 * w1_4.toInt + 4 * w2_5.toInt).toNat from by omega) (h_vin (by omega) (by omega))) trivial wd_X11_of wV_X11_of wL_X11_47 (hM.o rfl) rfl rfl hl.1 rfl (Nat.le_of_ble_eq_true rfl) dX11_ranks_93 ⟨Nat.le_of_ble_eq_true rfl, Nat.le_of_ble_eq_true rfl⟩ ⟨Nat.zero_le _, Nat.zero_le _⟩ (fun r26 H12 locs hp12 hT12 hS12 hk12 => ?_)
                    obtain ⟨hp12, he⟩ := hp12
                    have he := he.symm
                    subst he
                    have mr26 : h_ai H0 (o + 1) (98 + 24 * w1_4.toInt + 4 * w2_5.toInt).toNat = r26 := hp12.1.symm
                    have br26 := mP_w hp12.2 (by omega)
                    refine lv_iload_n hx hb dX11_ranks_96 rfl (lv_at hl 4 rfl) ?_
                    refine lv_icmp_ne (tgt := 104) hx hb dX11_ranks_97 (by decide) (fun c27 => ?_) (fun c27 => ?_)
                    · skip
                      have c27 : ¬ r26.toInt = u1.toInt := h_neI c27
                      refine lv_iconst (v := 0) hx hb dX11_ranks_104 (by decide) ?_
                      refine lv_iadd hx hb dX11_ranks_105 ?_
                      refine h_top (v := w2_3) (h_addE w2_3 0 w2_3 w2_3.toInt (0 : Int) rfl rfl (by have := Int32.le_toInt w2_3; have := Int32.toInt_lt w2_3; omega) (by have := Int32.le_toInt w2_3; have := Int32.toInt_lt w2_3; omega) (by omega)) ?_
                      refine lv_istore_n (lv' := [(3, .int w2_3), (5, .int w2_5), (4, .int w1_4), (0, .ref (o)), (1, .int u1)]) hx hb dX11_ranks_106 rfl hl (by decide) rfl (fun ls hl => ?_)
                      obtain ⟨x28, qx28, ix28⟩ := h_addX w2_5 1 w2_5.toInt (1 : Int) rfl rfl (by omega) (by omega)
                      refine lv_iinc (v := x28) (lv' := [(5, .int x28), (3, .int w2_3), (4, .int w1_4), (0, .ref (o)), (1, .int u1)]) hx hb dX11_ranks_107 hl (k := 1) rfl qx28 (by decide) rfl (fun ls hl => ?_)
                      refine lv_goto (tgt := 68) hx hb dX11_ranks_110 (by decide) ?_
                      exact ih2 x28 w2_3 (show 2147483647 - x28.toInt < (n2 : Int) from by omega) (show 0 ≤ x28.toInt from by omega) _ _ hS12 (lv_sub hl [0, 2, 1, 3, 4] rfl)
                    · skip
                      have c27 : r26.toInt = u1.toInt := congrArg Int32.toInt c27
                      refine lv_iconst (v := 1) hx hb dX11_ranks_100 (by decide) ?_
                      refine lv_goto (tgt := 105) hx hb dX11_ranks_101 (by decide) ?_
                      refine lv_iadd hx hb dX11_ranks_105 ?_
                      refine lv_topi (fun x29 ex29 => ?_)
                      refine lv_istore_n (lv' := [(3, .int x29), (5, .int w2_5), (4, .int w1_4), (0, .ref (o)), (1, .int u1)]) hx hb dX11_ranks_106 rfl hl (by decide) rfl (fun ls hl => ?_)
                      obtain ⟨x30, qx30, ix30⟩ := h_addX w2_5 1 w2_5.toInt (1 : Int) rfl rfl (by omega) (by omega)
                      refine lv_iinc (v := x30) (lv' := [(5, .int x30), (3, .int x29), (4, .int w1_4), (0, .ref (o)), (1, .int u1)]) hx hb dX11_ranks_107 hl (k := 1) rfl qx30 (by decide) rfl (fun ls hl => ?_)
                      refine lv_goto (tgt := 68) hx hb dX11_ranks_110 (by decide) ?_
                      exact ih2 x30 x29 (show 2147483647 - x30.toInt < (n2 : Int) from by omega) (show 0 ≤ x30.toInt from by omega) _ _ hS12 (lv_sub hl [0, 2, 1, 3, 4] rfl)
              exact LP2 4294967296 0 w1_3 (show 2147483647 - (0 : Int) < ((4294967296 : Nat) : Int) from by have := Int32.le_toInt w1_3; have := Int32.toInt_lt w1_3; omega) (show 0 ≤ (0 : Int) from by omega) _ _ hS6 (lv_sub hl [0, 1, 2, 3, 4] rfl)
        exact LP1 4294967296 0 0 (show 2147483647 - (0 : Int) < ((4294967296 : Nat) : Int) from by omega) (show 0 ≤ (0 : Int) from by omega) _ _ hS3 (lv_sub hl [0, 1, 2, 3] rfl)
      · skip
        have c11 : ¬ u2.toInt ≤ (0 : Int) := h_nleI c11
        refine lv_aload_n hx hb dX11_ranks_29 rfl (lv_at hl 0 rfl) ?_
        refine lv_aload_n hx hb dX11_ranks_30 rfl (lv_at hl 0 rfl) ?_
        refine lv_sipush (v := 584) hx hb dX11_ranks_31 (by decide) ?_
        refine lv_bipush (v := 8) hx hb dX11_ranks_34 (by decide) ?_
        refine lv_iload_n hx hb dX11_ranks_36 rfl (lv_at hl 2 rfl) ?_
        refine lv_iconst (v := 1) hx hb dX11_ranks_37 (by decide) ?_
        refine lv_isub hx hb dX11_ranks_38 ?_
        obtain ⟨x31, qx31, ix31⟩ := h_subX u2 1 u2.toInt (1 : Int) rfl rfl (by omega) (by omega)
        refine h_top (v := x31) qx31 ?_
        refine lv_imul hx hb dX11_ranks_39 ?_
        obtain ⟨x32, qx32, ix32⟩ := h_mulX 8 x31 (8 : Int) x31.toInt rfl rfl (by omega) (by omega)
        refine h_top (v := x32) qx32 ?_
        refine lv_iadd hx hb dX11_ranks_40 ?_
        obtain ⟨x33, qx33, ix33⟩ := h_addX 584 x32 (584 : Int) x32.toInt rfl rfl (by omega) (by omega)
        refine h_top (v := x33) qx33 ?_
        refine lv_iload_n hx hb dX11_ranks_41 rfl (lv_at hl 1 rfl) ?_
        refine lv_iadd hx hb dX11_ranks_42 ?_
        obtain ⟨x34, qx34, ix34⟩ := h_addX x33 u1 x33.toInt u1.toInt rfl rfl (by omega) (by omega)
        refine h_top (v := x34) qx34 ?_
        refine h_callVi (T := TX11) (rest := [.ref (o)]) (As := [.int x34]) hx hb hml hown hts hK hT0 hZ (fun _ h => h) hS3 (c_of l G Y P (o) hM x34 (576 + u1.toInt + 8 * u2.toInt).toNat (show x34.toInt.toNat = (576 + u1.toInt + 8 * u2.toInt).toNat from by omega) (h_vin (by omega) (by omega))) trivial wd_X11_of wV_X11_of wL_X11_47 (hM.o rfl) rfl rfl hl.1 rfl (Nat.le_of_ble_eq_true rfl) dX11_ranks_43 ⟨Nat.le_of_ble_eq_true rfl, Nat.le_of_ble_eq_true rfl⟩ ⟨Nat.zero_le _, Nat.zero_le _⟩ (fun r35 H13 locs hp13 hT13 hS13 hk13 => ?_)
        obtain ⟨hp13, he⟩ := hp13
        have he := he.symm
        subst he
        have mr35 : h_ai H0 (o + 1) (576 + u1.toInt + 8 * u2.toInt).toNat = r35 := hp13.1.symm
        refine h_callVi (T := TX11) (rest := []) (As := [.int r35]) hx hb hml hown hts hK hT0 hZ (fun _ h => h) hS13 (c_X11_gives l G Y P (o) hM r35) trivial wd_X11_gives wV_X11_gives wL_X11_276 (hM.o rfl) rfl rfl hl.1 rfl (Nat.le_of_ble_eq_true rfl) dX11_ranks_46 ⟨Nat.le_of_ble_eq_true rfl, Nat.le_of_ble_eq_true rfl⟩ ⟨Nat.zero_le _, Nat.zero_le _⟩ (fun r36 H14 locs hp14 hT14 hS14 hk14 => ?_)
        obtain ⟨hp14, hB14⟩ := hp14
        have z37 : ∀ j : Nat, 1200 ≤ j → h_ai H14 (o + 1) j = h_ai H0 (o + 1) j := fun j hj => (h_ai_same hB14)
        have m38 : h_ai H14 (o + 1) (576 + u1.toInt + 8 * u2.toInt).toNat = r35 := (h_ai_same hB14).trans mr35
        have R39 : mR o H14 := hpr.same hB14
        have f40 : r36.toInt = r35.toInt := hp14.1
        exact hret _ _ _ _ _ hT14 hS14 ⟨trivial, ⟨R39, z37⟩⟩ dX11_ranks_49
    · skip
      have c10 : r8.toInt = (0 : Int) := congrArg Int32.toInt c10
      refine lv_aload_n hx hb dX11_ranks_19 rfl (lv_at hl 0 rfl) ?_
      refine lv_iconst (v := 1) hx hb dX11_ranks_20 (by decide) ?_
      refine h_callVi (T := TX11) (rest := []) (As := [.int 1]) hx hb hml hown hts hK hT0 hZ (fun _ h => h) hS3 (c_X11_refuse l G Y P (o) hM 1) trivial wd_X11_refuse wV_X11_refuse wL_X11_267 (hM.o rfl) rfl rfl hl.1 rfl (Nat.le_of_ble_eq_true rfl) dX11_ranks_21 ⟨Nat.le_of_ble_eq_true rfl, Nat.le_of_ble_eq_true rfl⟩ ⟨Nat.zero_le _, Nat.zero_le _⟩ (fun r41 H15 locs hp15 hT15 hS15 hk15 => ?_)
      obtain ⟨hp15, hB15⟩ := hp15
      have z42 : ∀ j : Nat, 1200 ≤ j → h_ai H15 (o + 1) j = h_ai H0 (o + 1) j := fun j hj => (h_ai_same hB15)
      have R43 : mR o H15 := hpr.same hB15
      have f44 : r41.toInt = (-1) := hp15.1
      exact hret _ _ _ _ _ hT15 hS15 ⟨trivial, ⟨R43, z42⟩⟩ dX11_ranks_24
set_option maxHeartbeats 4000000 in
set_option maxRecDepth 100000 in
theorem c_X11_hops (l : Launch) (G : hG) (Y : hW) (P : Int32 → Prop) (o : Nat) (hM : h_On Y o (modE (tM P) o)) (u1 u2 : Int32) : hMi l yX11_hops cX11_hops 5 (some .int) 5 107 G Y [.ref (o), .int u1, .int u2] (fun H => mR o H) (fun H r H1 => (True) ∧ (mR o H1 ∧ mV o H H1)) := by
  refine h_ofi (by decide +kernel) (Nat.le_of_ble_eq_true rfl) ?_
  intro p e s m args below meth c H0 ls Q hx hb hts hown hml hK hZ hT0 hpr hS0 hl hret
  have hl : lv_has ls 5 [(0, .ref (o)), (1, .int u1), (2, .int u2)] := hl
  refine lv_aload_n hx hb dX11_hops_0 rfl (lv_at hl 0 rfl) ?_
  refine lv_iload_n hx hb dX11_hops_1 rfl (lv_at hl 1 rfl) ?_
  obtain ⟨v1, mv1⟩ : ∃ x, h_ai H0 (o + 1) 0 = x := ⟨_, rfl⟩
  have bv1 := mP_N (mP_cell hM hT0 (j := 0) (by omega)) (by omega)
  rw [mv1] at bv1
  refine h_callVi (T := TX11) (rest := []) (As := [.int u1]) hx hb hml hown hts hK hT0 hZ (fun _ h => h) hS0 (c_X11_isStation l G Y P (o) hM u1) trivial wd_X11_isStation wV_X11_isStation wL_X11_51 (hM.o rfl) rfl rfl hl.1 rfl (Nat.le_of_ble_eq_true rfl) dX11_hops_2 ⟨Nat.le_of_ble_eq_true rfl, Nat.le_of_ble_eq_true rfl⟩ ⟨Nat.zero_le _, Nat.zero_le _⟩ (fun r2 H1 locs hp1 hT1 hS1 hk1 => ?_)
  obtain ⟨hp1, he⟩ := hp1
  have he := he.symm
  subst he
  have f3 : r2.toInt = 0 ∨ (0 ≤ u1.toInt ∧ u1.toInt < v1.toInt) := by have q := hp1.2; rw [mv1] at q; exact q
  refine lv_if_eq (tgt := 16) hx hb dX11_hops_5 (by decide) (fun c4 => ?_) (fun c4 => ?_)
  · skip
    have c4 : r2.toInt = (0 : Int) := congrArg Int32.toInt c4
    refine lv_aload_n hx hb dX11_hops_16 rfl (lv_at hl 0 rfl) ?_
    refine lv_iconst (v := 2) hx hb dX11_hops_17 (by decide) ?_
    refine h_callVi (T := TX11) (rest := []) (As := [.int 2]) hx hb hml hown hts hK hT0 hZ (fun _ h => h) hS1 (c_X11_refuse l G Y P (o) hM 2) trivial wd_X11_refuse wV_X11_refuse wL_X11_267 (hM.o rfl) rfl rfl hl.1 rfl (Nat.le_of_ble_eq_true rfl) dX11_hops_18 ⟨Nat.le_of_ble_eq_true rfl, Nat.le_of_ble_eq_true rfl⟩ ⟨Nat.zero_le _, Nat.zero_le _⟩ (fun r5 H2 locs hp2 hT2 hS2 hk2 => ?_)
    obtain ⟨hp2, hB2⟩ := hp2
    have z6 : ∀ j : Nat, 1200 ≤ j → h_ai H2 (o + 1) j = h_ai H0 (o + 1) j := fun j hj => (h_ai_same hB2)
    have m7 : h_ai H2 (o + 1) 0 = v1 := (h_ai_same hB2).trans mv1
    have R8 : mR o H2 := hpr.same hB2
    have f9 : r5.toInt = (-1) := hp2.1
    exact hret _ _ _ _ _ hT2 hS2 ⟨trivial, ⟨R8, z6⟩⟩ dX11_hops_21
  · skip
    have c4 : ¬ r2.toInt = (0 : Int) := h_neI c4
    refine lv_aload_n hx hb dX11_hops_8 rfl (lv_at hl 0 rfl) ?_
    refine lv_iload_n hx hb dX11_hops_9 rfl (lv_at hl 2 rfl) ?_
    refine h_callVi (T := TX11) (rest := []) (As := [.int u2]) hx hb hml hown hts hK hT0 hZ (fun _ h => h) hS1 (c_X11_isStation l G Y P (o) hM u2) trivial wd_X11_isStation wV_X11_isStation wL_X11_51 (hM.o rfl) rfl rfl hl.1 rfl (Nat.le_of_ble_eq_true rfl) dX11_hops_10 ⟨Nat.le_of_ble_eq_true rfl, Nat.le_of_ble_eq_true rfl⟩ ⟨Nat.zero_le _, Nat.zero_le _⟩ (fun r10 H3 locs hp3 hT3 hS3 hk3 => ?_)
    obtain ⟨hp3, he⟩ := hp3
    have he := he.symm
    subst he
    have f11 : r10.toInt = 0 ∨ (0 ≤ u2.toInt ∧ u2.toInt < v1.toInt) := by have q := hp3.2; rw [mv1] at q; exact q
    refine lv_if_ne (tgt := 22) hx hb dX11_hops_13 (by decide) (fun c12 => ?_) (fun c12 => ?_)
    · skip
      have c12 : ¬ r10.toInt = (0 : Int) := h_neI c12
      refine lv_aload_n hx hb dX11_hops_22 rfl (lv_at hl 0 rfl) ?_
      refine lv_iload_n hx hb dX11_hops_23 rfl (lv_at hl 1 rfl) ?_
      refine lv_iload_n hx hb dX11_hops_24 rfl (lv_at hl 2 rfl) ?_
      refine h_callVi (T := TX11) (rest := []) (As := [.int u1, .int u2]) hx hb hml hown hts hK hT0 hZ (fun _ h => h) hS3 (c_X11_isBroken l G Y P (o) hM u1 u2 (show (-1) ≤ u1.toInt ∧ u1.toInt ≤ 7 from by omega) (show 0 ≤ u2.toInt ∧ u2.toInt ≤ 7 from by omega)) ⟨hpr, (show u2.toInt < (h_ai H0 (o + 1) 0).toInt from by rw [mv1]; exact (show u2.toInt < v1.toInt from by omega))⟩ wd_X11_isBroken wV_X11_isBroken wL_X11_124 (hM.o rfl) rfl rfl hl.1 rfl (Nat.le_of_ble_eq_true rfl) dX11_hops_25 ⟨Nat.le_of_ble_eq_true rfl, Nat.le_of_ble_eq_true rfl⟩ ⟨Nat.zero_le _, Nat.zero_le _⟩ (fun r13 H4 locs hp4 hT4 hS4 hk4 => ?_)
      obtain ⟨hp4, he⟩ := hp4
      have he := he.symm
      subst he
      refine lv_if_eq (tgt := 37) hx hb dX11_hops_28 (by decide) (fun c14 => ?_) (fun c14 => ?_)
      · skip
        have c14 : r13.toInt = (0 : Int) := congrArg Int32.toInt c14
        refine lv_aload_n hx hb dX11_hops_37 rfl (lv_at hl 0 rfl) ?_
        refine lv_iload_n hx hb dX11_hops_38 rfl (lv_at hl 2 rfl) ?_
        refine h_callVi (T := TX11) (rest := []) (As := [.int u2]) hx hb hml hown hts hK hT0 hZ (fun _ h => h) hS4 (c_X11_isOn l G Y P (o) hM u2) trivial wd_X11_isOn wV_X11_isOn wL_X11_55 (hM.o rfl) rfl rfl hl.1 rfl (Nat.le_of_ble_eq_true rfl) dX11_hops_39 ⟨Nat.le_of_ble_eq_true rfl, Nat.le_of_ble_eq_true rfl⟩ ⟨Nat.zero_le _, Nat.zero_le _⟩ (fun r15 H5 locs hp5 hT5 hS5 hk5 => ?_)
        obtain ⟨hp5, he⟩ := hp5
        have he := he.symm
        subst he
        have f16 : r15.toInt = 0 ∨ (0 ≤ u2.toInt ∧ u2.toInt < v1.toInt) := by have q := hp5.2; rw [mv1] at q; exact q
        refine lv_if_ne (tgt := 51) hx hb dX11_hops_42 (by decide) (fun c17 => ?_) (fun c17 => ?_)
        · skip
          have c17 : ¬ r15.toInt = (0 : Int) := h_neI c17
          refine lv_iconst (v := 0) hx hb dX11_hops_51 (by decide) ?_
          refine lv_istore_n (lv' := [(3, .int 0), (0, .ref (o)), (1, .int u1), (2, .int u2)]) hx hb dX11_hops_52 rfl hl (by decide) rfl (fun ls hl => ?_)
          refine lv_iload_n hx hb dX11_hops_53 rfl (lv_at hl 2 rfl) ?_
          refine lv_istore (lv' := [(4, .int u1), (3, .int 0), (0, .ref (o)), (1, .int u1), (2, .int u2)]) hx hb dX11_hops_54 hl (by decide) rfl (fun ls hl => ?_)
          have LP1 : ∀ (n1 : Nat) (w1_4 : Int32) (w1_3 : Int32), (((w1_4.toInt < u2.toInt ∧ u2.toInt - w1_4.toInt < (n1 : Int)) ∨ (u2.toInt ≤ w1_4.toInt ∧ w1_4.toInt < v1.toInt ∧ u2.toInt - w1_4.toInt + 100 < (n1 : Int)) ∨ (v1.toInt ≤ w1_4.toInt ∧ u2.toInt ≤ w1_4.toInt ∧ u2.toInt - w1_4.toInt + 300 < (n1 : Int)))) → (0 ≤ w1_4.toInt) → (w1_4.toInt ≤ 7) → ∀ (locs : List Loc) (ls : Array Slot), va_S (h_A Y) s.heap H0 locs → lv_has ls 5 [(4, .int w1_4), (3, .int w1_3), (0, .ref (o)), (2, .int u2)] → W p l e (h_rm 5 107) s m args below meth c H0 locs 0 0 Q (F0 m 56 ls []) := by
            intro n1
            induction n1 with
            | zero =>
              intro w1_4 w1_3 hm hlo1_4 hhi1_4
              intros
              exfalso
              have := Int32.toInt_lt w1_4; have := Int32.le_toInt w1_4
              have := Int32.toInt_lt w1_3; have := Int32.le_toInt w1_3
              omega
            | succ n1 ih1 =>
              intro w1_4 w1_3 hm hlo1_4 hhi1_4  locs ls hS7 hl
              refine lv_iload hx hb dX11_hops_56 (lv_at hl 0 rfl) ?_
              refine lv_iconst (v := 1) hx hb dX11_hops_58 (by decide) ?_
              refine lv_iadd hx hb dX11_hops_59 ?_
              obtain ⟨x18, qx18, ix18⟩ := h_addX w1_4 1 w1_4.toInt (1 : Int) rfl rfl (by omega) (by omega)
              refine h_top (v := x18) qx18 ?_
              refine lv_aload_n hx hb dX11_hops_60 rfl (lv_at hl 2 rfl) ?_
              refine lv_iconst (v := 0) hx hb dX11_hops_61 (by decide) ?_
              refine h_callVi (T := TX11) (rest := [.int x18]) (As := [.int 0]) hx hb hml hown hts hK hT0 hZ (fun _ h => h) hS7 (c_of l G Y P (o) hM 0 0 (by decide) (h_inc (by decide))) trivial wd_X11_of wV_X11_of wL_X11_47 (hM.o rfl) rfl rfl hl.1 rfl (Nat.le_of_ble_eq_true rfl) dX11_hops_62 ⟨Nat.le_of_ble_eq_true rfl, Nat.le_of_ble_eq_true rfl⟩ ⟨Nat.zero_le _, Nat.zero_le _⟩ (fun r19 H8 locs hp8 hT8 hS8 hk8 => ?_)
              obtain ⟨hp8, he⟩ := hp8
              have he := he.symm
              subst he
              have hp8 : v1 = r19 := (hp8.1.trans mv1).symm
              subst hp8
              refine lv_irem hx hb dX11_hops_65 (fun q => absurd (congrArg Int32.toInt q) (show ¬ v1.toInt = 0 from by omega)) ?_
              obtain ⟨x20, qx20, gx20⟩ := h_rem0 x18 v1 x18.toInt v1.toInt rfl rfl (by omega) (by omega)
              refine h_top (v := x20) qx20 ?_
              refine lv_istore (lv' := [(4, .int x20), (3, .int w1_3), (0, .ref (o)), (2, .int u2)]) hx hb dX11_hops_66 hl (by decide) rfl (fun ls hl => ?_)
              refine lv_iload_n hx hb dX11_hops_68 rfl (lv_at hl 1 rfl) ?_
              refine lv_aload_n hx hb dX11_hops_69 rfl (lv_at hl 2 rfl) ?_
              refine lv_bipush (v := 48) hx hb dX11_hops_70 (by decide) ?_
              refine lv_iload hx hb dX11_hops_72 (lv_at hl 0 rfl) ?_
              refine lv_iadd hx hb dX11_hops_74 ?_
              obtain ⟨x21, qx21, ix21⟩ := h_addX 48 x20 (48 : Int) x20.toInt rfl rfl (by omega) (by omega)
              refine h_top (v := x21) qx21 ?_
              refine h_callVi (T := TX11) (rest := [.int w1_3]) (As := [.int x21]) hx hb hml hown hts hK hT0 hZ (fun _ h => h) hS8 (c_of l G Y P (o) hM x21 (48 + x20.toInt).toNat (show x21.toInt.toNat = (48 + x20.toInt).toNat from by omega) (h_vin (by omega) (by omega))) trivial wd_X11_of wV_X11_of wL_X11_47 (hM.o rfl) rfl rfl hl.1 rfl (Nat.le_of_ble_eq_true rfl) dX11_hops_75 ⟨Nat.le_of_ble_eq_true rfl, Nat.le_of_ble_eq_true rfl⟩ ⟨Nat.zero_le _, Nat.zero_le _⟩ (fun r22 H9 locs hp9 hT9 hS9 hk9 => ?_)
              obtain ⟨hp9, he⟩ := hp9
              have he := he.symm
              subst he
              have mr22 : h_ai H0 (o + 1) (48 + x20.toInt).toNat = r22 := hp9.1.symm
              refine lv_iadd hx hb dX11_hops_78 ?_
              refine lv_topi (fun x23 ex23 => ?_)
              refine lv_istore_n (lv' := [(3, .int x23), (4, .int x20), (0, .ref (o)), (2, .int u2)]) hx hb dX11_hops_79 rfl hl (by decide) rfl (fun ls hl => ?_)
              refine lv_iload hx hb dX11_hops_80 (lv_at hl 1 rfl) ?_
              refine lv_iload_n hx hb dX11_hops_82 rfl (lv_at hl 3 rfl) ?_
              refine lv_icmp_ne (tgt := 56) hx hb dX11_hops_83 (by decide) (fun c24 => ?_) (fun c24 => ?_)
              · skip
                have c24 : ¬ x20.toInt = u2.toInt := h_neI c24
                exact ih1 x20 x23 (show ((x20.toInt < u2.toInt ∧ u2.toInt - x20.toInt < (n1 : Int)) ∨ (u2.toInt ≤ x20.toInt ∧ x20.toInt < v1.toInt ∧ u2.toInt - x20.toInt + 100 < (n1 : Int)) ∨ (v1.toInt ≤ x20.toInt ∧ u2.toInt ≤ x20.toInt ∧ u2.toInt - x20.toInt + 300 < (n1 : Int))) from by omega) (show 0 ≤ x20.toInt from by omega) (show x20.toInt ≤ 7 from by omega) _ _ hS9 (lv_sub hl [1, 0, 2, 3] rfl)
              · skip
                have c24 : x20.toInt = u2.toInt := congrArg Int32.toInt c24
                refine lv_aload_n hx hb dX11_hops_86 rfl (lv_at hl 2 rfl) ?_
                refine lv_iload_n hx hb dX11_hops_87 rfl (lv_at hl 0 rfl) ?_
                refine h_callVi (T := TX11) (rest := []) (As := [.int x23]) hx hb hml hown hts hK hT0 hZ (fun _ h => h) hS9 (c_X11_gives l G Y P (o) hM x23) trivial wd_X11_gives wV_X11_gives wL_X11_276 (hM.o rfl) rfl rfl hl.1 rfl (Nat.le_of_ble_eq_true rfl) dX11_hops_88 ⟨Nat.le_of_ble_eq_true rfl, Nat.le_of_ble_eq_true rfl⟩ ⟨Nat.zero_le _, Nat.zero_le _⟩ (fun r25 H10 locs hp10 hT10 hS10 hk10 => ?_)
                obtain ⟨hp10, hB10⟩ := hp10
                have z26 : ∀ j : Nat, 1200 ≤ j → h_ai H10 (o + 1) j = h_ai H0 (o + 1) j := fun j hj => (h_ai_same hB10)
                have m27 : h_ai H10 (o + 1) 0 = v1 := (h_ai_same hB10).trans mv1
                have m28 : h_ai H10 (o + 1) (48 + x20.toInt).toNat = r22 := (h_ai_same hB10).trans mr22
                have R29 : mR o H10 := hpr.same hB10
                have f30 : r25.toInt = x23.toInt := hp10.1
                exact hret _ _ _ _ _ hT10 hS10 ⟨trivial, ⟨R29, z26⟩⟩ dX11_hops_91
          exact LP1 4294967296 u1 0 (show ((u1.toInt < u2.toInt ∧ u2.toInt - u1.toInt < ((4294967296 : Nat) : Int)) ∨ (u2.toInt ≤ u1.toInt ∧ u1.toInt < v1.toInt ∧ u2.toInt - u1.toInt + 100 < ((4294967296 : Nat) : Int)) ∨ (v1.toInt ≤ u1.toInt ∧ u2.toInt ≤ u1.toInt ∧ u2.toInt - u1.toInt + 300 < ((4294967296 : Nat) : Int))) from by have := Int32.le_toInt u1; have := Int32.toInt_lt u1; omega) (show 0 ≤ u1.toInt from by omega) (show u1.toInt ≤ 7 from by omega) _ _ hS5 (lv_sub hl [0, 1, 2, 4] rfl)
        · skip
          have c17 : r15.toInt = (0 : Int) := congrArg Int32.toInt c17
          refine lv_aload_n hx hb dX11_hops_45 rfl (lv_at hl 0 rfl) ?_
          refine lv_iconst (v := 5) hx hb dX11_hops_46 (by decide) ?_
          refine h_callVi (T := TX11) (rest := []) (As := [.int 5]) hx hb hml hown hts hK hT0 hZ (fun _ h => h) hS5 (c_X11_refuse l G Y P (o) hM 5) trivial wd_X11_refuse wV_X11_refuse wL_X11_267 (hM.o rfl) rfl rfl hl.1 rfl (Nat.le_of_ble_eq_true rfl) dX11_hops_47 ⟨Nat.le_of_ble_eq_true rfl, Nat.le_of_ble_eq_true rfl⟩ ⟨Nat.zero_le _, Nat.zero_le _⟩ (fun r31 H11 locs hp11 hT11 hS11 hk11 => ?_)
          obtain ⟨hp11, hB11⟩ := hp11
          have z32 : ∀ j : Nat, 1200 ≤ j → h_ai H11 (o + 1) j = h_ai H0 (o + 1) j := fun j hj => (h_ai_same hB11)
          have m33 : h_ai H11 (o + 1) 0 = v1 := (h_ai_same hB11).trans mv1
          have R34 : mR o H11 := hpr.same hB11
          have f35 : r31.toInt = (-1) := hp11.1
          exact hret _ _ _ _ _ hT11 hS11 ⟨trivial, ⟨R34, z32⟩⟩ dX11_hops_50
      · skip
        have c14 : ¬ r13.toInt = (0 : Int) := h_neI c14
        refine lv_aload_n hx hb dX11_hops_31 rfl (lv_at hl 0 rfl) ?_
        refine lv_iconst (v := 3) hx hb dX11_hops_32 (by decide) ?_
        refine h_callVi (T := TX11) (rest := []) (As := [.int 3]) hx hb hml hown hts hK hT0 hZ (fun _ h => h) hS4 (c_X11_refuse l G Y P (o) hM 3) trivial wd_X11_refuse wV_X11_refuse wL_X11_267 (hM.o rfl) rfl rfl hl.1 rfl (Nat.le_of_ble_eq_true rfl) dX11_hops_33 ⟨Nat.le_of_ble_eq_true rfl, Nat.le_of_ble_eq_true rfl⟩ ⟨Nat.zero_le _, Nat.zero_le _⟩ (fun r36 H12 locs hp12 hT12 hS12 hk12 => ?_)
        obtain ⟨hp12, hB12⟩ := hp12
        have z37 : ∀ j : Nat, 1200 ≤ j → h_ai H12 (o + 1) j = h_ai H0 (o + 1) j := fun j hj => (h_ai_same hB12)
        have m38 : h_ai H12 (o + 1) 0 = v1 := (h_ai_same hB12).trans mv1
        have R39 : mR o H12 := hpr.same hB12
        have f40 : r36.toInt = (-1) := hp12.1
        exact hret _ _ _ _ _ hT12 hS12 ⟨trivial, ⟨R39, z37⟩⟩ dX11_hops_36
    · skip
      have c12 : r10.toInt = (0 : Int) := congrArg Int32.toInt c12
      refine lv_aload_n hx hb dX11_hops_16 rfl (lv_at hl 0 rfl) ?_
      refine lv_iconst (v := 2) hx hb dX11_hops_17 (by decide) ?_
      refine h_callVi (T := TX11) (rest := []) (As := [.int 2]) hx hb hml hown hts hK hT0 hZ (fun _ h => h) hS3 (c_X11_refuse l G Y P (o) hM 2) trivial wd_X11_refuse wV_X11_refuse wL_X11_267 (hM.o rfl) rfl rfl hl.1 rfl (Nat.le_of_ble_eq_true rfl) dX11_hops_18 ⟨Nat.le_of_ble_eq_true rfl, Nat.le_of_ble_eq_true rfl⟩ ⟨Nat.zero_le _, Nat.zero_le _⟩ (fun r41 H13 locs hp13 hT13 hS13 hk13 => ?_)
      obtain ⟨hp13, hB13⟩ := hp13
      have z42 : ∀ j : Nat, 1200 ≤ j → h_ai H13 (o + 1) j = h_ai H0 (o + 1) j := fun j hj => (h_ai_same hB13)
      have m43 : h_ai H13 (o + 1) 0 = v1 := (h_ai_same hB13).trans mv1
      have R44 : mR o H13 := hpr.same hB13
      have f45 : r41.toInt = (-1) := hp13.1
      exact hret _ _ _ _ _ hT13 hS13 ⟨trivial, ⟨R44, z42⟩⟩ dX11_hops_21
set_option maxHeartbeats 4000000 in
set_option maxRecDepth 100000 in
theorem c_X11_stale (l : Launch) (G : hG) (Y : hW) (P : Int32 → Prop) (o : Nat) (hM : h_On Y o (modE (tM P) o)) : hMi l yX11_stale cX11_stale 3 (some .int) 4 87 G Y [.ref (o)] (fun H => mR o H) (fun H r H1 => (True) ∧ (mR o H1 ∧ mV o H H1)) := by
  refine h_ofi (by decide +kernel) (Nat.le_of_ble_eq_true rfl) ?_
  intro p e s m args below meth c H0 ls Q hx hb hts hown hml hK hZ hT0 hpr hS0 hl hret
  have hl : lv_has ls 3 [(0, .ref (o))] := hl
  refine lv_iconst (v := 0) hx hb dX11_stale_0 (by decide) ?_
  refine lv_istore_n (lv' := [(1, .int 0), (0, .ref (o))]) hx hb dX11_stale_1 rfl hl (by decide) rfl (fun ls hl => ?_)
  refine lv_iconst (v := 0) hx hb dX11_stale_2 (by decide) ?_
  refine lv_istore_n (lv' := [(2, .int 0), (1, .int 0), (0, .ref (o))]) hx hb dX11_stale_3 rfl hl (by decide) rfl (fun ls hl => ?_)
  have LP1 : ∀ (n1 : Nat) (w1_2 : Int32) (w1_1 : Int32), (2147483647 - w1_2.toInt < (n1 : Int)) → (0 ≤ w1_2.toInt) → ∀ (locs : List Loc) (ls : Array Slot), va_S (h_A Y) s.heap H0 locs → lv_has ls 3 [(2, .int w1_2), (1, .int w1_1), (0, .ref (o))] → W p l e (h_rm 4 87) s m args below meth c H0 locs 0 0 Q (F0 m 4 ls []) := by
    intro n1
    induction n1 with
    | zero =>
      intro w1_2 w1_1 hm hlo1_2
      intros
      exfalso
      have := Int32.toInt_lt w1_2; have := Int32.le_toInt w1_2
      have := Int32.toInt_lt w1_1; have := Int32.le_toInt w1_1
      omega
    | succ n1 ih1 =>
      intro w1_2 w1_1 hm hlo1_2  locs ls hS2 hl
      refine lv_iload_n hx hb dX11_stale_4 rfl (lv_at hl 0 rfl) ?_
      refine lv_aload_n hx hb dX11_stale_5 rfl (lv_at hl 2 rfl) ?_
      refine lv_iconst (v := 0) hx hb dX11_stale_6 (by decide) ?_
      refine h_callVi (T := TX11) (rest := [.int w1_2]) (As := [.int 0]) hx hb hml hown hts hK hT0 hZ (fun _ h => h) hS2 (c_of l G Y P (o) hM 0 0 (by decide) (h_inc (by decide))) trivial wd_X11_of wV_X11_of wL_X11_47 (hM.o rfl) rfl rfl hl.1 rfl (Nat.le_of_ble_eq_true rfl) dX11_stale_7 ⟨Nat.le_of_ble_eq_true rfl, Nat.le_of_ble_eq_true rfl⟩ ⟨Nat.zero_le _, Nat.zero_le _⟩ (fun r1 H3 locs hp3 hT3 hS3 hk3 => ?_)
      obtain ⟨hp3, he⟩ := hp3
      have he := he.symm
      subst he
      have mr1 : h_ai H0 (o + 1) 0 = r1 := hp3.1.symm
      have br1 := mP_N hp3.2 (by omega)
      refine lv_icmp_ge (tgt := 54) hx hb dX11_stale_10 (by decide) (fun c2 => ?_) (fun c2 => ?_)
      · skip
        have c2 : r1.toInt ≤ w1_2.toInt := Int32.le_iff_toInt_le.mp c2
        refine lv_aload_n hx hb dX11_stale_54 rfl (lv_at hl 2 rfl) ?_
        refine lv_iload_n hx hb dX11_stale_55 rfl (lv_at hl 1 rfl) ?_
        refine h_callVi (T := TX11) (rest := []) (As := [.int w1_1]) hx hb hml hown hts hK hT0 hZ (fun _ h => h) hS3 (c_X11_gives l G Y P (o) hM w1_1) trivial wd_X11_gives wV_X11_gives wL_X11_276 (hM.o rfl) rfl rfl hl.1 rfl (Nat.le_of_ble_eq_true rfl) dX11_stale_56 ⟨Nat.le_of_ble_eq_true rfl, Nat.le_of_ble_eq_true rfl⟩ ⟨Nat.zero_le _, Nat.zero_le _⟩ (fun r3 H4 locs hp4 hT4 hS4 hk4 => ?_)
        obtain ⟨hp4, hB4⟩ := hp4
        have z4 : ∀ j : Nat, 1200 ≤ j → h_ai H4 (o + 1) j = h_ai H0 (o + 1) j := fun j hj => (h_ai_same hB4)
        have m5 : h_ai H4 (o + 1) 0 = r1 := (h_ai_same hB4).trans mr1
        have R6 : mR o H4 := hpr.same hB4
        have f7 : r3.toInt = w1_1.toInt := hp4.1
        exact hret _ _ _ _ _ hT4 hS4 ⟨trivial, ⟨R6, z4⟩⟩ dX11_stale_59
      · skip
        have c2 : ¬ r1.toInt ≤ w1_2.toInt := h_nleI c2
        refine lv_iload_n hx hb dX11_stale_13 rfl (lv_at hl 1 rfl) ?_
        refine lv_aload_n hx hb dX11_stale_14 rfl (lv_at hl 2 rfl) ?_
        refine lv_iload_n hx hb dX11_stale_15 rfl (lv_at hl 0 rfl) ?_
        refine h_callVi (T := TX11) (rest := [.int w1_1]) (As := [.int w1_2]) hx hb hml hown hts hK hT0 hZ (fun _ h => h) hS3 (c_X11_isOn l G Y P (o) hM w1_2) trivial wd_X11_isOn wV_X11_isOn wL_X11_55 (hM.o rfl) rfl rfl hl.1 rfl (Nat.le_of_ble_eq_true rfl) dX11_stale_16 ⟨Nat.le_of_ble_eq_true rfl, Nat.le_of_ble_eq_true rfl⟩ ⟨Nat.zero_le _, Nat.zero_le _⟩ (fun r8 H5 locs hp5 hT5 hS5 hk5 => ?_)
        obtain ⟨hp5, he⟩ := hp5
        have he := he.symm
        subst he
        have f9 : r8.toInt = 0 ∨ (0 ≤ w1_2.toInt ∧ w1_2.toInt < r1.toInt) := by have q := hp5.2; rw [mr1] at q; exact q
        refine lv_if_eq (tgt := 45) hx hb dX11_stale_19 (by decide) (fun c10 => ?_) (fun c10 => ?_)
        · skip
          have c10 : r8.toInt = (0 : Int) := congrArg Int32.toInt c10
          refine lv_iconst (v := 0) hx hb dX11_stale_45 (by decide) ?_
          refine lv_ior hx hb dX11_stale_46 ?_
          refine lv_topi (fun x11 ex11 => ?_)
          refine lv_istore_n (lv' := [(1, .int x11), (2, .int w1_2), (0, .ref (o))]) hx hb dX11_stale_47 rfl hl (by decide) rfl (fun ls hl => ?_)
          obtain ⟨x12, qx12, ix12⟩ := h_addX w1_2 1 w1_2.toInt (1 : Int) rfl rfl (by omega) (by omega)
          refine lv_iinc (v := x12) (lv' := [(2, .int x12), (1, .int x11), (0, .ref (o))]) hx hb dX11_stale_48 hl (k := 1) rfl qx12 (by decide) rfl (fun ls hl => ?_)
          refine lv_goto (tgt := 4) hx hb dX11_stale_51 (by decide) ?_
          exact ih1 x12 x11 (show 2147483647 - x12.toInt < (n1 : Int) from by omega) (show 0 ≤ x12.toInt from by omega) _ _ hS5 (lv_sub hl [0, 1, 2] rfl)
        · skip
          have c10 : ¬ r8.toInt = (0 : Int) := h_neI c10
          refine lv_aload_n hx hb dX11_stale_22 rfl (lv_at hl 2 rfl) ?_
          refine lv_bipush (v := 56) hx hb dX11_stale_23 (by decide) ?_
          refine lv_iload_n hx hb dX11_stale_25 rfl (lv_at hl 0 rfl) ?_
          refine lv_iadd hx hb dX11_stale_26 ?_
          obtain ⟨x13, qx13, ix13⟩ := h_addX 56 w1_2 (56 : Int) w1_2.toInt rfl rfl (by omega) (by omega)
          refine h_top (v := x13) qx13 ?_
          refine h_callVi (T := TX11) (rest := [.int w1_1]) (As := [.int x13]) hx hb hml hown hts hK hT0 hZ (fun _ h => h) hS5 (c_of l G Y P (o) hM x13 (56 + w1_2.toInt).toNat (show x13.toInt.toNat = (56 + w1_2.toInt).toNat from by omega) (h_vin (by omega) (by omega))) trivial wd_X11_of wV_X11_of wL_X11_47 (hM.o rfl) rfl rfl hl.1 rfl (Nat.le_of_ble_eq_true rfl) dX11_stale_27 ⟨Nat.le_of_ble_eq_true rfl, Nat.le_of_ble_eq_true rfl⟩ ⟨Nat.zero_le _, Nat.zero_le _⟩ (fun r14 H6 locs hp6 hT6 hS6 hk6 => ?_)
          obtain ⟨hp6, he⟩ := hp6
          have he := he.symm
          subst he
          have mr14 : h_ai H0 (o + 1) (56 + w1_2.toInt).toNat = r14 := hp6.1.symm
          refine lv_aload_n hx hb dX11_stale_30 rfl (lv_at hl 2 rfl) ?_
          refine lv_iload_n hx hb dX11_stale_31 rfl (lv_at hl 0 rfl) ?_
          refine lv_iconst (v := (-1)) hx hb dX11_stale_32 (by decide) ?_
          refine h_callVi (T := TX11) (rest := [.int r14, .int w1_1]) (As := [.int w1_2, .int (-1)]) hx hb hml hown hts hK hT0 hZ (fun _ h => h) hS6 (c_X11_nextOn l G Y P (o) hM w1_2 (-1)) trivial wd_X11_nextOn wV_X11_nextOn wL_X11_121 (hM.o rfl) rfl rfl hl.1 rfl (Nat.le_of_ble_eq_true rfl) dX11_stale_33 ⟨Nat.le_of_ble_eq_true rfl, Nat.le_of_ble_eq_true rfl⟩ ⟨Nat.zero_le _, Nat.zero_le _⟩ (fun r15 H7 locs hp7 hT7 hS7 hk7 => ?_)
          obtain ⟨hp7, he⟩ := hp7
          have he := he.symm
          subst he
          have f16 : r15.toInt = -1 ∨ (0 ≤ r15.toInt ∧ r15.toInt < r1.toInt) := by have q := hp7; rw [mr1] at q; exact q
          refine lv_icmp_eq (tgt := 45) hx hb dX11_stale_36 (by decide) (fun c17 => ?_) (fun c17 => ?_)
          · skip
            have c17 : r14.toInt = r15.toInt := congrArg Int32.toInt c17
            refine lv_iconst (v := 0) hx hb dX11_stale_45 (by decide) ?_
            refine lv_ior hx hb dX11_stale_46 ?_
            refine lv_topi (fun x18 ex18 => ?_)
            refine lv_istore_n (lv' := [(1, .int x18), (2, .int w1_2), (0, .ref (o))]) hx hb dX11_stale_47 rfl hl (by decide) rfl (fun ls hl => ?_)
            obtain ⟨x19, qx19, ix19⟩ := h_addX w1_2 1 w1_2.toInt (1 : Int) rfl rfl (by omega) (by omega)
            refine lv_iinc (v := x19) (lv' := [(2, .int x19), (1, .int x18), (0, .ref (o))]) hx hb dX11_stale_48 hl (k := 1) rfl qx19 (by decide) rfl (fun ls hl => ?_)
            refine lv_goto (tgt := 4) hx hb dX11_stale_51 (by decide) ?_
            exact ih1 x19 x18 (show 2147483647 - x19.toInt < (n1 : Int) from by omega) (show 0 ≤ x19.toInt from by omega) _ _ hS7 (lv_sub hl [0, 1, 2] rfl)
          · skip
            have c17 : ¬ r14.toInt = r15.toInt := h_neI c17
            refine lv_iconst (v := 1) hx hb dX11_stale_39 (by decide) ?_
            refine lv_iload_n hx hb dX11_stale_40 rfl (lv_at hl 0 rfl) ?_
            refine lv_ishl hx hb dX11_stale_41 ?_
            refine lv_topi (fun x20 ex20 => ?_)
            refine lv_goto (tgt := 46) hx hb dX11_stale_42 (by decide) ?_
            refine lv_ior hx hb dX11_stale_46 ?_
            refine lv_topi (fun x21 ex21 => ?_)
            refine lv_istore_n (lv' := [(1, .int x21), (2, .int w1_2), (0, .ref (o))]) hx hb dX11_stale_47 rfl hl (by decide) rfl (fun ls hl => ?_)
            obtain ⟨x22, qx22, ix22⟩ := h_addX w1_2 1 w1_2.toInt (1 : Int) rfl rfl (by omega) (by omega)
            refine lv_iinc (v := x22) (lv' := [(2, .int x22), (1, .int x21), (0, .ref (o))]) hx hb dX11_stale_48 hl (k := 1) rfl qx22 (by decide) rfl (fun ls hl => ?_)
            refine lv_goto (tgt := 4) hx hb dX11_stale_51 (by decide) ?_
            exact ih1 x22 x21 (show 2147483647 - x22.toInt < (n1 : Int) from by omega) (show 0 ≤ x22.toInt from by omega) _ _ hS7 (lv_sub hl [0, 1, 2] rfl)
  exact LP1 4294967296 0 0 (show 2147483647 - (0 : Int) < ((4294967296 : Nat) : Int) from by omega) (show 0 ≤ (0 : Int) from by omega) _ _ hS0 (lv_sub hl [0, 1, 2] rfl)
set_option maxHeartbeats 4000000 in
set_option maxRecDepth 100000 in
theorem c_X11_take (l : Launch) (G : hG) (Y : hW) (P : Int32 → Prop) (o : Nat) (hM : h_On Y o (modE (tM P) o)) (u1 : Int32) : hMi l yX11_take cX11_take 4 (some .int) 2 45 G Y [.ref (o), .int u1] (fun H => mR o H) (fun H r H1 => (True) ∧ (mR o H1 ∧ mV o H H1)) := by
  refine h_ofi (by decide +kernel) (Nat.le_of_ble_eq_true rfl) ?_
  intro p e s m args below meth c H0 ls Q hx hb hts hown hml hK hZ hT0 hpr hS0 hl hret
  have hl : lv_has ls 4 [(0, .ref (o)), (1, .int u1)] := hl
  refine lv_iload_n hx hb dX11_take_0 rfl (lv_at hl 1 rfl) ?_
  refine lv_if_ge (tgt := 10) hx hb dX11_take_1 (by decide) (fun c1 => ?_) (fun c1 => ?_)
  · skip
    have c1 : (0 : Int) ≤ u1.toInt := Int32.le_iff_toInt_le.mp c1
    refine lv_iconst (v := 0) hx hb dX11_take_10 (by decide) ?_
    refine lv_istore_n (lv' := [(2, .int 0), (0, .ref (o)), (1, .int u1)]) hx hb dX11_take_11 rfl hl (by decide) rfl (fun ls hl => ?_)
    have LP1 : ∀ (n1 : Nat) (w1_2 : Int32), (2147483647 - w1_2.toInt < (n1 : Int)) → (0 ≤ w1_2.toInt) → ∀ (locs : List Loc) (ls : Array Slot), va_S (h_A Y) s.heap H0 locs → lv_has ls 4 [(2, .int w1_2), (0, .ref (o)), (1, .int u1)] → W p l e (h_rm 2 45) s m args below meth c H0 locs 0 0 Q (F0 m 12 ls []) := by
      intro n1
      induction n1 with
      | zero =>
        intro w1_2 hm hlo1_2
        intros
        exfalso
        have := Int32.toInt_lt w1_2; have := Int32.le_toInt w1_2
        omega
      | succ n1 ih1 =>
        intro w1_2 hm hlo1_2  locs ls hS2 hl
        refine lv_iload_n hx hb dX11_take_12 rfl (lv_at hl 0 rfl) ?_
        refine lv_aload_n hx hb dX11_take_13 rfl (lv_at hl 1 rfl) ?_
        refine lv_iconst (v := 0) hx hb dX11_take_14 (by decide) ?_
        refine h_callVi (T := TX11) (rest := [.int w1_2]) (As := [.int 0]) hx hb hml hown hts hK hT0 hZ (fun _ h => h) hS2 (c_of l G Y P (o) hM 0 0 (by decide) (h_inc (by decide))) trivial wd_X11_of wV_X11_of wL_X11_47 (hM.o rfl) rfl rfl hl.1 rfl (Nat.le_of_ble_eq_true rfl) dX11_take_15 ⟨Nat.le_of_ble_eq_true rfl, Nat.le_of_ble_eq_true rfl⟩ ⟨Nat.zero_le _, Nat.zero_le _⟩ (fun r2 H3 locs hp3 hT3 hS3 hk3 => ?_)
        obtain ⟨hp3, he⟩ := hp3
        have he := he.symm
        subst he
        have mr2 : h_ai H0 (o + 1) 0 = r2 := hp3.1.symm
        have br2 := mP_N hp3.2 (by omega)
        refine lv_icmp_ge (tgt := 75) hx hb dX11_take_18 (by decide) (fun c3 => ?_) (fun c3 => ?_)
        · skip
          have c3 : r2.toInt ≤ w1_2.toInt := Int32.le_iff_toInt_le.mp c3
          refine lv_aload_n hx hb dX11_take_75 rfl (lv_at hl 1 rfl) ?_
          refine lv_iconst (v := 5) hx hb dX11_take_76 (by decide) ?_
          refine h_callVi (T := TX11) (rest := []) (As := [.int 5]) hx hb hml hown hts hK hT0 hZ (fun _ h => h) hS3 (c_X11_refuse l G Y P (o) hM 5) trivial wd_X11_refuse wV_X11_refuse wL_X11_267 (hM.o rfl) rfl rfl hl.1 rfl (Nat.le_of_ble_eq_true rfl) dX11_take_77 ⟨Nat.le_of_ble_eq_true rfl, Nat.le_of_ble_eq_true rfl⟩ ⟨Nat.zero_le _, Nat.zero_le _⟩ (fun r4 H4 locs hp4 hT4 hS4 hk4 => ?_)
          obtain ⟨hp4, hB4⟩ := hp4
          have z5 : ∀ j : Nat, 1200 ≤ j → h_ai H4 (o + 1) j = h_ai H0 (o + 1) j := fun j hj => (h_ai_same hB4)
          have m6 : h_ai H4 (o + 1) 0 = r2 := (h_ai_same hB4).trans mr2
          have R7 : mR o H4 := hpr.same hB4
          have f8 : r4.toInt = (-1) := hp4.1
          exact hret _ _ _ _ _ hT4 hS4 ⟨trivial, ⟨R7, z5⟩⟩ dX11_take_80
        · skip
          have c3 : ¬ r2.toInt ≤ w1_2.toInt := h_nleI c3
          refine lv_iconst (v := 0) hx hb dX11_take_21 (by decide) ?_
          refine lv_istore_n (lv' := [(3, .int 0), (2, .int w1_2), (0, .ref (o)), (1, .int u1)]) hx hb dX11_take_22 rfl hl (by decide) rfl (fun ls hl => ?_)
          have LP2 : ∀ (n2 : Nat) (w2_3 : Int32), (2147483647 - w2_3.toInt < (n2 : Int)) → (0 ≤ w2_3.toInt) → ∀ (locs : List Loc) (ls : Array Slot), va_S (h_A Y) s.heap H0 locs → lv_has ls 4 [(3, .int w2_3), (2, .int w1_2), (0, .ref (o)), (1, .int u1)] → W p l e (h_rm 2 45) s m args below meth c H0 locs 0 0 Q (F0 m 23 ls []) := by
            intro n2
            induction n2 with
            | zero =>
              intro w2_3 hm hlo2_3
              intros
              exfalso
              have := Int32.toInt_lt w2_3; have := Int32.le_toInt w2_3
              omega
            | succ n2 ih2 =>
              intro w2_3 hm hlo2_3  locs ls hS6 hl
              refine lv_iload_n hx hb dX11_take_23 rfl (lv_at hl 0 rfl) ?_
              refine lv_aload_n hx hb dX11_take_24 rfl (lv_at hl 2 rfl) ?_
              refine lv_bipush (v := 80) hx hb dX11_take_25 (by decide) ?_
              refine lv_iload_n hx hb dX11_take_27 rfl (lv_at hl 1 rfl) ?_
              refine lv_iadd hx hb dX11_take_28 ?_
              obtain ⟨x9, qx9, ix9⟩ := h_addX 80 w1_2 (80 : Int) w1_2.toInt rfl rfl (by omega) (by omega)
              refine h_top (v := x9) qx9 ?_
              refine h_callVi (T := TX11) (rest := [.int w2_3]) (As := [.int x9]) hx hb hml hown hts hK hT0 hZ (fun _ h => h) hS6 (c_of l G Y P (o) hM x9 (80 + w1_2.toInt).toNat (show x9.toInt.toNat = (80 + w1_2.toInt).toNat from by omega) (h_vin (by omega) (by omega))) trivial wd_X11_of wV_X11_of wL_X11_47 (hM.o rfl) rfl rfl hl.1 rfl (Nat.le_of_ble_eq_true rfl) dX11_take_29 ⟨Nat.le_of_ble_eq_true rfl, Nat.le_of_ble_eq_true rfl⟩ ⟨Nat.zero_le _, Nat.zero_le _⟩ (fun r10 H7 locs hp7 hT7 hS7 hk7 => ?_)
              obtain ⟨hp7, he⟩ := hp7
              have he := he.symm
              subst he
              have mr10 : h_ai H0 (o + 1) (80 + w1_2.toInt).toNat = r10 := hp7.1.symm
              have br10 := mP_wm hp7.2 (by omega)
              refine lv_icmp_ge (tgt := 69) hx hb dX11_take_32 (by decide) (fun c11 => ?_) (fun c11 => ?_)
              · skip
                have c11 : r10.toInt ≤ w2_3.toInt := Int32.le_iff_toInt_le.mp c11
                obtain ⟨x12, qx12, ix12⟩ := h_addX w1_2 1 w1_2.toInt (1 : Int) rfl rfl (by omega) (by omega)
                refine lv_iinc (v := x12) (lv' := [(2, .int x12), (3, .int w2_3), (0, .ref (o)), (1, .int u1)]) hx hb dX11_take_69 hl (k := 1) rfl qx12 (by decide) rfl (fun ls hl => ?_)
                refine lv_goto (tgt := 12) hx hb dX11_take_72 (by decide) ?_
                exact ih1 x12 (show 2147483647 - x12.toInt < (n1 : Int) from by omega) (show 0 ≤ x12.toInt from by omega) _ _ hS7 (lv_sub hl [0, 2, 3] rfl)
              · skip
                have c11 : ¬ r10.toInt ≤ w2_3.toInt := h_nleI c11
                refine lv_aload_n hx hb dX11_take_35 rfl (lv_at hl 2 rfl) ?_
                refine lv_iload_n hx hb dX11_take_36 rfl (lv_at hl 1 rfl) ?_
                refine lv_iload_n hx hb dX11_take_37 rfl (lv_at hl 0 rfl) ?_
                refine h_callSi (rest := [.ref (o)]) (As := [.int w1_2, .int w2_3]) hx hb hml hown hts hK hT0 hZ (fun _ h => h) hS7 (c_X11_waitAt l G Y w1_2 w2_3 (show 0 ≤ w1_2.toInt ∧ w1_2.toInt ≤ 7 from by omega) (show 0 ≤ w2_3.toInt ∧ w2_3.toInt ≤ 6 from by omega)) trivial wd_X11_waitAt wS_X11_waitAt wL_X11_62 rfl hl.1 rfl (Nat.le_of_ble_eq_true rfl) dX11_take_38 ⟨Nat.le_of_ble_eq_true rfl, Nat.le_of_ble_eq_true rfl⟩ ⟨Nat.zero_le _, Nat.zero_le _⟩ (fun r13 H8 locs hp8 hT8 hS8 hk8 => ?_)
                obtain ⟨hp8, he⟩ := hp8
                have he := he.symm
                subst he
                have f14 : r13.toInt = 96 + 24 * w1_2.toInt + 4 * w2_3.toInt := by have q := hp8; exact q
                refine h_callVi (T := TX11) (rest := []) (As := [.int r13]) hx hb hml hown hts hK hT0 hZ (fun _ h => h) hS8 (c_of l G Y P (o) hM r13 (96 + 24 * w1_2.toInt + 4 * w2_3.toInt).toNat (show r13.toInt.toNat = (96 + 24 * w1_2.toInt + 4 * w2_3.toInt).toNat from by omega) (h_vin (by omega) (by omega))) trivial wd_X11_of wV_X11_of wL_X11_47 (hM.o rfl) rfl rfl hl.1 rfl (Nat.le_of_ble_eq_true rfl) dX11_take_41 ⟨Nat.le_of_ble_eq_true rfl, Nat.le_of_ble_eq_true rfl⟩ ⟨Nat.zero_le _, Nat.zero_le _⟩ (fun r15 H9 locs hp9 hT9 hS9 hk9 => ?_)
                obtain ⟨hp9, he⟩ := hp9
                have he := he.symm
                subst he
                have mr15 : h_ai H0 (o + 1) (96 + 24 * w1_2.toInt + 4 * w2_3.toInt).toNat = r15 := hp9.1.symm
                refine lv_iload_n hx hb dX11_take_44 rfl (lv_at hl 3 rfl) ?_
                refine lv_icmp_eq (tgt := 51) hx hb dX11_take_45 (by decide) (fun c16 => ?_) (fun c16 => ?_)
                · skip
                  have c16 : r15.toInt = u1.toInt := congrArg Int32.toInt c16
                  refine lv_aload_n hx hb dX11_take_51 rfl (lv_at hl 2 rfl) ?_
                  refine lv_iload_n hx hb dX11_take_52 rfl (lv_at hl 1 rfl) ?_
                  refine lv_iload_n hx hb dX11_take_53 rfl (lv_at hl 0 rfl) ?_
                  refine h_callVv (T := TX11) (rest := []) (As := [.int w1_2, .int w2_3]) hx hb hml hown hts hK hT0 hZ (fun _ h => h) hS9 (c_X11_takes l G Y P (o) hM w1_2 w2_3 (show 0 ≤ w1_2.toInt ∧ w1_2.toInt ≤ 7 from by omega) (show 0 ≤ w2_3.toInt ∧ w2_3.toInt ≤ 5 from by omega)) (show w2_3.toInt < (h_ai H0 (o + 1) (80 + w1_2.toInt).toNat).toInt from by rw [mr10]; exact (show w2_3.toInt < r10.toInt from by omega)) wd_X11_takes wV_X11_takes wL_X11_109 (hM.o rfl) rfl rfl hl.1 rfl (Nat.le_of_ble_eq_true rfl) dX11_take_54 ⟨Nat.le_of_ble_eq_true rfl, Nat.le_of_ble_eq_true rfl⟩ ⟨Nat.zero_le _, Nat.zero_le _⟩ (fun H10 locs hp10 hT10 hS10 hk10 => ?_)
                  obtain ⟨hp10, hB10⟩ := hp10
                  have z17 : ∀ j : Nat, 1200 ≤ j → h_ai H10 (o + 1) j = h_ai H0 (o + 1) j := fun j hj => (hB10 j (by unfold mK; omega))
                  have m18 : h_ai H10 (o + 1) 0 = r2 := (hB10 _ (by unfold mK; omega)).trans mr2
                  have R19 : mR o H10 := hpr.keep hB10
                  obtain ⟨v20, mv20⟩ : ∃ x, h_ai H10 (o + 1) (80 + w1_2.toInt).toNat = x := ⟨_, rfl⟩
                  have bv20 := mP_wm (mP_cell hM hT10 (j := (80 + w1_2.toInt).toNat) (by omega)) (by omega)
                  rw [mv20] at bv20
                  have f21 : v20.toInt = r10.toInt - 1 := by have q := hp10; rw [mv20, mr10] at q; exact q
                  refine lv_aload_n hx hb dX11_take_57 rfl (lv_at hl 2 rfl) ?_
                  refine lv_iload_n hx hb dX11_take_58 rfl (lv_at hl 1 rfl) ?_
                  refine h_callVi (T := TX11) (rest := []) (As := [.int w1_2]) hx hb hml hown hts hK hT10 hZ (fun _ h => h) hS10 (c_X11_gives l G Y P (o) hM w1_2) trivial wd_X11_gives wV_X11_gives wL_X11_276 (hM.o rfl) rfl rfl hl.1 rfl (Nat.le_of_ble_eq_true rfl) dX11_take_59 ⟨Nat.le_of_ble_eq_true rfl, Nat.le_of_ble_eq_true rfl⟩ ⟨Nat.zero_le _, Nat.zero_le _⟩ (fun r22 H11 locs hp11 hT11 hS11 hk11 => ?_)
                  obtain ⟨hp11, hB11⟩ := hp11
                  have z23 : ∀ j : Nat, 1200 ≤ j → h_ai H11 (o + 1) j = h_ai H0 (o + 1) j := fun j hj => (h_ai_same hB11).trans (z17 j hj)
                  have m24 : h_ai H11 (o + 1) 0 = r2 := (h_ai_same hB11).trans m18
                  have m25 : h_ai H11 (o + 1) (80 + w1_2.toInt).toNat = v20 := (h_ai_same hB11).trans mv20
                  have R26 : mR o H11 := R19.same hB11
                  have f27 : r22.toInt = w1_2.toInt := hp11.1
                  exact hret _ _ _ _ _ hT11 hS11 ⟨trivial, ⟨R26, z23⟩⟩ dX11_take_62
                · skip
                  have c16 : ¬ r15.toInt = u1.toInt := h_neI c16
                  refine lv_goto (tgt := 63) hx hb dX11_take_48 (by decide) ?_
                  obtain ⟨x28, qx28, ix28⟩ := h_addX w2_3 1 w2_3.toInt (1 : Int) rfl rfl (by omega) (by omega)
                  refine lv_iinc (v := x28) (lv' := [(3, .int x28), (2, .int w1_2), (0, .ref (o)), (1, .int u1)]) hx hb dX11_take_63 hl (k := 0) rfl qx28 (by decide) rfl (fun ls hl => ?_)
                  refine lv_goto (tgt := 23) hx hb dX11_take_66 (by decide) ?_
                  exact ih2 x28 (show 2147483647 - x28.toInt < (n2 : Int) from by omega) (show 0 ≤ x28.toInt from by omega) _ _ hS9 (lv_sub hl [0, 1, 2, 3] rfl)
          exact LP2 4294967296 0 (show 2147483647 - (0 : Int) < ((4294967296 : Nat) : Int) from by omega) (show 0 ≤ (0 : Int) from by omega) _ _ hS3 (lv_sub hl [0, 1, 2, 3] rfl)
    exact LP1 4294967296 0 (show 2147483647 - (0 : Int) < ((4294967296 : Nat) : Int) from by omega) (show 0 ≤ (0 : Int) from by omega) _ _ hS0 (lv_sub hl [0, 1, 2] rfl)
  · skip
    have c1 : ¬ (0 : Int) ≤ u1.toInt := h_nleI c1
    refine lv_aload_n hx hb dX11_take_4 rfl (lv_at hl 0 rfl) ?_
    refine lv_iconst (v := 1) hx hb dX11_take_5 (by decide) ?_
    refine h_callVi (T := TX11) (rest := []) (As := [.int 1]) hx hb hml hown hts hK hT0 hZ (fun _ h => h) hS0 (c_X11_refuse l G Y P (o) hM 1) trivial wd_X11_refuse wV_X11_refuse wL_X11_267 (hM.o rfl) rfl rfl hl.1 rfl (Nat.le_of_ble_eq_true rfl) dX11_take_6 ⟨Nat.le_of_ble_eq_true rfl, Nat.le_of_ble_eq_true rfl⟩ ⟨Nat.zero_le _, Nat.zero_le _⟩ (fun r29 H12 locs hp12 hT12 hS12 hk12 => ?_)
    obtain ⟨hp12, hB12⟩ := hp12
    have z30 : ∀ j : Nat, 1200 ≤ j → h_ai H12 (o + 1) j = h_ai H0 (o + 1) j := fun j hj => (h_ai_same hB12)
    have R31 : mR o H12 := hpr.same hB12
    have f32 : r29.toInt = (-1) := hp12.1
    exact hret _ _ _ _ _ hT12 hS12 ⟨trivial, ⟨R31, z30⟩⟩ dX11_take_9
set_option maxHeartbeats 4000000 in
set_option maxRecDepth 100000 in
theorem c_X11_shed (l : Launch) (G : hG) (Y : hW) (P : Int32 → Prop) (o : Nat) (hM : h_On Y o (modE (tM P) o)) (u1 u2 : Int32) : hMi l yX11_shed cX11_shed 6 (some .int) 3 63 G Y [.ref (o), .int u1, .int u2] (fun H => mR o H) (fun H r H1 => (True) ∧ (mR o H1 ∧ mV o H H1)) := by
  refine h_ofi (by decide +kernel) (Nat.le_of_ble_eq_true rfl) ?_
  intro p e s m args below meth c H0 ls Q hx hb hts hown hml hK hZ hT0 hpr hS0 hl hret
  have hl : lv_has ls 6 [(0, .ref (o)), (1, .int u1), (2, .int u2)] := hl
  refine lv_iload_n hx hb dX11_shed_0 rfl (lv_at hl 2 rfl) ?_
  refine lv_iconst (v := 0) hx hb dX11_shed_1 (by decide) ?_
  refine lv_bipush (v := 8) hx hb dX11_shed_2 (by decide) ?_
  refine h_callSi (rest := []) (As := [.int u2, .int 0, .int 8]) hx hb hml hown hts hK hT0 hZ (fun _ h => h) hS0 (c_X11_isFrom l G Y u2 0 8) trivial wd_X11_isFrom wS_X11_isFrom wL_X11_228 rfl hl.1 rfl (Nat.le_of_ble_eq_true rfl) dX11_shed_4 ⟨Nat.le_of_ble_eq_true rfl, Nat.le_of_ble_eq_true rfl⟩ ⟨Nat.zero_le _, Nat.zero_le _⟩ (fun r1 H1 locs hp1 hT1 hS1 hk1 => ?_)
  obtain ⟨hp1, he⟩ := hp1
  have he := he.symm
  subst he
  have f2 : (r1.toInt = 1 ∧ (0 : Int) ≤ u2.toInt ∧ u2.toInt ≤ (8 : Int)) ∨ (r1.toInt = 0 ∧ ¬ ((0 : Int) ≤ u2.toInt ∧ u2.toInt ≤ (8 : Int))) := by have q := hp1.2; exact q
  refine lv_if_ne (tgt := 14) hx hb dX11_shed_7 (by decide) (fun c3 => ?_) (fun c3 => ?_)
  · skip
    have c3 : ¬ r1.toInt = (0 : Int) := h_neI c3
    refine lv_aload_n hx hb dX11_shed_14 rfl (lv_at hl 0 rfl) ?_
    refine lv_iload_n hx hb dX11_shed_15 rfl (lv_at hl 1 rfl) ?_
    obtain ⟨v4, mv4⟩ : ∃ x, h_ai H0 (o + 1) 0 = x := ⟨_, rfl⟩
    have bv4 := mP_N (mP_cell hM hT0 (j := 0) (by omega)) (by omega)
    rw [mv4] at bv4
    refine h_callVi (T := TX11) (rest := []) (As := [.int u1]) hx hb hml hown hts hK hT0 hZ (fun _ h => h) hS1 (c_X11_wrongStation l G Y P (o) hM u1) trivial wd_X11_wrongStation wV_X11_wrongStation wL_X11_288 (hM.o rfl) rfl rfl hl.1 rfl (Nat.le_of_ble_eq_true rfl) dX11_shed_16 ⟨Nat.le_of_ble_eq_true rfl, Nat.le_of_ble_eq_true rfl⟩ ⟨Nat.zero_le _, Nat.zero_le _⟩ (fun r5 H2 locs hp2 hT2 hS2 hk2 => ?_)
    obtain ⟨hp2, he⟩ := hp2
    have he := he.symm
    subst he
    have f6 : (r5.toInt = 0 ∧ 0 ≤ u1.toInt ∧ u1.toInt < v4.toInt) ∨ r5.toInt = 2 := by have q := hp2; rw [mv4] at q; exact q
    refine lv_istore_n (lv' := [(3, .int r5), (0, .ref (o)), (1, .int u1), (2, .int u2)]) hx hb dX11_shed_19 rfl hl (by decide) rfl (fun ls hl => ?_)
    refine lv_iload_n hx hb dX11_shed_20 rfl (lv_at hl 0 rfl) ?_
    refine lv_if_le (tgt := 30) hx hb dX11_shed_21 (by decide) (fun c7 => ?_) (fun c7 => ?_)
    · skip
      have c7 : r5.toInt ≤ (0 : Int) := Int32.le_iff_toInt_le.mp c7
      refine lv_iconst (v := 0) hx hb dX11_shed_30 (by decide) ?_
      refine lv_istore (lv' := [(4, .int 0), (3, .int r5), (0, .ref (o)), (1, .int u1), (2, .int u2)]) hx hb dX11_shed_31 hl (by decide) rfl (fun ls hl => ?_)
      refine lv_aload_n hx hb dX11_shed_33 rfl (lv_at hl 2 rfl) ?_
      refine lv_bipush (v := 80) hx hb dX11_shed_34 (by decide) ?_
      refine lv_iload_n hx hb dX11_shed_36 rfl (lv_at hl 3 rfl) ?_
      refine lv_iadd hx hb dX11_shed_37 ?_
      obtain ⟨x8, qx8, ix8⟩ := h_addX 80 u1 (80 : Int) u1.toInt rfl rfl (by omega) (by omega)
      refine h_top (v := x8) qx8 ?_
      refine h_callVi (T := TX11) (rest := []) (As := [.int x8]) hx hb hml hown hts hK hT0 hZ (fun _ h => h) hS2 (c_of l G Y P (o) hM x8 (80 + u1.toInt).toNat (show x8.toInt.toNat = (80 + u1.toInt).toNat from by omega) (h_vin (by omega) (by omega))) trivial wd_X11_of wV_X11_of wL_X11_47 (hM.o rfl) rfl rfl hl.1 rfl (Nat.le_of_ble_eq_true rfl) dX11_shed_38 ⟨Nat.le_of_ble_eq_true rfl, Nat.le_of_ble_eq_true rfl⟩ ⟨Nat.zero_le _, Nat.zero_le _⟩ (fun r9 H3 locs hp3 hT3 hS3 hk3 => ?_)
      obtain ⟨hp3, he⟩ := hp3
      have he := he.symm
      subst he
      have mr9 : h_ai H0 (o + 1) (80 + u1.toInt).toNat = r9 := hp3.1.symm
      have br9 := mP_wm hp3.2 (by omega)
      refine lv_iconst (v := 1) hx hb dX11_shed_41 (by decide) ?_
      refine lv_isub hx hb dX11_shed_42 ?_
      obtain ⟨x10, qx10, ix10⟩ := h_subX r9 1 r9.toInt (1 : Int) rfl rfl (by omega) (by omega)
      refine h_top (v := x10) qx10 ?_
      refine lv_istore (lv' := [(5, .int x10), (4, .int 0), (3, .int r5), (0, .ref (o)), (1, .int u1), (2, .int u2)]) hx hb dX11_shed_43 hl (by decide) rfl (fun ls hl => ?_)
      have LP1 : ∀ (n1 : Nat) (w1_5 : Int32) (w1_4 : Int32) (v1_C : Int32) (H4 : Heap), (w1_5.toInt + 1 < (n1 : Int)) → ((-1) ≤ w1_5.toInt) → (0 ≤ v1_C.toInt ∧ v1_C.toInt ≤ 6) → (w1_5.toInt < v1_C.toInt) → (hT G Y H4) → (∀ j : Nat, 1200 ≤ j → h_ai H4 (o + 1) j = h_ai H0 (o + 1) j) → (mR o H4) → (h_ai H4 (o + 1) (80 + u1.toInt).toNat = v1_C) → ∀ (locs : List Loc) (ls : Array Slot), va_S (h_A Y) s.heap H4 locs → lv_has ls 6 [(5, .int w1_5), (4, .int w1_4), (0, .ref (o)), (1, .int u1), (2, .int u2)] → W p l e (h_rm 3 63) s m args below meth c H4 locs 0 0 Q (F0 m 45 ls []) := by
        intro n1
        induction n1 with
        | zero =>
          intro w1_5 w1_4 v1_C H4 hm hlo1_5 hvb1_C hv1_0
          intros
          exfalso
          have := Int32.toInt_lt w1_5; have := Int32.le_toInt w1_5
          have := Int32.toInt_lt w1_4; have := Int32.le_toInt w1_4
          omega
        | succ n1 ih1 =>
          intro w1_5 w1_4 v1_C H4 hm hlo1_5 hvb1_C hv1_0 hT4 z11 R12 m13 locs ls hS4 hl
          refine lv_iload hx hb dX11_shed_45 (lv_at hl 0 rfl) ?_
          refine lv_if_lt (tgt := 85) hx hb dX11_shed_47 (by decide) (fun c14 => ?_) (fun c14 => ?_)
          · skip
            have c14 : w1_5.toInt < (0 : Int) := Int32.lt_iff_toInt_lt.mp c14
            refine lv_aload_n hx hb dX11_shed_85 rfl (lv_at hl 2 rfl) ?_
            refine lv_iload hx hb dX11_shed_86 (lv_at hl 1 rfl) ?_
            refine h_callVi (T := TX11) (rest := []) (As := [.int w1_4]) hx hb hml hown hts hK hT4 hZ (fun _ h => h) hS4 (c_X11_gives l G Y P (o) hM w1_4) trivial wd_X11_gives wV_X11_gives wL_X11_276 (hM.o rfl) rfl rfl hl.1 rfl (Nat.le_of_ble_eq_true rfl) dX11_shed_88 ⟨Nat.le_of_ble_eq_true rfl, Nat.le_of_ble_eq_true rfl⟩ ⟨Nat.zero_le _, Nat.zero_le _⟩ (fun r15 H6 locs hp6 hT6 hS6 hk6 => ?_)
            obtain ⟨hp6, hB6⟩ := hp6
            have z16 : ∀ j : Nat, 1200 ≤ j → h_ai H6 (o + 1) j = h_ai H0 (o + 1) j := fun j hj => (h_ai_same hB6).trans (z11 j hj)
            have m17 : h_ai H6 (o + 1) (80 + u1.toInt).toNat = v1_C := (h_ai_same hB6).trans m13
            have R18 : mR o H6 := R12.same hB6
            have f19 : r15.toInt = w1_4.toInt := hp6.1
            exact hret _ _ _ _ _ hT6 hS6 ⟨trivial, ⟨R18, z16⟩⟩ dX11_shed_91
          · skip
            have c14 : ¬ w1_5.toInt < (0 : Int) := h_nltI c14
            refine lv_aload_n hx hb dX11_shed_50 rfl (lv_at hl 2 rfl) ?_
            refine lv_iload_n hx hb dX11_shed_51 rfl (lv_at hl 3 rfl) ?_
            refine lv_iload hx hb dX11_shed_52 (lv_at hl 0 rfl) ?_
            refine h_callSi (rest := [.ref (o)]) (As := [.int u1, .int w1_5]) hx hb hml hown hts hK hT4 hZ (fun _ h => h) hS4 (c_X11_waitAt l G Y u1 w1_5 (show 0 ≤ u1.toInt ∧ u1.toInt ≤ 7 from by omega) (show 0 ≤ w1_5.toInt ∧ w1_5.toInt ≤ 6 from by omega)) trivial wd_X11_waitAt wS_X11_waitAt wL_X11_62 rfl hl.1 rfl (Nat.le_of_ble_eq_true rfl) dX11_shed_54 ⟨Nat.le_of_ble_eq_true rfl, Nat.le_of_ble_eq_true rfl⟩ ⟨Nat.zero_le _, Nat.zero_le _⟩ (fun r20 H7 locs hp7 hT7 hS7 hk7 => ?_)
            obtain ⟨hp7, he⟩ := hp7
            have he := he.symm
            subst he
            have f21 : r20.toInt = 96 + 24 * u1.toInt + 4 * w1_5.toInt := by have q := hp7; exact q
            refine lv_iconst (v := 2) hx hb dX11_shed_57 (by decide) ?_
            refine lv_iadd hx hb dX11_shed_58 ?_
            obtain ⟨x22, qx22, ix22⟩ := h_addX r20 2 r20.toInt (2 : Int) rfl rfl (by omega) (by omega)
            refine h_top (v := x22) qx22 ?_
            refine h_callVi (T := TX11) (rest := []) (As := [.int x22]) hx hb hml hown hts hK hT4 hZ (fun _ h => h) hS7 (c_of l G Y P (o) hM x22 (98 + 24 * u1.toInt + 4 * w1_5.toInt).toNat (show x22.toInt.toNat = (98 + 24 * u1.toInt + 4 * w1_5.toInt).toNat from by omega) (h_vin (by omega) (by omega))) trivial wd_X11_of wV_X11_of wL_X11_47 (hM.o rfl) rfl rfl hl.1 rfl (Nat.le_of_ble_eq_true rfl) dX11_shed_59 ⟨Nat.le_of_ble_eq_true rfl, Nat.le_of_ble_eq_true rfl⟩ ⟨Nat.zero_le _, Nat.zero_le _⟩ (fun r23 H8 locs hp8 hT8 hS8 hk8 => ?_)
            obtain ⟨hp8, he⟩ := hp8
            have he := he.symm
            subst he
            have mr23 : h_ai H4 (o + 1) (98 + 24 * u1.toInt + 4 * w1_5.toInt).toNat = r23 := hp8.1.symm
            have br23 := mP_w hp8.2 (by omega)
            refine lv_iload_n hx hb dX11_shed_62 rfl (lv_at hl 4 rfl) ?_
            refine lv_icmp_lt (tgt := 69) hx hb dX11_shed_63 (by decide) (fun c24 => ?_) (fun c24 => ?_)
            · skip
              have c24 : r23.toInt < u2.toInt := Int32.lt_iff_toInt_lt.mp c24
              refine lv_aload_n hx hb dX11_shed_69 rfl (lv_at hl 2 rfl) ?_
              refine lv_iload_n hx hb dX11_shed_70 rfl (lv_at hl 3 rfl) ?_
              refine lv_iload hx hb dX11_shed_71 (lv_at hl 0 rfl) ?_
              refine h_callVv (T := TX11) (rest := []) (As := [.int u1, .int w1_5]) hx hb hml hown hts hK hT4 hZ (fun _ h => h) hS8 (c_X11_takes l G Y P (o) hM u1 w1_5 (show 0 ≤ u1.toInt ∧ u1.toInt ≤ 7 from by omega) (show 0 ≤ w1_5.toInt ∧ w1_5.toInt ≤ 5 from by omega)) (show w1_5.toInt < (h_ai H4 (o + 1) (80 + u1.toInt).toNat).toInt from by rw [m13]; exact (show w1_5.toInt < v1_C.toInt from by omega)) wd_X11_takes wV_X11_takes wL_X11_109 (hM.o rfl) rfl rfl hl.1 rfl (Nat.le_of_ble_eq_true rfl) dX11_shed_73 ⟨Nat.le_of_ble_eq_true rfl, Nat.le_of_ble_eq_true rfl⟩ ⟨Nat.zero_le _, Nat.zero_le _⟩ (fun H9 locs hp9 hT9 hS9 hk9 => ?_)
              obtain ⟨hp9, hB9⟩ := hp9
              have z25 : ∀ j : Nat, 1200 ≤ j → h_ai H9 (o + 1) j = h_ai H0 (o + 1) j := fun j hj => (hB9 j (by unfold mK; omega)).trans (z11 j hj)
              have R26 : mR o H9 := R12.keep hB9
              obtain ⟨v27, mv27⟩ : ∃ x, h_ai H9 (o + 1) (80 + u1.toInt).toNat = x := ⟨_, rfl⟩
              have bv27 := mP_wm (mP_cell hM hT9 (j := (80 + u1.toInt).toNat) (by omega)) (by omega)
              rw [mv27] at bv27
              have f28 : v27.toInt = v1_C.toInt - 1 := by have q := hp9; rw [mv27, m13] at q; exact q
              obtain ⟨x29, ex29⟩ : ∃ y : Int32, y = w1_4 + 1 := ⟨_, rfl⟩
              refine lv_iinc (v := x29) (lv' := [(4, .int x29), (5, .int w1_5), (0, .ref (o)), (1, .int u1), (2, .int u2)]) hx hb dX11_shed_76 hl (k := 1) rfl (by rw [ex29]; rfl) (by decide) rfl (fun ls hl => ?_)
              obtain ⟨x30, qx30, ix30⟩ := h_addX w1_5 (-1) w1_5.toInt (-1 : Int) rfl rfl (by omega) (by omega)
              refine lv_iinc (v := x30) (lv' := [(5, .int x30), (4, .int x29), (0, .ref (o)), (1, .int u1), (2, .int u2)]) hx hb dX11_shed_79 hl (k := 1) rfl qx30 (by decide) rfl (fun ls hl => ?_)
              refine lv_goto (tgt := 45) hx hb dX11_shed_82 (by decide) ?_
              exact ih1 x30 x29 v27 _ (show x30.toInt + 1 < (n1 : Int) from by omega) (show (-1) ≤ x30.toInt from by omega) (show 0 ≤ v27.toInt ∧ v27.toInt ≤ 6 from by omega) (show x30.toInt < v27.toInt from by omega) hT9 z25 R26 mv27 _ _ hS9 (lv_sub hl [0, 1, 2, 3, 4] rfl)
            · skip
              have c24 : ¬ r23.toInt < u2.toInt := h_nltI c24
              refine lv_goto (tgt := 79) hx hb dX11_shed_66 (by decide) ?_
              obtain ⟨x31, qx31, ix31⟩ := h_addX w1_5 (-1) w1_5.toInt (-1 : Int) rfl rfl (by omega) (by omega)
              refine lv_iinc (v := x31) (lv' := [(5, .int x31), (4, .int w1_4), (0, .ref (o)), (1, .int u1), (2, .int u2)]) hx hb dX11_shed_79 hl (k := 0) rfl qx31 (by decide) rfl (fun ls hl => ?_)
              refine lv_goto (tgt := 45) hx hb dX11_shed_82 (by decide) ?_
              exact ih1 x31 w1_4 v1_C _ (show x31.toInt + 1 < (n1 : Int) from by omega) (show (-1) ≤ x31.toInt from by omega) (show 0 ≤ v1_C.toInt ∧ v1_C.toInt ≤ 6 from by omega) (show x31.toInt < v1_C.toInt from by omega) hT4 z11 R12 m13 _ _ hS8 (lv_sub hl [0, 1, 2, 3, 4] rfl)
      exact LP1 4294967296 x10 0 r9 _ (show x10.toInt + 1 < ((4294967296 : Nat) : Int) from by have := Int32.le_toInt x10; have := Int32.toInt_lt x10; omega) (show (-1) ≤ x10.toInt from by omega) (show 0 ≤ r9.toInt ∧ r9.toInt ≤ 6 from by omega) (show x10.toInt < r9.toInt from by omega) hT0 (fun _ _ => rfl) hpr mr9 _ _ hS3 (lv_sub hl [0, 1, 3, 4, 5] rfl)
    · skip
      have c7 : ¬ r5.toInt ≤ (0 : Int) := h_nleI c7
      refine lv_aload_n hx hb dX11_shed_24 rfl (lv_at hl 1 rfl) ?_
      refine lv_iload_n hx hb dX11_shed_25 rfl (lv_at hl 0 rfl) ?_
      refine h_callVi (T := TX11) (rest := []) (As := [.int r5]) hx hb hml hown hts hK hT0 hZ (fun _ h => h) hS2 (c_X11_refuse l G Y P (o) hM r5) trivial wd_X11_refuse wV_X11_refuse wL_X11_267 (hM.o rfl) rfl rfl hl.1 rfl (Nat.le_of_ble_eq_true rfl) dX11_shed_26 ⟨Nat.le_of_ble_eq_true rfl, Nat.le_of_ble_eq_true rfl⟩ ⟨Nat.zero_le _, Nat.zero_le _⟩ (fun r32 H10 locs hp10 hT10 hS10 hk10 => ?_)
      obtain ⟨hp10, hB10⟩ := hp10
      have z33 : ∀ j : Nat, 1200 ≤ j → h_ai H10 (o + 1) j = h_ai H0 (o + 1) j := fun j hj => (h_ai_same hB10)
      have m34 : h_ai H10 (o + 1) 0 = v4 := (h_ai_same hB10).trans mv4
      have R35 : mR o H10 := hpr.same hB10
      have f36 : r32.toInt = (-1) := hp10.1
      exact hret _ _ _ _ _ hT10 hS10 ⟨trivial, ⟨R35, z33⟩⟩ dX11_shed_29
  · skip
    have c3 : r1.toInt = (0 : Int) := congrArg Int32.toInt c3
    refine lv_iconst (v := 1) hx hb dX11_shed_10 (by decide) ?_
    refine lv_goto (tgt := 19) hx hb dX11_shed_11 (by decide) ?_
    refine lv_istore_n (lv' := [(3, .int 1), (0, .ref (o)), (1, .int u1), (2, .int u2)]) hx hb dX11_shed_19 rfl hl (by decide) rfl (fun ls hl => ?_)
    refine lv_iload_n hx hb dX11_shed_20 rfl (lv_at hl 0 rfl) ?_
    refine lv_if_le (tgt := 30) hx hb dX11_shed_21 (by decide) (fun h => absurd h (by decide)) (fun _ => ?_)
    refine lv_aload_n hx hb dX11_shed_24 rfl (lv_at hl 1 rfl) ?_
    refine lv_iload_n hx hb dX11_shed_25 rfl (lv_at hl 0 rfl) ?_
    refine h_callVi (T := TX11) (rest := []) (As := [.int 1]) hx hb hml hown hts hK hT0 hZ (fun _ h => h) hS1 (c_X11_refuse l G Y P (o) hM 1) trivial wd_X11_refuse wV_X11_refuse wL_X11_267 (hM.o rfl) rfl rfl hl.1 rfl (Nat.le_of_ble_eq_true rfl) dX11_shed_26 ⟨Nat.le_of_ble_eq_true rfl, Nat.le_of_ble_eq_true rfl⟩ ⟨Nat.zero_le _, Nat.zero_le _⟩ (fun r38 H11 locs hp11 hT11 hS11 hk11 => ?_)
    obtain ⟨hp11, hB11⟩ := hp11
    have z39 : ∀ j : Nat, 1200 ≤ j → h_ai H11 (o + 1) j = h_ai H0 (o + 1) j := fun j hj => (h_ai_same hB11)
    have R40 : mR o H11 := hpr.same hB11
    have f41 : r38.toInt = (-1) := hp11.1
    exact hret _ _ _ _ _ hT11 hS11 ⟨trivial, ⟨R40, z39⟩⟩ dX11_shed_29
set_option maxHeartbeats 4000000 in
set_option maxRecDepth 100000 in
theorem c_X11_load (l : Launch) (G : hG) (Y : hW) (P : Int32 → Prop) (o : Nat) (hM : h_On Y o (modE (tM P) o)) (u1 : Int32) : hMi l yX11_load cX11_load 3 (some .int) 9 193 G Y [.ref (o), .int u1] (fun H => mR o H) (fun H r H1 => (True) ∧ (mR o H1 ∧ mV o H H1)) := by
  refine h_ofi (by decide +kernel) (Nat.le_of_ble_eq_true rfl) ?_
  intro p e s m args below meth c H0 ls Q hx hb hts hown hml hK hZ hT0 hpr hS0 hl hret
  have hl : lv_has ls 3 [(0, .ref (o)), (1, .int u1)] := hl
  refine lv_iload_n hx hb dX11_load_0 rfl (lv_at hl 1 rfl) ?_
  refine lv_iconst (v := 0) hx hb dX11_load_1 (by decide) ?_
  refine lv_aload_n hx hb dX11_load_2 rfl (lv_at hl 0 rfl) ?_
  refine h_geti (C := RX11) (T := TX11) (N := 23) hx hb hts inX11 hown hK hT0 (hM.o rfl) rfl 10 rfl wF_X11_168 rfl dX11_load_3 (fun p1 => ?_)
  refine lv_topi (fun x2 ex2 => ?_)
  have bx2 : 0 ≤ x2.toInt ∧ x2.toInt ≤ 500 := by rw [ex2]; exact p1
  refine h_callSi (rest := []) (As := [.int u1, .int 0, .int x2]) hx hb hml hown hts hK hT0 hZ (fun _ h => h) hS0 (c_X11_isFrom l G Y u1 0 x2) trivial wd_X11_isFrom wS_X11_isFrom wL_X11_228 rfl hl.1 rfl (Nat.le_of_ble_eq_true rfl) dX11_load_6 ⟨Nat.le_of_ble_eq_true rfl, Nat.le_of_ble_eq_true rfl⟩ ⟨Nat.zero_le _, Nat.zero_le _⟩ (fun r3 H1 locs hp1 hT1 hS1 hk1 => ?_)
  obtain ⟨hp1, he⟩ := hp1
  have he := he.symm
  subst he
  have f4 : (r3.toInt = 1 ∧ (0 : Int) ≤ u1.toInt ∧ u1.toInt ≤ x2.toInt) ∨ (r3.toInt = 0 ∧ ¬ ((0 : Int) ≤ u1.toInt ∧ u1.toInt ≤ x2.toInt)) := by have q := hp1.2; exact q
  refine lv_if_ne (tgt := 18) hx hb dX11_load_9 (by decide) (fun c5 => ?_) (fun c5 => ?_)
  · skip
    have c5 : ¬ r3.toInt = (0 : Int) := h_neI c5
    refine lv_aload_n hx hb dX11_load_18 rfl (lv_at hl 0 rfl) ?_
    refine lv_iload_n hx hb dX11_load_19 rfl (lv_at hl 1 rfl) ?_
    refine h_puti (C := RX11) (T := TX11) (N := 23) hx hb hts inX11 tyX11 tyX11_ok nmX11 hown hK hT0 (fun _ h => h) hS1 (hM.o rfl) rfl 11 rfl wF_X11_174 rfl rfl (show 0 ≤ u1.toInt ∧ u1.toInt ≤ 500 from by omega) rfl rfl dX11_load_20 (fun H2 locs hT2 hS2 hu2 => ?_)
    have z6 : ∀ j : Nat, 1200 ≤ j → h_ai H2 (o + 1) j = h_ai H0 (o + 1) j := fun j hj => (h_ai_same (hu2.2.1 (o + 1) (by omega)))
    have R7 : mR o H2 := hpr.same (hu2.2.1 (o + 1) (by omega))
    refine lv_iconst (v := 0) hx hb dX11_load_23 (by decide) ?_
    refine lv_istore_n (lv' := [(2, .int 0), (0, .ref (o)), (1, .int u1)]) hx hb dX11_load_24 rfl hl (by decide) rfl (fun ls hl => ?_)
    have LP1 : ∀ (n1 : Nat) (w1_2 : Int32) (H3 : Heap), (2147483647 - w1_2.toInt < (n1 : Int)) → (0 ≤ w1_2.toInt) → (hT G Y H3) → (∀ j : Nat, 1200 ≤ j → h_ai H3 (o + 1) j = h_ai H0 (o + 1) j) → (mR o H3) → ∀ (locs : List Loc) (ls : Array Slot), va_S (h_A Y) s.heap H3 locs → lv_has ls 3 [(2, .int w1_2), (0, .ref (o)), (1, .int u1)] → W p l e (h_rm 9 193) s m args below meth c H3 locs 0 0 Q (F0 m 25 ls []) := by
      intro n1
      induction n1 with
      | zero =>
        intro w1_2 H3 hm hlo1_2
        intros
        exfalso
        have := Int32.toInt_lt w1_2; have := Int32.le_toInt w1_2
        omega
      | succ n1 ih1 =>
        intro w1_2 H3 hm hlo1_2 hT3 z8 R9 locs ls hS3 hl
        refine lv_iload_n hx hb dX11_load_25 rfl (lv_at hl 0 rfl) ?_
        refine lv_iload_n hx hb dX11_load_26 rfl (lv_at hl 2 rfl) ?_
        refine lv_icmp_ge (tgt := 48) hx hb dX11_load_27 (by decide) (fun c10 => ?_) (fun c10 => ?_)
        · skip
          have c10 : u1.toInt ≤ w1_2.toInt := Int32.le_iff_toInt_le.mp c10
          refine lv_aload_n hx hb dX11_load_48 rfl (lv_at hl 1 rfl) ?_
          refine lv_iconst (v := 0) hx hb dX11_load_49 (by decide) ?_
          refine h_puti (C := RX11) (T := TX11) (N := 23) hx hb hts inX11 tyX11 tyX11_ok nmX11 hown hK hT3 (fun _ h => h) hS3 (hM.o rfl) rfl 10 rfl wF_X11_168 rfl rfl (show 0 ≤ (0 : Int) ∧ (0 : Int) ≤ 500 from by omega) rfl rfl dX11_load_50 (fun H5 locs hT5 hS5 hu5 => ?_)
          have z11 : ∀ j : Nat, 1200 ≤ j → h_ai H5 (o + 1) j = h_ai H0 (o + 1) j := fun j hj => (h_ai_same (hu5.2.1 (o + 1) (by omega))).trans (z8 j hj)
          have R12 : mR o H5 := R9.same (hu5.2.1 (o + 1) (by omega))
          refine lv_aload_n hx hb dX11_load_53 rfl (lv_at hl 1 rfl) ?_
          refine lv_iconst (v := 0) hx hb dX11_load_54 (by decide) ?_
          refine h_puti (C := RX11) (T := TX11) (N := 23) hx hb hts inX11 tyX11 tyX11_ok nmX11 hown hK hT5 (fun _ h => h) hS5 (hM.o rfl) rfl 16 rfl wF_X11_213 rfl rfl trivial rfl rfl dX11_load_55 (fun H6 locs hT6 hS6 hu6 => ?_)
          have z13 : ∀ j : Nat, 1200 ≤ j → h_ai H6 (o + 1) j = h_ai H0 (o + 1) j := fun j hj => (h_ai_same (hu6.2.1 (o + 1) (by omega))).trans (z11 j hj)
          have R14 : mR o H6 := R12.same (hu6.2.1 (o + 1) (by omega))
          refine lv_aload_n hx hb dX11_load_58 rfl (lv_at hl 1 rfl) ?_
          refine lv_iconst (v := (-1)) hx hb dX11_load_59 (by decide) ?_
          refine h_puti (C := RX11) (T := TX11) (N := 23) hx hb hts inX11 tyX11 tyX11_ok nmX11 hown hK hT6 (fun _ h => h) hS6 (hM.o rfl) rfl 17 rfl wF_X11_24 rfl rfl trivial rfl rfl dX11_load_60 (fun H7 locs hT7 hS7 hu7 => ?_)
          have z15 : ∀ j : Nat, 1200 ≤ j → h_ai H7 (o + 1) j = h_ai H0 (o + 1) j := fun j hj => (h_ai_same (hu7.2.1 (o + 1) (by omega))).trans (z13 j hj)
          have R16 : mR o H7 := R14.same (hu7.2.1 (o + 1) (by omega))
          refine lv_aload_n hx hb dX11_load_63 rfl (lv_at hl 1 rfl) ?_
          refine lv_iconst (v := 0) hx hb dX11_load_64 (by decide) ?_
          refine h_puti (C := RX11) (T := TX11) (N := 23) hx hb hts inX11 tyX11 tyX11_ok nmX11 hown hK hT7 (fun _ h => h) hS7 (hM.o rfl) rfl 14 rfl wF_X11_177 rfl rfl (show 0 ≤ (0 : Int) ∧ (0 : Int) ≤ 500 from by omega) rfl rfl dX11_load_65 (fun H8 locs hT8 hS8 hu8 => ?_)
          have z17 : ∀ j : Nat, 1200 ≤ j → h_ai H8 (o + 1) j = h_ai H0 (o + 1) j := fun j hj => (h_ai_same (hu8.2.1 (o + 1) (by omega))).trans (z15 j hj)
          have R18 : mR o H8 := R16.same (hu8.2.1 (o + 1) (by omega))
          refine lv_aload_n hx hb dX11_load_68 rfl (lv_at hl 1 rfl) ?_
          refine lv_iconst (v := 0) hx hb dX11_load_69 (by decide) ?_
          refine lv_sipush (v := 600) hx hb dX11_load_70 (by decide) ?_
          refine h_callVv (T := TX11) (rest := []) (As := [.int 0, .int 600]) hx hb hml hown hts hK hT8 hZ (fun _ h => h) hS8 (c_X11_copies l G Y P (o) hM 0 600 0 1 (by decide) (by decide) (by decide) (by decide)) trivial wd_X11_copies wV_X11_copies wL_X11_270 (hM.o rfl) rfl rfl hl.1 rfl (Nat.le_of_ble_eq_true rfl) dX11_load_73 ⟨Nat.le_of_ble_eq_true rfl, Nat.le_of_ble_eq_true rfl⟩ ⟨Nat.zero_le _, Nat.zero_le _⟩ (fun H9 locs hp9 hT9 hS9 hk9 => ?_)
          obtain ⟨hp9, hB9⟩ := hp9
          have z19 : ∀ j : Nat, 1200 ≤ j → h_ai H9 (o + 1) j = h_ai H0 (o + 1) j := fun j hj => (hB9.2.1 j (by omega)).trans (z17 j hj)
          have A20 : mRa o H9 600 := mR_aside6 R18 hB9.1
          have R21 : mR o H9 := mR_low6 R18 (fun j hj => hB9.2.1 j (by omega))
          refine lv_aload_n hx hb dX11_load_76 rfl (lv_at hl 1 rfl) ?_
          refine h_callVv (T := TX11) (rest := []) (As := []) hx hb hml hown hts hK hT9 hZ (fun _ h => h) hS9 (c_X11_begins l G Y P (o) hM) trivial wd_X11_begins wV_X11_begins wL_X11_37 (hM.o rfl) rfl rfl hl.1 rfl (Nat.le_of_ble_eq_true rfl) dX11_load_77 ⟨Nat.le_of_ble_eq_true rfl, Nat.le_of_ble_eq_true rfl⟩ ⟨Nat.zero_le _, Nat.zero_le _⟩ (fun H10 locs hp10 hT10 hS10 hk10 => ?_)
          obtain ⟨hp10, hB10⟩ := hp10
          have z22 : ∀ j : Nat, 1200 ≤ j → h_ai H10 (o + 1) j = h_ai H0 (o + 1) j := fun j hj => (hB10.2.1 j (by omega)).trans (z19 j hj)
          have R23 : mR o H10 := hB10.1
          have A24 : mRa o H10 600 := A20.kept (fun j hj => hB10.2.1 _ (by omega))
          refine lv_aload_n hx hb dX11_load_80 rfl (lv_at hl 1 rfl) ?_
          refine h_callVv (T := TX11) (rest := []) (As := []) hx hb hml hown hts hK hT10 hZ (fun _ h => h) hS10 (c_X11_ahead l G Y P (o) hM) trivial wd_X11_ahead wV_X11_ahead wL_X11_232 (hM.o rfl) rfl rfl hl.1 rfl (Nat.le_of_ble_eq_true rfl) dX11_load_81 ⟨Nat.le_of_ble_eq_true rfl, Nat.le_of_ble_eq_true rfl⟩ ⟨Nat.zero_le _, Nat.zero_le _⟩ (fun H11 locs hp11 hT11 hS11 hk11 => ?_)
          obtain ⟨hp11, hB11⟩ := hp11
          have z25 : ∀ j : Nat, 1200 ≤ j → h_ai H11 (o + 1) j = h_ai H0 (o + 1) j := fun j hj => (h_ai_same hB11).trans (z22 j hj)
          have R26 : mR o H11 := R23.same hB11
          have A27 : mRa o H11 600 := A24.kept (fun j hj => h_ai_same hB11)
          obtain ⟨y28, my28⟩ : ∃ x, h_gi G H11 11 o 12 = x := ⟨_, rfl⟩
          obtain ⟨y29, my29⟩ : ∃ x, h_gi G H11 11 o 14 = x := ⟨_, rfl⟩
          have by29 : 0 ≤ y29.toInt ∧ y29.toInt ≤ 500 := by rw [← my29]; exact (hT11.gi (hM.o rfl) 14 rfl).1
          have f30 : (0 : Int) ≤ y29.toInt ∧ (y28.toInt = 4 → (0 : Int) < y29.toInt) := by have q := hp11; rw [my28] at q; rw [((h_gi_same (hB10.2.2 o (by omega))).trans ((h_gi_same (hB9.2.2 o (by omega))).trans (h_pu hu8)))] at q; rw [my29] at q; exact q
          refine lv_iconst (v := 1) hx hb dX11_load_84 (by decide) ?_
          refine lv_istore_n (lv' := [(2, .int 1), (0, .ref (o)), (1, .int u1)]) hx hb dX11_load_85 rfl hl (by decide) rfl (fun ls hl => ?_)
          have LP2 : ∀ (n2 : Nat) (w2_2 : Int32) (f2_14 : Int32) (H12 : Heap), (((w2_2.toInt = 0 ∧ 0 < (n2 : Int)) ∨ 500 - f2_14.toInt + 1 < (n2 : Int))) → (0 ≤ f2_14.toInt ∧ f2_14.toInt ≤ 500) → (hT G Y H12) → (∀ j : Nat, 1200 ≤ j → h_ai H12 (o + 1) j = h_ai H0 (o + 1) j) → (mR o H12) → (mRa o H12 600) → (h_gi G H12 11 o 14 = f2_14) → ∀ (locs : List Loc) (ls : Array Slot), va_S (h_A Y) s.heap H12 locs → lv_has ls 3 [(2, .int w2_2), (0, .ref (o))] → W p l e (h_rm 9 193) s m args below meth c H12 locs 0 0 Q (F0 m 86 ls []) := by
            intro n2
            induction n2 with
            | zero =>
              intro w2_2 f2_14 H12 hm hfl2_14
              intros
              exfalso
              have := Int32.toInt_lt w2_2; have := Int32.le_toInt w2_2
              omega
            | succ n2 ih2 =>
              intro w2_2 f2_14 H12 hm hfl2_14 hT12 z31 R32 A33 m34 locs ls hS12 hl
              refine lv_iload_n hx hb dX11_load_86 rfl (lv_at hl 0 rfl) ?_
              refine lv_if_eq (tgt := 105) hx hb dX11_load_87 (by decide) (fun c35 => ?_) (fun c35 => ?_)
              · skip
                have c35 : w2_2.toInt = (0 : Int) := congrArg Int32.toInt c35
                refine lv_aload_n hx hb dX11_load_105 rfl (lv_at hl 1 rfl) ?_
                refine lv_aload_n hx hb dX11_load_106 rfl (lv_at hl 1 rfl) ?_
                refine h_geti (C := RX11) (T := TX11) (N := 23) hx hb hts inX11 hown hK hT12 (hM.o rfl) rfl 16 rfl wF_X11_213 rfl dX11_load_107 (fun p36 => ?_)
                refine lv_topi (fun x37 ex37 => ?_)
                refine h_puti (C := RX11) (T := TX11) (N := 23) hx hb hts inX11 tyX11 tyX11_ok nmX11 hown hK hT12 (fun _ h => h) hS12 (hM.o rfl) rfl 18 rfl wF_X11_28 rfl rfl trivial rfl rfl dX11_load_110 (fun H14 locs hT14 hS14 hu14 => ?_)
                have z38 : ∀ j : Nat, 1200 ≤ j → h_ai H14 (o + 1) j = h_ai H0 (o + 1) j := fun j hj => (h_ai_same (hu14.2.1 (o + 1) (by omega))).trans (z31 j hj)
                have R39 : mR o H14 := R32.same (hu14.2.1 (o + 1) (by omega))
                have A40 : mRa o H14 600 := A33.kept (fun j hj => h_ai_same (hu14.2.1 (o + 1) (by omega)))
                refine lv_aload_n hx hb dX11_load_113 rfl (lv_at hl 1 rfl) ?_
                refine h_geti (C := RX11) (T := TX11) (N := 23) hx hb hts inX11 hown hK hT14 (hM.o rfl) rfl 16 rfl wF_X11_213 rfl dX11_load_114 (fun p41 => ?_)
                refine h_top (v := x37) ((h_ps hu14 rfl (by decide) (by decide)).trans ex37.symm) ?_
                refine lv_if_le (tgt := 135) hx hb dX11_load_117 (by decide) (fun c42 => ?_) (fun c42 => ?_)
                · skip
                  have c42 : x37.toInt ≤ (0 : Int) := Int32.le_iff_toInt_le.mp c42
                  refine lv_aload_n hx hb dX11_load_135 rfl (lv_at hl 1 rfl) ?_
                  refine lv_aload_n hx hb dX11_load_136 rfl (lv_at hl 1 rfl) ?_
                  refine lv_iconst (v := 0) hx hb dX11_load_137 (by decide) ?_
                  refine h_callVi (T := TX11) (rest := [.ref (o)]) (As := [.int 0]) hx hb hml hown hts hK hT14 hZ (fun _ h => h) hS14 (c_of l G Y P (o) hM 0 0 (by decide) (h_inc (by decide))) trivial wd_X11_of wV_X11_of wL_X11_47 (hM.o rfl) rfl rfl hl.1 rfl (Nat.le_of_ble_eq_true rfl) dX11_load_138 ⟨Nat.le_of_ble_eq_true rfl, Nat.le_of_ble_eq_true rfl⟩ ⟨Nat.zero_le _, Nat.zero_le _⟩ (fun r43 H15 locs hp15 hT15 hS15 hk15 => ?_)
                  obtain ⟨hp15, he⟩ := hp15
                  have he := he.symm
                  subst he
                  have mr43 : h_ai H14 (o + 1) 0 = r43 := hp15.1.symm
                  have br43 := mP_N hp15.2 (by omega)
                  refine h_callVi (T := TX11) (rest := []) (As := [.int r43]) hx hb hml hown hts hK hT14 hZ (fun _ h => h) hS15 (c_X11_gives l G Y P (o) hM r43) trivial wd_X11_gives wV_X11_gives wL_X11_276 (hM.o rfl) rfl rfl hl.1 rfl (Nat.le_of_ble_eq_true rfl) dX11_load_141 ⟨Nat.le_of_ble_eq_true rfl, Nat.le_of_ble_eq_true rfl⟩ ⟨Nat.zero_le _, Nat.zero_le _⟩ (fun r44 H16 locs hp16 hT16 hS16 hk16 => ?_)
                  obtain ⟨hp16, hB16⟩ := hp16
                  have z45 : ∀ j : Nat, 1200 ≤ j → h_ai H16 (o + 1) j = h_ai H0 (o + 1) j := fun j hj => (h_ai_same hB16).trans (z38 j hj)
                  have m46 : h_ai H16 (o + 1) 0 = r43 := (h_ai_same hB16).trans mr43
                  have R47 : mR o H16 := R39.same hB16
                  have A48 : mRa o H16 600 := A40.kept (fun j hj => h_ai_same hB16)
                  have f49 : r44.toInt = r43.toInt := hp16.1
                  exact hret _ _ _ _ _ hT16 hS16 ⟨trivial, ⟨R47, z45⟩⟩ dX11_load_144
                · skip
                  have c42 : ¬ x37.toInt ≤ (0 : Int) := h_nleI c42
                  refine lv_aload_n hx hb dX11_load_120 rfl (lv_at hl 1 rfl) ?_
                  refine lv_sipush (v := 600) hx hb dX11_load_121 (by decide) ?_
                  refine lv_iconst (v := 0) hx hb dX11_load_124 (by decide) ?_
                  refine h_callVv (T := TX11) (rest := []) (As := [.int 600, .int 0]) hx hb hml hown hts hK hT14 hZ (fun _ h => h) hS14 (c_X11_copies l G Y P (o) hM 600 0 1 0 (by decide) (by decide) (by decide) (by decide)) trivial wd_X11_copies wV_X11_copies wL_X11_270 (hM.o rfl) rfl rfl hl.1 rfl (Nat.le_of_ble_eq_true rfl) dX11_load_125 ⟨Nat.le_of_ble_eq_true rfl, Nat.le_of_ble_eq_true rfl⟩ ⟨Nat.zero_le _, Nat.zero_le _⟩ (fun H17 locs hp17 hT17 hS17 hk17 => ?_)
                  obtain ⟨hp17, hB17⟩ := hp17
                  have z50 : ∀ j : Nat, 1200 ≤ j → h_ai H17 (o + 1) j = h_ai H0 (o + 1) j := fun j hj => (hB17.2.1 j (by omega)).trans (z38 j hj)
                  have R51 : mR o H17 := mR_copy6 A40 hB17.1
                  refine lv_aload_n hx hb dX11_load_128 rfl (lv_at hl 1 rfl) ?_
                  refine lv_bipush (v := 9) hx hb dX11_load_129 (by decide) ?_
                  refine h_callVi (T := TX11) (rest := []) (As := [.int 9]) hx hb hml hown hts hK hT17 hZ (fun _ h => h) hS17 (c_X11_refuse l G Y P (o) hM 9) trivial wd_X11_refuse wV_X11_refuse wL_X11_267 (hM.o rfl) rfl rfl hl.1 rfl (Nat.le_of_ble_eq_true rfl) dX11_load_131 ⟨Nat.le_of_ble_eq_true rfl, Nat.le_of_ble_eq_true rfl⟩ ⟨Nat.zero_le _, Nat.zero_le _⟩ (fun r52 H18 locs hp18 hT18 hS18 hk18 => ?_)
                  obtain ⟨hp18, hB18⟩ := hp18
                  have z53 : ∀ j : Nat, 1200 ≤ j → h_ai H18 (o + 1) j = h_ai H0 (o + 1) j := fun j hj => (h_ai_same hB18).trans (z50 j hj)
                  have R54 : mR o H18 := R51.same hB18
                  have f55 : r52.toInt = (-1) := hp18.1
                  exact hret _ _ _ _ _ hT18 hS18 ⟨trivial, ⟨R54, z53⟩⟩ dX11_load_134
              · skip
                have c35 : ¬ w2_2.toInt = (0 : Int) := h_neI c35
                refine lv_aload_n hx hb dX11_load_90 rfl (lv_at hl 1 rfl) ?_
                refine h_geti (C := RX11) (T := TX11) (N := 23) hx hb hts inX11 hown hK hT12 (hM.o rfl) rfl 12 rfl wF_X11_186 rfl dX11_load_91 (fun p56 => ?_)
                refine lv_topi (fun x57 ex57 => ?_)
                refine lv_if_eq (tgt := 105) hx hb dX11_load_94 (by decide) (fun c58 => ?_) (fun c58 => ?_)
                · skip
                  have c58 : x57.toInt = (0 : Int) := congrArg Int32.toInt c58
                  refine lv_aload_n hx hb dX11_load_105 rfl (lv_at hl 1 rfl) ?_
                  refine lv_aload_n hx hb dX11_load_106 rfl (lv_at hl 1 rfl) ?_
                  refine h_geti (C := RX11) (T := TX11) (N := 23) hx hb hts inX11 hown hK hT12 (hM.o rfl) rfl 16 rfl wF_X11_213 rfl dX11_load_107 (fun p59 => ?_)
                  refine lv_topi (fun x60 ex60 => ?_)
                  refine h_puti (C := RX11) (T := TX11) (N := 23) hx hb hts inX11 tyX11 tyX11_ok nmX11 hown hK hT12 (fun _ h => h) hS12 (hM.o rfl) rfl 18 rfl wF_X11_28 rfl rfl trivial rfl rfl dX11_load_110 (fun H19 locs hT19 hS19 hu19 => ?_)
                  have z61 : ∀ j : Nat, 1200 ≤ j → h_ai H19 (o + 1) j = h_ai H0 (o + 1) j := fun j hj => (h_ai_same (hu19.2.1 (o + 1) (by omega))).trans (z31 j hj)
                  have R62 : mR o H19 := R32.same (hu19.2.1 (o + 1) (by omega))
                  have A63 : mRa o H19 600 := A33.kept (fun j hj => h_ai_same (hu19.2.1 (o + 1) (by omega)))
                  refine lv_aload_n hx hb dX11_load_113 rfl (lv_at hl 1 rfl) ?_
                  refine h_geti (C := RX11) (T := TX11) (N := 23) hx hb hts inX11 hown hK hT19 (hM.o rfl) rfl 16 rfl wF_X11_213 rfl dX11_load_114 (fun p64 => ?_)
                  refine h_top (v := x60) ((h_ps hu19 rfl (by decide) (by decide)).trans ex60.symm) ?_
                  refine lv_if_le (tgt := 135) hx hb dX11_load_117 (by decide) (fun c65 => ?_) (fun c65 => ?_)
                  · skip
                    have c65 : x60.toInt ≤ (0 : Int) := Int32.le_iff_toInt_le.mp c65
                    refine lv_aload_n hx hb dX11_load_135 rfl (lv_at hl 1 rfl) ?_
                    refine lv_aload_n hx hb dX11_load_136 rfl (lv_at hl 1 rfl) ?_
                    refine lv_iconst (v := 0) hx hb dX11_load_137 (by decide) ?_
                    refine h_callVi (T := TX11) (rest := [.ref (o)]) (As := [.int 0]) hx hb hml hown hts hK hT19 hZ (fun _ h => h) hS19 (c_of l G Y P (o) hM 0 0 (by decide) (h_inc (by decide))) trivial wd_X11_of wV_X11_of wL_X11_47 (hM.o rfl) rfl rfl hl.1 rfl (Nat.le_of_ble_eq_true rfl) dX11_load_138 ⟨Nat.le_of_ble_eq_true rfl, Nat.le_of_ble_eq_true rfl⟩ ⟨Nat.zero_le _, Nat.zero_le _⟩ (fun r66 H20 locs hp20 hT20 hS20 hk20 => ?_)
                    obtain ⟨hp20, he⟩ := hp20
                    have he := he.symm
                    subst he
                    have mr66 : h_ai H19 (o + 1) 0 = r66 := hp20.1.symm
                    have br66 := mP_N hp20.2 (by omega)
                    refine h_callVi (T := TX11) (rest := []) (As := [.int r66]) hx hb hml hown hts hK hT19 hZ (fun _ h => h) hS20 (c_X11_gives l G Y P (o) hM r66) trivial wd_X11_gives wV_X11_gives wL_X11_276 (hM.o rfl) rfl rfl hl.1 rfl (Nat.le_of_ble_eq_true rfl) dX11_load_141 ⟨Nat.le_of_ble_eq_true rfl, Nat.le_of_ble_eq_true rfl⟩ ⟨Nat.zero_le _, Nat.zero_le _⟩ (fun r67 H21 locs hp21 hT21 hS21 hk21 => ?_)
                    obtain ⟨hp21, hB21⟩ := hp21
                    have z68 : ∀ j : Nat, 1200 ≤ j → h_ai H21 (o + 1) j = h_ai H0 (o + 1) j := fun j hj => (h_ai_same hB21).trans (z61 j hj)
                    have m69 : h_ai H21 (o + 1) 0 = r66 := (h_ai_same hB21).trans mr66
                    have R70 : mR o H21 := R62.same hB21
                    have A71 : mRa o H21 600 := A63.kept (fun j hj => h_ai_same hB21)
                    have f72 : r67.toInt = r66.toInt := hp21.1
                    exact hret _ _ _ _ _ hT21 hS21 ⟨trivial, ⟨R70, z68⟩⟩ dX11_load_144
                  · skip
                    have c65 : ¬ x60.toInt ≤ (0 : Int) := h_nleI c65
                    refine lv_aload_n hx hb dX11_load_120 rfl (lv_at hl 1 rfl) ?_
                    refine lv_sipush (v := 600) hx hb dX11_load_121 (by decide) ?_
                    refine lv_iconst (v := 0) hx hb dX11_load_124 (by decide) ?_
                    refine h_callVv (T := TX11) (rest := []) (As := [.int 600, .int 0]) hx hb hml hown hts hK hT19 hZ (fun _ h => h) hS19 (c_X11_copies l G Y P (o) hM 600 0 1 0 (by decide) (by decide) (by decide) (by decide)) trivial wd_X11_copies wV_X11_copies wL_X11_270 (hM.o rfl) rfl rfl hl.1 rfl (Nat.le_of_ble_eq_true rfl) dX11_load_125 ⟨Nat.le_of_ble_eq_true rfl, Nat.le_of_ble_eq_true rfl⟩ ⟨Nat.zero_le _, Nat.zero_le _⟩ (fun H22 locs hp22 hT22 hS22 hk22 => ?_)
                    obtain ⟨hp22, hB22⟩ := hp22
                    have z73 : ∀ j : Nat, 1200 ≤ j → h_ai H22 (o + 1) j = h_ai H0 (o + 1) j := fun j hj => (hB22.2.1 j (by omega)).trans (z61 j hj)
                    have R74 : mR o H22 := mR_copy6 A63 hB22.1
                    refine lv_aload_n hx hb dX11_load_128 rfl (lv_at hl 1 rfl) ?_
                    refine lv_bipush (v := 9) hx hb dX11_load_129 (by decide) ?_
                    refine h_callVi (T := TX11) (rest := []) (As := [.int 9]) hx hb hml hown hts hK hT22 hZ (fun _ h => h) hS22 (c_X11_refuse l G Y P (o) hM 9) trivial wd_X11_refuse wV_X11_refuse wL_X11_267 (hM.o rfl) rfl rfl hl.1 rfl (Nat.le_of_ble_eq_true rfl) dX11_load_131 ⟨Nat.le_of_ble_eq_true rfl, Nat.le_of_ble_eq_true rfl⟩ ⟨Nat.zero_le _, Nat.zero_le _⟩ (fun r75 H23 locs hp23 hT23 hS23 hk23 => ?_)
                    obtain ⟨hp23, hB23⟩ := hp23
                    have z76 : ∀ j : Nat, 1200 ≤ j → h_ai H23 (o + 1) j = h_ai H0 (o + 1) j := fun j hj => (h_ai_same hB23).trans (z73 j hj)
                    have R77 : mR o H23 := R74.same hB23
                    have f78 : r75.toInt = (-1) := hp23.1
                    exact hret _ _ _ _ _ hT23 hS23 ⟨trivial, ⟨R77, z76⟩⟩ dX11_load_134
                · skip
                  have c58 : ¬ x57.toInt = (0 : Int) := h_neI c58
                  refine lv_aload_n hx hb dX11_load_97 rfl (lv_at hl 1 rfl) ?_
                  refine h_callVi (T := TX11) (rest := []) (As := []) hx hb hml hown hts hK hT12 hZ (fun _ h => h) hS12 (c_X11_aLine l G Y P (o) hM) R32 wd_X11_aLine wV_X11_aLine wL_X11_273 (hM.o rfl) rfl rfl hl.1 rfl (Nat.le_of_ble_eq_true rfl) dX11_load_98 ⟨Nat.le_of_ble_eq_true rfl, Nat.le_of_ble_eq_true rfl⟩ ⟨Nat.zero_le _, Nat.zero_le _⟩ (fun r79 H24 locs hp24 hT24 hS24 hk24 => ?_)
                  obtain ⟨hp24, hB24⟩ := hp24
                  have z80 : ∀ j : Nat, 1200 ≤ j → h_ai H24 (o + 1) j = h_ai H0 (o + 1) j := fun j hj => (hB24.2 j (by omega)).trans (z31 j hj)
                  have R81 : mR o H24 := hB24.1
                  have A82 : mRa o H24 600 := A33.kept (fun j hj => hB24.2 _ (by omega))
                  obtain ⟨y83, my83⟩ : ∃ x, h_gi G H24 11 o 14 = x := ⟨_, rfl⟩
                  have by83 : 0 ≤ y83.toInt ∧ y83.toInt ≤ 500 := by rw [← my83]; exact (hT24.gi (hM.o rfl) 14 rfl).1
                  have f84 : f2_14.toInt ≤ y83.toInt ∧ (r79.toInt = 0 ∨ f2_14.toInt < y83.toInt) := by have q := hp24.2; rw [m34] at q; rw [my83] at q; exact q
                  refine lv_istore_n (lv' := [(2, .int r79), (0, .ref (o))]) hx hb dX11_load_101 rfl hl (by decide) rfl (fun ls hl => ?_)
                  refine lv_goto (tgt := 86) hx hb dX11_load_102 (by decide) ?_
                  exact ih2 r79 y83 _ (show ((r79.toInt = 0 ∧ 0 < (n2 : Int)) ∨ 500 - y83.toInt + 1 < (n2 : Int)) from by omega) (show 0 ≤ y83.toInt ∧ y83.toInt ≤ 500 from by omega) hT24 z80 R81 A82 my83 _ _ hS24 (lv_sub hl [0, 1] rfl)
          exact LP2 4294967296 1 y29 _ (show (((1 : Int) = 0 ∧ 0 < ((4294967296 : Nat) : Int)) ∨ 500 - y29.toInt + 1 < ((4294967296 : Nat) : Int)) from by omega) (show 0 ≤ y29.toInt ∧ y29.toInt ≤ 500 from by omega) hT11 z25 R26 A27 my29 _ _ hS11 (lv_sub hl [0, 1] rfl)
        · skip
          have c10 : ¬ u1.toInt ≤ w1_2.toInt := h_nleI c10
          refine lv_aload_n hx hb dX11_load_30 rfl (lv_at hl 1 rfl) ?_
          refine h_getr (C := RX11) (T := TX11) (N := 23) hx hb hts inX11 hown hK hT3 (hM.o rfl) rfl 8 rfl wF_X11_17 rfl dX11_load_31 ?_
          refine lv_iload_n hx hb dX11_load_34 rfl (lv_at hl 0 rfl) ?_
          refine lv_aload_n hx hb dX11_load_35 rfl (lv_at hl 1 rfl) ?_
          refine h_getr (C := RX11) (T := TX11) (N := 23) hx hb hts inX11 hown hK hT3 (hM.o rfl) rfl 7 rfl wF_X11_13 rfl dX11_load_36 ?_
          refine lv_iload_n hx hb dX11_load_39 rfl (lv_at hl 0 rfl) ?_
          refine h_bald hx hb hK hT3 (hM.at 2 rfl) (h_vin (by omega) (by omega)) dX11_load_40 (fun p85 => ?_)
          refine lv_topi (fun x86 ex86 => ?_)
          refine h_bast hx hb hK hT3 (fun _ h => h) hS3 (hM.at 3 rfl) (h_vin (by omega) (by omega)) trivial dX11_load_41 (fun H25 locs hT25 hS25 hu25 => ?_)
          have z87 : ∀ j : Nat, 1200 ≤ j → h_ai H25 (o + 1) j = h_ai H0 (o + 1) j := fun j hj => (h_ai_same (hu25.2.1 (o + 1) (by omega))).trans (z8 j hj)
          have R88 : mR o H25 := R9.same (hu25.2.1 (o + 1) (by omega))
          obtain ⟨x89, qx89, ix89⟩ := h_addX w1_2 1 w1_2.toInt (1 : Int) rfl rfl (by have := Int32.le_toInt w1_2; have := Int32.toInt_lt w1_2; omega) (by have := Int32.le_toInt w1_2; have := Int32.toInt_lt w1_2; omega)
          refine lv_iinc (v := x89) (lv' := [(2, .int x89), (0, .ref (o)), (1, .int u1)]) hx hb dX11_load_42 hl (k := 0) rfl qx89 (by decide) rfl (fun ls hl => ?_)
          refine lv_goto (tgt := 25) hx hb dX11_load_45 (by decide) ?_
          exact ih1 x89 _ (show 2147483647 - x89.toInt < (n1 : Int) from by omega) (show 0 ≤ x89.toInt from by omega) hT25 z87 R88 _ _ hS25 (lv_sub hl [0, 1, 2] rfl)
    exact LP1 4294967296 0 _ (show 2147483647 - (0 : Int) < ((4294967296 : Nat) : Int) from by omega) (show 0 ≤ (0 : Int) from by omega) hT2 z6 R7 _ _ hS2 (lv_sub hl [0, 1, 2] rfl)
  · skip
    have c5 : r3.toInt = (0 : Int) := congrArg Int32.toInt c5
    refine lv_aload_n hx hb dX11_load_12 rfl (lv_at hl 0 rfl) ?_
    refine lv_iconst (v := 1) hx hb dX11_load_13 (by decide) ?_
    refine h_callVi (T := TX11) (rest := []) (As := [.int 1]) hx hb hml hown hts hK hT0 hZ (fun _ h => h) hS1 (c_X11_refuse l G Y P (o) hM 1) trivial wd_X11_refuse wV_X11_refuse wL_X11_267 (hM.o rfl) rfl rfl hl.1 rfl (Nat.le_of_ble_eq_true rfl) dX11_load_14 ⟨Nat.le_of_ble_eq_true rfl, Nat.le_of_ble_eq_true rfl⟩ ⟨Nat.zero_le _, Nat.zero_le _⟩ (fun r90 H26 locs hp26 hT26 hS26 hk26 => ?_)
    obtain ⟨hp26, hB26⟩ := hp26
    have z91 : ∀ j : Nat, 1200 ≤ j → h_ai H26 (o + 1) j = h_ai H0 (o + 1) j := fun j hj => (h_ai_same hB26)
    have R92 : mR o H26 := hpr.same hB26
    have f93 : r90.toInt = (-1) := hp26.1
    exact hret _ _ _ _ _ hT26 hS26 ⟨trivial, ⟨R92, z91⟩⟩ dX11_load_17
set_option maxHeartbeats 4000000 in
set_option maxRecDepth 100000 in
theorem c_X11_quiet (l : Launch) (G : hG) (Y : hW) (P : Int32 → Prop) (o : Nat) (hM : h_On Y o (modE (tM P) o)) (u1 : Int32) (hz1 : u1 = 0 ∨ u1 = 1) : hMi l yX11_quiet cX11_quiet 2 (some .int) 8 175 G Y [.ref (o), .int u1] (fun H => mR o H) (fun H r H1 => (True) ∧ (mR o H1 ∧ mV o H H1)) := by
  refine h_ofi (by decide +kernel) (Nat.le_of_ble_eq_true rfl) ?_
  intro p e s m args below meth c H0 ls Q hx hb hts hown hml hK hZ hT0 hpr hS0 hl hret
  have hl : lv_has ls 2 [(0, .ref (o)), (1, .int u1)] := hl
  refine lv_aload_n hx hb dX11_quiet_0 rfl (lv_at hl 0 rfl) ?_
  refine lv_aload_n hx hb dX11_quiet_1 rfl (lv_at hl 0 rfl) ?_
  refine lv_iconst (v := 0) hx hb dX11_quiet_2 (by decide) ?_
  refine lv_iload_n hx hb dX11_quiet_3 rfl (lv_at hl 1 rfl) ?_
  refine h_callVi (T := TX11) (rest := [.ref (o)]) (As := [.int 0, .int u1]) hx hb hml hown hts hK hT0 hZ (fun _ h => h) hS0 (c_X11_reaches l G Y P (o) hM 0 u1 hz1) hpr wd_X11_reaches wV_X11_reaches wL_X11_332 (hM.o rfl) rfl rfl hl.1 rfl (Nat.le_of_ble_eq_true rfl) dX11_quiet_4 ⟨Nat.le_of_ble_eq_true rfl, Nat.le_of_ble_eq_true rfl⟩ ⟨Nat.zero_le _, Nat.zero_le _⟩ (fun r1 H1 locs hp1 hT1 hS1 hk1 => ?_)
  obtain ⟨hp1, hB1⟩ := hp1
  have z2 : ∀ j : Nat, 1200 ≤ j → h_ai H1 (o + 1) j = h_ai H0 (o + 1) j := fun j hj => (hB1.2 j hj)
  have R3 : mR o H1 := hB1.1
  refine h_callVi (T := TX11) (rest := []) (As := [.int r1]) hx hb hml hown hts hK hT1 hZ (fun _ h => h) hS1 (c_X11_givesOr l G Y P (o) hM r1) trivial wd_X11_givesOr wV_X11_givesOr wL_X11_336 (hM.o rfl) rfl rfl hl.1 rfl (Nat.le_of_ble_eq_true rfl) dX11_quiet_7 ⟨Nat.le_of_ble_eq_true rfl, Nat.le_of_ble_eq_true rfl⟩ ⟨Nat.zero_le _, Nat.zero_le _⟩ (fun r4 H2 locs hp2 hT2 hS2 hk2 => ?_)
  obtain ⟨hp2, hB2⟩ := hp2
  have z5 : ∀ j : Nat, 1200 ≤ j → h_ai H2 (o + 1) j = h_ai H0 (o + 1) j := fun j hj => (h_ai_same hB2).trans (z2 j hj)
  have R6 : mR o H2 := R3.same hB2
  exact hret _ _ _ _ _ hT2 hS2 ⟨trivial, ⟨R6, z5⟩⟩ dX11_quiet_10
set_option maxHeartbeats 4000000 in
set_option maxRecDepth 100000 in
theorem c_X11_peak (l : Launch) (G : hG) (Y : hW) (P : Int32 → Prop) (o : Nat) (hM : h_On Y o (modE (tM P) o)) : hMi l yX11_peak cX11_peak 2 (some .int) 8 175 G Y [.ref (o)] (fun H => mR o H) (fun H r H1 => (True) ∧ (mR o H1 ∧ mV o H H1)) := by
  refine h_ofi (by decide +kernel) (Nat.le_of_ble_eq_true rfl) ?_
  intro p e s m args below meth c H0 ls Q hx hb hts hown hml hK hZ hT0 hpr hS0 hl hret
  have hl : lv_has ls 2 [(0, .ref (o))] := hl
  refine lv_aload_n hx hb dX11_peak_0 rfl (lv_at hl 0 rfl) ?_
  refine lv_iconst (v := 0) hx hb dX11_peak_1 (by decide) ?_
  refine lv_iconst (v := 0) hx hb dX11_peak_2 (by decide) ?_
  refine h_callVi (T := TX11) (rest := []) (As := [.int 0, .int 0]) hx hb hml hown hts hK hT0 hZ (fun _ h => h) hS0 (c_X11_reaches l G Y P (o) hM 0 0 (by decide)) hpr wd_X11_reaches wV_X11_reaches wL_X11_332 (hM.o rfl) rfl rfl hl.1 rfl (Nat.le_of_ble_eq_true rfl) dX11_peak_3 ⟨Nat.le_of_ble_eq_true rfl, Nat.le_of_ble_eq_true rfl⟩ ⟨Nat.zero_le _, Nat.zero_le _⟩ (fun r1 H1 locs hp1 hT1 hS1 hk1 => ?_)
  obtain ⟨hp1, hB1⟩ := hp1
  have z2 : ∀ j : Nat, 1200 ≤ j → h_ai H1 (o + 1) j = h_ai H0 (o + 1) j := fun j hj => (hB1.2 j hj)
  have R3 : mR o H1 := hB1.1
  refine lv_istore_n (lv' := [(1, .int r1), (0, .ref (o))]) hx hb dX11_peak_6 rfl hl (by decide) rfl (fun ls hl => ?_)
  refine lv_iload_n hx hb dX11_peak_7 rfl (lv_at hl 0 rfl) ?_
  refine lv_iconst (v := (-1)) hx hb dX11_peak_8 (by decide) ?_
  refine lv_icmp_ne (tgt := 21) hx hb dX11_peak_9 (by decide) (fun c4 => ?_) (fun c4 => ?_)
  · skip
    have c4 : ¬ r1.toInt = (-1 : Int) := h_neI c4
    refine lv_aload_n hx hb dX11_peak_21 rfl (lv_at hl 1 rfl) ?_
    refine lv_aload_n hx hb dX11_peak_22 rfl (lv_at hl 1 rfl) ?_
    refine h_geti (C := RX11) (T := TX11) (N := 23) hx hb hts inX11 hown hK hT1 (hM.o rfl) rfl 20 rfl wF_X11_316 rfl dX11_peak_23 (fun p5 => ?_)
    refine lv_topi (fun x6 ex6 => ?_)
    refine h_callVi (T := TX11) (rest := []) (As := [.int x6]) hx hb hml hown hts hK hT1 hZ (fun _ h => h) hS1 (c_X11_gives l G Y P (o) hM x6) trivial wd_X11_gives wV_X11_gives wL_X11_276 (hM.o rfl) rfl rfl hl.1 rfl (Nat.le_of_ble_eq_true rfl) dX11_peak_26 ⟨Nat.le_of_ble_eq_true rfl, Nat.le_of_ble_eq_true rfl⟩ ⟨Nat.zero_le _, Nat.zero_le _⟩ (fun r7 H2 locs hp2 hT2 hS2 hk2 => ?_)
    obtain ⟨hp2, hB2⟩ := hp2
    have z8 : ∀ j : Nat, 1200 ≤ j → h_ai H2 (o + 1) j = h_ai H0 (o + 1) j := fun j hj => (h_ai_same hB2).trans (z2 j hj)
    have R9 : mR o H2 := R3.same hB2
    have f10 : r7.toInt = x6.toInt := hp2.1
    exact hret _ _ _ _ _ hT2 hS2 ⟨trivial, ⟨R9, z8⟩⟩ dX11_peak_29
  · skip
    have c4 : r1.toInt = (-1 : Int) := congrArg Int32.toInt c4
    refine lv_aload_n hx hb dX11_peak_12 rfl (lv_at hl 1 rfl) ?_
    refine lv_bipush (v := 7) hx hb dX11_peak_13 (by decide) ?_
    refine h_callVi (T := TX11) (rest := []) (As := [.int 7]) hx hb hml hown hts hK hT1 hZ (fun _ h => h) hS1 (c_X11_refuse l G Y P (o) hM 7) trivial wd_X11_refuse wV_X11_refuse wL_X11_267 (hM.o rfl) rfl rfl hl.1 rfl (Nat.le_of_ble_eq_true rfl) dX11_peak_15 ⟨Nat.le_of_ble_eq_true rfl, Nat.le_of_ble_eq_true rfl⟩ ⟨Nat.zero_le _, Nat.zero_le _⟩ (fun r11 H3 locs hp3 hT3 hS3 hk3 => ?_)
    obtain ⟨hp3, hB3⟩ := hp3
    have z12 : ∀ j : Nat, 1200 ≤ j → h_ai H3 (o + 1) j = h_ai H0 (o + 1) j := fun j hj => (h_ai_same hB3).trans (z2 j hj)
    have R13 : mR o H3 := R3.same hB3
    have f14 : r11.toInt = (-1) := hp3.1
    refine lv_goto (tgt := 29) hx hb dX11_peak_18 (by decide) ?_
    exact hret _ _ _ _ _ hT3 hS3 ⟨trivial, ⟨R13, z12⟩⟩ dX11_peak_29
set_option maxHeartbeats 4000000 in
set_option maxRecDepth 100000 in
theorem c_X11_lowered (l : Launch) (G : hG) (Y : hW) (P : Int32 → Prop) (o : Nat) (hM : h_On Y o (modE (tM P) o)) : hMi l yX11_lowered cX11_lowered 1 (some .int) 8 175 G Y [.ref (o)] (fun H => mR o H) (fun H r H1 => (True) ∧ (mR o H1 ∧ mV o H H1)) := by
  refine h_ofi (by decide +kernel) (Nat.le_of_ble_eq_true rfl) ?_
  intro p e s m args below meth c H0 ls Q hx hb hts hown hml hK hZ hT0 hpr hS0 hl hret
  have hl : lv_has ls 1 [(0, .ref (o))] := hl
  refine lv_aload_n hx hb dX11_lowered_0 rfl (lv_at hl 0 rfl) ?_
  refine lv_aload_n hx hb dX11_lowered_1 rfl (lv_at hl 0 rfl) ?_
  refine lv_iconst (v := 1) hx hb dX11_lowered_2 (by decide) ?_
  refine lv_iconst (v := 0) hx hb dX11_lowered_3 (by decide) ?_
  refine h_callVi (T := TX11) (rest := [.ref (o)]) (As := [.int 1, .int 0]) hx hb hml hown hts hK hT0 hZ (fun _ h => h) hS0 (c_X11_reaches l G Y P (o) hM 1 0 (by decide)) hpr wd_X11_reaches wV_X11_reaches wL_X11_332 (hM.o rfl) rfl rfl hl.1 rfl (Nat.le_of_ble_eq_true rfl) dX11_lowered_4 ⟨Nat.le_of_ble_eq_true rfl, Nat.le_of_ble_eq_true rfl⟩ ⟨Nat.zero_le _, Nat.zero_le _⟩ (fun r1 H1 locs hp1 hT1 hS1 hk1 => ?_)
  obtain ⟨hp1, hB1⟩ := hp1
  have z2 : ∀ j : Nat, 1200 ≤ j → h_ai H1 (o + 1) j = h_ai H0 (o + 1) j := fun j hj => (hB1.2 j hj)
  have R3 : mR o H1 := hB1.1
  refine h_callVi (T := TX11) (rest := []) (As := [.int r1]) hx hb hml hown hts hK hT1 hZ (fun _ h => h) hS1 (c_X11_givesOr l G Y P (o) hM r1) trivial wd_X11_givesOr wV_X11_givesOr wL_X11_336 (hM.o rfl) rfl rfl hl.1 rfl (Nat.le_of_ble_eq_true rfl) dX11_lowered_7 ⟨Nat.le_of_ble_eq_true rfl, Nat.le_of_ble_eq_true rfl⟩ ⟨Nat.zero_le _, Nat.zero_le _⟩ (fun r4 H2 locs hp2 hT2 hS2 hk2 => ?_)
  obtain ⟨hp2, hB2⟩ := hp2
  have z5 : ∀ j : Nat, 1200 ≤ j → h_ai H2 (o + 1) j = h_ai H0 (o + 1) j := fun j hj => (h_ai_same hB2).trans (z2 j hj)
  have R6 : mR o H2 := R3.same hB2
  exact hret _ _ _ _ _ hT2 hS2 ⟨trivial, ⟨R6, z5⟩⟩ dX11_lowered_10
set_option maxHeartbeats 4000000 in
set_option maxRecDepth 100000 in
theorem c_X11_healed (l : Launch) (G : hG) (Y : hW) (P : Int32 → Prop) (o : Nat) (hM : h_On Y o (modE (tM P) o)) : hMi l yX11_healed cX11_healed 1 (some .int) 8 175 G Y [.ref (o)] (fun H => mR o H) (fun H r H1 => (True) ∧ (mR o H1 ∧ mV o H H1)) := by
  refine h_ofi (by decide +kernel) (Nat.le_of_ble_eq_true rfl) ?_
  intro p e s m args below meth c H0 ls Q hx hb hts hown hml hK hZ hT0 hpr hS0 hl hret
  have hl : lv_has ls 1 [(0, .ref (o))] := hl
  refine lv_aload_n hx hb dX11_healed_0 rfl (lv_at hl 0 rfl) ?_
  refine lv_aload_n hx hb dX11_healed_1 rfl (lv_at hl 0 rfl) ?_
  refine lv_iconst (v := 2) hx hb dX11_healed_2 (by decide) ?_
  refine lv_iconst (v := 0) hx hb dX11_healed_3 (by decide) ?_
  refine h_callVi (T := TX11) (rest := [.ref (o)]) (As := [.int 2, .int 0]) hx hb hml hown hts hK hT0 hZ (fun _ h => h) hS0 (c_X11_reaches l G Y P (o) hM 2 0 (by decide)) hpr wd_X11_reaches wV_X11_reaches wL_X11_332 (hM.o rfl) rfl rfl hl.1 rfl (Nat.le_of_ble_eq_true rfl) dX11_healed_4 ⟨Nat.le_of_ble_eq_true rfl, Nat.le_of_ble_eq_true rfl⟩ ⟨Nat.zero_le _, Nat.zero_le _⟩ (fun r1 H1 locs hp1 hT1 hS1 hk1 => ?_)
  obtain ⟨hp1, hB1⟩ := hp1
  have z2 : ∀ j : Nat, 1200 ≤ j → h_ai H1 (o + 1) j = h_ai H0 (o + 1) j := fun j hj => (hB1.2 j hj)
  have R3 : mR o H1 := hB1.1
  refine h_callVi (T := TX11) (rest := []) (As := [.int r1]) hx hb hml hown hts hK hT1 hZ (fun _ h => h) hS1 (c_X11_givesOr l G Y P (o) hM r1) trivial wd_X11_givesOr wV_X11_givesOr wL_X11_336 (hM.o rfl) rfl rfl hl.1 rfl (Nat.le_of_ble_eq_true rfl) dX11_healed_7 ⟨Nat.le_of_ble_eq_true rfl, Nat.le_of_ble_eq_true rfl⟩ ⟨Nat.zero_le _, Nat.zero_le _⟩ (fun r4 H2 locs hp2 hT2 hS2 hk2 => ?_)
  obtain ⟨hp2, hB2⟩ := hp2
  have z5 : ∀ j : Nat, 1200 ≤ j → h_ai H2 (o + 1) j = h_ai H0 (o + 1) j := fun j hj => (h_ai_same hB2).trans (z2 j hj)
  have R6 : mR o H2 := R3.same hB2
  exact hret _ _ _ _ _ hT2 hS2 ⟨trivial, ⟨R6, z5⟩⟩ dX11_healed_10
set_option maxHeartbeats 4000000 in
set_option maxRecDepth 100000 in
theorem c_X11_purged (l : Launch) (G : hG) (Y : hW) (P : Int32 → Prop) (o : Nat) (hM : h_On Y o (modE (tM P) o)) : hMi l yX11_purged cX11_purged 1 (some .int) 8 175 G Y [.ref (o)] (fun H => mR o H) (fun H r H1 => (True) ∧ (mR o H1 ∧ mV o H H1)) := by
  refine h_ofi (by decide +kernel) (Nat.le_of_ble_eq_true rfl) ?_
  intro p e s m args below meth c H0 ls Q hx hb hts hown hml hK hZ hT0 hpr hS0 hl hret
  have hl : lv_has ls 1 [(0, .ref (o))] := hl
  refine lv_aload_n hx hb dX11_purged_0 rfl (lv_at hl 0 rfl) ?_
  refine lv_aload_n hx hb dX11_purged_1 rfl (lv_at hl 0 rfl) ?_
  refine lv_iconst (v := 3) hx hb dX11_purged_2 (by decide) ?_
  refine lv_iconst (v := 0) hx hb dX11_purged_3 (by decide) ?_
  refine h_callVi (T := TX11) (rest := [.ref (o)]) (As := [.int 3, .int 0]) hx hb hml hown hts hK hT0 hZ (fun _ h => h) hS0 (c_X11_reaches l G Y P (o) hM 3 0 (by decide)) hpr wd_X11_reaches wV_X11_reaches wL_X11_332 (hM.o rfl) rfl rfl hl.1 rfl (Nat.le_of_ble_eq_true rfl) dX11_purged_4 ⟨Nat.le_of_ble_eq_true rfl, Nat.le_of_ble_eq_true rfl⟩ ⟨Nat.zero_le _, Nat.zero_le _⟩ (fun r1 H1 locs hp1 hT1 hS1 hk1 => ?_)
  obtain ⟨hp1, hB1⟩ := hp1
  have z2 : ∀ j : Nat, 1200 ≤ j → h_ai H1 (o + 1) j = h_ai H0 (o + 1) j := fun j hj => (hB1.2 j hj)
  have R3 : mR o H1 := hB1.1
  refine h_callVi (T := TX11) (rest := []) (As := [.int r1]) hx hb hml hown hts hK hT1 hZ (fun _ h => h) hS1 (c_X11_givesOr l G Y P (o) hM r1) trivial wd_X11_givesOr wV_X11_givesOr wL_X11_336 (hM.o rfl) rfl rfl hl.1 rfl (Nat.le_of_ble_eq_true rfl) dX11_purged_7 ⟨Nat.le_of_ble_eq_true rfl, Nat.le_of_ble_eq_true rfl⟩ ⟨Nat.zero_le _, Nat.zero_le _⟩ (fun r4 H2 locs hp2 hT2 hS2 hk2 => ?_)
  obtain ⟨hp2, hB2⟩ := hp2
  have z5 : ∀ j : Nat, 1200 ≤ j → h_ai H2 (o + 1) j = h_ai H0 (o + 1) j := fun j hj => (h_ai_same hB2).trans (z2 j hj)
  have R6 : mR o H2 := R3.same hB2
  exact hret _ _ _ _ _ hT2 hS2 ⟨trivial, ⟨R6, z5⟩⟩ dX11_purged_10
set_option maxHeartbeats 4000000 in
set_option maxRecDepth 100000 in
theorem c_X11_blamed (l : Launch) (G : hG) (Y : hW) (P : Int32 → Prop) (o : Nat) (hM : h_On Y o (modE (tM P) o)) : hMi l yX11_blamed cX11_blamed 3 (some .int) 7 151 G Y [.ref (o)] (fun H => mR o H) (fun H r H1 => (True) ∧ (mR o H1 ∧ mV o H H1)) := by
  refine h_ofi (by decide +kernel) (Nat.le_of_ble_eq_true rfl) ?_
  intro p e s m args below meth c H0 ls Q hx hb hts hown hml hK hZ hT0 hpr hS0 hl hret
  have hl : lv_has ls 3 [(0, .ref (o))] := hl
  refine lv_aload_n hx hb dX11_blamed_0 rfl (lv_at hl 0 rfl) ?_
  refine lv_iconst (v := 0) hx hb dX11_blamed_1 (by decide) ?_
  refine h_callVv (T := TX11) (rest := []) (As := [.int 0]) hx hb hml hown hts hK hT0 hZ (fun _ h => h) hS0 (c_X11_onPaper l G Y P (o) hM 0 (by decide)) hpr wd_X11_onPaper wV_X11_onPaper wL_X11_322 (hM.o rfl) rfl rfl hl.1 rfl (Nat.le_of_ble_eq_true rfl) dX11_blamed_2 ⟨Nat.le_of_ble_eq_true rfl, Nat.le_of_ble_eq_true rfl⟩ ⟨Nat.zero_le _, Nat.zero_le _⟩ (fun H1 locs hp1 hT1 hS1 hk1 => ?_)
  obtain ⟨hp1, hB1⟩ := hp1
  have z1 : ∀ j : Nat, 1200 ≤ j → h_ai H1 (o + 1) j = h_ai H0 (o + 1) j := fun j hj => (hB1.2 j hj)
  have R2 : mR o H1 := hB1.1
  refine lv_iconst (v := (-1)) hx hb dX11_blamed_5 (by decide) ?_
  refine lv_istore_n (lv' := [(1, .int (-1)), (0, .ref (o))]) hx hb dX11_blamed_6 rfl hl (by decide) rfl (fun ls hl => ?_)
  refine lv_iconst (v := 0) hx hb dX11_blamed_7 (by decide) ?_
  refine lv_istore_n (lv' := [(2, .int 0), (1, .int (-1)), (0, .ref (o))]) hx hb dX11_blamed_8 rfl hl (by decide) rfl (fun ls hl => ?_)
  have LP1 : ∀ (n1 : Nat) (w1_2 : Int32) (w1_1 : Int32) (H2 : Heap), (2147483647 - w1_2.toInt < (n1 : Int)) → (0 ≤ w1_2.toInt) → (hT G Y H2) → (∀ j : Nat, 1200 ≤ j → h_ai H2 (o + 1) j = h_ai H0 (o + 1) j) → (mR o H2) → (mRa o H2 600) → ∀ (locs : List Loc) (ls : Array Slot), va_S (h_A Y) s.heap H2 locs → lv_has ls 3 [(2, .int w1_2), (1, .int w1_1), (0, .ref (o))] → W p l e (h_rm 7 151) s m args below meth c H2 locs 0 0 Q (F0 m 9 ls []) := by
    intro n1
    induction n1 with
    | zero =>
      intro w1_2 w1_1 H2 hm hlo1_2
      intros
      exfalso
      have := Int32.toInt_lt w1_2; have := Int32.le_toInt w1_2
      have := Int32.toInt_lt w1_1; have := Int32.le_toInt w1_1
      omega
    | succ n1 ih1 =>
      intro w1_2 w1_1 H2 hm hlo1_2 hT2 z3 R4 A5 locs ls hS2 hl
      refine lv_iload_n hx hb dX11_blamed_9 rfl (lv_at hl 0 rfl) ?_
      refine lv_sipush (v := 3000) hx hb dX11_blamed_10 (by decide) ?_
      refine lv_icmp_ge (tgt := 36) hx hb dX11_blamed_13 (by decide) (fun c6 => ?_) (fun c6 => ?_)
      · skip
        have c6 : (3000 : Int) ≤ w1_2.toInt := Int32.le_iff_toInt_le.mp c6
        refine lv_aload_n hx hb dX11_blamed_36 rfl (lv_at hl 2 rfl) ?_
        refine h_callVv (T := TX11) (rest := []) (As := []) hx hb hml hown hts hK hT2 hZ (fun _ h => h) hS2 (c_X11_offPaper l G Y P (o) hM) A5 wd_X11_offPaper wV_X11_offPaper wL_X11_329 (hM.o rfl) rfl rfl hl.1 rfl (Nat.le_of_ble_eq_true rfl) dX11_blamed_37 ⟨Nat.le_of_ble_eq_true rfl, Nat.le_of_ble_eq_true rfl⟩ ⟨Nat.zero_le _, Nat.zero_le _⟩ (fun H4 locs hp4 hT4 hS4 hk4 => ?_)
        obtain ⟨hp4, hB4⟩ := hp4
        have z7 : ∀ j : Nat, 1200 ≤ j → h_ai H4 (o + 1) j = h_ai H0 (o + 1) j := fun j hj => (hB4.2 j hj).trans (z3 j hj)
        have R8 : mR o H4 := hB4.1
        refine lv_aload_n hx hb dX11_blamed_40 rfl (lv_at hl 2 rfl) ?_
        refine lv_iload_n hx hb dX11_blamed_41 rfl (lv_at hl 1 rfl) ?_
        refine h_callVi (T := TX11) (rest := []) (As := [.int w1_1]) hx hb hml hown hts hK hT4 hZ (fun _ h => h) hS4 (c_X11_givesOr l G Y P (o) hM w1_1) trivial wd_X11_givesOr wV_X11_givesOr wL_X11_336 (hM.o rfl) rfl rfl hl.1 rfl (Nat.le_of_ble_eq_true rfl) dX11_blamed_42 ⟨Nat.le_of_ble_eq_true rfl, Nat.le_of_ble_eq_true rfl⟩ ⟨Nat.zero_le _, Nat.zero_le _⟩ (fun r9 H5 locs hp5 hT5 hS5 hk5 => ?_)
        obtain ⟨hp5, hB5⟩ := hp5
        have z10 : ∀ j : Nat, 1200 ≤ j → h_ai H5 (o + 1) j = h_ai H0 (o + 1) j := fun j hj => (h_ai_same hB5).trans (z7 j hj)
        have R11 : mR o H5 := R8.same hB5
        exact hret _ _ _ _ _ hT5 hS5 ⟨trivial, ⟨R11, z10⟩⟩ dX11_blamed_45
      · skip
        have c6 : ¬ (3000 : Int) ≤ w1_2.toInt := h_nleI c6
        refine lv_iload_n hx hb dX11_blamed_16 rfl (lv_at hl 1 rfl) ?_
        refine lv_iconst (v := (-1)) hx hb dX11_blamed_17 (by decide) ?_
        refine lv_icmp_ne (tgt := 36) hx hb dX11_blamed_18 (by decide) (fun c12 => ?_) (fun c12 => ?_)
        · skip
          have c12 : ¬ w1_1.toInt = (-1 : Int) := h_neI c12
          refine lv_aload_n hx hb dX11_blamed_36 rfl (lv_at hl 2 rfl) ?_
          refine h_callVv (T := TX11) (rest := []) (As := []) hx hb hml hown hts hK hT2 hZ (fun _ h => h) hS2 (c_X11_offPaper l G Y P (o) hM) A5 wd_X11_offPaper wV_X11_offPaper wL_X11_329 (hM.o rfl) rfl rfl hl.1 rfl (Nat.le_of_ble_eq_true rfl) dX11_blamed_37 ⟨Nat.le_of_ble_eq_true rfl, Nat.le_of_ble_eq_true rfl⟩ ⟨Nat.zero_le _, Nat.zero_le _⟩ (fun H6 locs hp6 hT6 hS6 hk6 => ?_)
          obtain ⟨hp6, hB6⟩ := hp6
          have z13 : ∀ j : Nat, 1200 ≤ j → h_ai H6 (o + 1) j = h_ai H0 (o + 1) j := fun j hj => (hB6.2 j hj).trans (z3 j hj)
          have R14 : mR o H6 := hB6.1
          refine lv_aload_n hx hb dX11_blamed_40 rfl (lv_at hl 2 rfl) ?_
          refine lv_iload_n hx hb dX11_blamed_41 rfl (lv_at hl 1 rfl) ?_
          refine h_callVi (T := TX11) (rest := []) (As := [.int w1_1]) hx hb hml hown hts hK hT6 hZ (fun _ h => h) hS6 (c_X11_givesOr l G Y P (o) hM w1_1) trivial wd_X11_givesOr wV_X11_givesOr wL_X11_336 (hM.o rfl) rfl rfl hl.1 rfl (Nat.le_of_ble_eq_true rfl) dX11_blamed_42 ⟨Nat.le_of_ble_eq_true rfl, Nat.le_of_ble_eq_true rfl⟩ ⟨Nat.zero_le _, Nat.zero_le _⟩ (fun r15 H7 locs hp7 hT7 hS7 hk7 => ?_)
          obtain ⟨hp7, hB7⟩ := hp7
          have z16 : ∀ j : Nat, 1200 ≤ j → h_ai H7 (o + 1) j = h_ai H0 (o + 1) j := fun j hj => (h_ai_same hB7).trans (z13 j hj)
          have R17 : mR o H7 := R14.same hB7
          exact hret _ _ _ _ _ hT7 hS7 ⟨trivial, ⟨R17, z16⟩⟩ dX11_blamed_45
        · skip
          have c12 : w1_1.toInt = (-1 : Int) := congrArg Int32.toInt c12
          refine lv_aload_n hx hb dX11_blamed_21 rfl (lv_at hl 2 rfl) ?_
          refine h_callVv (T := TX11) (rest := []) (As := []) hx hb hml hown hts hK hT2 hZ (fun _ h => h) hS2 (c_X11_ticks l G Y P (o) hM) R4 wd_X11_ticks wV_X11_ticks wL_X11_297 (hM.o rfl) rfl rfl hl.1 rfl (Nat.le_of_ble_eq_true rfl) dX11_blamed_22 ⟨Nat.le_of_ble_eq_true rfl, Nat.le_of_ble_eq_true rfl⟩ ⟨Nat.zero_le _, Nat.zero_le _⟩ (fun H8 locs hp8 hT8 hS8 hk8 => ?_)
          obtain ⟨hp8, hB8⟩ := hp8
          have z18 : ∀ j : Nat, 1200 ≤ j → h_ai H8 (o + 1) j = h_ai H0 (o + 1) j := fun j hj => (hB8.2 j (by omega)).trans (z3 j hj)
          have R19 : mR o H8 := hB8.1
          have A20 : mRa o H8 600 := A5.kept (fun j hj => hB8.2 _ (by omega))
          refine lv_aload_n hx hb dX11_blamed_25 rfl (lv_at hl 2 rfl) ?_
          refine h_geti (C := RX11) (T := TX11) (N := 23) hx hb hts inX11 hown hK hT8 (hM.o rfl) rfl 4 rfl wF_X11_143 rfl dX11_blamed_26 (fun p21 => ?_)
          refine lv_topi (fun x22 ex22 => ?_)
          refine lv_istore_n (lv' := [(1, .int x22), (2, .int w1_2), (0, .ref (o))]) hx hb dX11_blamed_29 rfl hl (by decide) rfl (fun ls hl => ?_)
          obtain ⟨x23, qx23, ix23⟩ := h_addX w1_2 1 w1_2.toInt (1 : Int) rfl rfl (by omega) (by omega)
          refine lv_iinc (v := x23) (lv' := [(2, .int x23), (1, .int x22), (0, .ref (o))]) hx hb dX11_blamed_30 hl (k := 1) rfl qx23 (by decide) rfl (fun ls hl => ?_)
          refine lv_goto (tgt := 9) hx hb dX11_blamed_33 (by decide) ?_
          exact ih1 x23 x22 _ (show 2147483647 - x23.toInt < (n1 : Int) from by omega) (show 0 ≤ x23.toInt from by omega) hT8 z18 R19 A20 _ _ hS8 (lv_sub hl [0, 1, 2] rfl)
  exact LP1 4294967296 0 (-1) _ (show 2147483647 - (0 : Int) < ((4294967296 : Nat) : Int) from by omega) (show 0 ≤ (0 : Int) from by omega) hT1 z1 R2 hp1 _ _ hS1 (lv_sub hl [0, 1, 2] rfl)
set_option maxHeartbeats 4000000 in
set_option maxRecDepth 100000 in
theorem c_X11_when (l : Launch) (G : hG) (Y : hW) (P : Int32 → Prop) (o : Nat) (hM : h_On Y o (modE (tM P) o)) (u1 u2 : Int32) (hz2 : u2 = 0 ∨ u2 = 1) : hMi l yX11_when cX11_when 5 (some .int) 8 176 G Y [.ref (o), .int u1, .int u2] (fun H => mR o H) (fun H r H1 => (True) ∧ (mR o H1 ∧ mV o H H1)) := by
  refine h_ofi (by decide +kernel) (Nat.le_of_ble_eq_true rfl) ?_
  intro p e s m args below meth c H0 ls Q hx hb hts hown hml hK hZ hT0 hpr hS0 hl hret
  have hl : lv_has ls 5 [(0, .ref (o)), (1, .int u1), (2, .int u2)] := hl
  refine lv_iload_n hx hb dX11_when_0 rfl (lv_at hl 1 rfl) ?_
  refine lv_if_ge (tgt := 10) hx hb dX11_when_1 (by decide) (fun c1 => ?_) (fun c1 => ?_)
  · skip
    have c1 : (0 : Int) ≤ u1.toInt := Int32.le_iff_toInt_le.mp c1
    refine lv_aload_n hx hb dX11_when_10 rfl (lv_at hl 0 rfl) ?_
    refine lv_iconst (v := 5) hx hb dX11_when_11 (by decide) ?_
    refine h_callVi (T := TX11) (rest := []) (As := [.int 5]) hx hb hml hown hts hK hT0 hZ (fun _ h => h) hS0 (c_of l G Y P (o) hM 5 5 (by decide) (h_inc (by decide))) trivial wd_X11_of wV_X11_of wL_X11_47 (hM.o rfl) rfl rfl hl.1 rfl (Nat.le_of_ble_eq_true rfl) dX11_when_12 ⟨Nat.le_of_ble_eq_true rfl, Nat.le_of_ble_eq_true rfl⟩ ⟨Nat.zero_le _, Nat.zero_le _⟩ (fun r2 H1 locs hp1 hT1 hS1 hk1 => ?_)
    obtain ⟨hp1, he⟩ := hp1
    have he := he.symm
    subst he
    have mr2 : h_ai H0 (o + 1) 5 = r2 := hp1.1.symm
    refine lv_iconst (v := 2) hx hb dX11_when_15 (by decide) ?_
    refine lv_icmp_ne (tgt := 33) hx hb dX11_when_16 (by decide) (fun c3 => ?_) (fun c3 => ?_)
    · skip
      have c3 : ¬ r2.toInt = (2 : Int) := h_neI c3
      refine lv_iconst (v := 0) hx hb dX11_when_33 (by decide) ?_
      refine lv_istore_n (lv' := [(3, .int 0), (0, .ref (o)), (1, .int u1), (2, .int u2)]) hx hb dX11_when_34 rfl hl (by decide) rfl (fun ls hl => ?_)
      refine lv_aload_n hx hb dX11_when_35 rfl (lv_at hl 1 rfl) ?_
      refine h_callVi (T := TX11) (rest := []) (As := []) hx hb hml hown hts hK hT0 hZ (fun _ h => h) hS1 (c_X11_waiting l G Y P (o) hM) trivial wd_X11_waiting wV_X11_waiting wL_X11_339 (hM.o rfl) rfl rfl hl.1 rfl (Nat.le_of_ble_eq_true rfl) dX11_when_36 ⟨Nat.le_of_ble_eq_true rfl, Nat.le_of_ble_eq_true rfl⟩ ⟨Nat.zero_le _, Nat.zero_le _⟩ (fun r4 H2 locs hp2 hT2 hS2 hk2 => ?_)
      obtain ⟨hp2, hB2⟩ := hp2
      have z5 : ∀ j : Nat, 1200 ≤ j → h_ai H2 (o + 1) j = h_ai H0 (o + 1) j := fun j hj => (h_ai_same hB2)
      have m6 : h_ai H2 (o + 1) 5 = r2 := (h_ai_same hB2).trans mr2
      have R7 : mR o H2 := hpr.same hB2
      have f8 : 0 ≤ r4.toInt ∧ r4.toInt ≤ 48 := by have q := hp2; exact q
      refine lv_iconst (v := 1) hx hb dX11_when_39 (by decide) ?_
      refine lv_isub hx hb dX11_when_40 ?_
      obtain ⟨x9, qx9, ix9⟩ := h_subX r4 1 r4.toInt (1 : Int) rfl rfl (by omega) (by omega)
      refine h_top (v := x9) qx9 ?_
      refine lv_istore (lv' := [(4, .int x9), (3, .int 0), (0, .ref (o)), (1, .int u1), (2, .int u2)]) hx hb dX11_when_41 hl (by decide) rfl (fun ls hl => ?_)
      have LP1 : ∀ (n1 : Nat) (w1_4 : Int32) (w1_3 : Int32), (w1_4.toInt + 1 < (n1 : Int)) → ((-1) ≤ w1_4.toInt) → (w1_4.toInt ≤ 47) → ∀ (locs : List Loc) (ls : Array Slot), va_S (h_A Y) s.heap H2 locs → lv_has ls 5 [(4, .int w1_4), (3, .int w1_3), (0, .ref (o)), (1, .int u1), (2, .int u2)] → W p l e (h_rm 8 176) s m args below meth c H2 locs 0 0 Q (F0 m 43 ls []) := by
        intro n1
        induction n1 with
        | zero =>
          intro w1_4 w1_3 hm hlo1_4 hhi1_4
          intros
          exfalso
          have := Int32.toInt_lt w1_4; have := Int32.le_toInt w1_4
          have := Int32.toInt_lt w1_3; have := Int32.le_toInt w1_3
          omega
        | succ n1 ih1 =>
          intro w1_4 w1_3 hm hlo1_4 hhi1_4  locs ls hS4 hl
          refine lv_iload hx hb dX11_when_43 (lv_at hl 0 rfl) ?_
          refine lv_if_lt (tgt := 75) hx hb dX11_when_45 (by decide) (fun c10 => ?_) (fun c10 => ?_)
          · skip
            have c10 : w1_4.toInt < (0 : Int) := Int32.lt_iff_toInt_lt.mp c10
            refine lv_iload_n hx hb dX11_when_75 rfl (lv_at hl 1 rfl) ?_
            refine lv_if_ne (tgt := 85) hx hb dX11_when_76 (by decide) (fun c11 => ?_) (fun c11 => ?_)
            · skip
              have c11 : ¬ w1_3.toInt = (0 : Int) := h_neI c11
              refine lv_aload_n hx hb dX11_when_85 rfl (lv_at hl 2 rfl) ?_
              refine h_getr (C := RX11) (T := TX11) (N := 23) hx hb hts inX11 hown hK hT2 (hM.o rfl) rfl 21 rfl wF_X11_31 rfl dX11_when_86 ?_
              refine lv_iconst (v := 0) hx hb dX11_when_89 (by decide) ?_
              refine lv_iload_n hx hb dX11_when_90 rfl (lv_at hl 3 rfl) ?_
              refine h_iast hx hb hK hT2 (fun _ h => h) hS4 (hM.at 5 rfl) (h_inc (by decide)) trivial dX11_when_91 (fun H5 locs hT5 hS5 hu5 => ?_)
              have z12 : ∀ j : Nat, 1200 ≤ j → h_ai H5 (o + 1) j = h_ai H0 (o + 1) j := fun j hj => (h_ai_same (hu5.2.1 (o + 1) (by omega))).trans (z5 j hj)
              have m13 : h_ai H5 (o + 1) 5 = r2 := (h_ai_same (hu5.2.1 (o + 1) (by omega))).trans m6
              have R14 : mR o H5 := R7.same (hu5.2.1 (o + 1) (by omega))
              refine lv_aload_n hx hb dX11_when_92 rfl (lv_at hl 2 rfl) ?_
              refine lv_iconst (v := 1) hx hb dX11_when_93 (by decide) ?_
              refine lv_iload_n hx hb dX11_when_94 rfl (lv_at hl 4 rfl) ?_
              refine lv_iconst (v := 0) hx hb dX11_when_95 (by decide) ?_
              refine h_callVv (T := TX11) (rest := []) (As := [.int 1, .int u2, .int 0]) hx hb hml hown hts hK hT5 hZ (fun _ h => h) hS5 (c_X11_lives l G Y P (o) hM 1 u2 0 (show 0 ≤ (1 : Int) ∧ (1 : Int) ≤ 48 from by omega) (show 0 ≤ (0 : Int) ∧ (0 : Int) ≤ 48 from by omega) hz2) R14 wd_X11_lives wV_X11_lives wL_X11_342 (hM.o rfl) rfl rfl hl.1 rfl (Nat.le_of_ble_eq_true rfl) dX11_when_96 ⟨Nat.le_of_ble_eq_true rfl, Nat.le_of_ble_eq_true rfl⟩ ⟨Nat.zero_le _, Nat.zero_le _⟩ (fun H6 locs hp6 hT6 hS6 hk6 => ?_)
              obtain ⟨hp6, hB6⟩ := hp6
              have z15 : ∀ j : Nat, 1200 ≤ j → h_ai H6 (o + 1) j = h_ai H0 (o + 1) j := fun j hj => (hB6.2 j hj).trans (z12 j hj)
              have R16 : mR o H6 := hB6.1
              refine lv_aload_n hx hb dX11_when_99 rfl (lv_at hl 2 rfl) ?_
              refine h_getr (C := RX11) (T := TX11) (N := 23) hx hb hts inX11 hown hK hT6 (hM.o rfl) rfl 22 rfl wF_X11_34 rfl dX11_when_100 ?_
              refine lv_iconst (v := 0) hx hb dX11_when_103 (by decide) ?_
              refine h_iald hx hb hK hT6 (hM.at 6 rfl) (h_inc (by decide)) dX11_when_104 (fun p17 => ?_)
              refine lv_topi (fun x18 ex18 => ?_)
              refine lv_if_ne (tgt := 117) hx hb dX11_when_105 (by decide) (fun c19 => ?_) (fun c19 => ?_)
              · skip
                have c19 : ¬ x18.toInt = (0 : Int) := h_neI c19
                refine lv_aload_n hx hb dX11_when_117 rfl (lv_at hl 2 rfl) ?_
                refine lv_aload_n hx hb dX11_when_118 rfl (lv_at hl 2 rfl) ?_
                refine h_getr (C := RX11) (T := TX11) (N := 23) hx hb hts inX11 hown hK hT6 (hM.o rfl) rfl 22 rfl wF_X11_34 rfl dX11_when_119 ?_
                refine lv_iconst (v := 0) hx hb dX11_when_122 (by decide) ?_
                refine h_iald hx hb hK hT6 (hM.at 6 rfl) (h_inc (by decide)) dX11_when_123 (fun p20 => ?_)
                refine h_top (v := x18) ex18.symm ?_
                refine h_callVi (T := TX11) (rest := []) (As := [.int x18]) hx hb hml hown hts hK hT6 hZ (fun _ h => h) hS6 (c_X11_gives l G Y P (o) hM x18) trivial wd_X11_gives wV_X11_gives wL_X11_276 (hM.o rfl) rfl rfl hl.1 rfl (Nat.le_of_ble_eq_true rfl) dX11_when_124 ⟨Nat.le_of_ble_eq_true rfl, Nat.le_of_ble_eq_true rfl⟩ ⟨Nat.zero_le _, Nat.zero_le _⟩ (fun r21 H7 locs hp7 hT7 hS7 hk7 => ?_)
                obtain ⟨hp7, hB7⟩ := hp7
                have z22 : ∀ j : Nat, 1200 ≤ j → h_ai H7 (o + 1) j = h_ai H0 (o + 1) j := fun j hj => (h_ai_same hB7).trans (z15 j hj)
                have R23 : mR o H7 := R16.same hB7
                have f24 : r21.toInt = x18.toInt := hp7.1
                exact hret _ _ _ _ _ hT7 hS7 ⟨trivial, ⟨R23, z22⟩⟩ dX11_when_127
              · skip
                have c19 : x18.toInt = (0 : Int) := congrArg Int32.toInt c19
                refine lv_aload_n hx hb dX11_when_108 rfl (lv_at hl 2 rfl) ?_
                refine lv_bipush (v := 7) hx hb dX11_when_109 (by decide) ?_
                refine h_callVi (T := TX11) (rest := []) (As := [.int 7]) hx hb hml hown hts hK hT6 hZ (fun _ h => h) hS6 (c_X11_refuse l G Y P (o) hM 7) trivial wd_X11_refuse wV_X11_refuse wL_X11_267 (hM.o rfl) rfl rfl hl.1 rfl (Nat.le_of_ble_eq_true rfl) dX11_when_111 ⟨Nat.le_of_ble_eq_true rfl, Nat.le_of_ble_eq_true rfl⟩ ⟨Nat.zero_le _, Nat.zero_le _⟩ (fun r25 H8 locs hp8 hT8 hS8 hk8 => ?_)
                obtain ⟨hp8, hB8⟩ := hp8
                have z26 : ∀ j : Nat, 1200 ≤ j → h_ai H8 (o + 1) j = h_ai H0 (o + 1) j := fun j hj => (h_ai_same hB8).trans (z15 j hj)
                have R27 : mR o H8 := R16.same hB8
                have f28 : r25.toInt = (-1) := hp8.1
                refine lv_goto (tgt := 127) hx hb dX11_when_114 (by decide) ?_
                exact hret _ _ _ _ _ hT8 hS8 ⟨trivial, ⟨R27, z26⟩⟩ dX11_when_127
            · skip
              have c11 : w1_3.toInt = (0 : Int) := congrArg Int32.toInt c11
              refine lv_aload_n hx hb dX11_when_79 rfl (lv_at hl 2 rfl) ?_
              refine lv_iconst (v := 5) hx hb dX11_when_80 (by decide) ?_
              refine h_callVi (T := TX11) (rest := []) (As := [.int 5]) hx hb hml hown hts hK hT2 hZ (fun _ h => h) hS4 (c_X11_refuse l G Y P (o) hM 5) trivial wd_X11_refuse wV_X11_refuse wL_X11_267 (hM.o rfl) rfl rfl hl.1 rfl (Nat.le_of_ble_eq_true rfl) dX11_when_81 ⟨Nat.le_of_ble_eq_true rfl, Nat.le_of_ble_eq_true rfl⟩ ⟨Nat.zero_le _, Nat.zero_le _⟩ (fun r29 H9 locs hp9 hT9 hS9 hk9 => ?_)
              obtain ⟨hp9, hB9⟩ := hp9
              have z30 : ∀ j : Nat, 1200 ≤ j → h_ai H9 (o + 1) j = h_ai H0 (o + 1) j := fun j hj => (h_ai_same hB9).trans (z5 j hj)
              have m31 : h_ai H9 (o + 1) 5 = r2 := (h_ai_same hB9).trans m6
              have R32 : mR o H9 := R7.same hB9
              have f33 : r29.toInt = (-1) := hp9.1
              exact hret _ _ _ _ _ hT9 hS9 ⟨trivial, ⟨R32, z30⟩⟩ dX11_when_84
          · skip
            have c10 : ¬ w1_4.toInt < (0 : Int) := h_nltI c10
            refine lv_iload_n hx hb dX11_when_48 rfl (lv_at hl 1 rfl) ?_
            refine lv_if_ne (tgt := 63) hx hb dX11_when_49 (by decide) (fun c34 => ?_) (fun c34 => ?_)
            · skip
              have c34 : ¬ w1_3.toInt = (0 : Int) := h_neI c34
              refine lv_iconst (v := 1) hx hb dX11_when_63 (by decide) ?_
              refine lv_goto (tgt := 68) hx hb dX11_when_64 (by decide) ?_
              refine lv_istore_n (lv' := [(3, .int 1), (4, .int w1_4), (0, .ref (o)), (1, .int u1), (2, .int u2)]) hx hb dX11_when_68 rfl hl (by decide) rfl (fun ls hl => ?_)
              obtain ⟨x35, qx35, ix35⟩ := h_addX w1_4 (-1) w1_4.toInt (-1 : Int) rfl rfl (by omega) (by omega)
              refine lv_iinc (v := x35) (lv' := [(4, .int x35), (3, .int 1), (0, .ref (o)), (1, .int u1), (2, .int u2)]) hx hb dX11_when_69 hl (k := 1) rfl qx35 (by decide) rfl (fun ls hl => ?_)
              refine lv_goto (tgt := 43) hx hb dX11_when_72 (by decide) ?_
              exact ih1 x35 1 (show x35.toInt + 1 < (n1 : Int) from by omega) (show (-1) ≤ x35.toInt from by omega) (show x35.toInt ≤ 47 from by omega) _ _ hS4 (lv_sub hl [0, 1, 2, 3, 4] rfl)
            · skip
              have c34 : w1_3.toInt = (0 : Int) := congrArg Int32.toInt c34
              refine lv_aload_n hx hb dX11_when_52 rfl (lv_at hl 2 rfl) ?_
              refine h_getr (C := RX11) (T := TX11) (N := 23) hx hb hts inX11 hown hK hT2 (hM.o rfl) rfl 21 rfl wF_X11_31 rfl dX11_when_53 ?_
              refine lv_iload hx hb dX11_when_56 (lv_at hl 0 rfl) ?_
              refine h_iald hx hb hK hT2 (hM.at 5 rfl) (h_vin (by omega) (by omega)) dX11_when_58 (fun p36 => ?_)
              refine lv_topi (fun x37 ex37 => ?_)
              refine lv_iload_n hx hb dX11_when_59 rfl (lv_at hl 3 rfl) ?_
              refine lv_icmp_ne (tgt := 67) hx hb dX11_when_60 (by decide) (fun c38 => ?_) (fun c38 => ?_)
              · skip
                have c38 : ¬ x37.toInt = u1.toInt := h_neI c38
                refine lv_iconst (v := 0) hx hb dX11_when_67 (by decide) ?_
                refine lv_istore_n (lv' := [(3, .int 0), (4, .int w1_4), (0, .ref (o)), (1, .int u1), (2, .int u2)]) hx hb dX11_when_68 rfl hl (by decide) rfl (fun ls hl => ?_)
                obtain ⟨x39, qx39, ix39⟩ := h_addX w1_4 (-1) w1_4.toInt (-1 : Int) rfl rfl (by omega) (by omega)
                refine lv_iinc (v := x39) (lv' := [(4, .int x39), (3, .int 0), (0, .ref (o)), (1, .int u1), (2, .int u2)]) hx hb dX11_when_69 hl (k := 1) rfl qx39 (by decide) rfl (fun ls hl => ?_)
                refine lv_goto (tgt := 43) hx hb dX11_when_72 (by decide) ?_
                exact ih1 x39 0 (show x39.toInt + 1 < (n1 : Int) from by omega) (show (-1) ≤ x39.toInt from by omega) (show x39.toInt ≤ 47 from by omega) _ _ hS4 (lv_sub hl [0, 1, 2, 3, 4] rfl)
              · skip
                have c38 : x37.toInt = u1.toInt := congrArg Int32.toInt c38
                refine lv_iconst (v := 1) hx hb dX11_when_63 (by decide) ?_
                refine lv_goto (tgt := 68) hx hb dX11_when_64 (by decide) ?_
                refine lv_istore_n (lv' := [(3, .int 1), (4, .int w1_4), (0, .ref (o)), (1, .int u1), (2, .int u2)]) hx hb dX11_when_68 rfl hl (by decide) rfl (fun ls hl => ?_)
                obtain ⟨x40, qx40, ix40⟩ := h_addX w1_4 (-1) w1_4.toInt (-1 : Int) rfl rfl (by omega) (by omega)
                refine lv_iinc (v := x40) (lv' := [(4, .int x40), (3, .int 1), (0, .ref (o)), (1, .int u1), (2, .int u2)]) hx hb dX11_when_69 hl (k := 1) rfl qx40 (by decide) rfl (fun ls hl => ?_)
                refine lv_goto (tgt := 43) hx hb dX11_when_72 (by decide) ?_
                exact ih1 x40 1 (show x40.toInt + 1 < (n1 : Int) from by omega) (show (-1) ≤ x40.toInt from by omega) (show x40.toInt ≤ 47 from by omega) _ _ hS4 (lv_sub hl [0, 1, 2, 3, 4] rfl)
      exact LP1 4294967296 x9 0 (show x9.toInt + 1 < ((4294967296 : Nat) : Int) from by have := Int32.le_toInt x9; have := Int32.toInt_lt x9; omega) (show (-1) ≤ x9.toInt from by omega) (show x9.toInt ≤ 47 from by omega) _ _ hS2 (lv_sub hl [0, 1, 2, 3, 4] rfl)
    · skip
      have c3 : r2.toInt = (2 : Int) := congrArg Int32.toInt c3
      refine lv_aload_n hx hb dX11_when_19 rfl (lv_at hl 0 rfl) ?_
      refine lv_bipush (v := 14) hx hb dX11_when_20 (by decide) ?_
      refine h_callVi (T := TX11) (rest := []) (As := [.int 14]) hx hb hml hown hts hK hT0 hZ (fun _ h => h) hS1 (c_of l G Y P (o) hM 14 14 (by decide) (h_inc (by decide))) trivial wd_X11_of wV_X11_of wL_X11_47 (hM.o rfl) rfl rfl hl.1 rfl (Nat.le_of_ble_eq_true rfl) dX11_when_22 ⟨Nat.le_of_ble_eq_true rfl, Nat.le_of_ble_eq_true rfl⟩ ⟨Nat.zero_le _, Nat.zero_le _⟩ (fun r41 H10 locs hp10 hT10 hS10 hk10 => ?_)
      obtain ⟨hp10, he⟩ := hp10
      have he := he.symm
      subst he
      have mr41 : h_ai H0 (o + 1) 14 = r41 := hp10.1.symm
      refine lv_iload_n hx hb dX11_when_25 rfl (lv_at hl 1 rfl) ?_
      refine lv_icmp_ne (tgt := 33) hx hb dX11_when_26 (by decide) (fun c42 => ?_) (fun c42 => ?_)
      · skip
        have c42 : ¬ r41.toInt = u1.toInt := h_neI c42
        refine lv_iconst (v := 0) hx hb dX11_when_33 (by decide) ?_
        refine lv_istore_n (lv' := [(3, .int 0), (0, .ref (o)), (1, .int u1), (2, .int u2)]) hx hb dX11_when_34 rfl hl (by decide) rfl (fun ls hl => ?_)
        refine lv_aload_n hx hb dX11_when_35 rfl (lv_at hl 1 rfl) ?_
        refine h_callVi (T := TX11) (rest := []) (As := []) hx hb hml hown hts hK hT0 hZ (fun _ h => h) hS10 (c_X11_waiting l G Y P (o) hM) trivial wd_X11_waiting wV_X11_waiting wL_X11_339 (hM.o rfl) rfl rfl hl.1 rfl (Nat.le_of_ble_eq_true rfl) dX11_when_36 ⟨Nat.le_of_ble_eq_true rfl, Nat.le_of_ble_eq_true rfl⟩ ⟨Nat.zero_le _, Nat.zero_le _⟩ (fun r43 H11 locs hp11 hT11 hS11 hk11 => ?_)
        obtain ⟨hp11, hB11⟩ := hp11
        have z44 : ∀ j : Nat, 1200 ≤ j → h_ai H11 (o + 1) j = h_ai H0 (o + 1) j := fun j hj => (h_ai_same hB11)
        have m45 : h_ai H11 (o + 1) 5 = r2 := (h_ai_same hB11).trans mr2
        have m46 : h_ai H11 (o + 1) 14 = r41 := (h_ai_same hB11).trans mr41
        have R47 : mR o H11 := hpr.same hB11
        have f48 : 0 ≤ r43.toInt ∧ r43.toInt ≤ 48 := by have q := hp11; exact q
        refine lv_iconst (v := 1) hx hb dX11_when_39 (by decide) ?_
        refine lv_isub hx hb dX11_when_40 ?_
        obtain ⟨x49, qx49, ix49⟩ := h_subX r43 1 r43.toInt (1 : Int) rfl rfl (by omega) (by omega)
        refine h_top (v := x49) qx49 ?_
        refine lv_istore (lv' := [(4, .int x49), (3, .int 0), (0, .ref (o)), (1, .int u1), (2, .int u2)]) hx hb dX11_when_41 hl (by decide) rfl (fun ls hl => ?_)
        have LP2 : ∀ (n2 : Nat) (w2_4 : Int32) (w2_3 : Int32), (w2_4.toInt + 1 < (n2 : Int)) → ((-1) ≤ w2_4.toInt) → (w2_4.toInt ≤ 47) → ∀ (locs : List Loc) (ls : Array Slot), va_S (h_A Y) s.heap H11 locs → lv_has ls 5 [(4, .int w2_4), (3, .int w2_3), (0, .ref (o)), (1, .int u1), (2, .int u2)] → W p l e (h_rm 8 176) s m args below meth c H11 locs 0 0 Q (F0 m 43 ls []) := by
          intro n2
          induction n2 with
          | zero =>
            intro w2_4 w2_3 hm hlo2_4 hhi2_4
            intros
            exfalso
            have := Int32.toInt_lt w2_4; have := Int32.le_toInt w2_4
            have := Int32.toInt_lt w2_3; have := Int32.le_toInt w2_3
            omega
          | succ n2 ih2 =>
            intro w2_4 w2_3 hm hlo2_4 hhi2_4  locs ls hS13 hl
            refine lv_iload hx hb dX11_when_43 (lv_at hl 0 rfl) ?_
            refine lv_if_lt (tgt := 75) hx hb dX11_when_45 (by decide) (fun c50 => ?_) (fun c50 => ?_)
            · skip
              have c50 : w2_4.toInt < (0 : Int) := Int32.lt_iff_toInt_lt.mp c50
              refine lv_iload_n hx hb dX11_when_75 rfl (lv_at hl 1 rfl) ?_
              refine lv_if_ne (tgt := 85) hx hb dX11_when_76 (by decide) (fun c51 => ?_) (fun c51 => ?_)
              · skip
                have c51 : ¬ w2_3.toInt = (0 : Int) := h_neI c51
                refine lv_aload_n hx hb dX11_when_85 rfl (lv_at hl 2 rfl) ?_
                refine h_getr (C := RX11) (T := TX11) (N := 23) hx hb hts inX11 hown hK hT11 (hM.o rfl) rfl 21 rfl wF_X11_31 rfl dX11_when_86 ?_
                refine lv_iconst (v := 0) hx hb dX11_when_89 (by decide) ?_
                refine lv_iload_n hx hb dX11_when_90 rfl (lv_at hl 3 rfl) ?_
                refine h_iast hx hb hK hT11 (fun _ h => h) hS13 (hM.at 5 rfl) (h_inc (by decide)) trivial dX11_when_91 (fun H14 locs hT14 hS14 hu14 => ?_)
                have z52 : ∀ j : Nat, 1200 ≤ j → h_ai H14 (o + 1) j = h_ai H0 (o + 1) j := fun j hj => (h_ai_same (hu14.2.1 (o + 1) (by omega))).trans (z44 j hj)
                have m53 : h_ai H14 (o + 1) 5 = r2 := (h_ai_same (hu14.2.1 (o + 1) (by omega))).trans m45
                have m54 : h_ai H14 (o + 1) 14 = r41 := (h_ai_same (hu14.2.1 (o + 1) (by omega))).trans m46
                have R55 : mR o H14 := R47.same (hu14.2.1 (o + 1) (by omega))
                refine lv_aload_n hx hb dX11_when_92 rfl (lv_at hl 2 rfl) ?_
                refine lv_iconst (v := 1) hx hb dX11_when_93 (by decide) ?_
                refine lv_iload_n hx hb dX11_when_94 rfl (lv_at hl 4 rfl) ?_
                refine lv_iconst (v := 0) hx hb dX11_when_95 (by decide) ?_
                refine h_callVv (T := TX11) (rest := []) (As := [.int 1, .int u2, .int 0]) hx hb hml hown hts hK hT14 hZ (fun _ h => h) hS14 (c_X11_lives l G Y P (o) hM 1 u2 0 (show 0 ≤ (1 : Int) ∧ (1 : Int) ≤ 48 from by omega) (show 0 ≤ (0 : Int) ∧ (0 : Int) ≤ 48 from by omega) hz2) R55 wd_X11_lives wV_X11_lives wL_X11_342 (hM.o rfl) rfl rfl hl.1 rfl (Nat.le_of_ble_eq_true rfl) dX11_when_96 ⟨Nat.le_of_ble_eq_true rfl, Nat.le_of_ble_eq_true rfl⟩ ⟨Nat.zero_le _, Nat.zero_le _⟩ (fun H15 locs hp15 hT15 hS15 hk15 => ?_)
                obtain ⟨hp15, hB15⟩ := hp15
                have z56 : ∀ j : Nat, 1200 ≤ j → h_ai H15 (o + 1) j = h_ai H0 (o + 1) j := fun j hj => (hB15.2 j hj).trans (z52 j hj)
                have R57 : mR o H15 := hB15.1
                refine lv_aload_n hx hb dX11_when_99 rfl (lv_at hl 2 rfl) ?_
                refine h_getr (C := RX11) (T := TX11) (N := 23) hx hb hts inX11 hown hK hT15 (hM.o rfl) rfl 22 rfl wF_X11_34 rfl dX11_when_100 ?_
                refine lv_iconst (v := 0) hx hb dX11_when_103 (by decide) ?_
                refine h_iald hx hb hK hT15 (hM.at 6 rfl) (h_inc (by decide)) dX11_when_104 (fun p58 => ?_)
                refine lv_topi (fun x59 ex59 => ?_)
                refine lv_if_ne (tgt := 117) hx hb dX11_when_105 (by decide) (fun c60 => ?_) (fun c60 => ?_)
                · skip
                  have c60 : ¬ x59.toInt = (0 : Int) := h_neI c60
                  refine lv_aload_n hx hb dX11_when_117 rfl (lv_at hl 2 rfl) ?_
                  refine lv_aload_n hx hb dX11_when_118 rfl (lv_at hl 2 rfl) ?_
                  refine h_getr (C := RX11) (T := TX11) (N := 23) hx hb hts inX11 hown hK hT15 (hM.o rfl) rfl 22 rfl wF_X11_34 rfl dX11_when_119 ?_
                  refine lv_iconst (v := 0) hx hb dX11_when_122 (by decide) ?_
                  refine h_iald hx hb hK hT15 (hM.at 6 rfl) (h_inc (by decide)) dX11_when_123 (fun p61 => ?_)
                  refine h_top (v := x59) ex59.symm ?_
                  refine h_callVi (T := TX11) (rest := []) (As := [.int x59]) hx hb hml hown hts hK hT15 hZ (fun _ h => h) hS15 (c_X11_gives l G Y P (o) hM x59) trivial wd_X11_gives wV_X11_gives wL_X11_276 (hM.o rfl) rfl rfl hl.1 rfl (Nat.le_of_ble_eq_true rfl) dX11_when_124 ⟨Nat.le_of_ble_eq_true rfl, Nat.le_of_ble_eq_true rfl⟩ ⟨Nat.zero_le _, Nat.zero_le _⟩ (fun r62 H16 locs hp16 hT16 hS16 hk16 => ?_)
                  obtain ⟨hp16, hB16⟩ := hp16
                  have z63 : ∀ j : Nat, 1200 ≤ j → h_ai H16 (o + 1) j = h_ai H0 (o + 1) j := fun j hj => (h_ai_same hB16).trans (z56 j hj)
                  have R64 : mR o H16 := R57.same hB16
                  have f65 : r62.toInt = x59.toInt := hp16.1
                  exact hret _ _ _ _ _ hT16 hS16 ⟨trivial, ⟨R64, z63⟩⟩ dX11_when_127
                · skip
                  have c60 : x59.toInt = (0 : Int) := congrArg Int32.toInt c60
                  refine lv_aload_n hx hb dX11_when_108 rfl (lv_at hl 2 rfl) ?_
                  refine lv_bipush (v := 7) hx hb dX11_when_109 (by decide) ?_
                  refine h_callVi (T := TX11) (rest := []) (As := [.int 7]) hx hb hml hown hts hK hT15 hZ (fun _ h => h) hS15 (c_X11_refuse l G Y P (o) hM 7) trivial wd_X11_refuse wV_X11_refuse wL_X11_267 (hM.o rfl) rfl rfl hl.1 rfl (Nat.le_of_ble_eq_true rfl) dX11_when_111 ⟨Nat.le_of_ble_eq_true rfl, Nat.le_of_ble_eq_true rfl⟩ ⟨Nat.zero_le _, Nat.zero_le _⟩ (fun r66 H17 locs hp17 hT17 hS17 hk17 => ?_)
                  obtain ⟨hp17, hB17⟩ := hp17
                  have z67 : ∀ j : Nat, 1200 ≤ j → h_ai H17 (o + 1) j = h_ai H0 (o + 1) j := fun j hj => (h_ai_same hB17).trans (z56 j hj)
                  have R68 : mR o H17 := R57.same hB17
                  have f69 : r66.toInt = (-1) := hp17.1
                  refine lv_goto (tgt := 127) hx hb dX11_when_114 (by decide) ?_
                  exact hret _ _ _ _ _ hT17 hS17 ⟨trivial, ⟨R68, z67⟩⟩ dX11_when_127
              · skip
                have c51 : w2_3.toInt = (0 : Int) := congrArg Int32.toInt c51
                refine lv_aload_n hx hb dX11_when_79 rfl (lv_at hl 2 rfl) ?_
                refine lv_iconst (v := 5) hx hb dX11_when_80 (by decide) ?_
                refine h_callVi (T := TX11) (rest := []) (As := [.int 5]) hx hb hml hown hts hK hT11 hZ (fun _ h => h) hS13 (c_X11_refuse l G Y P (o) hM 5) trivial wd_X11_refuse wV_X11_refuse wL_X11_267 (hM.o rfl) rfl rfl hl.1 rfl (Nat.le_of_ble_eq_true rfl) dX11_when_81 ⟨Nat.le_of_ble_eq_true rfl, Nat.le_of_ble_eq_true rfl⟩ ⟨Nat.zero_le _, Nat.zero_le _⟩ (fun r70 H18 locs hp18 hT18 hS18 hk18 => ?_)
                obtain ⟨hp18, hB18⟩ := hp18
                have z71 : ∀ j : Nat, 1200 ≤ j → h_ai H18 (o + 1) j = h_ai H0 (o + 1) j := fun j hj => (h_ai_same hB18).trans (z44 j hj)
                have m72 : h_ai H18 (o + 1) 5 = r2 := (h_ai_same hB18).trans m45
                have m73 : h_ai H18 (o + 1) 14 = r41 := (h_ai_same hB18).trans m46
                have R74 : mR o H18 := R47.same hB18
                have f75 : r70.toInt = (-1) := hp18.1
                exact hret _ _ _ _ _ hT18 hS18 ⟨trivial, ⟨R74, z71⟩⟩ dX11_when_84
            · skip
              have c50 : ¬ w2_4.toInt < (0 : Int) := h_nltI c50
              refine lv_iload_n hx hb dX11_when_48 rfl (lv_at hl 1 rfl) ?_
              refine lv_if_ne (tgt := 63) hx hb dX11_when_49 (by decide) (fun c76 => ?_) (fun c76 => ?_)
              · skip
                have c76 : ¬ w2_3.toInt = (0 : Int) := h_neI c76
                refine lv_iconst (v := 1) hx hb dX11_when_63 (by decide) ?_
                refine lv_goto (tgt := 68) hx hb dX11_when_64 (by decide) ?_
                refine lv_istore_n (lv' := [(3, .int 1), (4, .int w2_4), (0, .ref (o)), (1, .int u1), (2, .int u2)]) hx hb dX11_when_68 rfl hl (by decide) rfl (fun ls hl => ?_)
                obtain ⟨x77, qx77, ix77⟩ := h_addX w2_4 (-1) w2_4.toInt (-1 : Int) rfl rfl (by omega) (by omega)
                refine lv_iinc (v := x77) (lv' := [(4, .int x77), (3, .int 1), (0, .ref (o)), (1, .int u1), (2, .int u2)]) hx hb dX11_when_69 hl (k := 1) rfl qx77 (by decide) rfl (fun ls hl => ?_)
                refine lv_goto (tgt := 43) hx hb dX11_when_72 (by decide) ?_
                exact ih2 x77 1 (show x77.toInt + 1 < (n2 : Int) from by omega) (show (-1) ≤ x77.toInt from by omega) (show x77.toInt ≤ 47 from by omega) _ _ hS13 (lv_sub hl [0, 1, 2, 3, 4] rfl)
              · skip
                have c76 : w2_3.toInt = (0 : Int) := congrArg Int32.toInt c76
                refine lv_aload_n hx hb dX11_when_52 rfl (lv_at hl 2 rfl) ?_
                refine h_getr (C := RX11) (T := TX11) (N := 23) hx hb hts inX11 hown hK hT11 (hM.o rfl) rfl 21 rfl wF_X11_31 rfl dX11_when_53 ?_
                refine lv_iload hx hb dX11_when_56 (lv_at hl 0 rfl) ?_
                refine h_iald hx hb hK hT11 (hM.at 5 rfl) (h_vin (by omega) (by omega)) dX11_when_58 (fun p78 => ?_)
                refine lv_topi (fun x79 ex79 => ?_)
                refine lv_iload_n hx hb dX11_when_59 rfl (lv_at hl 3 rfl) ?_
                refine lv_icmp_ne (tgt := 67) hx hb dX11_when_60 (by decide) (fun c80 => ?_) (fun c80 => ?_)
                · skip
                  have c80 : ¬ x79.toInt = u1.toInt := h_neI c80
                  refine lv_iconst (v := 0) hx hb dX11_when_67 (by decide) ?_
                  refine lv_istore_n (lv' := [(3, .int 0), (4, .int w2_4), (0, .ref (o)), (1, .int u1), (2, .int u2)]) hx hb dX11_when_68 rfl hl (by decide) rfl (fun ls hl => ?_)
                  obtain ⟨x81, qx81, ix81⟩ := h_addX w2_4 (-1) w2_4.toInt (-1 : Int) rfl rfl (by omega) (by omega)
                  refine lv_iinc (v := x81) (lv' := [(4, .int x81), (3, .int 0), (0, .ref (o)), (1, .int u1), (2, .int u2)]) hx hb dX11_when_69 hl (k := 1) rfl qx81 (by decide) rfl (fun ls hl => ?_)
                  refine lv_goto (tgt := 43) hx hb dX11_when_72 (by decide) ?_
                  exact ih2 x81 0 (show x81.toInt + 1 < (n2 : Int) from by omega) (show (-1) ≤ x81.toInt from by omega) (show x81.toInt ≤ 47 from by omega) _ _ hS13 (lv_sub hl [0, 1, 2, 3, 4] rfl)
                · skip
                  have c80 : x79.toInt = u1.toInt := congrArg Int32.toInt c80
                  refine lv_iconst (v := 1) hx hb dX11_when_63 (by decide) ?_
                  refine lv_goto (tgt := 68) hx hb dX11_when_64 (by decide) ?_
                  refine lv_istore_n (lv' := [(3, .int 1), (4, .int w2_4), (0, .ref (o)), (1, .int u1), (2, .int u2)]) hx hb dX11_when_68 rfl hl (by decide) rfl (fun ls hl => ?_)
                  obtain ⟨x82, qx82, ix82⟩ := h_addX w2_4 (-1) w2_4.toInt (-1 : Int) rfl rfl (by omega) (by omega)
                  refine lv_iinc (v := x82) (lv' := [(4, .int x82), (3, .int 1), (0, .ref (o)), (1, .int u1), (2, .int u2)]) hx hb dX11_when_69 hl (k := 1) rfl qx82 (by decide) rfl (fun ls hl => ?_)
                  refine lv_goto (tgt := 43) hx hb dX11_when_72 (by decide) ?_
                  exact ih2 x82 1 (show x82.toInt + 1 < (n2 : Int) from by omega) (show (-1) ≤ x82.toInt from by omega) (show x82.toInt ≤ 47 from by omega) _ _ hS13 (lv_sub hl [0, 1, 2, 3, 4] rfl)
        exact LP2 4294967296 x49 0 (show x49.toInt + 1 < ((4294967296 : Nat) : Int) from by have := Int32.le_toInt x49; have := Int32.toInt_lt x49; omega) (show (-1) ≤ x49.toInt from by omega) (show x49.toInt ≤ 47 from by omega) _ _ hS11 (lv_sub hl [0, 1, 2, 3, 4] rfl)
      · skip
        have c42 : r41.toInt = u1.toInt := congrArg Int32.toInt c42
        refine lv_iconst (v := 1) hx hb dX11_when_29 (by decide) ?_
        refine lv_goto (tgt := 34) hx hb dX11_when_30 (by decide) ?_
        refine lv_istore_n (lv' := [(3, .int 1), (0, .ref (o)), (1, .int u1), (2, .int u2)]) hx hb dX11_when_34 rfl hl (by decide) rfl (fun ls hl => ?_)
        refine lv_aload_n hx hb dX11_when_35 rfl (lv_at hl 1 rfl) ?_
        refine h_callVi (T := TX11) (rest := []) (As := []) hx hb hml hown hts hK hT0 hZ (fun _ h => h) hS10 (c_X11_waiting l G Y P (o) hM) trivial wd_X11_waiting wV_X11_waiting wL_X11_339 (hM.o rfl) rfl rfl hl.1 rfl (Nat.le_of_ble_eq_true rfl) dX11_when_36 ⟨Nat.le_of_ble_eq_true rfl, Nat.le_of_ble_eq_true rfl⟩ ⟨Nat.zero_le _, Nat.zero_le _⟩ (fun r83 H19 locs hp19 hT19 hS19 hk19 => ?_)
        obtain ⟨hp19, hB19⟩ := hp19
        have z84 : ∀ j : Nat, 1200 ≤ j → h_ai H19 (o + 1) j = h_ai H0 (o + 1) j := fun j hj => (h_ai_same hB19)
        have m85 : h_ai H19 (o + 1) 5 = r2 := (h_ai_same hB19).trans mr2
        have m86 : h_ai H19 (o + 1) 14 = r41 := (h_ai_same hB19).trans mr41
        have R87 : mR o H19 := hpr.same hB19
        have f88 : 0 ≤ r83.toInt ∧ r83.toInt ≤ 48 := by have q := hp19; exact q
        refine lv_iconst (v := 1) hx hb dX11_when_39 (by decide) ?_
        refine lv_isub hx hb dX11_when_40 ?_
        obtain ⟨x89, qx89, ix89⟩ := h_subX r83 1 r83.toInt (1 : Int) rfl rfl (by omega) (by omega)
        refine h_top (v := x89) qx89 ?_
        refine lv_istore (lv' := [(4, .int x89), (3, .int 1), (0, .ref (o)), (1, .int u1), (2, .int u2)]) hx hb dX11_when_41 hl (by decide) rfl (fun ls hl => ?_)
        have LP3 : ∀ (n3 : Nat) (w3_4 : Int32) (w3_3 : Int32), (w3_4.toInt + 1 < (n3 : Int)) → ((-1) ≤ w3_4.toInt) → (w3_4.toInt ≤ 47) → ∀ (locs : List Loc) (ls : Array Slot), va_S (h_A Y) s.heap H19 locs → lv_has ls 5 [(4, .int w3_4), (3, .int w3_3), (0, .ref (o)), (1, .int u1), (2, .int u2)] → W p l e (h_rm 8 176) s m args below meth c H19 locs 0 0 Q (F0 m 43 ls []) := by
          intro n3
          induction n3 with
          | zero =>
            intro w3_4 w3_3 hm hlo3_4 hhi3_4
            intros
            exfalso
            have := Int32.toInt_lt w3_4; have := Int32.le_toInt w3_4
            have := Int32.toInt_lt w3_3; have := Int32.le_toInt w3_3
            omega
          | succ n3 ih3 =>
            intro w3_4 w3_3 hm hlo3_4 hhi3_4  locs ls hS21 hl
            refine lv_iload hx hb dX11_when_43 (lv_at hl 0 rfl) ?_
            refine lv_if_lt (tgt := 75) hx hb dX11_when_45 (by decide) (fun c90 => ?_) (fun c90 => ?_)
            · skip
              have c90 : w3_4.toInt < (0 : Int) := Int32.lt_iff_toInt_lt.mp c90
              refine lv_iload_n hx hb dX11_when_75 rfl (lv_at hl 1 rfl) ?_
              refine lv_if_ne (tgt := 85) hx hb dX11_when_76 (by decide) (fun c91 => ?_) (fun c91 => ?_)
              · skip
                have c91 : ¬ w3_3.toInt = (0 : Int) := h_neI c91
                refine lv_aload_n hx hb dX11_when_85 rfl (lv_at hl 2 rfl) ?_
                refine h_getr (C := RX11) (T := TX11) (N := 23) hx hb hts inX11 hown hK hT19 (hM.o rfl) rfl 21 rfl wF_X11_31 rfl dX11_when_86 ?_
                refine lv_iconst (v := 0) hx hb dX11_when_89 (by decide) ?_
                refine lv_iload_n hx hb dX11_when_90 rfl (lv_at hl 3 rfl) ?_
                refine h_iast hx hb hK hT19 (fun _ h => h) hS21 (hM.at 5 rfl) (h_inc (by decide)) trivial dX11_when_91 (fun H22 locs hT22 hS22 hu22 => ?_)
                have z92 : ∀ j : Nat, 1200 ≤ j → h_ai H22 (o + 1) j = h_ai H0 (o + 1) j := fun j hj => (h_ai_same (hu22.2.1 (o + 1) (by omega))).trans (z84 j hj)
                have m93 : h_ai H22 (o + 1) 5 = r2 := (h_ai_same (hu22.2.1 (o + 1) (by omega))).trans m85
                have m94 : h_ai H22 (o + 1) 14 = r41 := (h_ai_same (hu22.2.1 (o + 1) (by omega))).trans m86
                have R95 : mR o H22 := R87.same (hu22.2.1 (o + 1) (by omega))
                refine lv_aload_n hx hb dX11_when_92 rfl (lv_at hl 2 rfl) ?_
                refine lv_iconst (v := 1) hx hb dX11_when_93 (by decide) ?_
                refine lv_iload_n hx hb dX11_when_94 rfl (lv_at hl 4 rfl) ?_
                refine lv_iconst (v := 0) hx hb dX11_when_95 (by decide) ?_
                refine h_callVv (T := TX11) (rest := []) (As := [.int 1, .int u2, .int 0]) hx hb hml hown hts hK hT22 hZ (fun _ h => h) hS22 (c_X11_lives l G Y P (o) hM 1 u2 0 (show 0 ≤ (1 : Int) ∧ (1 : Int) ≤ 48 from by omega) (show 0 ≤ (0 : Int) ∧ (0 : Int) ≤ 48 from by omega) hz2) R95 wd_X11_lives wV_X11_lives wL_X11_342 (hM.o rfl) rfl rfl hl.1 rfl (Nat.le_of_ble_eq_true rfl) dX11_when_96 ⟨Nat.le_of_ble_eq_true rfl, Nat.le_of_ble_eq_true rfl⟩ ⟨Nat.zero_le _, Nat.zero_le _⟩ (fun H23 locs hp23 hT23 hS23 hk23 => ?_)
                obtain ⟨hp23, hB23⟩ := hp23
                have z96 : ∀ j : Nat, 1200 ≤ j → h_ai H23 (o + 1) j = h_ai H0 (o + 1) j := fun j hj => (hB23.2 j hj).trans (z92 j hj)
                have R97 : mR o H23 := hB23.1
                refine lv_aload_n hx hb dX11_when_99 rfl (lv_at hl 2 rfl) ?_
                refine h_getr (C := RX11) (T := TX11) (N := 23) hx hb hts inX11 hown hK hT23 (hM.o rfl) rfl 22 rfl wF_X11_34 rfl dX11_when_100 ?_
                refine lv_iconst (v := 0) hx hb dX11_when_103 (by decide) ?_
                refine h_iald hx hb hK hT23 (hM.at 6 rfl) (h_inc (by decide)) dX11_when_104 (fun p98 => ?_)
                refine lv_topi (fun x99 ex99 => ?_)
                refine lv_if_ne (tgt := 117) hx hb dX11_when_105 (by decide) (fun c100 => ?_) (fun c100 => ?_)
                · skip
                  have c100 : ¬ x99.toInt = (0 : Int) := h_neI c100
                  refine lv_aload_n hx hb dX11_when_117 rfl (lv_at hl 2 rfl) ?_
                  refine lv_aload_n hx hb dX11_when_118 rfl (lv_at hl 2 rfl) ?_
                  refine h_getr (C := RX11) (T := TX11) (N := 23) hx hb hts inX11 hown hK hT23 (hM.o rfl) rfl 22 rfl wF_X11_34 rfl dX11_when_119 ?_
                  refine lv_iconst (v := 0) hx hb dX11_when_122 (by decide) ?_
                  refine h_iald hx hb hK hT23 (hM.at 6 rfl) (h_inc (by decide)) dX11_when_123 (fun p101 => ?_)
                  refine h_top (v := x99) ex99.symm ?_
                  refine h_callVi (T := TX11) (rest := []) (As := [.int x99]) hx hb hml hown hts hK hT23 hZ (fun _ h => h) hS23 (c_X11_gives l G Y P (o) hM x99) trivial wd_X11_gives wV_X11_gives wL_X11_276 (hM.o rfl) rfl rfl hl.1 rfl (Nat.le_of_ble_eq_true rfl) dX11_when_124 ⟨Nat.le_of_ble_eq_true rfl, Nat.le_of_ble_eq_true rfl⟩ ⟨Nat.zero_le _, Nat.zero_le _⟩ (fun r102 H24 locs hp24 hT24 hS24 hk24 => ?_)
                  obtain ⟨hp24, hB24⟩ := hp24
                  have z103 : ∀ j : Nat, 1200 ≤ j → h_ai H24 (o + 1) j = h_ai H0 (o + 1) j := fun j hj => (h_ai_same hB24).trans (z96 j hj)
                  have R104 : mR o H24 := R97.same hB24
                  have f105 : r102.toInt = x99.toInt := hp24.1
                  exact hret _ _ _ _ _ hT24 hS24 ⟨trivial, ⟨R104, z103⟩⟩ dX11_when_127
                · skip
                  have c100 : x99.toInt = (0 : Int) := congrArg Int32.toInt c100
                  refine lv_aload_n hx hb dX11_when_108 rfl (lv_at hl 2 rfl) ?_
                  refine lv_bipush (v := 7) hx hb dX11_when_109 (by decide) ?_
                  refine h_callVi (T := TX11) (rest := []) (As := [.int 7]) hx hb hml hown hts hK hT23 hZ (fun _ h => h) hS23 (c_X11_refuse l G Y P (o) hM 7) trivial wd_X11_refuse wV_X11_refuse wL_X11_267 (hM.o rfl) rfl rfl hl.1 rfl (Nat.le_of_ble_eq_true rfl) dX11_when_111 ⟨Nat.le_of_ble_eq_true rfl, Nat.le_of_ble_eq_true rfl⟩ ⟨Nat.zero_le _, Nat.zero_le _⟩ (fun r106 H25 locs hp25 hT25 hS25 hk25 => ?_)
                  obtain ⟨hp25, hB25⟩ := hp25
                  have z107 : ∀ j : Nat, 1200 ≤ j → h_ai H25 (o + 1) j = h_ai H0 (o + 1) j := fun j hj => (h_ai_same hB25).trans (z96 j hj)
                  have R108 : mR o H25 := R97.same hB25
                  have f109 : r106.toInt = (-1) := hp25.1
                  refine lv_goto (tgt := 127) hx hb dX11_when_114 (by decide) ?_
                  exact hret _ _ _ _ _ hT25 hS25 ⟨trivial, ⟨R108, z107⟩⟩ dX11_when_127
              · skip
                have c91 : w3_3.toInt = (0 : Int) := congrArg Int32.toInt c91
                refine lv_aload_n hx hb dX11_when_79 rfl (lv_at hl 2 rfl) ?_
                refine lv_iconst (v := 5) hx hb dX11_when_80 (by decide) ?_
                refine h_callVi (T := TX11) (rest := []) (As := [.int 5]) hx hb hml hown hts hK hT19 hZ (fun _ h => h) hS21 (c_X11_refuse l G Y P (o) hM 5) trivial wd_X11_refuse wV_X11_refuse wL_X11_267 (hM.o rfl) rfl rfl hl.1 rfl (Nat.le_of_ble_eq_true rfl) dX11_when_81 ⟨Nat.le_of_ble_eq_true rfl, Nat.le_of_ble_eq_true rfl⟩ ⟨Nat.zero_le _, Nat.zero_le _⟩ (fun r110 H26 locs hp26 hT26 hS26 hk26 => ?_)
                obtain ⟨hp26, hB26⟩ := hp26
                have z111 : ∀ j : Nat, 1200 ≤ j → h_ai H26 (o + 1) j = h_ai H0 (o + 1) j := fun j hj => (h_ai_same hB26).trans (z84 j hj)
                have m112 : h_ai H26 (o + 1) 5 = r2 := (h_ai_same hB26).trans m85
                have m113 : h_ai H26 (o + 1) 14 = r41 := (h_ai_same hB26).trans m86
                have R114 : mR o H26 := R87.same hB26
                have f115 : r110.toInt = (-1) := hp26.1
                exact hret _ _ _ _ _ hT26 hS26 ⟨trivial, ⟨R114, z111⟩⟩ dX11_when_84
            · skip
              have c90 : ¬ w3_4.toInt < (0 : Int) := h_nltI c90
              refine lv_iload_n hx hb dX11_when_48 rfl (lv_at hl 1 rfl) ?_
              refine lv_if_ne (tgt := 63) hx hb dX11_when_49 (by decide) (fun c116 => ?_) (fun c116 => ?_)
              · skip
                have c116 : ¬ w3_3.toInt = (0 : Int) := h_neI c116
                refine lv_iconst (v := 1) hx hb dX11_when_63 (by decide) ?_
                refine lv_goto (tgt := 68) hx hb dX11_when_64 (by decide) ?_
                refine lv_istore_n (lv' := [(3, .int 1), (4, .int w3_4), (0, .ref (o)), (1, .int u1), (2, .int u2)]) hx hb dX11_when_68 rfl hl (by decide) rfl (fun ls hl => ?_)
                obtain ⟨x117, qx117, ix117⟩ := h_addX w3_4 (-1) w3_4.toInt (-1 : Int) rfl rfl (by omega) (by omega)
                refine lv_iinc (v := x117) (lv' := [(4, .int x117), (3, .int 1), (0, .ref (o)), (1, .int u1), (2, .int u2)]) hx hb dX11_when_69 hl (k := 1) rfl qx117 (by decide) rfl (fun ls hl => ?_)
                refine lv_goto (tgt := 43) hx hb dX11_when_72 (by decide) ?_
                exact ih3 x117 1 (show x117.toInt + 1 < (n3 : Int) from by omega) (show (-1) ≤ x117.toInt from by omega) (show x117.toInt ≤ 47 from by omega) _ _ hS21 (lv_sub hl [0, 1, 2, 3, 4] rfl)
              · skip
                have c116 : w3_3.toInt = (0 : Int) := congrArg Int32.toInt c116
                refine lv_aload_n hx hb dX11_when_52 rfl (lv_at hl 2 rfl) ?_
                refine h_getr (C := RX11) (T := TX11) (N := 23) hx hb hts inX11 hown hK hT19 (hM.o rfl) rfl 21 rfl wF_X11_31 rfl dX11_when_53 ?_
                refine lv_iload hx hb dX11_when_56 (lv_at hl 0 rfl) ?_
                refine h_iald hx hb hK hT19 (hM.at 5 rfl) (h_vin (by omega) (by omega)) dX11_when_58 (fun p118 => ?_)
                refine lv_topi (fun x119 ex119 => ?_)
                refine lv_iload_n hx hb dX11_when_59 rfl (lv_at hl 3 rfl) ?_
                refine lv_icmp_ne (tgt := 67) hx hb dX11_when_60 (by decide) (fun c120 => ?_) (fun c120 => ?_)
                · skip
                  have c120 : ¬ x119.toInt = u1.toInt := h_neI c120
                  refine lv_iconst (v := 0) hx hb dX11_when_67 (by decide) ?_
                  refine lv_istore_n (lv' := [(3, .int 0), (4, .int w3_4), (0, .ref (o)), (1, .int u1), (2, .int u2)]) hx hb dX11_when_68 rfl hl (by decide) rfl (fun ls hl => ?_)
                  obtain ⟨x121, qx121, ix121⟩ := h_addX w3_4 (-1) w3_4.toInt (-1 : Int) rfl rfl (by omega) (by omega)
                  refine lv_iinc (v := x121) (lv' := [(4, .int x121), (3, .int 0), (0, .ref (o)), (1, .int u1), (2, .int u2)]) hx hb dX11_when_69 hl (k := 1) rfl qx121 (by decide) rfl (fun ls hl => ?_)
                  refine lv_goto (tgt := 43) hx hb dX11_when_72 (by decide) ?_
                  exact ih3 x121 0 (show x121.toInt + 1 < (n3 : Int) from by omega) (show (-1) ≤ x121.toInt from by omega) (show x121.toInt ≤ 47 from by omega) _ _ hS21 (lv_sub hl [0, 1, 2, 3, 4] rfl)
                · skip
                  have c120 : x119.toInt = u1.toInt := congrArg Int32.toInt c120
                  refine lv_iconst (v := 1) hx hb dX11_when_63 (by decide) ?_
                  refine lv_goto (tgt := 68) hx hb dX11_when_64 (by decide) ?_
                  refine lv_istore_n (lv' := [(3, .int 1), (4, .int w3_4), (0, .ref (o)), (1, .int u1), (2, .int u2)]) hx hb dX11_when_68 rfl hl (by decide) rfl (fun ls hl => ?_)
                  obtain ⟨x122, qx122, ix122⟩ := h_addX w3_4 (-1) w3_4.toInt (-1 : Int) rfl rfl (by omega) (by omega)
                  refine lv_iinc (v := x122) (lv' := [(4, .int x122), (3, .int 1), (0, .ref (o)), (1, .int u1), (2, .int u2)]) hx hb dX11_when_69 hl (k := 1) rfl qx122 (by decide) rfl (fun ls hl => ?_)
                  refine lv_goto (tgt := 43) hx hb dX11_when_72 (by decide) ?_
                  exact ih3 x122 1 (show x122.toInt + 1 < (n3 : Int) from by omega) (show (-1) ≤ x122.toInt from by omega) (show x122.toInt ≤ 47 from by omega) _ _ hS21 (lv_sub hl [0, 1, 2, 3, 4] rfl)
        exact LP3 4294967296 x89 1 (show x89.toInt + 1 < ((4294967296 : Nat) : Int) from by have := Int32.le_toInt x89; have := Int32.toInt_lt x89; omega) (show (-1) ≤ x89.toInt from by omega) (show x89.toInt ≤ 47 from by omega) _ _ hS19 (lv_sub hl [0, 1, 2, 3, 4] rfl)
  · skip
    have c1 : ¬ (0 : Int) ≤ u1.toInt := h_nleI c1
    refine lv_aload_n hx hb dX11_when_4 rfl (lv_at hl 0 rfl) ?_
    refine lv_iconst (v := 1) hx hb dX11_when_5 (by decide) ?_
    refine h_callVi (T := TX11) (rest := []) (As := [.int 1]) hx hb hml hown hts hK hT0 hZ (fun _ h => h) hS0 (c_X11_refuse l G Y P (o) hM 1) trivial wd_X11_refuse wV_X11_refuse wL_X11_267 (hM.o rfl) rfl rfl hl.1 rfl (Nat.le_of_ble_eq_true rfl) dX11_when_6 ⟨Nat.le_of_ble_eq_true rfl, Nat.le_of_ble_eq_true rfl⟩ ⟨Nat.zero_le _, Nat.zero_le _⟩ (fun r123 H27 locs hp27 hT27 hS27 hk27 => ?_)
    obtain ⟨hp27, hB27⟩ := hp27
    have z124 : ∀ j : Nat, 1200 ≤ j → h_ai H27 (o + 1) j = h_ai H0 (o + 1) j := fun j hj => (h_ai_same hB27)
    have R125 : mR o H27 := hpr.same hB27
    have f126 : r123.toInt = (-1) := hp27.1
    exact hret _ _ _ _ _ hT27 hS27 ⟨trivial, ⟨R125, z124⟩⟩ dX11_when_9
set_option maxHeartbeats 4000000 in
set_option maxRecDepth 100000 in
theorem c_X11_next (l : Launch) (G : hG) (Y : hW) (P : Int32 → Prop) (o : Nat) (hM : h_On Y o (modE (tM P) o)) (u1 u2 : Int32) (hz2 : u2 = 0 ∨ u2 = 1) : hMi l yX11_next cX11_next 6 (some .int) 7 151 G Y [.ref (o), .int u1, .int u2] (fun H => mR o H) (fun H r H1 => (True) ∧ (mR o H1 ∧ mV o H H1)) := by
  refine h_ofi (by decide +kernel) (Nat.le_of_ble_eq_true rfl) ?_
  intro p e s m args below meth c H0 ls Q hx hb hts hown hml hK hZ hT0 hpr hS0 hl hret
  have hl : lv_has ls 6 [(0, .ref (o)), (1, .int u1), (2, .int u2)] := hl
  refine lv_iload_n hx hb dX11_next_0 rfl (lv_at hl 1 rfl) ?_
  refine lv_if_ge (tgt := 10) hx hb dX11_next_1 (by decide) (fun c1 => ?_) (fun c1 => ?_)
  · skip
    have c1 : (0 : Int) ≤ u1.toInt := Int32.le_iff_toInt_le.mp c1
    refine lv_iconst (v := (-1)) hx hb dX11_next_10 (by decide) ?_
    refine lv_istore_n (lv' := [(3, .int (-1)), (0, .ref (o)), (1, .int u1), (2, .int u2)]) hx hb dX11_next_11 rfl hl (by decide) rfl (fun ls hl => ?_)
    refine lv_iload_n hx hb dX11_next_12 rfl (lv_at hl 2 rfl) ?_
    refine lv_istore (lv' := [(4, .int u1), (3, .int (-1)), (0, .ref (o)), (1, .int u1), (2, .int u2)]) hx hb dX11_next_13 hl (by decide) rfl (fun ls hl => ?_)
    refine lv_aload_n hx hb dX11_next_15 rfl (lv_at hl 2 rfl) ?_
    refine lv_iload_n hx hb dX11_next_16 rfl (lv_at hl 4 rfl) ?_
    refine h_callVv (T := TX11) (rest := []) (As := [.int u2]) hx hb hml hown hts hK hT0 hZ (fun _ h => h) hS0 (c_X11_onPaper l G Y P (o) hM u2 hz2) hpr wd_X11_onPaper wV_X11_onPaper wL_X11_322 (hM.o rfl) rfl rfl hl.1 rfl (Nat.le_of_ble_eq_true rfl) dX11_next_17 ⟨Nat.le_of_ble_eq_true rfl, Nat.le_of_ble_eq_true rfl⟩ ⟨Nat.zero_le _, Nat.zero_le _⟩ (fun H1 locs hp1 hT1 hS1 hk1 => ?_)
    obtain ⟨hp1, hB1⟩ := hp1
    have z2 : ∀ j : Nat, 1200 ≤ j → h_ai H1 (o + 1) j = h_ai H0 (o + 1) j := fun j hj => (hB1.2 j hj)
    have R3 : mR o H1 := hB1.1
    refine lv_iconst (v := 0) hx hb dX11_next_20 (by decide) ?_
    refine lv_istore (lv' := [(5, .int 0), (4, .int u1), (3, .int (-1)), (0, .ref (o)), (1, .int u1), (2, .int u2)]) hx hb dX11_next_21 hl (by decide) rfl (fun ls hl => ?_)
    have LP1 : ∀ (n1 : Nat) (w1_5 : Int32) (w1_4 : Int32) (w1_3 : Int32) (H2 : Heap), (2147483647 - w1_5.toInt < (n1 : Int)) → (0 ≤ w1_5.toInt) → (hT G Y H2) → (∀ j : Nat, 1200 ≤ j → h_ai H2 (o + 1) j = h_ai H0 (o + 1) j) → (mR o H2) → (mRa o H2 600) → ∀ (locs : List Loc) (ls : Array Slot), va_S (h_A Y) s.heap H2 locs → lv_has ls 6 [(5, .int w1_5), (4, .int w1_4), (3, .int w1_3), (0, .ref (o))] → W p l e (h_rm 7 151) s m args below meth c H2 locs 0 0 Q (F0 m 23 ls []) := by
      intro n1
      induction n1 with
      | zero =>
        intro w1_5 w1_4 w1_3 H2 hm hlo1_5
        intros
        exfalso
        have := Int32.toInt_lt w1_5; have := Int32.le_toInt w1_5
        have := Int32.toInt_lt w1_4; have := Int32.le_toInt w1_4
        have := Int32.toInt_lt w1_3; have := Int32.le_toInt w1_3
        omega
      | succ n1 ih1 =>
        intro w1_5 w1_4 w1_3 H2 hm hlo1_5 hT2 z4 R5 A6 locs ls hS2 hl
        refine lv_iload hx hb dX11_next_23 (lv_at hl 0 rfl) ?_
        refine lv_sipush (v := 3000) hx hb dX11_next_25 (by decide) ?_
        refine lv_icmp_ge (tgt := 70) hx hb dX11_next_28 (by decide) (fun c7 => ?_) (fun c7 => ?_)
        · skip
          have c7 : (3000 : Int) ≤ w1_5.toInt := Int32.le_iff_toInt_le.mp c7
          refine lv_aload_n hx hb dX11_next_70 rfl (lv_at hl 3 rfl) ?_
          refine h_callVv (T := TX11) (rest := []) (As := []) hx hb hml hown hts hK hT2 hZ (fun _ h => h) hS2 (c_X11_offPaper l G Y P (o) hM) A6 wd_X11_offPaper wV_X11_offPaper wL_X11_329 (hM.o rfl) rfl rfl hl.1 rfl (Nat.le_of_ble_eq_true rfl) dX11_next_71 ⟨Nat.le_of_ble_eq_true rfl, Nat.le_of_ble_eq_true rfl⟩ ⟨Nat.zero_le _, Nat.zero_le _⟩ (fun H4 locs hp4 hT4 hS4 hk4 => ?_)
          obtain ⟨hp4, hB4⟩ := hp4
          have z8 : ∀ j : Nat, 1200 ≤ j → h_ai H4 (o + 1) j = h_ai H0 (o + 1) j := fun j hj => (hB4.2 j hj).trans (z4 j hj)
          have R9 : mR o H4 := hB4.1
          refine lv_aload_n hx hb dX11_next_74 rfl (lv_at hl 3 rfl) ?_
          refine lv_iload_n hx hb dX11_next_75 rfl (lv_at hl 2 rfl) ?_
          refine h_callVi (T := TX11) (rest := []) (As := [.int w1_3]) hx hb hml hown hts hK hT4 hZ (fun _ h => h) hS4 (c_X11_givesOr l G Y P (o) hM w1_3) trivial wd_X11_givesOr wV_X11_givesOr wL_X11_336 (hM.o rfl) rfl rfl hl.1 rfl (Nat.le_of_ble_eq_true rfl) dX11_next_76 ⟨Nat.le_of_ble_eq_true rfl, Nat.le_of_ble_eq_true rfl⟩ ⟨Nat.zero_le _, Nat.zero_le _⟩ (fun r10 H5 locs hp5 hT5 hS5 hk5 => ?_)
          obtain ⟨hp5, hB5⟩ := hp5
          have z11 : ∀ j : Nat, 1200 ≤ j → h_ai H5 (o + 1) j = h_ai H0 (o + 1) j := fun j hj => (h_ai_same hB5).trans (z8 j hj)
          have R12 : mR o H5 := R9.same hB5
          exact hret _ _ _ _ _ hT5 hS5 ⟨trivial, ⟨R12, z11⟩⟩ dX11_next_79
        · skip
          have c7 : ¬ (3000 : Int) ≤ w1_5.toInt := h_nleI c7
          refine lv_iload_n hx hb dX11_next_31 rfl (lv_at hl 2 rfl) ?_
          refine lv_iconst (v := (-1)) hx hb dX11_next_32 (by decide) ?_
          refine lv_icmp_ne (tgt := 70) hx hb dX11_next_33 (by decide) (fun c13 => ?_) (fun c13 => ?_)
          · skip
            have c13 : ¬ w1_3.toInt = (-1 : Int) := h_neI c13
            refine lv_aload_n hx hb dX11_next_70 rfl (lv_at hl 3 rfl) ?_
            refine h_callVv (T := TX11) (rest := []) (As := []) hx hb hml hown hts hK hT2 hZ (fun _ h => h) hS2 (c_X11_offPaper l G Y P (o) hM) A6 wd_X11_offPaper wV_X11_offPaper wL_X11_329 (hM.o rfl) rfl rfl hl.1 rfl (Nat.le_of_ble_eq_true rfl) dX11_next_71 ⟨Nat.le_of_ble_eq_true rfl, Nat.le_of_ble_eq_true rfl⟩ ⟨Nat.zero_le _, Nat.zero_le _⟩ (fun H6 locs hp6 hT6 hS6 hk6 => ?_)
            obtain ⟨hp6, hB6⟩ := hp6
            have z14 : ∀ j : Nat, 1200 ≤ j → h_ai H6 (o + 1) j = h_ai H0 (o + 1) j := fun j hj => (hB6.2 j hj).trans (z4 j hj)
            have R15 : mR o H6 := hB6.1
            refine lv_aload_n hx hb dX11_next_74 rfl (lv_at hl 3 rfl) ?_
            refine lv_iload_n hx hb dX11_next_75 rfl (lv_at hl 2 rfl) ?_
            refine h_callVi (T := TX11) (rest := []) (As := [.int w1_3]) hx hb hml hown hts hK hT6 hZ (fun _ h => h) hS6 (c_X11_givesOr l G Y P (o) hM w1_3) trivial wd_X11_givesOr wV_X11_givesOr wL_X11_336 (hM.o rfl) rfl rfl hl.1 rfl (Nat.le_of_ble_eq_true rfl) dX11_next_76 ⟨Nat.le_of_ble_eq_true rfl, Nat.le_of_ble_eq_true rfl⟩ ⟨Nat.zero_le _, Nat.zero_le _⟩ (fun r16 H7 locs hp7 hT7 hS7 hk7 => ?_)
            obtain ⟨hp7, hB7⟩ := hp7
            have z17 : ∀ j : Nat, 1200 ≤ j → h_ai H7 (o + 1) j = h_ai H0 (o + 1) j := fun j hj => (h_ai_same hB7).trans (z14 j hj)
            have R18 : mR o H7 := R15.same hB7
            exact hret _ _ _ _ _ hT7 hS7 ⟨trivial, ⟨R18, z17⟩⟩ dX11_next_79
          · skip
            have c13 : w1_3.toInt = (-1 : Int) := congrArg Int32.toInt c13
            refine lv_aload_n hx hb dX11_next_36 rfl (lv_at hl 3 rfl) ?_
            refine h_callVv (T := TX11) (rest := []) (As := []) hx hb hml hown hts hK hT2 hZ (fun _ h => h) hS2 (c_X11_ticks l G Y P (o) hM) R5 wd_X11_ticks wV_X11_ticks wL_X11_297 (hM.o rfl) rfl rfl hl.1 rfl (Nat.le_of_ble_eq_true rfl) dX11_next_37 ⟨Nat.le_of_ble_eq_true rfl, Nat.le_of_ble_eq_true rfl⟩ ⟨Nat.zero_le _, Nat.zero_le _⟩ (fun H8 locs hp8 hT8 hS8 hk8 => ?_)
            obtain ⟨hp8, hB8⟩ := hp8
            have z19 : ∀ j : Nat, 1200 ≤ j → h_ai H8 (o + 1) j = h_ai H0 (o + 1) j := fun j hj => (hB8.2 j (by omega)).trans (z4 j hj)
            have R20 : mR o H8 := hB8.1
            have A21 : mRa o H8 600 := A6.kept (fun j hj => hB8.2 _ (by omega))
            refine lv_aload_n hx hb dX11_next_40 rfl (lv_at hl 3 rfl) ?_
            refine h_geti (C := RX11) (T := TX11) (N := 23) hx hb hts inX11 hown hK hT8 (hM.o rfl) rfl 3 rfl wF_X11_112 rfl dX11_next_41 (fun p22 => ?_)
            refine lv_topi (fun x23 ex23 => ?_)
            refine lv_iconst (v := (-1)) hx hb dX11_next_44 (by decide) ?_
            refine lv_icmp_ne (tgt := 51) hx hb dX11_next_45 (by decide) (fun c24 => ?_) (fun c24 => ?_)
            · skip
              have c24 : ¬ x23.toInt = (-1 : Int) := h_neI c24
              refine lv_iload hx hb dX11_next_51 (lv_at hl 1 rfl) ?_
              refine lv_if_ne (tgt := 61) hx hb dX11_next_53 (by decide) (fun c25 => ?_) (fun c25 => ?_)
              · skip
                have c25 : ¬ w1_4.toInt = (0 : Int) := h_neI c25
                obtain ⟨x26, ex26⟩ : ∃ y : Int32, y = w1_4 + (-1) := ⟨_, rfl⟩
                refine lv_iinc (v := x26) (lv' := [(4, .int x26), (5, .int w1_5), (3, .int w1_3), (0, .ref (o))]) hx hb dX11_next_61 hl (k := 1) rfl (by rw [ex26]; rfl) (by decide) rfl (fun ls hl => ?_)
                obtain ⟨x27, qx27, ix27⟩ := h_addX w1_5 1 w1_5.toInt (1 : Int) rfl rfl (by omega) (by omega)
                refine lv_iinc (v := x27) (lv' := [(5, .int x27), (4, .int x26), (3, .int w1_3), (0, .ref (o))]) hx hb dX11_next_64 hl (k := 1) rfl qx27 (by decide) rfl (fun ls hl => ?_)
                refine lv_goto (tgt := 23) hx hb dX11_next_67 (by decide) ?_
                exact ih1 x27 x26 w1_3 _ (show 2147483647 - x27.toInt < (n1 : Int) from by omega) (show 0 ≤ x27.toInt from by omega) hT8 z19 R20 A21 _ _ hS8 (lv_sub hl [0, 1, 2, 3] rfl)
              · skip
                have c25 : w1_4.toInt = (0 : Int) := congrArg Int32.toInt c25
                refine lv_aload_n hx hb dX11_next_56 rfl (lv_at hl 3 rfl) ?_
                refine h_geti (C := RX11) (T := TX11) (N := 23) hx hb hts inX11 hown hK hT8 (hM.o rfl) rfl 3 rfl wF_X11_112 rfl dX11_next_57 (fun p28 => ?_)
                refine h_top (v := x23) ex23.symm ?_
                refine lv_istore_n (lv' := [(3, .int x23), (5, .int w1_5), (4, .int w1_4), (0, .ref (o))]) hx hb dX11_next_60 rfl hl (by decide) rfl (fun ls hl => ?_)
                obtain ⟨x29, qx29, ix29⟩ := h_addX w1_4 (-1) w1_4.toInt (-1 : Int) rfl rfl (by omega) (by omega)
                refine lv_iinc (v := x29) (lv' := [(4, .int x29), (3, .int x23), (5, .int w1_5), (0, .ref (o))]) hx hb dX11_next_61 hl (k := 2) rfl qx29 (by decide) rfl (fun ls hl => ?_)
                obtain ⟨x30, qx30, ix30⟩ := h_addX w1_5 1 w1_5.toInt (1 : Int) rfl rfl (by omega) (by omega)
                refine lv_iinc (v := x30) (lv' := [(5, .int x30), (4, .int x29), (3, .int x23), (0, .ref (o))]) hx hb dX11_next_64 hl (k := 2) rfl qx30 (by decide) rfl (fun ls hl => ?_)
                refine lv_goto (tgt := 23) hx hb dX11_next_67 (by decide) ?_
                exact ih1 x30 x29 x23 _ (show 2147483647 - x30.toInt < (n1 : Int) from by omega) (show 0 ≤ x30.toInt from by omega) hT8 z19 R20 A21 _ _ hS8 (lv_sub hl [0, 1, 2, 3] rfl)
            · skip
              have c24 : x23.toInt = (-1 : Int) := congrArg Int32.toInt c24
              refine lv_goto (tgt := 64) hx hb dX11_next_48 (by decide) ?_
              obtain ⟨x31, qx31, ix31⟩ := h_addX w1_5 1 w1_5.toInt (1 : Int) rfl rfl (by omega) (by omega)
              refine lv_iinc (v := x31) (lv' := [(5, .int x31), (4, .int w1_4), (3, .int w1_3), (0, .ref (o))]) hx hb dX11_next_64 hl (k := 0) rfl qx31 (by decide) rfl (fun ls hl => ?_)
              refine lv_goto (tgt := 23) hx hb dX11_next_67 (by decide) ?_
              exact ih1 x31 w1_4 w1_3 _ (show 2147483647 - x31.toInt < (n1 : Int) from by omega) (show 0 ≤ x31.toInt from by omega) hT8 z19 R20 A21 _ _ hS8 (lv_sub hl [0, 1, 2, 3] rfl)
    exact LP1 4294967296 0 u1 (-1) _ (show 2147483647 - (0 : Int) < ((4294967296 : Nat) : Int) from by have := Int32.le_toInt u1; have := Int32.toInt_lt u1; omega) (show 0 ≤ (0 : Int) from by omega) hT1 z2 R3 hp1 _ _ hS1 (lv_sub hl [0, 1, 2, 3] rfl)
  · skip
    have c1 : ¬ (0 : Int) ≤ u1.toInt := h_nleI c1
    refine lv_aload_n hx hb dX11_next_4 rfl (lv_at hl 0 rfl) ?_
    refine lv_iconst (v := 1) hx hb dX11_next_5 (by decide) ?_
    refine h_callVi (T := TX11) (rest := []) (As := [.int 1]) hx hb hml hown hts hK hT0 hZ (fun _ h => h) hS0 (c_X11_refuse l G Y P (o) hM 1) trivial wd_X11_refuse wV_X11_refuse wL_X11_267 (hM.o rfl) rfl rfl hl.1 rfl (Nat.le_of_ble_eq_true rfl) dX11_next_6 ⟨Nat.le_of_ble_eq_true rfl, Nat.le_of_ble_eq_true rfl⟩ ⟨Nat.zero_le _, Nat.zero_le _⟩ (fun r32 H9 locs hp9 hT9 hS9 hk9 => ?_)
    obtain ⟨hp9, hB9⟩ := hp9
    have z33 : ∀ j : Nat, 1200 ≤ j → h_ai H9 (o + 1) j = h_ai H0 (o + 1) j := fun j hj => (h_ai_same hB9)
    have R34 : mR o H9 := hpr.same hB9
    have f35 : r32.toInt = (-1) := hp9.1
    exact hret _ _ _ _ _ hT9 hS9 ⟨trivial, ⟨R34, z33⟩⟩ dX11_next_9
set_option maxHeartbeats 4000000 in
set_option maxRecDepth 100000 in
theorem c_X11_gain (l : Launch) (G : hG) (Y : hW) (P : Int32 → Prop) (o : Nat) (hM : h_On Y o (modE (tM P) o)) : hMi l yX11_gain cX11_gain 4 (some .int) 8 176 G Y [.ref (o)] (fun H => mR o H) (fun H r H1 => (True) ∧ (mR o H1 ∧ mV o H H1)) := by
  refine h_ofi (by decide +kernel) (Nat.le_of_ble_eq_true rfl) ?_
  intro p e s m args below meth c H0 ls Q hx hb hts hown hml hK hZ hT0 hpr hS0 hl hret
  have hl : lv_has ls 4 [(0, .ref (o))] := hl
  refine lv_aload_n hx hb dX11_gain_0 rfl (lv_at hl 0 rfl) ?_
  refine h_callVi (T := TX11) (rest := []) (As := []) hx hb hml hown hts hK hT0 hZ (fun _ h => h) hS0 (c_X11_waiting l G Y P (o) hM) trivial wd_X11_waiting wV_X11_waiting wL_X11_339 (hM.o rfl) rfl rfl hl.1 rfl (Nat.le_of_ble_eq_true rfl) dX11_gain_1 ⟨Nat.le_of_ble_eq_true rfl, Nat.le_of_ble_eq_true rfl⟩ ⟨Nat.zero_le _, Nat.zero_le _⟩ (fun r1 H1 locs hp1 hT1 hS1 hk1 => ?_)
  obtain ⟨hp1, hB1⟩ := hp1
  have z2 : ∀ j : Nat, 1200 ≤ j → h_ai H1 (o + 1) j = h_ai H0 (o + 1) j := fun j hj => (h_ai_same hB1)
  have R3 : mR o H1 := hpr.same hB1
  have f4 : 0 ≤ r1.toInt ∧ r1.toInt ≤ 48 := by have q := hp1; exact q
  refine lv_istore_n (lv' := [(1, .int r1), (0, .ref (o))]) hx hb dX11_gain_4 rfl hl (by decide) rfl (fun ls hl => ?_)
  refine lv_aload_n hx hb dX11_gain_5 rfl (lv_at hl 1 rfl) ?_
  refine lv_iload_n hx hb dX11_gain_6 rfl (lv_at hl 0 rfl) ?_
  refine lv_iconst (v := 0) hx hb dX11_gain_7 (by decide) ?_
  refine lv_iconst (v := 0) hx hb dX11_gain_8 (by decide) ?_
  refine h_callVv (T := TX11) (rest := []) (As := [.int r1, .int 0, .int 0]) hx hb hml hown hts hK hT1 hZ (fun _ h => h) hS1 (c_X11_lives l G Y P (o) hM r1 0 0 (show 0 ≤ r1.toInt ∧ r1.toInt ≤ 48 from by omega) (show 0 ≤ (0 : Int) ∧ (0 : Int) ≤ 48 from by omega) (by decide)) R3 wd_X11_lives wV_X11_lives wL_X11_342 (hM.o rfl) rfl rfl hl.1 rfl (Nat.le_of_ble_eq_true rfl) dX11_gain_9 ⟨Nat.le_of_ble_eq_true rfl, Nat.le_of_ble_eq_true rfl⟩ ⟨Nat.zero_le _, Nat.zero_le _⟩ (fun H2 locs hp2 hT2 hS2 hk2 => ?_)
  obtain ⟨hp2, hB2⟩ := hp2
  have z5 : ∀ j : Nat, 1200 ≤ j → h_ai H2 (o + 1) j = h_ai H0 (o + 1) j := fun j hj => (hB2.2 j hj).trans (z2 j hj)
  have R6 : mR o H2 := hB2.1
  refine lv_aload_n hx hb dX11_gain_12 rfl (lv_at hl 1 rfl) ?_
  refine lv_iload_n hx hb dX11_gain_13 rfl (lv_at hl 0 rfl) ?_
  refine lv_iconst (v := 1) hx hb dX11_gain_14 (by decide) ?_
  refine lv_bipush (v := 48) hx hb dX11_gain_15 (by decide) ?_
  refine h_callVv (T := TX11) (rest := []) (As := [.int r1, .int 1, .int 48]) hx hb hml hown hts hK hT2 hZ (fun _ h => h) hS2 (c_X11_lives l G Y P (o) hM r1 1 48 (show 0 ≤ r1.toInt ∧ r1.toInt ≤ 48 from by omega) (show 0 ≤ (48 : Int) ∧ (48 : Int) ≤ 48 from by omega) (by decide)) R6 wd_X11_lives wV_X11_lives wL_X11_342 (hM.o rfl) rfl rfl hl.1 rfl (Nat.le_of_ble_eq_true rfl) dX11_gain_17 ⟨Nat.le_of_ble_eq_true rfl, Nat.le_of_ble_eq_true rfl⟩ ⟨Nat.zero_le _, Nat.zero_le _⟩ (fun H3 locs hp3 hT3 hS3 hk3 => ?_)
  obtain ⟨hp3, hB3⟩ := hp3
  have z7 : ∀ j : Nat, 1200 ≤ j → h_ai H3 (o + 1) j = h_ai H0 (o + 1) j := fun j hj => (hB3.2 j hj).trans (z5 j hj)
  have R8 : mR o H3 := hB3.1
  refine lv_iconst (v := 0) hx hb dX11_gain_20 (by decide) ?_
  refine lv_istore_n (lv' := [(2, .int 0), (1, .int r1), (0, .ref (o))]) hx hb dX11_gain_21 rfl hl (by decide) rfl (fun ls hl => ?_)
  refine lv_iconst (v := 0) hx hb dX11_gain_22 (by decide) ?_
  refine lv_istore_n (lv' := [(3, .int 0), (2, .int 0), (1, .int r1), (0, .ref (o))]) hx hb dX11_gain_23 rfl hl (by decide) rfl (fun ls hl => ?_)
  have LP1 : ∀ (n1 : Nat) (w1_3 : Int32) (w1_2 : Int32), (2147483647 - w1_3.toInt < (n1 : Int)) → (0 ≤ w1_3.toInt) → ∀ (locs : List Loc) (ls : Array Slot), va_S (h_A Y) s.heap H3 locs → lv_has ls 4 [(3, .int w1_3), (2, .int w1_2), (1, .int r1), (0, .ref (o))] → W p l e (h_rm 8 176) s m args below meth c H3 locs 0 0 Q (F0 m 24 ls []) := by
    intro n1
    induction n1 with
    | zero =>
      intro w1_3 w1_2 hm hlo1_3
      intros
      exfalso
      have := Int32.toInt_lt w1_3; have := Int32.le_toInt w1_3
      have := Int32.toInt_lt w1_2; have := Int32.le_toInt w1_2
      omega
    | succ n1 ih1 =>
      intro w1_3 w1_2 hm hlo1_3  locs ls hS5 hl
      refine lv_iload_n hx hb dX11_gain_24 rfl (lv_at hl 0 rfl) ?_
      refine lv_iload_n hx hb dX11_gain_25 rfl (lv_at hl 2 rfl) ?_
      refine lv_icmp_ge (tgt := 75) hx hb dX11_gain_26 (by decide) (fun c9 => ?_) (fun c9 => ?_)
      · skip
        have c9 : r1.toInt ≤ w1_3.toInt := Int32.le_iff_toInt_le.mp c9
        refine lv_aload_n hx hb dX11_gain_75 rfl (lv_at hl 3 rfl) ?_
        refine lv_iload_n hx hb dX11_gain_76 rfl (lv_at hl 1 rfl) ?_
        refine h_callVi (T := TX11) (rest := []) (As := [.int w1_2]) hx hb hml hown hts hK hT3 hZ (fun _ h => h) hS5 (c_X11_gives l G Y P (o) hM w1_2) trivial wd_X11_gives wV_X11_gives wL_X11_276 (hM.o rfl) rfl rfl hl.1 rfl (Nat.le_of_ble_eq_true rfl) dX11_gain_77 ⟨Nat.le_of_ble_eq_true rfl, Nat.le_of_ble_eq_true rfl⟩ ⟨Nat.zero_le _, Nat.zero_le _⟩ (fun r10 H6 locs hp6 hT6 hS6 hk6 => ?_)
        obtain ⟨hp6, hB6⟩ := hp6
        have z11 : ∀ j : Nat, 1200 ≤ j → h_ai H6 (o + 1) j = h_ai H0 (o + 1) j := fun j hj => (h_ai_same hB6).trans (z7 j hj)
        have R12 : mR o H6 := R8.same hB6
        have f13 : r10.toInt = w1_2.toInt := hp6.1
        exact hret _ _ _ _ _ hT6 hS6 ⟨trivial, ⟨R12, z11⟩⟩ dX11_gain_80
      · skip
        have c9 : ¬ r1.toInt ≤ w1_3.toInt := h_nleI c9
        refine lv_aload_n hx hb dX11_gain_29 rfl (lv_at hl 3 rfl) ?_
        refine h_getr (C := RX11) (T := TX11) (N := 23) hx hb hts inX11 hown hK hT3 (hM.o rfl) rfl 22 rfl wF_X11_34 rfl dX11_gain_30 ?_
        refine lv_iload_n hx hb dX11_gain_33 rfl (lv_at hl 0 rfl) ?_
        refine h_iald hx hb hK hT3 (hM.at 6 rfl) (h_vin (by omega) (by omega)) dX11_gain_34 (fun p14 => ?_)
        refine lv_topi (fun x15 ex15 => ?_)
        refine lv_if_le (tgt := 69) hx hb dX11_gain_35 (by decide) (fun c16 => ?_) (fun c16 => ?_)
        · skip
          have c16 : x15.toInt ≤ (0 : Int) := Int32.le_iff_toInt_le.mp c16
          obtain ⟨x17, qx17, ix17⟩ := h_addX w1_3 1 w1_3.toInt (1 : Int) rfl rfl (by omega) (by omega)
          refine lv_iinc (v := x17) (lv' := [(3, .int x17), (2, .int w1_2), (1, .int r1), (0, .ref (o))]) hx hb dX11_gain_69 hl (k := 0) rfl qx17 (by decide) rfl (fun ls hl => ?_)
          refine lv_goto (tgt := 24) hx hb dX11_gain_72 (by decide) ?_
          exact ih1 x17 w1_2 (show 2147483647 - x17.toInt < (n1 : Int) from by omega) (show 0 ≤ x17.toInt from by omega) _ _ hS5 (lv_sub hl [0, 1, 2, 3] rfl)
        · skip
          have c16 : ¬ x15.toInt ≤ (0 : Int) := h_nleI c16
          refine lv_aload_n hx hb dX11_gain_38 rfl (lv_at hl 3 rfl) ?_
          refine h_getr (C := RX11) (T := TX11) (N := 23) hx hb hts inX11 hown hK hT3 (hM.o rfl) rfl 22 rfl wF_X11_34 rfl dX11_gain_39 ?_
          refine lv_bipush (v := 48) hx hb dX11_gain_42 (by decide) ?_
          refine lv_iload_n hx hb dX11_gain_44 rfl (lv_at hl 0 rfl) ?_
          refine lv_iadd hx hb dX11_gain_45 ?_
          obtain ⟨x18, qx18, ix18⟩ := h_addX 48 w1_3 (48 : Int) w1_3.toInt rfl rfl (by omega) (by omega)
          refine h_top (v := x18) qx18 ?_
          refine h_iald hx hb hK hT3 (hM.at 6 rfl) (h_vin (by omega) (by omega)) dX11_gain_46 (fun p19 => ?_)
          refine lv_topi (fun x20 ex20 => ?_)
          refine lv_if_le (tgt := 69) hx hb dX11_gain_47 (by decide) (fun c21 => ?_) (fun c21 => ?_)
          · skip
            have c21 : x20.toInt ≤ (0 : Int) := Int32.le_iff_toInt_le.mp c21
            obtain ⟨x22, qx22, ix22⟩ := h_addX w1_3 1 w1_3.toInt (1 : Int) rfl rfl (by omega) (by omega)
            refine lv_iinc (v := x22) (lv' := [(3, .int x22), (2, .int w1_2), (1, .int r1), (0, .ref (o))]) hx hb dX11_gain_69 hl (k := 0) rfl qx22 (by decide) rfl (fun ls hl => ?_)
            refine lv_goto (tgt := 24) hx hb dX11_gain_72 (by decide) ?_
            exact ih1 x22 w1_2 (show 2147483647 - x22.toInt < (n1 : Int) from by omega) (show 0 ≤ x22.toInt from by omega) _ _ hS5 (lv_sub hl [0, 1, 2, 3] rfl)
          · skip
            have c21 : ¬ x20.toInt ≤ (0 : Int) := h_nleI c21
            refine lv_iload_n hx hb dX11_gain_50 rfl (lv_at hl 1 rfl) ?_
            refine lv_aload_n hx hb dX11_gain_51 rfl (lv_at hl 3 rfl) ?_
            refine h_getr (C := RX11) (T := TX11) (N := 23) hx hb hts inX11 hown hK hT3 (hM.o rfl) rfl 22 rfl wF_X11_34 rfl dX11_gain_52 ?_
            refine lv_bipush (v := 48) hx hb dX11_gain_55 (by decide) ?_
            refine lv_iload_n hx hb dX11_gain_57 rfl (lv_at hl 0 rfl) ?_
            refine lv_iadd hx hb dX11_gain_58 ?_
            refine h_top (v := x18) (h_addE 48 w1_3 x18 (48 : Int) w1_3.toInt rfl rfl (by omega) (by omega) (by omega)) ?_
            refine h_iald hx hb hK hT3 (hM.at 6 rfl) (h_vin (by omega) (by omega)) dX11_gain_59 (fun p23 => ?_)
            refine h_top (v := x20) ex20.symm ?_
            refine lv_aload_n hx hb dX11_gain_60 rfl (lv_at hl 3 rfl) ?_
            refine h_getr (C := RX11) (T := TX11) (N := 23) hx hb hts inX11 hown hK hT3 (hM.o rfl) rfl 22 rfl wF_X11_34 rfl dX11_gain_61 ?_
            refine lv_iload_n hx hb dX11_gain_64 rfl (lv_at hl 0 rfl) ?_
            refine h_iald hx hb hK hT3 (hM.at 6 rfl) (h_vin (by omega) (by omega)) dX11_gain_65 (fun p24 => ?_)
            refine h_top (v := x15) ex15.symm ?_
            refine lv_isub hx hb dX11_gain_66 ?_
            obtain ⟨x25, qx25, ix25⟩ := h_subX x20 x15 x20.toInt x15.toInt rfl rfl (by have := Int32.le_toInt x20; have := Int32.toInt_lt x20; have := Int32.le_toInt x15; have := Int32.toInt_lt x15; omega) (by have := Int32.le_toInt x20; have := Int32.toInt_lt x20; have := Int32.le_toInt x15; have := Int32.toInt_lt x15; omega)
            refine h_top (v := x25) qx25 ?_
            refine lv_iadd hx hb dX11_gain_67 ?_
            refine lv_topi (fun x26 ex26 => ?_)
            refine lv_istore_n (lv' := [(2, .int x26), (3, .int w1_3), (1, .int r1), (0, .ref (o))]) hx hb dX11_gain_68 rfl hl (by decide) rfl (fun ls hl => ?_)
            obtain ⟨x27, qx27, ix27⟩ := h_addX w1_3 1 w1_3.toInt (1 : Int) rfl rfl (by omega) (by omega)
            refine lv_iinc (v := x27) (lv' := [(3, .int x27), (2, .int x26), (1, .int r1), (0, .ref (o))]) hx hb dX11_gain_69 hl (k := 1) rfl qx27 (by decide) rfl (fun ls hl => ?_)
            refine lv_goto (tgt := 24) hx hb dX11_gain_72 (by decide) ?_
            exact ih1 x27 x26 (show 2147483647 - x27.toInt < (n1 : Int) from by omega) (show 0 ≤ x27.toInt from by omega) _ _ hS5 (lv_sub hl [0, 1, 2, 3] rfl)
  exact LP1 4294967296 0 0 (show 2147483647 - (0 : Int) < ((4294967296 : Nat) : Int) from by omega) (show 0 ≤ (0 : Int) from by omega) _ _ hS3 (lv_sub hl [0, 1, 2, 3] rfl)
set_option maxHeartbeats 4000000 in
set_option maxRecDepth 100000 in
theorem c_mmark0 (l : Launch) (G : hG) (Y : hW) (P : Int32 → Prop) (o : Nat) (hM : h_On Y o (modE (tM P) o)) (hPP : ∀ x, P x) : hMi l yX11_mark cX11_mark 1 (some .int) 1 23 G Y [.ref (o)] (fun H => (mR o H) ∧ (h_gi G H 11 o 2 = 0)) (fun H r H1 => (r.toInt = 1 ∧ h_gi G H1 11 o 2 = 1) ∧ (mR o H1 ∧ (∀ j : Nat, j < 600 → h_ai H1 (o + 1) (600 * 2 + j) = h_ai H (o + 1) (600 * 0 + j)) ∧ (∀ j : Nat, (j < 600 * 2 ∨ 600 * 2 + 600 ≤ j) → h_ai H1 (o + 1) j = h_ai H (o + 1) j))) := by
  refine h_ofi (by decide +kernel) (Nat.le_of_ble_eq_true rfl) ?_
  intro p e s m args below meth c H0 ls Q hx hb hts hown hml hK hZ hT0 hpr hS0 hl hret
  have hl : lv_has ls 1 [(0, .ref (o))] := hl
  refine lv_aload_n hx hb dX11_mark_0 rfl (lv_at hl 0 rfl) ?_
  refine h_geti (C := RX11) (T := TX11) (N := 23) hx hb hts inX11 hown hK hT0 (hM.o rfl) rfl 2 rfl wF_X11_285 rfl dX11_mark_1 (fun p1 => ?_)
  refine h_top (v := 0) hpr.2 ?_
  refine lv_iconst (v := 4) hx hb dX11_mark_4 (by decide) ?_
  refine lv_icmp_ne (tgt := 14) hx hb dX11_mark_5 (by decide) (fun _ => ?_) (fun h => absurd h (by decide))
  refine lv_aload_n hx hb dX11_mark_14 rfl (lv_at hl 0 rfl) ?_
  refine lv_iconst (v := 0) hx hb dX11_mark_15 (by decide) ?_
  refine lv_sipush (v := 1200) hx hb dX11_mark_16 (by decide) ?_
  refine lv_sipush (v := 600) hx hb dX11_mark_19 (by decide) ?_
  refine lv_aload_n hx hb dX11_mark_22 rfl (lv_at hl 0 rfl) ?_
  refine h_geti (C := RX11) (T := TX11) (N := 23) hx hb hts inX11 hown hK hT0 (hM.o rfl) rfl 2 rfl wF_X11_285 rfl dX11_mark_23 (fun p3 => ?_)
  refine h_top (v := 0) hpr.2 ?_
  refine lv_imul hx hb dX11_mark_26 ?_
  refine h_top (v := 0) (by decide) ?_
  refine lv_iadd hx hb dX11_mark_27 ?_
  refine h_top (v := 1200) (by decide) ?_
  refine h_callVv (T := TX11) (rest := []) (As := [.int 0, .int 1200]) hx hb hml hown hts hK hT0 hZ (fun _ h => h) hS0 (c_X11_copies l G Y P (o) hM 0 1200 0 2 (by decide) (by decide) (by decide) (by decide)) trivial wd_X11_copies wV_X11_copies wL_X11_270 (hM.o rfl) rfl rfl hl.1 rfl (Nat.le_of_ble_eq_true rfl) dX11_mark_28 ⟨Nat.le_of_ble_eq_true rfl, Nat.le_of_ble_eq_true rfl⟩ ⟨Nat.zero_le _, Nat.zero_le _⟩ (fun H1 locs hp1 hT1 hS1 hk1 => ?_)
  obtain ⟨hp1, hB1⟩ := hp1
  have R4 : mR o H1 := mR_low6 hpr.1 (fun j hj => hB1.2.1 j (by omega))
  refine lv_aload_n hx hb dX11_mark_31 rfl (lv_at hl 0 rfl) ?_
  refine lv_dup hx hb dX11_mark_32 rfl ?_
  refine h_geti (C := RX11) (T := TX11) (N := 23) hx hb hts inX11 hown hK hT1 (hM.o rfl) rfl 2 rfl wF_X11_285 rfl dX11_mark_33 (fun p5 => ?_)
  refine h_top (v := 0) ((h_gi_same (hB1.2.2 o (by omega))).trans hpr.2) ?_
  refine lv_iconst (v := 1) hx hb dX11_mark_36 (by decide) ?_
  refine lv_iadd hx hb dX11_mark_37 ?_
  refine h_top (v := 1) (by decide) ?_
  refine h_puti (C := RX11) (T := TX11) (N := 23) hx hb hts inX11 tyX11 tyX11_ok nmX11 hown hK hT1 (fun _ h => h) hS1 (hM.o rfl) rfl 2 rfl wF_X11_285 rfl rfl (hPP _) rfl rfl dX11_mark_38 (fun H2 locs hT2 hS2 hu2 => ?_)
  have z6 : H2[o + 1]? = H1[o + 1]? := (hu2.2.1 (o + 1) (by omega))
  have R7 : mR o H2 := R4.same (hu2.2.1 (o + 1) (by omega))
  refine lv_aload_n hx hb dX11_mark_41 rfl (lv_at hl 0 rfl) ?_
  refine lv_aload_n hx hb dX11_mark_42 rfl (lv_at hl 0 rfl) ?_
  refine h_geti (C := RX11) (T := TX11) (N := 23) hx hb hts inX11 hown hK hT2 (hM.o rfl) rfl 2 rfl wF_X11_285 rfl dX11_mark_43 (fun p8 => ?_)
  refine h_top (v := 1) (h_pu hu2) ?_
  refine h_callVi (T := TX11) (rest := []) (As := [.int 1]) hx hb hml hown hts hK hT2 hZ (fun _ h => h) hS2 (c_X11_gives l G Y P (o) hM 1) trivial wd_X11_gives wV_X11_gives wL_X11_276 (hM.o rfl) rfl rfl hl.1 rfl (Nat.le_of_ble_eq_true rfl) dX11_mark_46 ⟨Nat.le_of_ble_eq_true rfl, Nat.le_of_ble_eq_true rfl⟩ ⟨Nat.zero_le _, Nat.zero_le _⟩ (fun r9 H3 locs hp3 hT3 hS3 hk3 => ?_)
  obtain ⟨hp3, hB3⟩ := hp3
  have z10 : H3[o + 1]? = H1[o + 1]? := hB3.trans z6
  have R11 : mR o H3 := R7.same hB3
  have f12 : r9.toInt = (1 : Int) := hp3.1
  exact hret _ _ _ _ _ hT3 hS3 ⟨⟨(show r9.toInt = 1 from by omega), (hp3.2.trans (h_pu hu2))⟩, ⟨R11, fun j hj => (h_ai_same z10).trans (hB1.1 j hj), fun j hj => (h_ai_same z10).trans (hB1.2.1 j hj)⟩⟩ dX11_mark_49
set_option maxHeartbeats 4000000 in
set_option maxRecDepth 100000 in
theorem c_mback0 (l : Launch) (G : hG) (Y : hW) (P : Int32 → Prop) (o : Nat) (hM : h_On Y o (modE (tM P) o)) (hPP : ∀ x, P x) : hMi l yX11_back cX11_back 1 (some .int) 1 21 G Y [.ref (o)] (fun H => (mR o H) ∧ (h_gi G H 11 o 2 = 0)) (fun H r H1 => (r.toInt = (-1) ∧ h_gi G H1 11 o 2 = 0) ∧ (mR o H1 ∧ mV o H H1)) := by
  refine h_ofi (by decide +kernel) (Nat.le_of_ble_eq_true rfl) ?_
  intro p e s m args below meth c H0 ls Q hx hb hts hown hml hK hZ hT0 hpr hS0 hl hret
  have hl : lv_has ls 1 [(0, .ref (o))] := hl
  refine lv_aload_n hx hb dX11_back_0 rfl (lv_at hl 0 rfl) ?_
  refine h_geti (C := RX11) (T := TX11) (N := 23) hx hb hts inX11 hown hK hT0 (hM.o rfl) rfl 2 rfl wF_X11_285 rfl dX11_back_1 (fun p1 => ?_)
  refine h_top (v := 0) hpr.2 ?_
  refine lv_if_ne (tgt := 13) hx hb dX11_back_4 (by decide) (fun h => absurd (by decide) h) (fun _ => ?_)
  refine lv_aload_n hx hb dX11_back_7 rfl (lv_at hl 0 rfl) ?_
  refine lv_iconst (v := 5) hx hb dX11_back_8 (by decide) ?_
  refine h_callVi (T := TX11) (rest := []) (As := [.int 5]) hx hb hml hown hts hK hT0 hZ (fun _ h => h) hS0 (c_X11_refuse l G Y P (o) hM 5) trivial wd_X11_refuse wV_X11_refuse wL_X11_267 (hM.o rfl) rfl rfl hl.1 rfl (Nat.le_of_ble_eq_true rfl) dX11_back_9 ⟨Nat.le_of_ble_eq_true rfl, Nat.le_of_ble_eq_true rfl⟩ ⟨Nat.zero_le _, Nat.zero_le _⟩ (fun r3 H1 locs hp1 hT1 hS1 hk1 => ?_)
  obtain ⟨hp1, hB1⟩ := hp1
  have z4 : ∀ j : Nat, 1200 ≤ j → h_ai H1 (o + 1) j = h_ai H0 (o + 1) j := fun j hj => (h_ai_same hB1)
  have R5 : mR o H1 := hpr.1.same hB1
  have f6 : r3.toInt = (-1) := hp1.1
  exact hret _ _ _ _ _ hT1 hS1 ⟨⟨(show r3.toInt = (-1) from by omega), (hp1.2.trans hpr.2)⟩, ⟨R5, z4⟩⟩ dX11_back_12
set_option maxHeartbeats 4000000 in
set_option maxRecDepth 100000 in
theorem c_mmark1 (l : Launch) (G : hG) (Y : hW) (P : Int32 → Prop) (o : Nat) (hM : h_On Y o (modE (tM P) o)) (hPP : ∀ x, P x) : hMi l yX11_mark cX11_mark 1 (some .int) 1 23 G Y [.ref (o)] (fun H => (mR o H) ∧ (h_gi G H 11 o 2 = 1)) (fun H r H1 => (r.toInt = 2 ∧ h_gi G H1 11 o 2 = 2) ∧ (mR o H1 ∧ (∀ j : Nat, j < 600 → h_ai H1 (o + 1) (600 * 3 + j) = h_ai H (o + 1) (600 * 0 + j)) ∧ (∀ j : Nat, (j < 600 * 3 ∨ 600 * 3 + 600 ≤ j) → h_ai H1 (o + 1) j = h_ai H (o + 1) j))) := by
  refine h_ofi (by decide +kernel) (Nat.le_of_ble_eq_true rfl) ?_
  intro p e s m args below meth c H0 ls Q hx hb hts hown hml hK hZ hT0 hpr hS0 hl hret
  have hl : lv_has ls 1 [(0, .ref (o))] := hl
  refine lv_aload_n hx hb dX11_mark_0 rfl (lv_at hl 0 rfl) ?_
  refine h_geti (C := RX11) (T := TX11) (N := 23) hx hb hts inX11 hown hK hT0 (hM.o rfl) rfl 2 rfl wF_X11_285 rfl dX11_mark_1 (fun p1 => ?_)
  refine h_top (v := 1) hpr.2 ?_
  refine lv_iconst (v := 4) hx hb dX11_mark_4 (by decide) ?_
  refine lv_icmp_ne (tgt := 14) hx hb dX11_mark_5 (by decide) (fun _ => ?_) (fun h => absurd h (by decide))
  refine lv_aload_n hx hb dX11_mark_14 rfl (lv_at hl 0 rfl) ?_
  refine lv_iconst (v := 0) hx hb dX11_mark_15 (by decide) ?_
  refine lv_sipush (v := 1200) hx hb dX11_mark_16 (by decide) ?_
  refine lv_sipush (v := 600) hx hb dX11_mark_19 (by decide) ?_
  refine lv_aload_n hx hb dX11_mark_22 rfl (lv_at hl 0 rfl) ?_
  refine h_geti (C := RX11) (T := TX11) (N := 23) hx hb hts inX11 hown hK hT0 (hM.o rfl) rfl 2 rfl wF_X11_285 rfl dX11_mark_23 (fun p3 => ?_)
  refine h_top (v := 1) hpr.2 ?_
  refine lv_imul hx hb dX11_mark_26 ?_
  refine h_top (v := 600) (by decide) ?_
  refine lv_iadd hx hb dX11_mark_27 ?_
  refine h_top (v := 1800) (by decide) ?_
  refine h_callVv (T := TX11) (rest := []) (As := [.int 0, .int 1800]) hx hb hml hown hts hK hT0 hZ (fun _ h => h) hS0 (c_X11_copies l G Y P (o) hM 0 1800 0 3 (by decide) (by decide) (by decide) (by decide)) trivial wd_X11_copies wV_X11_copies wL_X11_270 (hM.o rfl) rfl rfl hl.1 rfl (Nat.le_of_ble_eq_true rfl) dX11_mark_28 ⟨Nat.le_of_ble_eq_true rfl, Nat.le_of_ble_eq_true rfl⟩ ⟨Nat.zero_le _, Nat.zero_le _⟩ (fun H1 locs hp1 hT1 hS1 hk1 => ?_)
  obtain ⟨hp1, hB1⟩ := hp1
  have R4 : mR o H1 := mR_low6 hpr.1 (fun j hj => hB1.2.1 j (by omega))
  refine lv_aload_n hx hb dX11_mark_31 rfl (lv_at hl 0 rfl) ?_
  refine lv_dup hx hb dX11_mark_32 rfl ?_
  refine h_geti (C := RX11) (T := TX11) (N := 23) hx hb hts inX11 hown hK hT1 (hM.o rfl) rfl 2 rfl wF_X11_285 rfl dX11_mark_33 (fun p5 => ?_)
  refine h_top (v := 1) ((h_gi_same (hB1.2.2 o (by omega))).trans hpr.2) ?_
  refine lv_iconst (v := 1) hx hb dX11_mark_36 (by decide) ?_
  refine lv_iadd hx hb dX11_mark_37 ?_
  refine h_top (v := 2) (by decide) ?_
  refine h_puti (C := RX11) (T := TX11) (N := 23) hx hb hts inX11 tyX11 tyX11_ok nmX11 hown hK hT1 (fun _ h => h) hS1 (hM.o rfl) rfl 2 rfl wF_X11_285 rfl rfl (hPP _) rfl rfl dX11_mark_38 (fun H2 locs hT2 hS2 hu2 => ?_)
  have z6 : H2[o + 1]? = H1[o + 1]? := (hu2.2.1 (o + 1) (by omega))
  have R7 : mR o H2 := R4.same (hu2.2.1 (o + 1) (by omega))
  refine lv_aload_n hx hb dX11_mark_41 rfl (lv_at hl 0 rfl) ?_
  refine lv_aload_n hx hb dX11_mark_42 rfl (lv_at hl 0 rfl) ?_
  refine h_geti (C := RX11) (T := TX11) (N := 23) hx hb hts inX11 hown hK hT2 (hM.o rfl) rfl 2 rfl wF_X11_285 rfl dX11_mark_43 (fun p8 => ?_)
  refine h_top (v := 2) (h_pu hu2) ?_
  refine h_callVi (T := TX11) (rest := []) (As := [.int 2]) hx hb hml hown hts hK hT2 hZ (fun _ h => h) hS2 (c_X11_gives l G Y P (o) hM 2) trivial wd_X11_gives wV_X11_gives wL_X11_276 (hM.o rfl) rfl rfl hl.1 rfl (Nat.le_of_ble_eq_true rfl) dX11_mark_46 ⟨Nat.le_of_ble_eq_true rfl, Nat.le_of_ble_eq_true rfl⟩ ⟨Nat.zero_le _, Nat.zero_le _⟩ (fun r9 H3 locs hp3 hT3 hS3 hk3 => ?_)
  obtain ⟨hp3, hB3⟩ := hp3
  have z10 : H3[o + 1]? = H1[o + 1]? := hB3.trans z6
  have R11 : mR o H3 := R7.same hB3
  have f12 : r9.toInt = (2 : Int) := hp3.1
  exact hret _ _ _ _ _ hT3 hS3 ⟨⟨(show r9.toInt = 2 from by omega), (hp3.2.trans (h_pu hu2))⟩, ⟨R11, fun j hj => (h_ai_same z10).trans (hB1.1 j hj), fun j hj => (h_ai_same z10).trans (hB1.2.1 j hj)⟩⟩ dX11_mark_49
set_option maxHeartbeats 4000000 in
set_option maxRecDepth 100000 in
theorem c_mback1 (l : Launch) (G : hG) (Y : hW) (P : Int32 → Prop) (o : Nat) (hM : h_On Y o (modE (tM P) o)) (hPP : ∀ x, P x) : hMi l yX11_back cX11_back 1 (some .int) 1 23 G Y [.ref (o)] (fun H => (mR o H) ∧ (h_gi G H 11 o 2 = 1 ∧ mRa o H (600 * 2))) (fun H r H1 => (r.toInt = 0 ∧ h_gi G H1 11 o 2 = 0) ∧ (mR o H1 ∧ mV o H H1)) := by
  refine h_ofi (by decide +kernel) (Nat.le_of_ble_eq_true rfl) ?_
  intro p e s m args below meth c H0 ls Q hx hb hts hown hml hK hZ hT0 hpr hS0 hl hret
  have hl : lv_has ls 1 [(0, .ref (o))] := hl
  refine lv_aload_n hx hb dX11_back_0 rfl (lv_at hl 0 rfl) ?_
  refine h_geti (C := RX11) (T := TX11) (N := 23) hx hb hts inX11 hown hK hT0 (hM.o rfl) rfl 2 rfl wF_X11_285 rfl dX11_back_1 (fun p1 => ?_)
  refine h_top (v := 1) hpr.2.1 ?_
  refine lv_if_ne (tgt := 13) hx hb dX11_back_4 (by decide) (fun _ => ?_) (fun h => absurd h (by decide))
  refine lv_aload_n hx hb dX11_back_13 rfl (lv_at hl 0 rfl) ?_
  refine lv_dup hx hb dX11_back_14 rfl ?_
  refine h_geti (C := RX11) (T := TX11) (N := 23) hx hb hts inX11 hown hK hT0 (hM.o rfl) rfl 2 rfl wF_X11_285 rfl dX11_back_15 (fun p3 => ?_)
  refine h_top (v := 1) hpr.2.1 ?_
  refine lv_iconst (v := 1) hx hb dX11_back_18 (by decide) ?_
  refine lv_isub hx hb dX11_back_19 ?_
  refine h_top (v := 0) (by decide) ?_
  refine h_puti (C := RX11) (T := TX11) (N := 23) hx hb hts inX11 tyX11 tyX11_ok nmX11 hown hK hT0 (fun _ h => h) hS0 (hM.o rfl) rfl 2 rfl wF_X11_285 rfl rfl (hPP _) rfl rfl dX11_back_20 (fun H1 locs hT1 hS1 hu1 => ?_)
  have z4 : ∀ j : Nat, 1200 ≤ j → h_ai H1 (o + 1) j = h_ai H0 (o + 1) j := fun j hj => (h_ai_same (hu1.2.1 (o + 1) (by omega)))
  have R5 : mR o H1 := hpr.1.same (hu1.2.1 (o + 1) (by omega))
  refine lv_aload_n hx hb dX11_back_23 rfl (lv_at hl 0 rfl) ?_
  refine lv_sipush (v := 1200) hx hb dX11_back_24 (by decide) ?_
  refine lv_sipush (v := 600) hx hb dX11_back_27 (by decide) ?_
  refine lv_aload_n hx hb dX11_back_30 rfl (lv_at hl 0 rfl) ?_
  refine h_geti (C := RX11) (T := TX11) (N := 23) hx hb hts inX11 hown hK hT1 (hM.o rfl) rfl 2 rfl wF_X11_285 rfl dX11_back_31 (fun p6 => ?_)
  refine h_top (v := 0) (h_pu hu1) ?_
  refine lv_imul hx hb dX11_back_34 ?_
  refine h_top (v := 0) (by decide) ?_
  refine lv_iadd hx hb dX11_back_35 ?_
  refine h_top (v := 1200) (by decide) ?_
  refine lv_iconst (v := 0) hx hb dX11_back_36 (by decide) ?_
  refine h_callVv (T := TX11) (rest := []) (As := [.int 1200, .int 0]) hx hb hml hown hts hK hT1 hZ (fun _ h => h) hS1 (c_X11_copies l G Y P (o) hM 1200 0 2 0 (by decide) (by decide) (by decide) (by decide)) trivial wd_X11_copies wV_X11_copies wL_X11_270 (hM.o rfl) rfl rfl hl.1 rfl (Nat.le_of_ble_eq_true rfl) dX11_back_37 ⟨Nat.le_of_ble_eq_true rfl, Nat.le_of_ble_eq_true rfl⟩ ⟨Nat.zero_le _, Nat.zero_le _⟩ (fun H2 locs hp2 hT2 hS2 hk2 => ?_)
  obtain ⟨hp2, hB2⟩ := hp2
  have z7 : ∀ j : Nat, 1200 ≤ j → h_ai H2 (o + 1) j = h_ai H0 (o + 1) j := fun j hj => (hB2.2.1 j (by omega)).trans (z4 j hj)
  have R8 : mR o H2 := mR_copyk (hpr.2.2.kept (fun j hj => z4 _ (by omega))) hB2.1
  refine lv_aload_n hx hb dX11_back_40 rfl (lv_at hl 0 rfl) ?_
  refine lv_aload_n hx hb dX11_back_41 rfl (lv_at hl 0 rfl) ?_
  refine h_geti (C := RX11) (T := TX11) (N := 23) hx hb hts inX11 hown hK hT2 (hM.o rfl) rfl 2 rfl wF_X11_285 rfl dX11_back_42 (fun p9 => ?_)
  refine h_top (v := 0) ((h_gi_same (hB2.2.2 o (by omega))).trans (h_pu hu1)) ?_
  refine h_callVi (T := TX11) (rest := []) (As := [.int 0]) hx hb hml hown hts hK hT2 hZ (fun _ h => h) hS2 (c_X11_gives l G Y P (o) hM 0) trivial wd_X11_gives wV_X11_gives wL_X11_276 (hM.o rfl) rfl rfl hl.1 rfl (Nat.le_of_ble_eq_true rfl) dX11_back_45 ⟨Nat.le_of_ble_eq_true rfl, Nat.le_of_ble_eq_true rfl⟩ ⟨Nat.zero_le _, Nat.zero_le _⟩ (fun r10 H3 locs hp3 hT3 hS3 hk3 => ?_)
  obtain ⟨hp3, hB3⟩ := hp3
  have z11 : ∀ j : Nat, 1200 ≤ j → h_ai H3 (o + 1) j = h_ai H0 (o + 1) j := fun j hj => (h_ai_same hB3).trans (z7 j hj)
  have R12 : mR o H3 := R8.same hB3
  have f13 : r10.toInt = (0 : Int) := hp3.1
  exact hret _ _ _ _ _ hT3 hS3 ⟨⟨(show r10.toInt = 0 from by omega), (hp3.2.trans ((h_gi_same (hB2.2.2 o (by omega))).trans (h_pu hu1)))⟩, ⟨R12, z11⟩⟩ dX11_back_48
set_option maxHeartbeats 4000000 in
set_option maxRecDepth 100000 in
theorem c_mmark2 (l : Launch) (G : hG) (Y : hW) (P : Int32 → Prop) (o : Nat) (hM : h_On Y o (modE (tM P) o)) (hPP : ∀ x, P x) : hMi l yX11_mark cX11_mark 1 (some .int) 1 23 G Y [.ref (o)] (fun H => (mR o H) ∧ (h_gi G H 11 o 2 = 2)) (fun H r H1 => (r.toInt = 3 ∧ h_gi G H1 11 o 2 = 3) ∧ (mR o H1 ∧ (∀ j : Nat, j < 600 → h_ai H1 (o + 1) (600 * 4 + j) = h_ai H (o + 1) (600 * 0 + j)) ∧ (∀ j : Nat, (j < 600 * 4 ∨ 600 * 4 + 600 ≤ j) → h_ai H1 (o + 1) j = h_ai H (o + 1) j))) := by
  refine h_ofi (by decide +kernel) (Nat.le_of_ble_eq_true rfl) ?_
  intro p e s m args below meth c H0 ls Q hx hb hts hown hml hK hZ hT0 hpr hS0 hl hret
  have hl : lv_has ls 1 [(0, .ref (o))] := hl
  refine lv_aload_n hx hb dX11_mark_0 rfl (lv_at hl 0 rfl) ?_
  refine h_geti (C := RX11) (T := TX11) (N := 23) hx hb hts inX11 hown hK hT0 (hM.o rfl) rfl 2 rfl wF_X11_285 rfl dX11_mark_1 (fun p1 => ?_)
  refine h_top (v := 2) hpr.2 ?_
  refine lv_iconst (v := 4) hx hb dX11_mark_4 (by decide) ?_
  refine lv_icmp_ne (tgt := 14) hx hb dX11_mark_5 (by decide) (fun _ => ?_) (fun h => absurd h (by decide))
  refine lv_aload_n hx hb dX11_mark_14 rfl (lv_at hl 0 rfl) ?_
  refine lv_iconst (v := 0) hx hb dX11_mark_15 (by decide) ?_
  refine lv_sipush (v := 1200) hx hb dX11_mark_16 (by decide) ?_
  refine lv_sipush (v := 600) hx hb dX11_mark_19 (by decide) ?_
  refine lv_aload_n hx hb dX11_mark_22 rfl (lv_at hl 0 rfl) ?_
  refine h_geti (C := RX11) (T := TX11) (N := 23) hx hb hts inX11 hown hK hT0 (hM.o rfl) rfl 2 rfl wF_X11_285 rfl dX11_mark_23 (fun p3 => ?_)
  refine h_top (v := 2) hpr.2 ?_
  refine lv_imul hx hb dX11_mark_26 ?_
  refine h_top (v := 1200) (by decide) ?_
  refine lv_iadd hx hb dX11_mark_27 ?_
  refine h_top (v := 2400) (by decide) ?_
  refine h_callVv (T := TX11) (rest := []) (As := [.int 0, .int 2400]) hx hb hml hown hts hK hT0 hZ (fun _ h => h) hS0 (c_X11_copies l G Y P (o) hM 0 2400 0 4 (by decide) (by decide) (by decide) (by decide)) trivial wd_X11_copies wV_X11_copies wL_X11_270 (hM.o rfl) rfl rfl hl.1 rfl (Nat.le_of_ble_eq_true rfl) dX11_mark_28 ⟨Nat.le_of_ble_eq_true rfl, Nat.le_of_ble_eq_true rfl⟩ ⟨Nat.zero_le _, Nat.zero_le _⟩ (fun H1 locs hp1 hT1 hS1 hk1 => ?_)
  obtain ⟨hp1, hB1⟩ := hp1
  have R4 : mR o H1 := mR_low6 hpr.1 (fun j hj => hB1.2.1 j (by omega))
  refine lv_aload_n hx hb dX11_mark_31 rfl (lv_at hl 0 rfl) ?_
  refine lv_dup hx hb dX11_mark_32 rfl ?_
  refine h_geti (C := RX11) (T := TX11) (N := 23) hx hb hts inX11 hown hK hT1 (hM.o rfl) rfl 2 rfl wF_X11_285 rfl dX11_mark_33 (fun p5 => ?_)
  refine h_top (v := 2) ((h_gi_same (hB1.2.2 o (by omega))).trans hpr.2) ?_
  refine lv_iconst (v := 1) hx hb dX11_mark_36 (by decide) ?_
  refine lv_iadd hx hb dX11_mark_37 ?_
  refine h_top (v := 3) (by decide) ?_
  refine h_puti (C := RX11) (T := TX11) (N := 23) hx hb hts inX11 tyX11 tyX11_ok nmX11 hown hK hT1 (fun _ h => h) hS1 (hM.o rfl) rfl 2 rfl wF_X11_285 rfl rfl (hPP _) rfl rfl dX11_mark_38 (fun H2 locs hT2 hS2 hu2 => ?_)
  have z6 : H2[o + 1]? = H1[o + 1]? := (hu2.2.1 (o + 1) (by omega))
  have R7 : mR o H2 := R4.same (hu2.2.1 (o + 1) (by omega))
  refine lv_aload_n hx hb dX11_mark_41 rfl (lv_at hl 0 rfl) ?_
  refine lv_aload_n hx hb dX11_mark_42 rfl (lv_at hl 0 rfl) ?_
  refine h_geti (C := RX11) (T := TX11) (N := 23) hx hb hts inX11 hown hK hT2 (hM.o rfl) rfl 2 rfl wF_X11_285 rfl dX11_mark_43 (fun p8 => ?_)
  refine h_top (v := 3) (h_pu hu2) ?_
  refine h_callVi (T := TX11) (rest := []) (As := [.int 3]) hx hb hml hown hts hK hT2 hZ (fun _ h => h) hS2 (c_X11_gives l G Y P (o) hM 3) trivial wd_X11_gives wV_X11_gives wL_X11_276 (hM.o rfl) rfl rfl hl.1 rfl (Nat.le_of_ble_eq_true rfl) dX11_mark_46 ⟨Nat.le_of_ble_eq_true rfl, Nat.le_of_ble_eq_true rfl⟩ ⟨Nat.zero_le _, Nat.zero_le _⟩ (fun r9 H3 locs hp3 hT3 hS3 hk3 => ?_)
  obtain ⟨hp3, hB3⟩ := hp3
  have z10 : H3[o + 1]? = H1[o + 1]? := hB3.trans z6
  have R11 : mR o H3 := R7.same hB3
  have f12 : r9.toInt = (3 : Int) := hp3.1
  exact hret _ _ _ _ _ hT3 hS3 ⟨⟨(show r9.toInt = 3 from by omega), (hp3.2.trans (h_pu hu2))⟩, ⟨R11, fun j hj => (h_ai_same z10).trans (hB1.1 j hj), fun j hj => (h_ai_same z10).trans (hB1.2.1 j hj)⟩⟩ dX11_mark_49
set_option maxHeartbeats 4000000 in
set_option maxRecDepth 100000 in
theorem c_mback2 (l : Launch) (G : hG) (Y : hW) (P : Int32 → Prop) (o : Nat) (hM : h_On Y o (modE (tM P) o)) (hPP : ∀ x, P x) : hMi l yX11_back cX11_back 1 (some .int) 1 23 G Y [.ref (o)] (fun H => (mR o H) ∧ (h_gi G H 11 o 2 = 2 ∧ mRa o H (600 * 3))) (fun H r H1 => (r.toInt = 1 ∧ h_gi G H1 11 o 2 = 1) ∧ (mR o H1 ∧ mV o H H1)) := by
  refine h_ofi (by decide +kernel) (Nat.le_of_ble_eq_true rfl) ?_
  intro p e s m args below meth c H0 ls Q hx hb hts hown hml hK hZ hT0 hpr hS0 hl hret
  have hl : lv_has ls 1 [(0, .ref (o))] := hl
  refine lv_aload_n hx hb dX11_back_0 rfl (lv_at hl 0 rfl) ?_
  refine h_geti (C := RX11) (T := TX11) (N := 23) hx hb hts inX11 hown hK hT0 (hM.o rfl) rfl 2 rfl wF_X11_285 rfl dX11_back_1 (fun p1 => ?_)
  refine h_top (v := 2) hpr.2.1 ?_
  refine lv_if_ne (tgt := 13) hx hb dX11_back_4 (by decide) (fun _ => ?_) (fun h => absurd h (by decide))
  refine lv_aload_n hx hb dX11_back_13 rfl (lv_at hl 0 rfl) ?_
  refine lv_dup hx hb dX11_back_14 rfl ?_
  refine h_geti (C := RX11) (T := TX11) (N := 23) hx hb hts inX11 hown hK hT0 (hM.o rfl) rfl 2 rfl wF_X11_285 rfl dX11_back_15 (fun p3 => ?_)
  refine h_top (v := 2) hpr.2.1 ?_
  refine lv_iconst (v := 1) hx hb dX11_back_18 (by decide) ?_
  refine lv_isub hx hb dX11_back_19 ?_
  refine h_top (v := 1) (by decide) ?_
  refine h_puti (C := RX11) (T := TX11) (N := 23) hx hb hts inX11 tyX11 tyX11_ok nmX11 hown hK hT0 (fun _ h => h) hS0 (hM.o rfl) rfl 2 rfl wF_X11_285 rfl rfl (hPP _) rfl rfl dX11_back_20 (fun H1 locs hT1 hS1 hu1 => ?_)
  have z4 : ∀ j : Nat, 1200 ≤ j → h_ai H1 (o + 1) j = h_ai H0 (o + 1) j := fun j hj => (h_ai_same (hu1.2.1 (o + 1) (by omega)))
  have R5 : mR o H1 := hpr.1.same (hu1.2.1 (o + 1) (by omega))
  refine lv_aload_n hx hb dX11_back_23 rfl (lv_at hl 0 rfl) ?_
  refine lv_sipush (v := 1200) hx hb dX11_back_24 (by decide) ?_
  refine lv_sipush (v := 600) hx hb dX11_back_27 (by decide) ?_
  refine lv_aload_n hx hb dX11_back_30 rfl (lv_at hl 0 rfl) ?_
  refine h_geti (C := RX11) (T := TX11) (N := 23) hx hb hts inX11 hown hK hT1 (hM.o rfl) rfl 2 rfl wF_X11_285 rfl dX11_back_31 (fun p6 => ?_)
  refine h_top (v := 1) (h_pu hu1) ?_
  refine lv_imul hx hb dX11_back_34 ?_
  refine h_top (v := 600) (by decide) ?_
  refine lv_iadd hx hb dX11_back_35 ?_
  refine h_top (v := 1800) (by decide) ?_
  refine lv_iconst (v := 0) hx hb dX11_back_36 (by decide) ?_
  refine h_callVv (T := TX11) (rest := []) (As := [.int 1800, .int 0]) hx hb hml hown hts hK hT1 hZ (fun _ h => h) hS1 (c_X11_copies l G Y P (o) hM 1800 0 3 0 (by decide) (by decide) (by decide) (by decide)) trivial wd_X11_copies wV_X11_copies wL_X11_270 (hM.o rfl) rfl rfl hl.1 rfl (Nat.le_of_ble_eq_true rfl) dX11_back_37 ⟨Nat.le_of_ble_eq_true rfl, Nat.le_of_ble_eq_true rfl⟩ ⟨Nat.zero_le _, Nat.zero_le _⟩ (fun H2 locs hp2 hT2 hS2 hk2 => ?_)
  obtain ⟨hp2, hB2⟩ := hp2
  have z7 : ∀ j : Nat, 1200 ≤ j → h_ai H2 (o + 1) j = h_ai H0 (o + 1) j := fun j hj => (hB2.2.1 j (by omega)).trans (z4 j hj)
  have R8 : mR o H2 := mR_copyk (hpr.2.2.kept (fun j hj => z4 _ (by omega))) hB2.1
  refine lv_aload_n hx hb dX11_back_40 rfl (lv_at hl 0 rfl) ?_
  refine lv_aload_n hx hb dX11_back_41 rfl (lv_at hl 0 rfl) ?_
  refine h_geti (C := RX11) (T := TX11) (N := 23) hx hb hts inX11 hown hK hT2 (hM.o rfl) rfl 2 rfl wF_X11_285 rfl dX11_back_42 (fun p9 => ?_)
  refine h_top (v := 1) ((h_gi_same (hB2.2.2 o (by omega))).trans (h_pu hu1)) ?_
  refine h_callVi (T := TX11) (rest := []) (As := [.int 1]) hx hb hml hown hts hK hT2 hZ (fun _ h => h) hS2 (c_X11_gives l G Y P (o) hM 1) trivial wd_X11_gives wV_X11_gives wL_X11_276 (hM.o rfl) rfl rfl hl.1 rfl (Nat.le_of_ble_eq_true rfl) dX11_back_45 ⟨Nat.le_of_ble_eq_true rfl, Nat.le_of_ble_eq_true rfl⟩ ⟨Nat.zero_le _, Nat.zero_le _⟩ (fun r10 H3 locs hp3 hT3 hS3 hk3 => ?_)
  obtain ⟨hp3, hB3⟩ := hp3
  have z11 : ∀ j : Nat, 1200 ≤ j → h_ai H3 (o + 1) j = h_ai H0 (o + 1) j := fun j hj => (h_ai_same hB3).trans (z7 j hj)
  have R12 : mR o H3 := R8.same hB3
  have f13 : r10.toInt = (1 : Int) := hp3.1
  exact hret _ _ _ _ _ hT3 hS3 ⟨⟨(show r10.toInt = 1 from by omega), (hp3.2.trans ((h_gi_same (hB2.2.2 o (by omega))).trans (h_pu hu1)))⟩, ⟨R12, z11⟩⟩ dX11_back_48
set_option maxHeartbeats 4000000 in
set_option maxRecDepth 100000 in
theorem c_mmark3 (l : Launch) (G : hG) (Y : hW) (P : Int32 → Prop) (o : Nat) (hM : h_On Y o (modE (tM P) o)) (hPP : ∀ x, P x) : hMi l yX11_mark cX11_mark 1 (some .int) 1 23 G Y [.ref (o)] (fun H => (mR o H) ∧ (h_gi G H 11 o 2 = 3)) (fun H r H1 => (r.toInt = 4 ∧ h_gi G H1 11 o 2 = 4) ∧ (mR o H1 ∧ (∀ j : Nat, j < 600 → h_ai H1 (o + 1) (600 * 5 + j) = h_ai H (o + 1) (600 * 0 + j)) ∧ (∀ j : Nat, (j < 600 * 5 ∨ 600 * 5 + 600 ≤ j) → h_ai H1 (o + 1) j = h_ai H (o + 1) j))) := by
  refine h_ofi (by decide +kernel) (Nat.le_of_ble_eq_true rfl) ?_
  intro p e s m args below meth c H0 ls Q hx hb hts hown hml hK hZ hT0 hpr hS0 hl hret
  have hl : lv_has ls 1 [(0, .ref (o))] := hl
  refine lv_aload_n hx hb dX11_mark_0 rfl (lv_at hl 0 rfl) ?_
  refine h_geti (C := RX11) (T := TX11) (N := 23) hx hb hts inX11 hown hK hT0 (hM.o rfl) rfl 2 rfl wF_X11_285 rfl dX11_mark_1 (fun p1 => ?_)
  refine h_top (v := 3) hpr.2 ?_
  refine lv_iconst (v := 4) hx hb dX11_mark_4 (by decide) ?_
  refine lv_icmp_ne (tgt := 14) hx hb dX11_mark_5 (by decide) (fun _ => ?_) (fun h => absurd h (by decide))
  refine lv_aload_n hx hb dX11_mark_14 rfl (lv_at hl 0 rfl) ?_
  refine lv_iconst (v := 0) hx hb dX11_mark_15 (by decide) ?_
  refine lv_sipush (v := 1200) hx hb dX11_mark_16 (by decide) ?_
  refine lv_sipush (v := 600) hx hb dX11_mark_19 (by decide) ?_
  refine lv_aload_n hx hb dX11_mark_22 rfl (lv_at hl 0 rfl) ?_
  refine h_geti (C := RX11) (T := TX11) (N := 23) hx hb hts inX11 hown hK hT0 (hM.o rfl) rfl 2 rfl wF_X11_285 rfl dX11_mark_23 (fun p3 => ?_)
  refine h_top (v := 3) hpr.2 ?_
  refine lv_imul hx hb dX11_mark_26 ?_
  refine h_top (v := 1800) (by decide) ?_
  refine lv_iadd hx hb dX11_mark_27 ?_
  refine h_top (v := 3000) (by decide) ?_
  refine h_callVv (T := TX11) (rest := []) (As := [.int 0, .int 3000]) hx hb hml hown hts hK hT0 hZ (fun _ h => h) hS0 (c_X11_copies l G Y P (o) hM 0 3000 0 5 (by decide) (by decide) (by decide) (by decide)) trivial wd_X11_copies wV_X11_copies wL_X11_270 (hM.o rfl) rfl rfl hl.1 rfl (Nat.le_of_ble_eq_true rfl) dX11_mark_28 ⟨Nat.le_of_ble_eq_true rfl, Nat.le_of_ble_eq_true rfl⟩ ⟨Nat.zero_le _, Nat.zero_le _⟩ (fun H1 locs hp1 hT1 hS1 hk1 => ?_)
  obtain ⟨hp1, hB1⟩ := hp1
  have R4 : mR o H1 := mR_low6 hpr.1 (fun j hj => hB1.2.1 j (by omega))
  refine lv_aload_n hx hb dX11_mark_31 rfl (lv_at hl 0 rfl) ?_
  refine lv_dup hx hb dX11_mark_32 rfl ?_
  refine h_geti (C := RX11) (T := TX11) (N := 23) hx hb hts inX11 hown hK hT1 (hM.o rfl) rfl 2 rfl wF_X11_285 rfl dX11_mark_33 (fun p5 => ?_)
  refine h_top (v := 3) ((h_gi_same (hB1.2.2 o (by omega))).trans hpr.2) ?_
  refine lv_iconst (v := 1) hx hb dX11_mark_36 (by decide) ?_
  refine lv_iadd hx hb dX11_mark_37 ?_
  refine h_top (v := 4) (by decide) ?_
  refine h_puti (C := RX11) (T := TX11) (N := 23) hx hb hts inX11 tyX11 tyX11_ok nmX11 hown hK hT1 (fun _ h => h) hS1 (hM.o rfl) rfl 2 rfl wF_X11_285 rfl rfl (hPP _) rfl rfl dX11_mark_38 (fun H2 locs hT2 hS2 hu2 => ?_)
  have z6 : H2[o + 1]? = H1[o + 1]? := (hu2.2.1 (o + 1) (by omega))
  have R7 : mR o H2 := R4.same (hu2.2.1 (o + 1) (by omega))
  refine lv_aload_n hx hb dX11_mark_41 rfl (lv_at hl 0 rfl) ?_
  refine lv_aload_n hx hb dX11_mark_42 rfl (lv_at hl 0 rfl) ?_
  refine h_geti (C := RX11) (T := TX11) (N := 23) hx hb hts inX11 hown hK hT2 (hM.o rfl) rfl 2 rfl wF_X11_285 rfl dX11_mark_43 (fun p8 => ?_)
  refine h_top (v := 4) (h_pu hu2) ?_
  refine h_callVi (T := TX11) (rest := []) (As := [.int 4]) hx hb hml hown hts hK hT2 hZ (fun _ h => h) hS2 (c_X11_gives l G Y P (o) hM 4) trivial wd_X11_gives wV_X11_gives wL_X11_276 (hM.o rfl) rfl rfl hl.1 rfl (Nat.le_of_ble_eq_true rfl) dX11_mark_46 ⟨Nat.le_of_ble_eq_true rfl, Nat.le_of_ble_eq_true rfl⟩ ⟨Nat.zero_le _, Nat.zero_le _⟩ (fun r9 H3 locs hp3 hT3 hS3 hk3 => ?_)
  obtain ⟨hp3, hB3⟩ := hp3
  have z10 : H3[o + 1]? = H1[o + 1]? := hB3.trans z6
  have R11 : mR o H3 := R7.same hB3
  have f12 : r9.toInt = (4 : Int) := hp3.1
  exact hret _ _ _ _ _ hT3 hS3 ⟨⟨(show r9.toInt = 4 from by omega), (hp3.2.trans (h_pu hu2))⟩, ⟨R11, fun j hj => (h_ai_same z10).trans (hB1.1 j hj), fun j hj => (h_ai_same z10).trans (hB1.2.1 j hj)⟩⟩ dX11_mark_49
set_option maxHeartbeats 4000000 in
set_option maxRecDepth 100000 in
theorem c_mback3 (l : Launch) (G : hG) (Y : hW) (P : Int32 → Prop) (o : Nat) (hM : h_On Y o (modE (tM P) o)) (hPP : ∀ x, P x) : hMi l yX11_back cX11_back 1 (some .int) 1 23 G Y [.ref (o)] (fun H => (mR o H) ∧ (h_gi G H 11 o 2 = 3 ∧ mRa o H (600 * 4))) (fun H r H1 => (r.toInt = 2 ∧ h_gi G H1 11 o 2 = 2) ∧ (mR o H1 ∧ mV o H H1)) := by
  refine h_ofi (by decide +kernel) (Nat.le_of_ble_eq_true rfl) ?_
  intro p e s m args below meth c H0 ls Q hx hb hts hown hml hK hZ hT0 hpr hS0 hl hret
  have hl : lv_has ls 1 [(0, .ref (o))] := hl
  refine lv_aload_n hx hb dX11_back_0 rfl (lv_at hl 0 rfl) ?_
  refine h_geti (C := RX11) (T := TX11) (N := 23) hx hb hts inX11 hown hK hT0 (hM.o rfl) rfl 2 rfl wF_X11_285 rfl dX11_back_1 (fun p1 => ?_)
  refine h_top (v := 3) hpr.2.1 ?_
  refine lv_if_ne (tgt := 13) hx hb dX11_back_4 (by decide) (fun _ => ?_) (fun h => absurd h (by decide))
  refine lv_aload_n hx hb dX11_back_13 rfl (lv_at hl 0 rfl) ?_
  refine lv_dup hx hb dX11_back_14 rfl ?_
  refine h_geti (C := RX11) (T := TX11) (N := 23) hx hb hts inX11 hown hK hT0 (hM.o rfl) rfl 2 rfl wF_X11_285 rfl dX11_back_15 (fun p3 => ?_)
  refine h_top (v := 3) hpr.2.1 ?_
  refine lv_iconst (v := 1) hx hb dX11_back_18 (by decide) ?_
  refine lv_isub hx hb dX11_back_19 ?_
  refine h_top (v := 2) (by decide) ?_
  refine h_puti (C := RX11) (T := TX11) (N := 23) hx hb hts inX11 tyX11 tyX11_ok nmX11 hown hK hT0 (fun _ h => h) hS0 (hM.o rfl) rfl 2 rfl wF_X11_285 rfl rfl (hPP _) rfl rfl dX11_back_20 (fun H1 locs hT1 hS1 hu1 => ?_)
  have z4 : ∀ j : Nat, 1200 ≤ j → h_ai H1 (o + 1) j = h_ai H0 (o + 1) j := fun j hj => (h_ai_same (hu1.2.1 (o + 1) (by omega)))
  have R5 : mR o H1 := hpr.1.same (hu1.2.1 (o + 1) (by omega))
  refine lv_aload_n hx hb dX11_back_23 rfl (lv_at hl 0 rfl) ?_
  refine lv_sipush (v := 1200) hx hb dX11_back_24 (by decide) ?_
  refine lv_sipush (v := 600) hx hb dX11_back_27 (by decide) ?_
  refine lv_aload_n hx hb dX11_back_30 rfl (lv_at hl 0 rfl) ?_
  refine h_geti (C := RX11) (T := TX11) (N := 23) hx hb hts inX11 hown hK hT1 (hM.o rfl) rfl 2 rfl wF_X11_285 rfl dX11_back_31 (fun p6 => ?_)
  refine h_top (v := 2) (h_pu hu1) ?_
  refine lv_imul hx hb dX11_back_34 ?_
  refine h_top (v := 1200) (by decide) ?_
  refine lv_iadd hx hb dX11_back_35 ?_
  refine h_top (v := 2400) (by decide) ?_
  refine lv_iconst (v := 0) hx hb dX11_back_36 (by decide) ?_
  refine h_callVv (T := TX11) (rest := []) (As := [.int 2400, .int 0]) hx hb hml hown hts hK hT1 hZ (fun _ h => h) hS1 (c_X11_copies l G Y P (o) hM 2400 0 4 0 (by decide) (by decide) (by decide) (by decide)) trivial wd_X11_copies wV_X11_copies wL_X11_270 (hM.o rfl) rfl rfl hl.1 rfl (Nat.le_of_ble_eq_true rfl) dX11_back_37 ⟨Nat.le_of_ble_eq_true rfl, Nat.le_of_ble_eq_true rfl⟩ ⟨Nat.zero_le _, Nat.zero_le _⟩ (fun H2 locs hp2 hT2 hS2 hk2 => ?_)
  obtain ⟨hp2, hB2⟩ := hp2
  have z7 : ∀ j : Nat, 1200 ≤ j → h_ai H2 (o + 1) j = h_ai H0 (o + 1) j := fun j hj => (hB2.2.1 j (by omega)).trans (z4 j hj)
  have R8 : mR o H2 := mR_copyk (hpr.2.2.kept (fun j hj => z4 _ (by omega))) hB2.1
  refine lv_aload_n hx hb dX11_back_40 rfl (lv_at hl 0 rfl) ?_
  refine lv_aload_n hx hb dX11_back_41 rfl (lv_at hl 0 rfl) ?_
  refine h_geti (C := RX11) (T := TX11) (N := 23) hx hb hts inX11 hown hK hT2 (hM.o rfl) rfl 2 rfl wF_X11_285 rfl dX11_back_42 (fun p9 => ?_)
  refine h_top (v := 2) ((h_gi_same (hB2.2.2 o (by omega))).trans (h_pu hu1)) ?_
  refine h_callVi (T := TX11) (rest := []) (As := [.int 2]) hx hb hml hown hts hK hT2 hZ (fun _ h => h) hS2 (c_X11_gives l G Y P (o) hM 2) trivial wd_X11_gives wV_X11_gives wL_X11_276 (hM.o rfl) rfl rfl hl.1 rfl (Nat.le_of_ble_eq_true rfl) dX11_back_45 ⟨Nat.le_of_ble_eq_true rfl, Nat.le_of_ble_eq_true rfl⟩ ⟨Nat.zero_le _, Nat.zero_le _⟩ (fun r10 H3 locs hp3 hT3 hS3 hk3 => ?_)
  obtain ⟨hp3, hB3⟩ := hp3
  have z11 : ∀ j : Nat, 1200 ≤ j → h_ai H3 (o + 1) j = h_ai H0 (o + 1) j := fun j hj => (h_ai_same hB3).trans (z7 j hj)
  have R12 : mR o H3 := R8.same hB3
  have f13 : r10.toInt = (2 : Int) := hp3.1
  exact hret _ _ _ _ _ hT3 hS3 ⟨⟨(show r10.toInt = 2 from by omega), (hp3.2.trans ((h_gi_same (hB2.2.2 o (by omega))).trans (h_pu hu1)))⟩, ⟨R12, z11⟩⟩ dX11_back_48
set_option maxHeartbeats 4000000 in
set_option maxRecDepth 100000 in
theorem c_mmark4 (l : Launch) (G : hG) (Y : hW) (P : Int32 → Prop) (o : Nat) (hM : h_On Y o (modE (tM P) o)) (hPP : ∀ x, P x) : hMi l yX11_mark cX11_mark 1 (some .int) 1 21 G Y [.ref (o)] (fun H => (mR o H) ∧ (h_gi G H 11 o 2 = 4)) (fun H r H1 => (r.toInt = (-1) ∧ h_gi G H1 11 o 2 = 4) ∧ (mR o H1 ∧ mV o H H1)) := by
  refine h_ofi (by decide +kernel) (Nat.le_of_ble_eq_true rfl) ?_
  intro p e s m args below meth c H0 ls Q hx hb hts hown hml hK hZ hT0 hpr hS0 hl hret
  have hl : lv_has ls 1 [(0, .ref (o))] := hl
  refine lv_aload_n hx hb dX11_mark_0 rfl (lv_at hl 0 rfl) ?_
  refine h_geti (C := RX11) (T := TX11) (N := 23) hx hb hts inX11 hown hK hT0 (hM.o rfl) rfl 2 rfl wF_X11_285 rfl dX11_mark_1 (fun p1 => ?_)
  refine h_top (v := 4) hpr.2 ?_
  refine lv_iconst (v := 4) hx hb dX11_mark_4 (by decide) ?_
  refine lv_icmp_ne (tgt := 14) hx hb dX11_mark_5 (by decide) (fun h => absurd (by decide) h) (fun _ => ?_)
  refine lv_aload_n hx hb dX11_mark_8 rfl (lv_at hl 0 rfl) ?_
  refine lv_iconst (v := 3) hx hb dX11_mark_9 (by decide) ?_
  refine h_callVi (T := TX11) (rest := []) (As := [.int 3]) hx hb hml hown hts hK hT0 hZ (fun _ h => h) hS0 (c_X11_refuse l G Y P (o) hM 3) trivial wd_X11_refuse wV_X11_refuse wL_X11_267 (hM.o rfl) rfl rfl hl.1 rfl (Nat.le_of_ble_eq_true rfl) dX11_mark_10 ⟨Nat.le_of_ble_eq_true rfl, Nat.le_of_ble_eq_true rfl⟩ ⟨Nat.zero_le _, Nat.zero_le _⟩ (fun r3 H1 locs hp1 hT1 hS1 hk1 => ?_)
  obtain ⟨hp1, hB1⟩ := hp1
  have z4 : ∀ j : Nat, 1200 ≤ j → h_ai H1 (o + 1) j = h_ai H0 (o + 1) j := fun j hj => (h_ai_same hB1)
  have R5 : mR o H1 := hpr.1.same hB1
  have f6 : r3.toInt = (-1) := hp1.1
  exact hret _ _ _ _ _ hT1 hS1 ⟨⟨(show r3.toInt = (-1) from by omega), (hp1.2.trans hpr.2)⟩, ⟨R5, z4⟩⟩ dX11_mark_13
set_option maxHeartbeats 4000000 in
set_option maxRecDepth 100000 in
theorem c_mback4 (l : Launch) (G : hG) (Y : hW) (P : Int32 → Prop) (o : Nat) (hM : h_On Y o (modE (tM P) o)) (hPP : ∀ x, P x) : hMi l yX11_back cX11_back 1 (some .int) 1 23 G Y [.ref (o)] (fun H => (mR o H) ∧ (h_gi G H 11 o 2 = 4 ∧ mRa o H (600 * 5))) (fun H r H1 => (r.toInt = 3 ∧ h_gi G H1 11 o 2 = 3) ∧ (mR o H1 ∧ mV o H H1)) := by
  refine h_ofi (by decide +kernel) (Nat.le_of_ble_eq_true rfl) ?_
  intro p e s m args below meth c H0 ls Q hx hb hts hown hml hK hZ hT0 hpr hS0 hl hret
  have hl : lv_has ls 1 [(0, .ref (o))] := hl
  refine lv_aload_n hx hb dX11_back_0 rfl (lv_at hl 0 rfl) ?_
  refine h_geti (C := RX11) (T := TX11) (N := 23) hx hb hts inX11 hown hK hT0 (hM.o rfl) rfl 2 rfl wF_X11_285 rfl dX11_back_1 (fun p1 => ?_)
  refine h_top (v := 4) hpr.2.1 ?_
  refine lv_if_ne (tgt := 13) hx hb dX11_back_4 (by decide) (fun _ => ?_) (fun h => absurd h (by decide))
  refine lv_aload_n hx hb dX11_back_13 rfl (lv_at hl 0 rfl) ?_
  refine lv_dup hx hb dX11_back_14 rfl ?_
  refine h_geti (C := RX11) (T := TX11) (N := 23) hx hb hts inX11 hown hK hT0 (hM.o rfl) rfl 2 rfl wF_X11_285 rfl dX11_back_15 (fun p3 => ?_)
  refine h_top (v := 4) hpr.2.1 ?_
  refine lv_iconst (v := 1) hx hb dX11_back_18 (by decide) ?_
  refine lv_isub hx hb dX11_back_19 ?_
  refine h_top (v := 3) (by decide) ?_
  refine h_puti (C := RX11) (T := TX11) (N := 23) hx hb hts inX11 tyX11 tyX11_ok nmX11 hown hK hT0 (fun _ h => h) hS0 (hM.o rfl) rfl 2 rfl wF_X11_285 rfl rfl (hPP _) rfl rfl dX11_back_20 (fun H1 locs hT1 hS1 hu1 => ?_)
  have z4 : ∀ j : Nat, 1200 ≤ j → h_ai H1 (o + 1) j = h_ai H0 (o + 1) j := fun j hj => (h_ai_same (hu1.2.1 (o + 1) (by omega)))
  have R5 : mR o H1 := hpr.1.same (hu1.2.1 (o + 1) (by omega))
  refine lv_aload_n hx hb dX11_back_23 rfl (lv_at hl 0 rfl) ?_
  refine lv_sipush (v := 1200) hx hb dX11_back_24 (by decide) ?_
  refine lv_sipush (v := 600) hx hb dX11_back_27 (by decide) ?_
  refine lv_aload_n hx hb dX11_back_30 rfl (lv_at hl 0 rfl) ?_
  refine h_geti (C := RX11) (T := TX11) (N := 23) hx hb hts inX11 hown hK hT1 (hM.o rfl) rfl 2 rfl wF_X11_285 rfl dX11_back_31 (fun p6 => ?_)
  refine h_top (v := 3) (h_pu hu1) ?_
  refine lv_imul hx hb dX11_back_34 ?_
  refine h_top (v := 1800) (by decide) ?_
  refine lv_iadd hx hb dX11_back_35 ?_
  refine h_top (v := 3000) (by decide) ?_
  refine lv_iconst (v := 0) hx hb dX11_back_36 (by decide) ?_
  refine h_callVv (T := TX11) (rest := []) (As := [.int 3000, .int 0]) hx hb hml hown hts hK hT1 hZ (fun _ h => h) hS1 (c_X11_copies l G Y P (o) hM 3000 0 5 0 (by decide) (by decide) (by decide) (by decide)) trivial wd_X11_copies wV_X11_copies wL_X11_270 (hM.o rfl) rfl rfl hl.1 rfl (Nat.le_of_ble_eq_true rfl) dX11_back_37 ⟨Nat.le_of_ble_eq_true rfl, Nat.le_of_ble_eq_true rfl⟩ ⟨Nat.zero_le _, Nat.zero_le _⟩ (fun H2 locs hp2 hT2 hS2 hk2 => ?_)
  obtain ⟨hp2, hB2⟩ := hp2
  have z7 : ∀ j : Nat, 1200 ≤ j → h_ai H2 (o + 1) j = h_ai H0 (o + 1) j := fun j hj => (hB2.2.1 j (by omega)).trans (z4 j hj)
  have R8 : mR o H2 := mR_copyk (hpr.2.2.kept (fun j hj => z4 _ (by omega))) hB2.1
  refine lv_aload_n hx hb dX11_back_40 rfl (lv_at hl 0 rfl) ?_
  refine lv_aload_n hx hb dX11_back_41 rfl (lv_at hl 0 rfl) ?_
  refine h_geti (C := RX11) (T := TX11) (N := 23) hx hb hts inX11 hown hK hT2 (hM.o rfl) rfl 2 rfl wF_X11_285 rfl dX11_back_42 (fun p9 => ?_)
  refine h_top (v := 3) ((h_gi_same (hB2.2.2 o (by omega))).trans (h_pu hu1)) ?_
  refine h_callVi (T := TX11) (rest := []) (As := [.int 3]) hx hb hml hown hts hK hT2 hZ (fun _ h => h) hS2 (c_X11_gives l G Y P (o) hM 3) trivial wd_X11_gives wV_X11_gives wL_X11_276 (hM.o rfl) rfl rfl hl.1 rfl (Nat.le_of_ble_eq_true rfl) dX11_back_45 ⟨Nat.le_of_ble_eq_true rfl, Nat.le_of_ble_eq_true rfl⟩ ⟨Nat.zero_le _, Nat.zero_le _⟩ (fun r10 H3 locs hp3 hT3 hS3 hk3 => ?_)
  obtain ⟨hp3, hB3⟩ := hp3
  have z11 : ∀ j : Nat, 1200 ≤ j → h_ai H3 (o + 1) j = h_ai H0 (o + 1) j := fun j hj => (h_ai_same hB3).trans (z7 j hj)
  have R12 : mR o H3 := R8.same hB3
  have f13 : r10.toInt = (3 : Int) := hp3.1
  exact hret _ _ _ _ _ hT3 hS3 ⟨⟨(show r10.toInt = 3 from by omega), (hp3.2.trans ((h_gi_same (hB2.2.2 o (by omega))).trans (h_pu hu1)))⟩, ⟨R12, z11⟩⟩ dX11_back_48
