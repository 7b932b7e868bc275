set_option maxHeartbeats 4000000 in
set_option maxRecDepth 100000 in
theorem c_X11_comes (l : Launch) (G : hG) (Y : hW) (P : Int32 → Prop) (o : Nat) (hM : h_On Y o (modE (tM P) o)) (u1 : Int32) : hMi l yX11_comes cX11_comes 3 (some .int) 1 22 G Y [.ref (o), .int u1] (fun H => (mR o H) ∧ ((h_ai H (o + 1) 0).toInt ≤ 7)) (fun H r H1 => (True) ∧ (mR o H1 ∧ mW o H H1 ∧ ∀ q : Nat, q ≠ o + 1 → H1[q]? = H[q]?)) := by
  refine h_ofi (by decide +kernel) (Nat.le_of_ble_eq_true rfl) ?_
  intro p e s m args below meth c H0 ls Q hx hb hts hown hml hK hZ hT0 hpr hS0 hl hret
  have hl : lv_has ls 3 [(0, .ref (o)), (1, .int u1)] := hl
  obtain ⟨v1, mv1⟩ : ∃ x, h_ai H0 (o + 1) 0 = x := ⟨_, rfl⟩
  have bv1 := mP_N (mP_cell hM hT0 (j := 0) (by omega)) (by omega)
  rw [mv1] at bv1
  have g2 : v1.toInt ≤ 7 := by have q := hpr.2; rw [mv1] at q; exact q
  refine lv_aload_n hx hb dX11_comes_0 rfl (lv_at hl 0 rfl) ?_
  refine lv_iconst (v := 0) hx hb dX11_comes_1 (by decide) ?_
  refine h_callVi (T := TX11) (rest := []) (As := [.int 0]) hx hb hml hown hts hK hT0 hZ (fun _ h => h) hS0 (c_of l G Y P (o) hM 0 0 (by decide) (h_inc (by decide))) trivial wd_X11_of wV_X11_of wL_X11_47 (hM.o rfl) rfl rfl hl.1 rfl (Nat.le_of_ble_eq_true rfl) dX11_comes_2 ⟨Nat.le_of_ble_eq_true rfl, Nat.le_of_ble_eq_true rfl⟩ ⟨Nat.zero_le _, Nat.zero_le _⟩ (fun r3 H1 locs hp1 hT1 hS1 hk1 => ?_)
  obtain ⟨hp1, he⟩ := hp1
  have he := he.symm
  subst he
  have hp1 : v1 = r3 := (hp1.1.trans mv1).symm
  subst hp1
  refine lv_istore_n (lv' := [(2, .int v1), (0, .ref (o)), (1, .int u1)]) hx hb dX11_comes_5 rfl hl (by decide) rfl (fun ls hl => ?_)
  refine lv_aload_n hx hb dX11_comes_6 rfl (lv_at hl 1 rfl) ?_
  refine lv_bipush (v := 40) hx hb dX11_comes_7 (by decide) ?_
  refine lv_iload_n hx hb dX11_comes_9 rfl (lv_at hl 0 rfl) ?_
  refine lv_iadd hx hb dX11_comes_10 ?_
  obtain ⟨x4, qx4, ix4⟩ := h_addX 40 v1 (40 : Int) v1.toInt rfl rfl (by omega) (by omega)
  refine h_top (v := x4) qx4 ?_
  refine lv_iload_n hx hb dX11_comes_11 rfl (lv_at hl 2 rfl) ?_
  refine h_callVv (T := TX11) (rest := []) (As := [.int x4, .int u1]) hx hb hml hown hts hK hT0 hZ (fun _ h => h) hS1 (c_puts l G Y P (o) hM x4 u1 (40 + v1.toInt).toNat (show x4.toInt.toNat = (40 + v1.toInt).toNat from by omega) (h_vin (by omega) (by omega)) (mP_free (by unfold mFree; omega))) trivial wd_X11_puts wV_X11_puts wL_X11_43 (hM.o rfl) rfl rfl hl.1 rfl (Nat.le_of_ble_eq_true rfl) dX11_comes_12 ⟨Nat.le_of_ble_eq_true rfl, Nat.le_of_ble_eq_true rfl⟩ ⟨Nat.zero_le _, Nat.zero_le _⟩ (fun H2 locs hp2 hT2 hS2 hk2 => ?_)
  have hp2 : h_apu H0 H2 (o + 1) (40 + v1.toInt).toNat (.int u1) := hp2.2
  have z5 : ∀ j : Nat, 600 ≤ j → h_ai H2 (o + 1) j = h_ai H0 (o + 1) j := fun j hj => (h_apn hp2 (by omega))
  have z6 : ∀ q : Nat, q ≠ o + 1 → H2[q]? = H0[q]? := fun q hq => (hp2.2.1 q hq)
  have m7 : h_ai H2 (o + 1) 0 = v1 := (h_apn hp2 (by omega)).trans mv1
  have R8 : mR o H2 := hpr.1.keep (fun j hj => h_apn hp2 (by unfold mK at hj; omega))
  have m9 : h_ai H2 (o + 1) (40 + v1.toInt).toNat = u1 := h_aps hp2
  refine lv_aload_n hx hb dX11_comes_15 rfl (lv_at hl 1 rfl) ?_
  refine lv_bipush (v := 48) hx hb dX11_comes_16 (by decide) ?_
  refine lv_iload_n hx hb dX11_comes_18 rfl (lv_at hl 0 rfl) ?_
  refine lv_iadd hx hb dX11_comes_19 ?_
  obtain ⟨x10, qx10, ix10⟩ := h_addX 48 v1 (48 : Int) v1.toInt rfl rfl (by omega) (by omega)
  refine h_top (v := x10) qx10 ?_
  refine lv_iconst (v := 1) hx hb dX11_comes_20 (by decide) ?_
  refine h_callVv (T := TX11) (rest := []) (As := [.int x10, .int 1]) hx hb hml hown hts hK hT2 hZ (fun _ h => h) hS2 (c_puts l G Y P (o) hM x10 1 (48 + v1.toInt).toNat (show x10.toInt.toNat = (48 + v1.toInt).toNat from by omega) (h_vin (by omega) (by omega)) (mP_free (by unfold mFree; omega))) trivial wd_X11_puts wV_X11_puts wL_X11_43 (hM.o rfl) rfl rfl hl.1 rfl (Nat.le_of_ble_eq_true rfl) dX11_comes_21 ⟨Nat.le_of_ble_eq_true rfl, Nat.le_of_ble_eq_true rfl⟩ ⟨Nat.zero_le _, Nat.zero_le _⟩ (fun H3 locs hp3 hT3 hS3 hk3 => ?_)
  have hp3 : h_apu H2 H3 (o + 1) (48 + v1.toInt).toNat (.int 1) := hp3.2
  have z11 : ∀ j : Nat, 600 ≤ j → h_ai H3 (o + 1) j = h_ai H0 (o + 1) j := fun j hj => (h_apn hp3 (by omega)).trans (z5 j hj)
  have z12 : ∀ q : Nat, q ≠ o + 1 → H3[q]? = H0[q]? := fun q hq => (hp3.2.1 q hq).trans (z6 q hq)
  have m13 : h_ai H3 (o + 1) 0 = v1 := (h_apn hp3 (by omega)).trans m7
  have m14 : h_ai H3 (o + 1) (40 + v1.toInt).toNat = u1 := (h_apn hp3 (by omega)).trans m9
  have R15 : mR o H3 := R8.keep (fun j hj => h_apn hp3 (by unfold mK at hj; omega))
  have m16 : h_ai H3 (o + 1) (48 + v1.toInt).toNat = 1 := h_aps hp3
  refine lv_aload_n hx hb dX11_comes_24 rfl (lv_at hl 1 rfl) ?_
  refine lv_bipush (v := 56) hx hb dX11_comes_25 (by decide) ?_
  refine lv_iload_n hx hb dX11_comes_27 rfl (lv_at hl 0 rfl) ?_
  refine lv_iadd hx hb dX11_comes_28 ?_
  obtain ⟨x17, qx17, ix17⟩ := h_addX 56 v1 (56 : Int) v1.toInt rfl rfl (by omega) (by omega)
  refine h_top (v := x17) qx17 ?_
  refine lv_iconst (v := (-1)) hx hb dX11_comes_29 (by decide) ?_
  refine h_callVv (T := TX11) (rest := []) (As := [.int x17, .int (-1)]) hx hb hml hown hts hK hT3 hZ (fun _ h => h) hS3 (c_puts l G Y P (o) hM x17 (-1) (56 + v1.toInt).toNat (show x17.toInt.toNat = (56 + v1.toInt).toNat from by omega) (h_vin (by omega) (by omega)) (mP_free (by unfold mFree; omega))) trivial wd_X11_puts wV_X11_puts wL_X11_43 (hM.o rfl) rfl rfl hl.1 rfl (Nat.le_of_ble_eq_true rfl) dX11_comes_30 ⟨Nat.le_of_ble_eq_true rfl, Nat.le_of_ble_eq_true rfl⟩ ⟨Nat.zero_le _, Nat.zero_le _⟩ (fun H4 locs hp4 hT4 hS4 hk4 => ?_)
  have hp4 : h_apu H3 H4 (o + 1) (56 + v1.toInt).toNat (.int (-1)) := hp4.2
  have z18 : ∀ j : Nat, 600 ≤ j → h_ai H4 (o + 1) j = h_ai H0 (o + 1) j := fun j hj => (h_apn hp4 (by omega)).trans (z11 j hj)
  have z19 : ∀ q : Nat, q ≠ o + 1 → H4[q]? = H0[q]? := fun q hq => (hp4.2.1 q hq).trans (z12 q hq)
  have m20 : h_ai H4 (o + 1) 0 = v1 := (h_apn hp4 (by omega)).trans m13
  have m21 : h_ai H4 (o + 1) (40 + v1.toInt).toNat = u1 := (h_apn hp4 (by omega)).trans m14
  have m22 : h_ai H4 (o + 1) (48 + v1.toInt).toNat = 1 := (h_apn hp4 (by omega)).trans m16
  have R23 : mR o H4 := R15.keep (fun j hj => h_apn hp4 (by unfold mK at hj; omega))
  have m24 : h_ai H4 (o + 1) (56 + v1.toInt).toNat = (-1) := h_aps hp4
  refine lv_aload_n hx hb dX11_comes_33 rfl (lv_at hl 1 rfl) ?_
  refine lv_iconst (v := 0) hx hb dX11_comes_34 (by decide) ?_
  refine lv_iconst (v := 1) hx hb dX11_comes_35 (by decide) ?_
  obtain ⟨x25, qx25, ix25⟩ := h_addX v1 1 v1.toInt (1 : Int) rfl rfl (by omega) (by omega)
  refine h_callVv (T := TX11) (rest := []) (As := [.int 0, .int 1]) hx hb hml hown hts hK hT4 hZ (fun _ h => h) hS4 (c_adds l G Y P (o) hM 0 1 0 (by decide) (h_inc (by decide))) (show mP 0 (h_ai H4 (o + 1) 0 + 1) from (by rw [m20, qx25]; exact (mP_of8 (by omega) (show 0 ≤ x25.toInt from by omega) (show x25.toInt ≤ 8 from by omega)))) wd_X11_adds wV_X11_adds wL_X11_69 (hM.o rfl) rfl rfl hl.1 rfl (Nat.le_of_ble_eq_true rfl) dX11_comes_36 ⟨Nat.le_of_ble_eq_true rfl, Nat.le_of_ble_eq_true rfl⟩ ⟨Nat.zero_le _, Nat.zero_le _⟩ (fun H5 locs hp5 hT5 hS5 hk5 => ?_)
  have hp5 : h_apu H4 H5 (o + 1) 0 (.int (h_ai H4 (o + 1) 0 + 1)) := hp5.2
  rw [show h_ai H4 (o + 1) 0 + 1 = x25 from (by rw [m20]; exact qx25)] at hp5
  have hp5 : h_apu H4 H5 (o + 1) 0 (.int x25) := hp5
  have z26 : ∀ j : Nat, 600 ≤ j → h_ai H5 (o + 1) j = h_ai H0 (o + 1) j := fun j hj => (h_apn hp5 (by omega)).trans (z18 j hj)
  have z27 : ∀ q : Nat, q ≠ o + 1 → H5[q]? = H0[q]? := fun q hq => (hp5.2.1 q hq).trans (z19 q hq)
  have m28 : h_ai H5 (o + 1) (40 + v1.toInt).toNat = u1 := (h_apn hp5 (by omega)).trans m21
  have m29 : h_ai H5 (o + 1) (48 + v1.toInt).toNat = 1 := (h_apn hp5 (by omega)).trans m22
  have m30 : h_ai H5 (o + 1) (56 + v1.toInt).toNat = (-1) := (h_apn hp5 (by omega)).trans m24
  have R31 : mR o H5 := mR_add hp5 (by rw [m20]; exact (show v1.toInt ≤ x25.toInt from by omega)) R23
  have m32 : h_ai H5 (o + 1) 0 = x25 := h_aps hp5
  refine lv_iload_n hx hb dX11_comes_39 rfl (lv_at hl 0 rfl) ?_
  exact hret _ _ _ _ _ hT5 hS5 ⟨trivial, ⟨R31, z26, z27⟩⟩ dX11_comes_40
set_option maxHeartbeats 4000000 in
set_option maxRecDepth 100000 in
theorem c_X11_aStation (l : Launch) (G : hG) (Y : hW) (P : Int32 → Prop) (o : Nat) (hM : h_On Y o (modE (tM P) o)) : hMi l yX11_aStation cX11_aStation 1 (some .boolean) 6 130 G Y [.ref (o)] (fun H => mR o H) (fun H r H1 => ((r = 0 ∨ r = 1) ∧ ((h_gi G H 11 o 14).toInt ≤ (h_gi G H1 11 o 14).toInt ∧ (r.toInt = 0 ∨ ((h_gi G H1 11 o 12).toInt = 4 → (h_gi G H 11 o 14).toInt < (h_gi G H1 11 o 14).toInt)))) ∧ (mR o H1 ∧ mW o H H1)) := by
  refine h_ofz (by decide +kernel) (Nat.le_of_ble_eq_true rfl) ?_
  intro p e s m args below meth c H0 ls Q hx hb hts hown hml hK hZ hT0 hpr hS0 hl hret
  have hl : lv_has ls 1 [(0, .ref (o))] := hl
  obtain ⟨y1, my1⟩ : ∃ x, h_gi G H0 11 o 14 = x := ⟨_, rfl⟩
  have by1 : 0 ≤ y1.toInt ∧ y1.toInt ≤ 500 := by rw [← my1]; exact (hT0.gi (hM.o rfl) 14 rfl).1
  refine lv_aload_n hx hb dX11_aStation_0 rfl (lv_at hl 0 rfl) ?_
  refine lv_iconst (v := 0) hx hb dX11_aStation_1 (by decide) ?_
  refine h_callVi (T := TX11) (rest := []) (As := [.int 0]) hx hb hml hown hts hK hT0 hZ (fun _ h => h) hS0 (c_of l G Y P (o) hM 0 0 (by decide) (h_inc (by decide))) trivial wd_X11_of wV_X11_of wL_X11_47 (hM.o rfl) rfl rfl hl.1 rfl (Nat.le_of_ble_eq_true rfl) dX11_aStation_2 ⟨Nat.le_of_ble_eq_true rfl, Nat.le_of_ble_eq_true rfl⟩ ⟨Nat.zero_le _, Nat.zero_le _⟩ (fun r2 H1 locs hp1 hT1 hS1 hk1 => ?_)
  obtain ⟨hp1, he⟩ := hp1
  have he := he.symm
  subst he
  have mr2 : h_ai H0 (o + 1) 0 = r2 := hp1.1.symm
  have br2 := mP_N hp1.2 (by omega)
  refine lv_bipush (v := 8) hx hb dX11_aStation_5 (by decide) ?_
  refine lv_icmp_ne (tgt := 17) hx hb dX11_aStation_7 (by decide) (fun c3 => ?_) (fun c3 => ?_)
  · skip
    have c3 : ¬ r2.toInt = (8 : Int) := h_neI c3
    refine lv_aload_n hx hb dX11_aStation_17 rfl (lv_at hl 0 rfl) ?_
    refine h_callVv (T := TX11) (rest := []) (As := []) hx hb hml hown hts hK hT0 hZ (fun _ h => h) hS1 (c_X11_ahead l G Y P (o) hM) trivial wd_X11_ahead wV_X11_ahead wL_X11_232 (hM.o rfl) rfl rfl hl.1 rfl (Nat.le_of_ble_eq_true rfl) dX11_aStation_18 ⟨Nat.le_of_ble_eq_true rfl, Nat.le_of_ble_eq_true rfl⟩ ⟨Nat.zero_le _, Nat.zero_le _⟩ (fun H2 locs hp2 hT2 hS2 hk2 => ?_)
    obtain ⟨hp2, hB2⟩ := hp2
    have z4 : ∀ j : Nat, 600 ≤ j → h_ai H2 (o + 1) j = h_ai H0 (o + 1) j := fun j hj => (h_ai_same hB2)
    have m5 : h_ai H2 (o + 1) 0 = r2 := (h_ai_same hB2).trans mr2
    have R6 : mR o H2 := hpr.same hB2
    obtain ⟨y7, my7⟩ : ∃ x, h_gi G H2 11 o 12 = x := ⟨_, rfl⟩
    obtain ⟨y8, my8⟩ : ∃ x, h_gi G H2 11 o 14 = x := ⟨_, rfl⟩
    have by8 : 0 ≤ y8.toInt ∧ y8.toInt ≤ 500 := by rw [← my8]; exact (hT2.gi (hM.o rfl) 14 rfl).1
    have f9 : y1.toInt ≤ y8.toInt ∧ (y7.toInt = 4 → y1.toInt < y8.toInt) := by have q := hp2; rw [my7] at q; rw [my1] at q; rw [my8] at q; exact q
    refine lv_aload_n hx hb dX11_aStation_21 rfl (lv_at hl 0 rfl) ?_
    refine h_callVi (T := TX11) (rest := []) (As := []) hx hb hml hown hts hK hT2 hZ (fun _ h => h) hS2 (c_X11_isName l G Y P (o) hM) trivial wd_X11_isName wV_X11_isName wL_X11_219 (hM.o rfl) rfl rfl hl.1 rfl (Nat.le_of_ble_eq_true rfl) dX11_aStation_22 ⟨Nat.le_of_ble_eq_true rfl, Nat.le_of_ble_eq_true rfl⟩ ⟨Nat.zero_le _, Nat.zero_le _⟩ (fun r10 H3 locs hp3 hT3 hS3 hk3 => ?_)
    obtain ⟨hp3, he⟩ := hp3
    have he := he.symm
    subst he
    refine lv_if_ne (tgt := 34) hx hb dX11_aStation_25 (by decide) (fun c11 => ?_) (fun c11 => ?_)
    · skip
      have c11 : ¬ r10.toInt = (0 : Int) := h_neI c11
      refine lv_aload_n hx hb dX11_aStation_34 rfl (lv_at hl 0 rfl) ?_
      refine h_callVi (T := TX11) (rest := []) (As := []) hx hb hml hown hts hK hT2 hZ (fun _ h => h) hS3 (c_X11_namedHere l G Y P (o) hM) trivial wd_X11_namedHere wV_X11_namedHere wL_X11_225 (hM.o rfl) rfl rfl hl.1 rfl (Nat.le_of_ble_eq_true rfl) dX11_aStation_35 ⟨Nat.le_of_ble_eq_true rfl, Nat.le_of_ble_eq_true rfl⟩ ⟨Nat.zero_le _, Nat.zero_le _⟩ (fun r12 H4 locs hp4 hT4 hS4 hk4 => ?_)
      obtain ⟨hp4, hB4⟩ := hp4
      have z13 : ∀ j : Nat, 600 ≤ j → h_ai H4 (o + 1) j = h_ai H0 (o + 1) j := fun j hj => (h_ai_same hB4).trans (z4 j hj)
      have m14 : h_ai H4 (o + 1) 0 = r2 := (h_ai_same hB4).trans m5
      have R15 : mR o H4 := R6.same hB4
      have f16 : r12.toInt = -1 ∨ (0 ≤ r12.toInt ∧ r12.toInt < r2.toInt) := by have q := hp4.2; rw [m5] at q; exact q
      refine lv_iconst (v := (-1)) hx hb dX11_aStation_38 (by decide) ?_
      refine lv_icmp_eq (tgt := 48) hx hb dX11_aStation_39 (by decide) (fun c17 => ?_) (fun c17 => ?_)
      · skip
        have c17 : r12.toInt = (-1 : Int) := congrArg Int32.toInt c17
        refine lv_aload_n hx hb dX11_aStation_48 rfl (lv_at hl 0 rfl) ?_
        refine h_callVv (T := TX11) (rest := []) (As := []) hx hb hml hown hts hK hT4 hZ (fun _ h => h) hS4 (c_X11_ahead l G Y P (o) hM) trivial wd_X11_ahead wV_X11_ahead wL_X11_232 (hM.o rfl) rfl rfl hl.1 rfl (Nat.le_of_ble_eq_true rfl) dX11_aStation_49 ⟨Nat.le_of_ble_eq_true rfl, Nat.le_of_ble_eq_true rfl⟩ ⟨Nat.zero_le _, Nat.zero_le _⟩ (fun H5 locs hp5 hT5 hS5 hk5 => ?_)
        obtain ⟨hp5, hB5⟩ := hp5
        have z18 : ∀ j : Nat, 600 ≤ j → h_ai H5 (o + 1) j = h_ai H0 (o + 1) j := fun j hj => (h_ai_same hB5).trans (z13 j hj)
        have m19 : h_ai H5 (o + 1) 0 = r2 := (h_ai_same hB5).trans m14
        have R20 : mR o H5 := R15.same hB5
        obtain ⟨y21, my21⟩ : ∃ x, h_gi G H5 11 o 12 = x := ⟨_, rfl⟩
        obtain ⟨y22, my22⟩ : ∃ x, h_gi G H5 11 o 14 = x := ⟨_, rfl⟩
        have by22 : 0 ≤ y22.toInt ∧ y22.toInt ≤ 500 := by rw [← my22]; exact (hT5.gi (hM.o rfl) 14 rfl).1
        have f23 : y8.toInt ≤ y22.toInt ∧ (y21.toInt = 4 → y8.toInt < y22.toInt) := by have q := hp5; rw [my21] at q; rw [((h_gi_same hp4.1).trans my8)] at q; rw [my22] at q; exact q
        refine lv_aload_n hx hb dX11_aStation_52 rfl (lv_at hl 0 rfl) ?_
        refine lv_iconst (v := 0) hx hb dX11_aStation_53 (by decide) ?_
        refine lv_bipush (v := 99) hx hb dX11_aStation_54 (by decide) ?_
        obtain ⟨y24, my24⟩ : ∃ x, h_gi G H5 11 o 15 = x := ⟨_, rfl⟩
        refine h_callVi (T := TX11) (rest := []) (As := [.int 0, .int 99]) hx hb hml hown hts hK hT5 hZ (fun _ h => h) hS5 (c_X11_isNumber l G Y P (o) hM 0 99) trivial wd_X11_isNumber wV_X11_isNumber wL_X11_235 (hM.o rfl) rfl rfl hl.1 rfl (Nat.le_of_ble_eq_true rfl) dX11_aStation_56 ⟨Nat.le_of_ble_eq_true rfl, Nat.le_of_ble_eq_true rfl⟩ ⟨Nat.zero_le _, Nat.zero_le _⟩ (fun r25 H6 locs hp6 hT6 hS6 hk6 => ?_)
        obtain ⟨hp6, hB6⟩ := hp6
        have z26 : ∀ j : Nat, 600 ≤ j → h_ai H6 (o + 1) j = h_ai H0 (o + 1) j := fun j hj => (h_ai_same hB6).trans (z18 j hj)
        have m27 : h_ai H6 (o + 1) 0 = r2 := (h_ai_same hB6).trans m19
        have R28 : mR o H6 := R20.same hB6
        obtain ⟨y29, my29⟩ : ∃ x, h_gi G H6 11 o 12 = x := ⟨_, rfl⟩
        obtain ⟨y30, my30⟩ : ∃ x, h_gi G H6 11 o 14 = x := ⟨_, rfl⟩
        have by30 : 0 ≤ y30.toInt ∧ y30.toInt ≤ 500 := by rw [← my30]; exact (hT6.gi (hM.o rfl) 14 rfl).1
        obtain ⟨y31, my31⟩ : ∃ x, h_gi G H6 11 o 15 = x := ⟨_, rfl⟩
        have f32 : y30.toInt = y22.toInt ∧ y29.toInt = y21.toInt ∧ y31.toInt = y24.toInt ∧ (r25.toInt = 0 ∨ ((0 : Int) ≤ y24.toInt ∧ y24.toInt ≤ (99 : Int))) := by have q := hp6.2; rw [my21] at q; rw [my29] at q; rw [my22] at q; rw [my30] at q; rw [my24] at q; rw [my31] at q; exact q
        refine lv_if_ne (tgt := 64) hx hb dX11_aStation_59 (by decide) (fun c33 => ?_) (fun c33 => ?_)
        · skip
          have c33 : ¬ r25.toInt = (0 : Int) := h_neI c33
          refine lv_aload_n hx hb dX11_aStation_64 rfl (lv_at hl 0 rfl) ?_
          refine lv_aload_n hx hb dX11_aStation_65 rfl (lv_at hl 0 rfl) ?_
          refine h_geti (C := RX11) (T := TX11) (N := 23) hx hb hts inX11 hown hK hT6 (hM.o rfl) rfl 15 rfl wF_X11_195 rfl dX11_aStation_66 (fun p34 => ?_)
          refine h_top (v := y31) my31 ?_
          refine h_callVi (T := TX11) (rest := []) (As := [.int y31]) hx hb hml hown hts hK hT6 hZ (fun _ h => h) hS6 (c_X11_isTaken l G Y P (o) hM y31) trivial wd_X11_isTaken wV_X11_isTaken wL_X11_238 (hM.o rfl) rfl rfl hl.1 rfl (Nat.le_of_ble_eq_true rfl) dX11_aStation_69 ⟨Nat.le_of_ble_eq_true rfl, Nat.le_of_ble_eq_true rfl⟩ ⟨Nat.zero_le _, Nat.zero_le _⟩ (fun r35 H7 locs hp7 hT7 hS7 hk7 => ?_)
          obtain ⟨hp7, he⟩ := hp7
          have he := he.symm
          subst he
          refine lv_if_eq (tgt := 81) hx hb dX11_aStation_72 (by decide) (fun c36 => ?_) (fun c36 => ?_)
          · skip
            have c36 : r35.toInt = (0 : Int) := congrArg Int32.toInt c36
            refine lv_aload_n hx hb dX11_aStation_81 rfl (lv_at hl 0 rfl) ?_
            refine lv_aload_n hx hb dX11_aStation_82 rfl (lv_at hl 0 rfl) ?_
            refine h_geti (C := RX11) (T := TX11) (N := 23) hx hb hts inX11 hown hK hT6 (hM.o rfl) rfl 15 rfl wF_X11_195 rfl dX11_aStation_83 (fun p37 => ?_)
            refine h_top (v := y31) my31 ?_
            refine h_callVi (T := TX11) (rest := []) (As := [.int y31]) hx hb hml hown hts hK hT6 hZ (fun _ h => h) hS7 (c_X11_comes l G Y P (o) hM y31) ⟨R28, (show (h_ai H6 (o + 1) 0).toInt ≤ 7 from by rw [m27]; exact (show r2.toInt ≤ 7 from by omega))⟩ wd_X11_comes wV_X11_comes wL_X11_241 (hM.o rfl) rfl rfl hl.1 rfl (Nat.le_of_ble_eq_true rfl) dX11_aStation_86 ⟨Nat.le_of_ble_eq_true rfl, Nat.le_of_ble_eq_true rfl⟩ ⟨Nat.zero_le _, Nat.zero_le _⟩ (fun r38 H8 locs hp8 hT8 hS8 hk8 => ?_)
            obtain ⟨hp8, hB8⟩ := hp8
            have z39 : ∀ j : Nat, 600 ≤ j → h_ai H8 (o + 1) j = h_ai H0 (o + 1) j := fun j hj => (hB8.2.1 j hj).trans (z26 j hj)
            have R40 : mR o H8 := hB8.1
            refine lv_pop hx hb dX11_aStation_89 rfl ?_
            refine lv_aload_n hx hb dX11_aStation_90 rfl (lv_at hl 0 rfl) ?_
            refine h_callVv (T := TX11) (rest := []) (As := []) hx hb hml hown hts hK hT8 hZ (fun _ h => h) hS8 (c_X11_ahead l G Y P (o) hM) trivial wd_X11_ahead wV_X11_ahead wL_X11_232 (hM.o rfl) rfl rfl hl.1 rfl (Nat.le_of_ble_eq_true rfl) dX11_aStation_91 ⟨Nat.le_of_ble_eq_true rfl, Nat.le_of_ble_eq_true rfl⟩ ⟨Nat.zero_le _, Nat.zero_le _⟩ (fun H9 locs hp9 hT9 hS9 hk9 => ?_)
            obtain ⟨hp9, hB9⟩ := hp9
            have z41 : ∀ j : Nat, 600 ≤ j → h_ai H9 (o + 1) j = h_ai H0 (o + 1) j := fun j hj => (h_ai_same hB9).trans (z39 j hj)
            have R42 : mR o H9 := R40.same hB9
            obtain ⟨y43, my43⟩ : ∃ x, h_gi G H9 11 o 12 = x := ⟨_, rfl⟩
            obtain ⟨y44, my44⟩ : ∃ x, h_gi G H9 11 o 14 = x := ⟨_, rfl⟩
            have by44 : 0 ≤ y44.toInt ∧ y44.toInt ≤ 500 := by rw [← my44]; exact (hT9.gi (hM.o rfl) 14 rfl).1
            have f45 : y30.toInt ≤ y44.toInt ∧ (y43.toInt = 4 → y30.toInt < y44.toInt) := by have q := hp9; rw [my43] at q; rw [((h_gi_same (hB8.2.2 o (by omega))).trans my30)] at q; rw [my44] at q; exact q
            refine lv_iconst (v := 1) hx hb dX11_aStation_94 (by decide) ?_
            exact hret _ _ _ _ _ hT9 hS9 ⟨(by decide), ⟨⟨(by decide), (show (h_gi G H0 11 o 14).toInt ≤ (h_gi G H9 11 o 14).toInt ∧ ((1 : Int) = 0 ∨ ((h_gi G H9 11 o 12).toInt = 4 → (h_gi G H0 11 o 14).toInt < (h_gi G H9 11 o 14).toInt)) from by rw [my43, my1, my44]; show y1.toInt ≤ y44.toInt ∧ ((1 : Int) = 0 ∨ (y43.toInt = 4 → y1.toInt < y44.toInt)); omega)⟩, ⟨R42, z41⟩⟩⟩ dX11_aStation_95
          · skip
            have c36 : ¬ r35.toInt = (0 : Int) := h_neI c36
            refine lv_aload_n hx hb dX11_aStation_75 rfl (lv_at hl 0 rfl) ?_
            refine lv_iconst (v := 4) hx hb dX11_aStation_76 (by decide) ?_
            refine h_callVi (T := TX11) (rest := []) (As := [.int 4]) hx hb hml hown hts hK hT6 hZ (fun _ h => h) hS7 (c_X11_fails l G Y P (o) hM 4) trivial wd_X11_fails wV_X11_fails wL_X11_222 (hM.o rfl) rfl rfl hl.1 rfl (Nat.le_of_ble_eq_true rfl) dX11_aStation_77 ⟨Nat.le_of_ble_eq_true rfl, Nat.le_of_ble_eq_true rfl⟩ ⟨Nat.zero_le _, Nat.zero_le _⟩ (fun r46 H10 locs hp10 hT10 hS10 hk10 => ?_)
            obtain ⟨hp10, hB10⟩ := hp10
            have z47 : ∀ j : Nat, 600 ≤ j → h_ai H10 (o + 1) j = h_ai H0 (o + 1) j := fun j hj => (h_ai_same hB10).trans (z26 j hj)
            have m48 : h_ai H10 (o + 1) 0 = r2 := (h_ai_same hB10).trans m27
            have R49 : mR o H10 := R28.same hB10
            obtain ⟨y50, my50⟩ : ∃ x, h_gi G H10 11 o 12 = x := ⟨_, rfl⟩
            obtain ⟨y51, my51⟩ : ∃ x, h_gi G H10 11 o 14 = x := ⟨_, rfl⟩
            have by51 : 0 ≤ y51.toInt ∧ y51.toInt ≤ 500 := by rw [← my51]; exact (hT10.gi (hM.o rfl) 14 rfl).1
            obtain ⟨y52, my52⟩ : ∃ x, h_gi G H10 11 o 15 = x := ⟨_, rfl⟩
            have f53 : r46.toInt = 0 ∧ y51.toInt = y30.toInt ∧ y50.toInt = y29.toInt ∧ y52.toInt = y31.toInt := by have q := hp10.2; rw [my29] at q; rw [my50] at q; rw [my30] at q; rw [my51] at q; rw [my31] at q; rw [my52] at q; exact q
            exact hret _ _ _ _ _ hT10 hS10 ⟨hp10.1, ⟨⟨hp10.1, (show (h_gi G H0 11 o 14).toInt ≤ (h_gi G H10 11 o 14).toInt ∧ (r46.toInt = 0 ∨ ((h_gi G H10 11 o 12).toInt = 4 → (h_gi G H0 11 o 14).toInt < (h_gi G H10 11 o 14).toInt)) from by rw [my50, my1, my51]; show y1.toInt ≤ y51.toInt ∧ (r46.toInt = 0 ∨ (y50.toInt = 4 → y1.toInt < y51.toInt)); omega)⟩, ⟨R49, z47⟩⟩⟩ dX11_aStation_80
        · skip
          have c33 : r25.toInt = (0 : Int) := congrArg Int32.toInt c33
          refine lv_iconst (v := 0) hx hb dX11_aStation_62 (by decide) ?_
          exact hret _ _ _ _ _ hT6 hS6 ⟨(by decide), ⟨⟨(by decide), (show (h_gi G H0 11 o 14).toInt ≤ (h_gi G H6 11 o 14).toInt ∧ ((0 : Int) = 0 ∨ ((h_gi G H6 11 o 12).toInt = 4 → (h_gi G H0 11 o 14).toInt < (h_gi G H6 11 o 14).toInt)) from by rw [my29, my1, my30]; show y1.toInt ≤ y30.toInt ∧ ((0 : Int) = 0 ∨ (y29.toInt = 4 → y1.toInt < y30.toInt)); omega)⟩, ⟨R28, z26⟩⟩⟩ dX11_aStation_63
      · skip
        have c17 : ¬ r12.toInt = (-1 : Int) := h_neI c17
        refine lv_aload_n hx hb dX11_aStation_42 rfl (lv_at hl 0 rfl) ?_
        refine lv_iconst (v := 3) hx hb dX11_aStation_43 (by decide) ?_
        obtain ⟨y54, my54⟩ : ∃ x, h_gi G H4 11 o 15 = x := ⟨_, rfl⟩
        refine h_callVi (T := TX11) (rest := []) (As := [.int 3]) hx hb hml hown hts hK hT4 hZ (fun _ h => h) hS4 (c_X11_fails l G Y P (o) hM 3) trivial wd_X11_fails wV_X11_fails wL_X11_222 (hM.o rfl) rfl rfl hl.1 rfl (Nat.le_of_ble_eq_true rfl) dX11_aStation_44 ⟨Nat.le_of_ble_eq_true rfl, Nat.le_of_ble_eq_true rfl⟩ ⟨Nat.zero_le _, Nat.zero_le _⟩ (fun r55 H11 locs hp11 hT11 hS11 hk11 => ?_)
        obtain ⟨hp11, hB11⟩ := hp11
        have z56 : ∀ j : Nat, 600 ≤ j → h_ai H11 (o + 1) j = h_ai H0 (o + 1) j := fun j hj => (h_ai_same hB11).trans (z13 j hj)
        have m57 : h_ai H11 (o + 1) 0 = r2 := (h_ai_same hB11).trans m14
        have R58 : mR o H11 := R15.same hB11
        obtain ⟨y59, my59⟩ : ∃ x, h_gi G H11 11 o 12 = x := ⟨_, rfl⟩
        obtain ⟨y60, my60⟩ : ∃ x, h_gi G H11 11 o 14 = x := ⟨_, rfl⟩
        have by60 : 0 ≤ y60.toInt ∧ y60.toInt ≤ 500 := by rw [← my60]; exact (hT11.gi (hM.o rfl) 14 rfl).1
        obtain ⟨y61, my61⟩ : ∃ x, h_gi G H11 11 o 15 = x := ⟨_, rfl⟩
        have f62 : r55.toInt = 0 ∧ y60.toInt = y8.toInt ∧ y59.toInt = y7.toInt ∧ y61.toInt = y54.toInt := by have q := hp11.2; rw [((h_gi_same hp4.1).trans my7)] at q; rw [my59] at q; rw [((h_gi_same hp4.1).trans my8)] at q; rw [my60] at q; rw [my54] at q; rw [my61] at q; exact q
        exact hret _ _ _ _ _ hT11 hS11 ⟨hp11.1, ⟨⟨hp11.1, (show (h_gi G H0 11 o 14).toInt ≤ (h_gi G H11 11 o 14).toInt ∧ (r55.toInt = 0 ∨ ((h_gi G H11 11 o 12).toInt = 4 → (h_gi G H0 11 o 14).toInt < (h_gi G H11 11 o 14).toInt)) from by rw [my59, my1, my60]; show y1.toInt ≤ y60.toInt ∧ (r55.toInt = 0 ∨ (y59.toInt = 4 → y1.toInt < y60.toInt)); omega)⟩, ⟨R58, z56⟩⟩⟩ dX11_aStation_47
    · skip
      have c11 : r10.toInt = (0 : Int) := congrArg Int32.toInt c11
      refine lv_aload_n hx hb dX11_aStation_28 rfl (lv_at hl 0 rfl) ?_
      refine lv_iconst (v := 2) hx hb dX11_aStation_29 (by decide) ?_
      obtain ⟨y63, my63⟩ : ∃ x, h_gi G H2 11 o 15 = x := ⟨_, rfl⟩
      refine h_callVi (T := TX11) (rest := []) (As := [.int 2]) hx hb hml hown hts hK hT2 hZ (fun _ h => h) hS3 (c_X11_fails l G Y P (o) hM 2) trivial wd_X11_fails wV_X11_fails wL_X11_222 (hM.o rfl) rfl rfl hl.1 rfl (Nat.le_of_ble_eq_true rfl) dX11_aStation_30 ⟨Nat.le_of_ble_eq_true rfl, Nat.le_of_ble_eq_true rfl⟩ ⟨Nat.zero_le _, Nat.zero_le _⟩ (fun r64 H12 locs hp12 hT12 hS12 hk12 => ?_)
      obtain ⟨hp12, hB12⟩ := hp12
      have z65 : ∀ j : Nat, 600 ≤ j → h_ai H12 (o + 1) j = h_ai H0 (o + 1) j := fun j hj => (h_ai_same hB12).trans (z4 j hj)
      have m66 : h_ai H12 (o + 1) 0 = r2 := (h_ai_same hB12).trans m5
      have R67 : mR o H12 := R6.same hB12
      obtain ⟨y68, my68⟩ : ∃ x, h_gi G H12 11 o 12 = x := ⟨_, rfl⟩
      obtain ⟨y69, my69⟩ : ∃ x, h_gi G H12 11 o 14 = x := ⟨_, rfl⟩
      have by69 : 0 ≤ y69.toInt ∧ y69.toInt ≤ 500 := by rw [← my69]; exact (hT12.gi (hM.o rfl) 14 rfl).1
      obtain ⟨y70, my70⟩ : ∃ x, h_gi G H12 11 o 15 = x := ⟨_, rfl⟩
      have f71 : r64.toInt = 0 ∧ y69.toInt = y8.toInt ∧ y68.toInt = y7.toInt ∧ y70.toInt = y63.toInt := by have q := hp12.2; rw [my7] at q; rw [my68] at q; rw [my8] at q; rw [my69] at q; rw [my63] at q; rw [my70] at q; exact q
      exact hret _ _ _ _ _ hT12 hS12 ⟨hp12.1, ⟨⟨hp12.1, (show (h_gi G H0 11 o 14).toInt ≤ (h_gi G H12 11 o 14).toInt ∧ (r64.toInt = 0 ∨ ((h_gi G H12 11 o 12).toInt = 4 → (h_gi G H0 11 o 14).toInt < (h_gi G H12 11 o 14).toInt)) from by rw [my68, my1, my69]; show y1.toInt ≤ y69.toInt ∧ (r64.toInt = 0 ∨ (y68.toInt = 4 → y1.toInt < y69.toInt)); omega)⟩, ⟨R67, z65⟩⟩⟩ dX11_aStation_33
  · skip
    have c3 : r2.toInt = (8 : Int) := congrArg Int32.toInt c3
    refine lv_aload_n hx hb dX11_aStation_10 rfl (lv_at hl 0 rfl) ?_
    refine lv_bipush (v := 6) hx hb dX11_aStation_11 (by decide) ?_
    obtain ⟨y72, my72⟩ : ∃ x, h_gi G H0 11 o 12 = x := ⟨_, rfl⟩
    obtain ⟨y73, my73⟩ : ∃ x, h_gi G H0 11 o 15 = x := ⟨_, rfl⟩
    refine h_callVi (T := TX11) (rest := []) (As := [.int 6]) hx hb hml hown hts hK hT0 hZ (fun _ h => h) hS1 (c_X11_fails l G Y P (o) hM 6) trivial wd_X11_fails wV_X11_fails wL_X11_222 (hM.o rfl) rfl rfl hl.1 rfl (Nat.le_of_ble_eq_true rfl) dX11_aStation_13 ⟨Nat.le_of_ble_eq_true rfl, Nat.le_of_ble_eq_true rfl⟩ ⟨Nat.zero_le _, Nat.zero_le _⟩ (fun r74 H13 locs hp13 hT13 hS13 hk13 => ?_)
    obtain ⟨hp13, hB13⟩ := hp13
    have z75 : ∀ j : Nat, 600 ≤ j → h_ai H13 (o + 1) j = h_ai H0 (o + 1) j := fun j hj => (h_ai_same hB13)
    have m76 : h_ai H13 (o + 1) 0 = r2 := (h_ai_same hB13).trans mr2
    have R77 : mR o H13 := hpr.same hB13
    obtain ⟨y78, my78⟩ : ∃ x, h_gi G H13 11 o 12 = x := ⟨_, rfl⟩
    obtain ⟨y79, my79⟩ : ∃ x, h_gi G H13 11 o 14 = x := ⟨_, rfl⟩
    have by79 : 0 ≤ y79.toInt ∧ y79.toInt ≤ 500 := by rw [← my79]; exact (hT13.gi (hM.o rfl) 14 rfl).1
    obtain ⟨y80, my80⟩ : ∃ x, h_gi G H13 11 o 15 = x := ⟨_, rfl⟩
    have f81 : r74.toInt = 0 ∧ y79.toInt = y1.toInt ∧ y78.toInt = y72.toInt ∧ y80.toInt = y73.toInt := by have q := hp13.2; rw [my72] at q; rw [my78] at q; rw [my1] at q; rw [my79] at q; rw [my73] at q; rw [my80] at q; exact q
    exact hret _ _ _ _ _ hT13 hS13 ⟨hp13.1, ⟨⟨hp13.1, (show (h_gi G H0 11 o 14).toInt ≤ (h_gi G H13 11 o 14).toInt ∧ (r74.toInt = 0 ∨ ((h_gi G H13 11 o 12).toInt = 4 → (h_gi G H0 11 o 14).toInt < (h_gi G H13 11 o 14).toInt)) from by rw [my78, my1, my79]; show y1.toInt ≤ y79.toInt ∧ (r74.toInt = 0 ∨ (y78.toInt = 4 → y1.toInt < y79.toInt)); omega)⟩, ⟨R77, z75⟩⟩⟩ dX11_aStation_16
set_option maxHeartbeats 4000000 in
set_option maxRecDepth 100000 in
theorem c_X11_aSend (l : Launch) (G : hG) (Y : hW) (P : Int32 → Prop) (o : Nat) (hM : h_On Y o (modE (tM P) o)) : hMi l yX11_aSend cX11_aSend 3 (some .boolean) 7 151 G Y [.ref (o)] (fun H => mR o H) (fun H r H1 => ((r = 0 ∨ r = 1) ∧ ((h_gi G H 11 o 14).toInt ≤ (h_gi G H1 11 o 14).toInt ∧ (r.toInt = 0 ∨ ((h_gi G H1 11 o 12).toInt = 4 → (h_gi G H 11 o 14).toInt < (h_gi G H1 11 o 14).toInt)))) ∧ (mR o H1 ∧ mW o H H1)) := by
  refine h_ofz (by decide +kernel) (Nat.le_of_ble_eq_true rfl) ?_
  intro p e s m args below meth c H0 ls Q hx hb hts hown hml hK hZ hT0 hpr hS0 hl hret
  have hl : lv_has ls 3 [(0, .ref (o))] := hl
  obtain ⟨y1, my1⟩ : ∃ x, h_gi G H0 11 o 14 = x := ⟨_, rfl⟩
  have by1 : 0 ≤ y1.toInt ∧ y1.toInt ≤ 500 := by rw [← my1]; exact (hT0.gi (hM.o rfl) 14 rfl).1
  refine lv_aload_n hx hb dX11_aSend_0 rfl (lv_at hl 0 rfl) ?_
  refine h_callVv (T := TX11) (rest := []) (As := []) hx hb hml hown hts hK hT0 hZ (fun _ h => h) hS0 (c_X11_ahead l G Y P (o) hM) trivial wd_X11_ahead wV_X11_ahead wL_X11_232 (hM.o rfl) rfl rfl hl.1 rfl (Nat.le_of_ble_eq_true rfl) dX11_aSend_1 ⟨Nat.le_of_ble_eq_true rfl, Nat.le_of_ble_eq_true rfl⟩ ⟨Nat.zero_le _, Nat.zero_le _⟩ (fun H1 locs hp1 hT1 hS1 hk1 => ?_)
  obtain ⟨hp1, hB1⟩ := hp1
  have z2 : ∀ j : Nat, 600 ≤ j → h_ai H1 (o + 1) j = h_ai H0 (o + 1) j := fun j hj => (h_ai_same hB1)
  have R3 : mR o H1 := hpr.same hB1
  obtain ⟨y4, my4⟩ : ∃ x, h_gi G H1 11 o 12 = x := ⟨_, rfl⟩
  obtain ⟨y5, my5⟩ : ∃ x, h_gi G H1 11 o 14 = x := ⟨_, rfl⟩
  have by5 : 0 ≤ y5.toInt ∧ y5.toInt ≤ 500 := by rw [← my5]; exact (hT1.gi (hM.o rfl) 14 rfl).1
  have f6 : y1.toInt ≤ y5.toInt ∧ (y4.toInt = 4 → y1.toInt < y5.toInt) := by have q := hp1; rw [my4] at q; rw [my1] at q; rw [my5] at q; exact q
  refine lv_aload_n hx hb dX11_aSend_4 rfl (lv_at hl 0 rfl) ?_
  obtain ⟨v7, mv7⟩ : ∃ x, h_ai H1 (o + 1) 0 = x := ⟨_, rfl⟩
  have bv7 := mP_N (mP_cell hM hT1 (j := 0) (by omega)) (by omega)
  rw [mv7] at bv7
  refine h_callVi (T := TX11) (rest := []) (As := []) hx hb hml hown hts hK hT1 hZ (fun _ h => h) hS1 (c_X11_stationHere l G Y P (o) hM) trivial wd_X11_stationHere wV_X11_stationHere wL_X11_244 (hM.o rfl) rfl rfl hl.1 rfl (Nat.le_of_ble_eq_true rfl) dX11_aSend_5 ⟨Nat.le_of_ble_eq_true rfl, Nat.le_of_ble_eq_true rfl⟩ ⟨Nat.zero_le _, Nat.zero_le _⟩ (fun r8 H2 locs hp2 hT2 hS2 hk2 => ?_)
  obtain ⟨hp2, hB2⟩ := hp2
  have z9 : ∀ j : Nat, 600 ≤ j → h_ai H2 (o + 1) j = h_ai H0 (o + 1) j := fun j hj => (h_ai_same hB2).trans (z2 j hj)
  have m10 : h_ai H2 (o + 1) 0 = v7 := (h_ai_same hB2).trans mv7
  have R11 : mR o H2 := R3.same hB2
  obtain ⟨y12, my12⟩ : ∃ x, h_gi G H2 11 o 12 = x := ⟨_, rfl⟩
  obtain ⟨y13, my13⟩ : ∃ x, h_gi G H2 11 o 14 = x := ⟨_, rfl⟩
  have by13 : 0 ≤ y13.toInt ∧ y13.toInt ≤ 500 := by rw [← my13]; exact (hT2.gi (hM.o rfl) 14 rfl).1
  have f14 : y13.toInt = y5.toInt ∧ y12.toInt = y4.toInt ∧ (r8.toInt = -1 ∨ (0 ≤ r8.toInt ∧ r8.toInt < v7.toInt)) := by have q := hp2; rw [mv7] at q; rw [my4] at q; rw [my12] at q; rw [my5] at q; rw [my13] at q; exact q
  refine lv_istore_n (lv' := [(1, .int r8), (0, .ref (o))]) hx hb dX11_aSend_8 rfl hl (by decide) rfl (fun ls hl => ?_)
  refine lv_iload_n hx hb dX11_aSend_9 rfl (lv_at hl 0 rfl) ?_
  refine lv_iconst (v := (-1)) hx hb dX11_aSend_10 (by decide) ?_
  refine lv_icmp_ne (tgt := 16) hx hb dX11_aSend_11 (by decide) (fun c15 => ?_) (fun c15 => ?_)
  · skip
    have c15 : ¬ r8.toInt = (-1 : Int) := h_neI c15
    refine lv_aload_n hx hb dX11_aSend_16 rfl (lv_at hl 1 rfl) ?_
    refine lv_bipush (v := 80) hx hb dX11_aSend_17 (by decide) ?_
    refine lv_iload_n hx hb dX11_aSend_19 rfl (lv_at hl 0 rfl) ?_
    refine lv_iadd hx hb dX11_aSend_20 ?_
    obtain ⟨x16, qx16, ix16⟩ := h_addX 80 r8 (80 : Int) r8.toInt rfl rfl (by omega) (by omega)
    refine h_top (v := x16) qx16 ?_
    refine h_callVi (T := TX11) (rest := []) (As := [.int x16]) hx hb hml hown hts hK hT2 hZ (fun _ h => h) hS2 (c_of l G Y P (o) hM x16 (80 + r8.toInt).toNat (show x16.toInt.toNat = (80 + r8.toInt).toNat from by omega) (h_vin (by omega) (by omega))) trivial wd_X11_of wV_X11_of wL_X11_47 (hM.o rfl) rfl rfl hl.1 rfl (Nat.le_of_ble_eq_true rfl) dX11_aSend_21 ⟨Nat.le_of_ble_eq_true rfl, Nat.le_of_ble_eq_true rfl⟩ ⟨Nat.zero_le _, Nat.zero_le _⟩ (fun r17 H3 locs hp3 hT3 hS3 hk3 => ?_)
    obtain ⟨hp3, he⟩ := hp3
    have he := he.symm
    subst he
    have mr17 : h_ai H2 (o + 1) (80 + r8.toInt).toNat = r17 := hp3.1.symm
    have br17 := mP_wm hp3.2 (by omega)
    refine lv_bipush (v := 6) hx hb dX11_aSend_24 (by decide) ?_
    refine lv_icmp_ne (tgt := 36) hx hb dX11_aSend_26 (by decide) (fun c18 => ?_) (fun c18 => ?_)
    · skip
      have c18 : ¬ r17.toInt = (6 : Int) := h_neI c18
      refine lv_aload_n hx hb dX11_aSend_36 rfl (lv_at hl 1 rfl) ?_
      refine h_callVv (T := TX11) (rest := []) (As := []) hx hb hml hown hts hK hT2 hZ (fun _ h => h) hS3 (c_X11_ahead l G Y P (o) hM) trivial wd_X11_ahead wV_X11_ahead wL_X11_232 (hM.o rfl) rfl rfl hl.1 rfl (Nat.le_of_ble_eq_true rfl) dX11_aSend_37 ⟨Nat.le_of_ble_eq_true rfl, Nat.le_of_ble_eq_true rfl⟩ ⟨Nat.zero_le _, Nat.zero_le _⟩ (fun H4 locs hp4 hT4 hS4 hk4 => ?_)
      obtain ⟨hp4, hB4⟩ := hp4
      have z19 : ∀ j : Nat, 600 ≤ j → h_ai H4 (o + 1) j = h_ai H0 (o + 1) j := fun j hj => (h_ai_same hB4).trans (z9 j hj)
      have m20 : h_ai H4 (o + 1) 0 = v7 := (h_ai_same hB4).trans m10
      have m21 : h_ai H4 (o + 1) (80 + r8.toInt).toNat = r17 := (h_ai_same hB4).trans mr17
      have R22 : mR o H4 := R11.same hB4
      obtain ⟨y23, my23⟩ : ∃ x, h_gi G H4 11 o 12 = x := ⟨_, rfl⟩
      obtain ⟨y24, my24⟩ : ∃ x, h_gi G H4 11 o 14 = x := ⟨_, rfl⟩
      have by24 : 0 ≤ y24.toInt ∧ y24.toInt ≤ 500 := by rw [← my24]; exact (hT4.gi (hM.o rfl) 14 rfl).1
      have f25 : y13.toInt ≤ y24.toInt ∧ (y23.toInt = 4 → y13.toInt < y24.toInt) := by have q := hp4; rw [my23] at q; rw [my13] at q; rw [my24] at q; exact q
      refine lv_aload_n hx hb dX11_aSend_40 rfl (lv_at hl 1 rfl) ?_
      refine h_callVi (T := TX11) (rest := []) (As := []) hx hb hml hown hts hK hT4 hZ (fun _ h => h) hS4 (c_X11_stationHere l G Y P (o) hM) trivial wd_X11_stationHere wV_X11_stationHere wL_X11_244 (hM.o rfl) rfl rfl hl.1 rfl (Nat.le_of_ble_eq_true rfl) dX11_aSend_41 ⟨Nat.le_of_ble_eq_true rfl, Nat.le_of_ble_eq_true rfl⟩ ⟨Nat.zero_le _, Nat.zero_le _⟩ (fun r26 H5 locs hp5 hT5 hS5 hk5 => ?_)
      obtain ⟨hp5, hB5⟩ := hp5
      have z27 : ∀ j : Nat, 600 ≤ j → h_ai H5 (o + 1) j = h_ai H0 (o + 1) j := fun j hj => (h_ai_same hB5).trans (z19 j hj)
      have m28 : h_ai H5 (o + 1) 0 = v7 := (h_ai_same hB5).trans m20
      have m29 : h_ai H5 (o + 1) (80 + r8.toInt).toNat = r17 := (h_ai_same hB5).trans m21
      have R30 : mR o H5 := R22.same hB5
      obtain ⟨y31, my31⟩ : ∃ x, h_gi G H5 11 o 12 = x := ⟨_, rfl⟩
      obtain ⟨y32, my32⟩ : ∃ x, h_gi G H5 11 o 14 = x := ⟨_, rfl⟩
      have by32 : 0 ≤ y32.toInt ∧ y32.toInt ≤ 500 := by rw [← my32]; exact (hT5.gi (hM.o rfl) 14 rfl).1
      have f33 : y32.toInt = y24.toInt ∧ y31.toInt = y23.toInt ∧ (r26.toInt = -1 ∨ (0 ≤ r26.toInt ∧ r26.toInt < v7.toInt)) := by have q := hp5; rw [m20] at q; rw [my23] at q; rw [my31] at q; rw [my24] at q; rw [my32] at q; exact q
      refine lv_istore_n (lv' := [(2, .int r26), (1, .int r8), (0, .ref (o))]) hx hb dX11_aSend_44 rfl hl (by decide) rfl (fun ls hl => ?_)
      refine lv_iload_n hx hb dX11_aSend_45 rfl (lv_at hl 0 rfl) ?_
      refine lv_iconst (v := (-1)) hx hb dX11_aSend_46 (by decide) ?_
      refine lv_icmp_ne (tgt := 52) hx hb dX11_aSend_47 (by decide) (fun c34 => ?_) (fun c34 => ?_)
      · skip
        have c34 : ¬ r26.toInt = (-1 : Int) := h_neI c34
        refine lv_iload_n hx hb dX11_aSend_52 rfl (lv_at hl 0 rfl) ?_
        refine lv_iload_n hx hb dX11_aSend_53 rfl (lv_at hl 1 rfl) ?_
        refine lv_icmp_ne (tgt := 63) hx hb dX11_aSend_54 (by decide) (fun c35 => ?_) (fun c35 => ?_)
        · skip
          have c35 : ¬ r26.toInt = r8.toInt := h_neI c35
          refine lv_aload_n hx hb dX11_aSend_63 rfl (lv_at hl 2 rfl) ?_
          refine h_callVv (T := TX11) (rest := []) (As := []) hx hb hml hown hts hK hT5 hZ (fun _ h => h) hS5 (c_X11_ahead l G Y P (o) hM) trivial wd_X11_ahead wV_X11_ahead wL_X11_232 (hM.o rfl) rfl rfl hl.1 rfl (Nat.le_of_ble_eq_true rfl) dX11_aSend_64 ⟨Nat.le_of_ble_eq_true rfl, Nat.le_of_ble_eq_true rfl⟩ ⟨Nat.zero_le _, Nat.zero_le _⟩ (fun H6 locs hp6 hT6 hS6 hk6 => ?_)
          obtain ⟨hp6, hB6⟩ := hp6
          have z36 : ∀ j : Nat, 600 ≤ j → h_ai H6 (o + 1) j = h_ai H0 (o + 1) j := fun j hj => (h_ai_same hB6).trans (z27 j hj)
          have m37 : h_ai H6 (o + 1) 0 = v7 := (h_ai_same hB6).trans m28
          have m38 : h_ai H6 (o + 1) (80 + r8.toInt).toNat = r17 := (h_ai_same hB6).trans m29
          have R39 : mR o H6 := R30.same hB6
          obtain ⟨y40, my40⟩ : ∃ x, h_gi G H6 11 o 12 = x := ⟨_, rfl⟩
          obtain ⟨y41, my41⟩ : ∃ x, h_gi G H6 11 o 14 = x := ⟨_, rfl⟩
          have by41 : 0 ≤ y41.toInt ∧ y41.toInt ≤ 500 := by rw [← my41]; exact (hT6.gi (hM.o rfl) 14 rfl).1
          have f42 : y32.toInt ≤ y41.toInt ∧ (y40.toInt = 4 → y32.toInt < y41.toInt) := by have q := hp6; rw [my40] at q; rw [my32] at q; rw [my41] at q; exact q
          refine lv_aload_n hx hb dX11_aSend_67 rfl (lv_at hl 2 rfl) ?_
          refine lv_iconst (v := 0) hx hb dX11_aSend_68 (by decide) ?_
          refine lv_bipush (v := 7) hx hb dX11_aSend_69 (by decide) ?_
          obtain ⟨y43, my43⟩ : ∃ x, h_gi G H6 11 o 15 = x := ⟨_, rfl⟩
          refine h_callVi (T := TX11) (rest := []) (As := [.int 0, .int 7]) hx hb hml hown hts hK hT6 hZ (fun _ h => h) hS6 (c_X11_isNumber l G Y P (o) hM 0 7) trivial wd_X11_isNumber wV_X11_isNumber wL_X11_235 (hM.o rfl) rfl rfl hl.1 rfl (Nat.le_of_ble_eq_true rfl) dX11_aSend_71 ⟨Nat.le_of_ble_eq_true rfl, Nat.le_of_ble_eq_true rfl⟩ ⟨Nat.zero_le _, Nat.zero_le _⟩ (fun r44 H7 locs hp7 hT7 hS7 hk7 => ?_)
          obtain ⟨hp7, hB7⟩ := hp7
          have z45 : ∀ j : Nat, 600 ≤ j → h_ai H7 (o + 1) j = h_ai H0 (o + 1) j := fun j hj => (h_ai_same hB7).trans (z36 j hj)
          have m46 : h_ai H7 (o + 1) 0 = v7 := (h_ai_same hB7).trans m37
          have m47 : h_ai H7 (o + 1) (80 + r8.toInt).toNat = r17 := (h_ai_same hB7).trans m38
          have R48 : mR o H7 := R39.same hB7
          obtain ⟨y49, my49⟩ : ∃ x, h_gi G H7 11 o 12 = x := ⟨_, rfl⟩
          obtain ⟨y50, my50⟩ : ∃ x, h_gi G H7 11 o 14 = x := ⟨_, rfl⟩
          have by50 : 0 ≤ y50.toInt ∧ y50.toInt ≤ 500 := by rw [← my50]; exact (hT7.gi (hM.o rfl) 14 rfl).1
          obtain ⟨y51, my51⟩ : ∃ x, h_gi G H7 11 o 15 = x := ⟨_, rfl⟩
          have f52 : y50.toInt = y41.toInt ∧ y49.toInt = y40.toInt ∧ y51.toInt = y43.toInt ∧ (r44.toInt = 0 ∨ ((0 : Int) ≤ y43.toInt ∧ y43.toInt ≤ (7 : Int))) := by have q := hp7.2; rw [my40] at q; rw [my49] at q; rw [my41] at q; rw [my50] at q; rw [my43] at q; rw [my51] at q; exact q
          refine lv_if_ne (tgt := 79) hx hb dX11_aSend_74 (by decide) (fun c53 => ?_) (fun c53 => ?_)
          · skip
            have c53 : ¬ r44.toInt = (0 : Int) := h_neI c53
            refine lv_aload_n hx hb dX11_aSend_79 rfl (lv_at hl 2 rfl) ?_
            refine lv_iload_n hx hb dX11_aSend_80 rfl (lv_at hl 1 rfl) ?_
            refine lv_iload_n hx hb dX11_aSend_81 rfl (lv_at hl 0 rfl) ?_
            refine lv_aload_n hx hb dX11_aSend_82 rfl (lv_at hl 2 rfl) ?_
            refine h_geti (C := RX11) (T := TX11) (N := 23) hx hb hts inX11 hown hK hT7 (hM.o rfl) rfl 15 rfl wF_X11_195 rfl dX11_aSend_83 (fun p54 => ?_)
            refine h_top (v := y51) my51 ?_
            refine h_callVi (T := TX11) (rest := []) (As := [.int r8, .int r26, .int y51]) hx hb hml hown hts hK hT7 hZ (fun _ h => h) hS7 (c_X11_sends l G Y P (o) hM r8 r26 y51 (show 0 ≤ r8.toInt ∧ r8.toInt ≤ 7 from by omega) (show 0 ≤ r26.toInt ∧ r26.toInt ≤ 7 from by omega) (show 0 ≤ y51.toInt ∧ y51.toInt ≤ 7 from by omega)) (show (h_ai H7 (o + 1) (80 + r8.toInt).toNat).toInt ≤ 5 from by rw [m47]; exact (show r17.toInt ≤ 5 from by omega)) wd_X11_sends wV_X11_sends wL_X11_247 (hM.o rfl) rfl rfl hl.1 rfl (Nat.le_of_ble_eq_true rfl) dX11_aSend_86 ⟨Nat.le_of_ble_eq_true rfl, Nat.le_of_ble_eq_true rfl⟩ ⟨Nat.zero_le _, Nat.zero_le _⟩ (fun r55 H8 locs hp8 hT8 hS8 hk8 => ?_)
            obtain ⟨hp8, hB8⟩ := hp8
            have z56 : ∀ j : Nat, 600 ≤ j → h_ai H8 (o + 1) j = h_ai H0 (o + 1) j := fun j hj => (hB8.1 j (by unfold mK; omega)).trans (z45 j hj)
            have m57 : h_ai H8 (o + 1) 0 = v7 := (hB8.1 _ (by unfold mK; omega)).trans m46
            have R58 : mR o H8 := R48.keep hB8.1
            refine lv_pop hx hb dX11_aSend_89 rfl ?_
            refine lv_aload_n hx hb dX11_aSend_90 rfl (lv_at hl 2 rfl) ?_
            refine h_callVv (T := TX11) (rest := []) (As := []) hx hb hml hown hts hK hT8 hZ (fun _ h => h) hS8 (c_X11_ahead l G Y P (o) hM) trivial wd_X11_ahead wV_X11_ahead wL_X11_232 (hM.o rfl) rfl rfl hl.1 rfl (Nat.le_of_ble_eq_true rfl) dX11_aSend_91 ⟨Nat.le_of_ble_eq_true rfl, Nat.le_of_ble_eq_true rfl⟩ ⟨Nat.zero_le _, Nat.zero_le _⟩ (fun H9 locs hp9 hT9 hS9 hk9 => ?_)
            obtain ⟨hp9, hB9⟩ := hp9
            have z59 : ∀ j : Nat, 600 ≤ j → h_ai H9 (o + 1) j = h_ai H0 (o + 1) j := fun j hj => (h_ai_same hB9).trans (z56 j hj)
            have m60 : h_ai H9 (o + 1) 0 = v7 := (h_ai_same hB9).trans m57
            have R61 : mR o H9 := R58.same hB9
            obtain ⟨y62, my62⟩ : ∃ x, h_gi G H9 11 o 12 = x := ⟨_, rfl⟩
            obtain ⟨y63, my63⟩ : ∃ x, h_gi G H9 11 o 14 = x := ⟨_, rfl⟩
            have by63 : 0 ≤ y63.toInt ∧ y63.toInt ≤ 500 := by rw [← my63]; exact (hT9.gi (hM.o rfl) 14 rfl).1
            have f64 : y50.toInt ≤ y63.toInt ∧ (y62.toInt = 4 → y50.toInt < y63.toInt) := by have q := hp9; rw [my62] at q; rw [((h_gi_same (hB8.2 o (by omega))).trans my50)] at q; rw [my63] at q; exact q
            refine lv_iconst (v := 1) hx hb dX11_aSend_94 (by decide) ?_
            exact hret _ _ _ _ _ hT9 hS9 ⟨(by decide), ⟨⟨(by decide), (show (h_gi G H0 11 o 14).toInt ≤ (h_gi G H9 11 o 14).toInt ∧ ((1 : Int) = 0 ∨ ((h_gi G H9 11 o 12).toInt = 4 → (h_gi G H0 11 o 14).toInt < (h_gi G H9 11 o 14).toInt)) from by rw [my62, my1, my63]; show y1.toInt ≤ y63.toInt ∧ ((1 : Int) = 0 ∨ (y62.toInt = 4 → y1.toInt < y63.toInt)); omega)⟩, ⟨R61, z59⟩⟩⟩ dX11_aSend_95
          · skip
            have c53 : r44.toInt = (0 : Int) := congrArg Int32.toInt c53
            refine lv_iconst (v := 0) hx hb dX11_aSend_77 (by decide) ?_
            exact hret _ _ _ _ _ hT7 hS7 ⟨(by decide), ⟨⟨(by decide), (show (h_gi G H0 11 o 14).toInt ≤ (h_gi G H7 11 o 14).toInt ∧ ((0 : Int) = 0 ∨ ((h_gi G H7 11 o 12).toInt = 4 → (h_gi G H0 11 o 14).toInt < (h_gi G H7 11 o 14).toInt)) from by rw [my49, my1, my50]; show y1.toInt ≤ y50.toInt ∧ ((0 : Int) = 0 ∨ (y49.toInt = 4 → y1.toInt < y50.toInt)); omega)⟩, ⟨R48, z45⟩⟩⟩ dX11_aSend_78
        · skip
          have c35 : r26.toInt = r8.toInt := congrArg Int32.toInt c35
          refine lv_aload_n hx hb dX11_aSend_57 rfl (lv_at hl 2 rfl) ?_
          refine lv_iconst (v := 5) hx hb dX11_aSend_58 (by decide) ?_
          obtain ⟨y65, my65⟩ : ∃ x, h_gi G H5 11 o 15 = x := ⟨_, rfl⟩
          refine h_callVi (T := TX11) (rest := []) (As := [.int 5]) hx hb hml hown hts hK hT5 hZ (fun _ h => h) hS5 (c_X11_fails l G Y P (o) hM 5) trivial wd_X11_fails wV_X11_fails wL_X11_222 (hM.o rfl) rfl rfl hl.1 rfl (Nat.le_of_ble_eq_true rfl) dX11_aSend_59 ⟨Nat.le_of_ble_eq_true rfl, Nat.le_of_ble_eq_true rfl⟩ ⟨Nat.zero_le _, Nat.zero_le _⟩ (fun r66 H10 locs hp10 hT10 hS10 hk10 => ?_)
          obtain ⟨hp10, hB10⟩ := hp10
          have z67 : ∀ j : Nat, 600 ≤ j → h_ai H10 (o + 1) j = h_ai H0 (o + 1) j := fun j hj => (h_ai_same hB10).trans (z27 j hj)
          have m68 : h_ai H10 (o + 1) 0 = v7 := (h_ai_same hB10).trans m28
          have m69 : h_ai H10 (o + 1) (80 + r8.toInt).toNat = r17 := (h_ai_same hB10).trans m29
          have R70 : mR o H10 := R30.same hB10
          obtain ⟨y71, my71⟩ : ∃ x, h_gi G H10 11 o 12 = x := ⟨_, rfl⟩
          obtain ⟨y72, my72⟩ : ∃ x, h_gi G H10 11 o 14 = x := ⟨_, rfl⟩
          have by72 : 0 ≤ y72.toInt ∧ y72.toInt ≤ 500 := by rw [← my72]; exact (hT10.gi (hM.o rfl) 14 rfl).1
          obtain ⟨y73, my73⟩ : ∃ x, h_gi G H10 11 o 15 = x := ⟨_, rfl⟩
          have f74 : r66.toInt = 0 ∧ y72.toInt = y32.toInt ∧ y71.toInt = y31.toInt ∧ y73.toInt = y65.toInt := by have q := hp10.2; rw [my31] at q; rw [my71] at q; rw [my32] at q; rw [my72] at q; rw [my65] at q; rw [my73] at q; exact q
          exact hret _ _ _ _ _ hT10 hS10 ⟨hp10.1, ⟨⟨hp10.1, (show (h_gi G H0 11 o 14).toInt ≤ (h_gi G H10 11 o 14).toInt ∧ (r66.toInt = 0 ∨ ((h_gi G H10 11 o 12).toInt = 4 → (h_gi G H0 11 o 14).toInt < (h_gi G H10 11 o 14).toInt)) from by rw [my71, my1, my72]; show y1.toInt ≤ y72.toInt ∧ (r66.toInt = 0 ∨ (y71.toInt = 4 → y1.toInt < y72.toInt)); omega)⟩, ⟨R70, z67⟩⟩⟩ dX11_aSend_62
      · skip
        have c34 : r26.toInt = (-1 : Int) := congrArg Int32.toInt c34
        refine lv_iconst (v := 0) hx hb dX11_aSend_50 (by decide) ?_
        exact hret _ _ _ _ _ hT5 hS5 ⟨(by decide), ⟨⟨(by decide), (show (h_gi G H0 11 o 14).toInt ≤ (h_gi G H5 11 o 14).toInt ∧ ((0 : Int) = 0 ∨ ((h_gi G H5 11 o 12).toInt = 4 → (h_gi G H0 11 o 14).toInt < (h_gi G H5 11 o 14).toInt)) from by rw [my31, my1, my32]; show y1.toInt ≤ y32.toInt ∧ ((0 : Int) = 0 ∨ (y31.toInt = 4 → y1.toInt < y32.toInt)); omega)⟩, ⟨R30, z27⟩⟩⟩ dX11_aSend_51
    · skip
      have c18 : r17.toInt = (6 : Int) := congrArg Int32.toInt c18
      refine lv_aload_n hx hb dX11_aSend_29 rfl (lv_at hl 1 rfl) ?_
      refine lv_bipush (v := 6) hx hb dX11_aSend_30 (by decide) ?_
      obtain ⟨y75, my75⟩ : ∃ x, h_gi G H2 11 o 15 = x := ⟨_, rfl⟩
      refine h_callVi (T := TX11) (rest := []) (As := [.int 6]) hx hb hml hown hts hK hT2 hZ (fun _ h => h) hS3 (c_X11_fails l G Y P (o) hM 6) trivial wd_X11_fails wV_X11_fails wL_X11_222 (hM.o rfl) rfl rfl hl.1 rfl (Nat.le_of_ble_eq_true rfl) dX11_aSend_32 ⟨Nat.le_of_ble_eq_true rfl, Nat.le_of_ble_eq_true rfl⟩ ⟨Nat.zero_le _, Nat.zero_le _⟩ (fun r76 H11 locs hp11 hT11 hS11 hk11 => ?_)
      obtain ⟨hp11, hB11⟩ := hp11
      have z77 : ∀ j : Nat, 600 ≤ j → h_ai H11 (o + 1) j = h_ai H0 (o + 1) j := fun j hj => (h_ai_same hB11).trans (z9 j hj)
      have m78 : h_ai H11 (o + 1) 0 = v7 := (h_ai_same hB11).trans m10
      have m79 : h_ai H11 (o + 1) (80 + r8.toInt).toNat = r17 := (h_ai_same hB11).trans mr17
      have R80 : mR o H11 := R11.same hB11
      obtain ⟨y81, my81⟩ : ∃ x, h_gi G H11 11 o 12 = x := ⟨_, rfl⟩
      obtain ⟨y82, my82⟩ : ∃ x, h_gi G H11 11 o 14 = x := ⟨_, rfl⟩
      have by82 : 0 ≤ y82.toInt ∧ y82.toInt ≤ 500 := by rw [← my82]; exact (hT11.gi (hM.o rfl) 14 rfl).1
      obtain ⟨y83, my83⟩ : ∃ x, h_gi G H11 11 o 15 = x := ⟨_, rfl⟩
      have f84 : r76.toInt = 0 ∧ y82.toInt = y13.toInt ∧ y81.toInt = y12.toInt ∧ y83.toInt = y75.toInt := by have q := hp11.2; rw [my12] at q; rw [my81] at q; rw [my13] at q; rw [my82] at q; rw [my75] at q; rw [my83] at q; exact q
      exact hret _ _ _ _ _ hT11 hS11 ⟨hp11.1, ⟨⟨hp11.1, (show (h_gi G H0 11 o 14).toInt ≤ (h_gi G H11 11 o 14).toInt ∧ (r76.toInt = 0 ∨ ((h_gi G H11 11 o 12).toInt = 4 → (h_gi G H0 11 o 14).toInt < (h_gi G H11 11 o 14).toInt)) from by rw [my81, my1, my82]; show y1.toInt ≤ y82.toInt ∧ (r76.toInt = 0 ∨ (y81.toInt = 4 → y1.toInt < y82.toInt)); omega)⟩, ⟨R80, z77⟩⟩⟩ dX11_aSend_35
  · skip
    have c15 : r8.toInt = (-1 : Int) := congrArg Int32.toInt c15
    refine lv_iconst (v := 0) hx hb dX11_aSend_14 (by decide) ?_
    exact hret _ _ _ _ _ hT2 hS2 ⟨(by decide), ⟨⟨(by decide), (show (h_gi G H0 11 o 14).toInt ≤ (h_gi G H2 11 o 14).toInt ∧ ((0 : Int) = 0 ∨ ((h_gi G H2 11 o 12).toInt = 4 → (h_gi G H0 11 o 14).toInt < (h_gi G H2 11 o 14).toInt)) from by rw [my12, my1, my13]; show y1.toInt ≤ y13.toInt ∧ ((0 : Int) = 0 ∨ (y12.toInt = 4 → y1.toInt < y13.toInt)); omega)⟩, ⟨R11, z9⟩⟩⟩ dX11_aSend_15
set_option maxHeartbeats 4000000 in
set_option maxRecDepth 100000 in
theorem c_X11_aBreak (l : Launch) (G : hG) (Y : hW) (P : Int32 → Prop) (o : Nat) (hM : h_On Y o (modE (tM P) o)) : hMi l yX11_aBreak cX11_aBreak 2 (some .boolean) 7 151 G Y [.ref (o)] (fun H => mR o H) (fun H r H1 => ((r = 0 ∨ r = 1) ∧ ((h_gi G H 11 o 14).toInt ≤ (h_gi G H1 11 o 14).toInt ∧ (r.toInt = 0 ∨ ((h_gi G H1 11 o 12).toInt = 4 → (h_gi G H 11 o 14).toInt < (h_gi G H1 11 o 14).toInt)))) ∧ (mR o H1 ∧ mW o H H1)) := by
  refine h_ofz (by decide +kernel) (Nat.le_of_ble_eq_true rfl) ?_
  intro p e s m args below meth c H0 ls Q hx hb hts hown hml hK hZ hT0 hpr hS0 hl hret
  have hl : lv_has ls 2 [(0, .ref (o))] := hl
  obtain ⟨y1, my1⟩ : ∃ x, h_gi G H0 11 o 14 = x := ⟨_, rfl⟩
  have by1 : 0 ≤ y1.toInt ∧ y1.toInt ≤ 500 := by rw [← my1]; exact (hT0.gi (hM.o rfl) 14 rfl).1
  refine lv_aload_n hx hb dX11_aBreak_0 rfl (lv_at hl 0 rfl) ?_
  refine lv_bipush (v := 16) hx hb dX11_aBreak_1 (by decide) ?_
  refine h_callVi (T := TX11) (rest := []) (As := [.int 16]) hx hb hml hown hts hK hT0 hZ (fun _ h => h) hS0 (c_of l G Y P (o) hM 16 16 (by decide) (h_inc (by decide))) trivial wd_X11_of wV_X11_of wL_X11_47 (hM.o rfl) rfl rfl hl.1 rfl (Nat.le_of_ble_eq_true rfl) dX11_aBreak_3 ⟨Nat.le_of_ble_eq_true rfl, Nat.le_of_ble_eq_true rfl⟩ ⟨Nat.zero_le _, Nat.zero_le _⟩ (fun r2 H1 locs hp1 hT1 hS1 hk1 => ?_)
  obtain ⟨hp1, he⟩ := hp1
  have he := he.symm
  subst he
  have mr2 : h_ai H0 (o + 1) 16 = r2 := hp1.1.symm
  have br2 := mP_m1 hp1.2 (by omega)
  refine lv_iconst (v := (-1)) hx hb dX11_aBreak_6 (by decide) ?_
  refine lv_icmp_eq (tgt := 17) hx hb dX11_aBreak_7 (by decide) (fun c3 => ?_) (fun c3 => ?_)
  · skip
    have c3 : r2.toInt = (-1 : Int) := congrArg Int32.toInt c3
    refine lv_aload_n hx hb dX11_aBreak_17 rfl (lv_at hl 0 rfl) ?_
    refine h_callVv (T := TX11) (rest := []) (As := []) hx hb hml hown hts hK hT0 hZ (fun _ h => h) hS1 (c_X11_ahead l G Y P (o) hM) trivial wd_X11_ahead wV_X11_ahead wL_X11_232 (hM.o rfl) rfl rfl hl.1 rfl (Nat.le_of_ble_eq_true rfl) dX11_aBreak_18 ⟨Nat.le_of_ble_eq_true rfl, Nat.le_of_ble_eq_true rfl⟩ ⟨Nat.zero_le _, Nat.zero_le _⟩ (fun H2 locs hp2 hT2 hS2 hk2 => ?_)
    obtain ⟨hp2, hB2⟩ := hp2
    have z4 : ∀ j : Nat, 600 ≤ j → h_ai H2 (o + 1) j = h_ai H0 (o + 1) j := fun j hj => (h_ai_same hB2)
    have m5 : h_ai H2 (o + 1) 16 = r2 := (h_ai_same hB2).trans mr2
    have R6 : mR o H2 := hpr.same hB2
    obtain ⟨y7, my7⟩ : ∃ x, h_gi G H2 11 o 12 = x := ⟨_, rfl⟩
    obtain ⟨y8, my8⟩ : ∃ x, h_gi G H2 11 o 14 = x := ⟨_, rfl⟩
    have by8 : 0 ≤ y8.toInt ∧ y8.toInt ≤ 500 := by rw [← my8]; exact (hT2.gi (hM.o rfl) 14 rfl).1
    have f9 : y1.toInt ≤ y8.toInt ∧ (y7.toInt = 4 → y1.toInt < y8.toInt) := by have q := hp2; rw [my7] at q; rw [my1] at q; rw [my8] at q; exact q
    refine lv_aload_n hx hb dX11_aBreak_21 rfl (lv_at hl 0 rfl) ?_
    obtain ⟨v10, mv10⟩ : ∃ x, h_ai H2 (o + 1) 0 = x := ⟨_, rfl⟩
    have bv10 := mP_N (mP_cell hM hT2 (j := 0) (by omega)) (by omega)
    rw [mv10] at bv10
    refine h_callVi (T := TX11) (rest := []) (As := []) hx hb hml hown hts hK hT2 hZ (fun _ h => h) hS2 (c_X11_stationHere l G Y P (o) hM) trivial wd_X11_stationHere wV_X11_stationHere wL_X11_244 (hM.o rfl) rfl rfl hl.1 rfl (Nat.le_of_ble_eq_true rfl) dX11_aBreak_22 ⟨Nat.le_of_ble_eq_true rfl, Nat.le_of_ble_eq_true rfl⟩ ⟨Nat.zero_le _, Nat.zero_le _⟩ (fun r11 H3 locs hp3 hT3 hS3 hk3 => ?_)
    obtain ⟨hp3, hB3⟩ := hp3
    have z12 : ∀ j : Nat, 600 ≤ j → h_ai H3 (o + 1) j = h_ai H0 (o + 1) j := fun j hj => (h_ai_same hB3).trans (z4 j hj)
    have m13 : h_ai H3 (o + 1) 16 = r2 := (h_ai_same hB3).trans m5
    have m14 : h_ai H3 (o + 1) 0 = v10 := (h_ai_same hB3).trans mv10
    have R15 : mR o H3 := R6.same hB3
    obtain ⟨y16, my16⟩ : ∃ x, h_gi G H3 11 o 12 = x := ⟨_, rfl⟩
    obtain ⟨y17, my17⟩ : ∃ x, h_gi G H3 11 o 14 = x := ⟨_, rfl⟩
    have by17 : 0 ≤ y17.toInt ∧ y17.toInt ≤ 500 := by rw [← my17]; exact (hT3.gi (hM.o rfl) 14 rfl).1
    have f18 : y17.toInt = y8.toInt ∧ y16.toInt = y7.toInt ∧ (r11.toInt = -1 ∨ (0 ≤ r11.toInt ∧ r11.toInt < v10.toInt)) := by have q := hp3; rw [mv10] at q; rw [my7] at q; rw [my16] at q; rw [my8] at q; rw [my17] at q; exact q
    refine lv_istore_n (lv' := [(1, .int r11), (0, .ref (o))]) hx hb dX11_aBreak_25 rfl hl (by decide) rfl (fun ls hl => ?_)
    refine lv_iload_n hx hb dX11_aBreak_26 rfl (lv_at hl 0 rfl) ?_
    refine lv_iconst (v := (-1)) hx hb dX11_aBreak_27 (by decide) ?_
    refine lv_icmp_ne (tgt := 33) hx hb dX11_aBreak_28 (by decide) (fun c19 => ?_) (fun c19 => ?_)
    · skip
      have c19 : ¬ r11.toInt = (-1 : Int) := h_neI c19
      refine lv_aload_n hx hb dX11_aBreak_33 rfl (lv_at hl 1 rfl) ?_
      refine h_callVv (T := TX11) (rest := []) (As := []) hx hb hml hown hts hK hT3 hZ (fun _ h => h) hS3 (c_X11_ahead l G Y P (o) hM) trivial wd_X11_ahead wV_X11_ahead wL_X11_232 (hM.o rfl) rfl rfl hl.1 rfl (Nat.le_of_ble_eq_true rfl) dX11_aBreak_34 ⟨Nat.le_of_ble_eq_true rfl, Nat.le_of_ble_eq_true rfl⟩ ⟨Nat.zero_le _, Nat.zero_le _⟩ (fun H4 locs hp4 hT4 hS4 hk4 => ?_)
      obtain ⟨hp4, hB4⟩ := hp4
      have z20 : ∀ j : Nat, 600 ≤ j → h_ai H4 (o + 1) j = h_ai H0 (o + 1) j := fun j hj => (h_ai_same hB4).trans (z12 j hj)
      have m21 : h_ai H4 (o + 1) 16 = r2 := (h_ai_same hB4).trans m13
      have m22 : h_ai H4 (o + 1) 0 = v10 := (h_ai_same hB4).trans m14
      have R23 : mR o H4 := R15.same hB4
      obtain ⟨y24, my24⟩ : ∃ x, h_gi G H4 11 o 12 = x := ⟨_, rfl⟩
      obtain ⟨y25, my25⟩ : ∃ x, h_gi G H4 11 o 14 = x := ⟨_, rfl⟩
      have by25 : 0 ≤ y25.toInt ∧ y25.toInt ≤ 500 := by rw [← my25]; exact (hT4.gi (hM.o rfl) 14 rfl).1
      have f26 : y17.toInt ≤ y25.toInt ∧ (y24.toInt = 4 → y17.toInt < y25.toInt) := by have q := hp4; rw [my24] at q; rw [my17] at q; rw [my25] at q; exact q
      refine lv_aload_n hx hb dX11_aBreak_37 rfl (lv_at hl 1 rfl) ?_
      refine lv_iconst (v := 0) hx hb dX11_aBreak_38 (by decide) ?_
      refine lv_iconst (v := 2) hx hb dX11_aBreak_39 (by decide) ?_
      obtain ⟨y27, my27⟩ : ∃ x, h_gi G H4 11 o 15 = x := ⟨_, rfl⟩
      refine h_callVi (T := TX11) (rest := []) (As := [.int 0, .int 2]) hx hb hml hown hts hK hT4 hZ (fun _ h => h) hS4 (c_X11_isNumber l G Y P (o) hM 0 2) trivial wd_X11_isNumber wV_X11_isNumber wL_X11_235 (hM.o rfl) rfl rfl hl.1 rfl (Nat.le_of_ble_eq_true rfl) dX11_aBreak_40 ⟨Nat.le_of_ble_eq_true rfl, Nat.le_of_ble_eq_true rfl⟩ ⟨Nat.zero_le _, Nat.zero_le _⟩ (fun r28 H5 locs hp5 hT5 hS5 hk5 => ?_)
      obtain ⟨hp5, hB5⟩ := hp5
      have z29 : ∀ j : Nat, 600 ≤ j → h_ai H5 (o + 1) j = h_ai H0 (o + 1) j := fun j hj => (h_ai_same hB5).trans (z20 j hj)
      have m30 : h_ai H5 (o + 1) 16 = r2 := (h_ai_same hB5).trans m21
      have m31 : h_ai H5 (o + 1) 0 = v10 := (h_ai_same hB5).trans m22
      have R32 : mR o H5 := R23.same hB5
      obtain ⟨y33, my33⟩ : ∃ x, h_gi G H5 11 o 12 = x := ⟨_, rfl⟩
      obtain ⟨y34, my34⟩ : ∃ x, h_gi G H5 11 o 14 = x := ⟨_, rfl⟩
      have by34 : 0 ≤ y34.toInt ∧ y34.toInt ≤ 500 := by rw [← my34]; exact (hT5.gi (hM.o rfl) 14 rfl).1
      obtain ⟨y35, my35⟩ : ∃ x, h_gi G H5 11 o 15 = x := ⟨_, rfl⟩
      have f36 : y34.toInt = y25.toInt ∧ y33.toInt = y24.toInt ∧ y35.toInt = y27.toInt ∧ (r28.toInt = 0 ∨ ((0 : Int) ≤ y27.toInt ∧ y27.toInt ≤ (2 : Int))) := by have q := hp5.2; rw [my24] at q; rw [my33] at q; rw [my25] at q; rw [my34] at q; rw [my27] at q; rw [my35] at q; exact q
      refine lv_if_ne (tgt := 48) hx hb dX11_aBreak_43 (by decide) (fun c37 => ?_) (fun c37 => ?_)
      · skip
        have c37 : ¬ r28.toInt = (0 : Int) := h_neI c37
        refine lv_aload_n hx hb dX11_aBreak_48 rfl (lv_at hl 1 rfl) ?_
        refine lv_bipush (v := 16) hx hb dX11_aBreak_49 (by decide) ?_
        refine lv_iload_n hx hb dX11_aBreak_51 rfl (lv_at hl 0 rfl) ?_
        refine h_callVv (T := TX11) (rest := []) (As := [.int 16, .int r11]) hx hb hml hown hts hK hT5 hZ (fun _ h => h) hS5 (c_puts l G Y P (o) hM 16 r11 16 (by decide) (h_inc (by decide)) (mP_of1 (by omega) (show -1 ≤ r11.toInt from by omega) (show r11.toInt ≤ 7 from by omega))) trivial wd_X11_puts wV_X11_puts wL_X11_43 (hM.o rfl) rfl rfl hl.1 rfl (Nat.le_of_ble_eq_true rfl) dX11_aBreak_52 ⟨Nat.le_of_ble_eq_true rfl, Nat.le_of_ble_eq_true rfl⟩ ⟨Nat.zero_le _, Nat.zero_le _⟩ (fun H6 locs hp6 hT6 hS6 hk6 => ?_)
        have hp6 : h_apu H5 H6 (o + 1) 16 (.int r11) := hp6.2
        have z38 : ∀ j : Nat, 600 ≤ j → h_ai H6 (o + 1) j = h_ai H0 (o + 1) j := fun j hj => (h_apn hp6 (by omega)).trans (z29 j hj)
        have m39 : h_ai H6 (o + 1) 0 = v10 := (h_apn hp6 (by omega)).trans m31
        have R40 : mR o H6 := mR_break hp6 (by rw [m31]; exact (show r11.toInt < v10.toInt from by omega)) R32
        have m41 : h_ai H6 (o + 1) 16 = r11 := h_aps hp6
        refine lv_aload_n hx hb dX11_aBreak_55 rfl (lv_at hl 1 rfl) ?_
        refine lv_bipush (v := 17) hx hb dX11_aBreak_56 (by decide) ?_
        refine lv_aload_n hx hb dX11_aBreak_58 rfl (lv_at hl 1 rfl) ?_
        refine h_geti (C := RX11) (T := TX11) (N := 23) hx hb hts inX11 hown hK hT6 (hM.o rfl) rfl 15 rfl wF_X11_195 rfl dX11_aBreak_59 (fun p42 => ?_)
        refine h_top (v := y35) ((h_gi_same (hp6.2.1 _ (by omega))).trans my35) ?_
        refine h_callVv (T := TX11) (rest := []) (As := [.int 17, .int y35]) hx hb hml hown hts hK hT6 hZ (fun _ h => h) hS6 (c_puts l G Y P (o) hM 17 y35 17 (by decide) (h_inc (by decide)) (mP_free (by unfold mFree; omega))) trivial wd_X11_puts wV_X11_puts wL_X11_43 (hM.o rfl) rfl rfl hl.1 rfl (Nat.le_of_ble_eq_true rfl) dX11_aBreak_62 ⟨Nat.le_of_ble_eq_true rfl, Nat.le_of_ble_eq_true rfl⟩ ⟨Nat.zero_le _, Nat.zero_le _⟩ (fun H7 locs hp7 hT7 hS7 hk7 => ?_)
        have hp7 : h_apu H6 H7 (o + 1) 17 (.int y35) := hp7.2
        have z43 : ∀ j : Nat, 600 ≤ j → h_ai H7 (o + 1) j = h_ai H0 (o + 1) j := fun j hj => (h_apn hp7 (by omega)).trans (z38 j hj)
        have m44 : h_ai H7 (o + 1) 0 = v10 := (h_apn hp7 (by omega)).trans m39
        have m45 : h_ai H7 (o + 1) 16 = r11 := (h_apn hp7 (by omega)).trans m41
        have R46 : mR o H7 := R40.keep (fun j hj => h_apn hp7 (by unfold mK at hj; omega))
        have m47 : h_ai H7 (o + 1) 17 = y35 := h_aps hp7
        refine lv_aload_n hx hb dX11_aBreak_65 rfl (lv_at hl 1 rfl) ?_
        refine h_callVv (T := TX11) (rest := []) (As := []) hx hb hml hown hts hK hT7 hZ (fun _ h => h) hS7 (c_X11_ahead l G Y P (o) hM) trivial wd_X11_ahead wV_X11_ahead wL_X11_232 (hM.o rfl) rfl rfl hl.1 rfl (Nat.le_of_ble_eq_true rfl) dX11_aBreak_66 ⟨Nat.le_of_ble_eq_true rfl, Nat.le_of_ble_eq_true rfl⟩ ⟨Nat.zero_le _, Nat.zero_le _⟩ (fun H8 locs hp8 hT8 hS8 hk8 => ?_)
        obtain ⟨hp8, hB8⟩ := hp8
        have z48 : ∀ j : Nat, 600 ≤ j → h_ai H8 (o + 1) j = h_ai H0 (o + 1) j := fun j hj => (h_ai_same hB8).trans (z43 j hj)
        have m49 : h_ai H8 (o + 1) 0 = v10 := (h_ai_same hB8).trans m44
        have m50 : h_ai H8 (o + 1) 16 = r11 := (h_ai_same hB8).trans m45
        have m51 : h_ai H8 (o + 1) 17 = y35 := (h_ai_same hB8).trans m47
        have R52 : mR o H8 := R46.same hB8
        obtain ⟨y53, my53⟩ : ∃ x, h_gi G H8 11 o 12 = x := ⟨_, rfl⟩
        obtain ⟨y54, my54⟩ : ∃ x, h_gi G H8 11 o 14 = x := ⟨_, rfl⟩
        have by54 : 0 ≤ y54.toInt ∧ y54.toInt ≤ 500 := by rw [← my54]; exact (hT8.gi (hM.o rfl) 14 rfl).1
        have f55 : y34.toInt ≤ y54.toInt ∧ (y53.toInt = 4 → y34.toInt < y54.toInt) := by have q := hp8; rw [my53] at q; rw [((h_gi_same (hp7.2.1 _ (by omega))).trans ((h_gi_same (hp6.2.1 _ (by omega))).trans my34))] at q; rw [my54] at q; exact q
        refine lv_iconst (v := 1) hx hb dX11_aBreak_69 (by decide) ?_
        exact hret _ _ _ _ _ hT8 hS8 ⟨(by decide), ⟨⟨(by decide), (show (h_gi G H0 11 o 14).toInt ≤ (h_gi G H8 11 o 14).toInt ∧ ((1 : Int) = 0 ∨ ((h_gi G H8 11 o 12).toInt = 4 → (h_gi G H0 11 o 14).toInt < (h_gi G H8 11 o 14).toInt)) from by rw [my53, my1, my54]; show y1.toInt ≤ y54.toInt ∧ ((1 : Int) = 0 ∨ (y53.toInt = 4 → y1.toInt < y54.toInt)); omega)⟩, ⟨R52, z48⟩⟩⟩ dX11_aBreak_70
      · skip
        have c37 : r28.toInt = (0 : Int) := congrArg Int32.toInt c37
        refine lv_iconst (v := 0) hx hb dX11_aBreak_46 (by decide) ?_
        exact hret _ _ _ _ _ hT5 hS5 ⟨(by decide), ⟨⟨(by decide), (show (h_gi G H0 11 o 14).toInt ≤ (h_gi G H5 11 o 14).toInt ∧ ((0 : Int) = 0 ∨ ((h_gi G H5 11 o 12).toInt = 4 → (h_gi G H0 11 o 14).toInt < (h_gi G H5 11 o 14).toInt)) from by rw [my33, my1, my34]; show y1.toInt ≤ y34.toInt ∧ ((0 : Int) = 0 ∨ (y33.toInt = 4 → y1.toInt < y34.toInt)); omega)⟩, ⟨R32, z29⟩⟩⟩ dX11_aBreak_47
    · skip
      have c19 : r11.toInt = (-1 : Int) := congrArg Int32.toInt c19
      refine lv_iconst (v := 0) hx hb dX11_aBreak_31 (by decide) ?_
      exact hret _ _ _ _ _ hT3 hS3 ⟨(by decide), ⟨⟨(by decide), (show (h_gi G H0 11 o 14).toInt ≤ (h_gi G H3 11 o 14).toInt ∧ ((0 : Int) = 0 ∨ ((h_gi G H3 11 o 12).toInt = 4 → (h_gi G H0 11 o 14).toInt < (h_gi G H3 11 o 14).toInt)) from by rw [my16, my1, my17]; show y1.toInt ≤ y17.toInt ∧ ((0 : Int) = 0 ∨ (y16.toInt = 4 → y1.toInt < y17.toInt)); omega)⟩, ⟨R15, z12⟩⟩⟩ dX11_aBreak_32
  · skip
    have c3 : ¬ r2.toInt = (-1 : Int) := h_neI c3
    refine lv_aload_n hx hb dX11_aBreak_10 rfl (lv_at hl 0 rfl) ?_
    refine lv_bipush (v := 6) hx hb dX11_aBreak_11 (by decide) ?_
    obtain ⟨y56, my56⟩ : ∃ x, h_gi G H0 11 o 12 = x := ⟨_, rfl⟩
    obtain ⟨y57, my57⟩ : ∃ x, h_gi G H0 11 o 15 = x := ⟨_, rfl⟩
    refine h_callVi (T := TX11) (rest := []) (As := [.int 6]) hx hb hml hown hts hK hT0 hZ (fun _ h => h) hS1 (c_X11_fails l G Y P (o) hM 6) trivial wd_X11_fails wV_X11_fails wL_X11_222 (hM.o rfl) rfl rfl hl.1 rfl (Nat.le_of_ble_eq_true rfl) dX11_aBreak_13 ⟨Nat.le_of_ble_eq_true rfl, Nat.le_of_ble_eq_true rfl⟩ ⟨Nat.zero_le _, Nat.zero_le _⟩ (fun r58 H9 locs hp9 hT9 hS9 hk9 => ?_)
    obtain ⟨hp9, hB9⟩ := hp9
    have z59 : ∀ j : Nat, 600 ≤ j → h_ai H9 (o + 1) j = h_ai H0 (o + 1) j := fun j hj => (h_ai_same hB9)
    have m60 : h_ai H9 (o + 1) 16 = r2 := (h_ai_same hB9).trans mr2
    have R61 : mR o H9 := hpr.same hB9
    obtain ⟨y62, my62⟩ : ∃ x, h_gi G H9 11 o 12 = x := ⟨_, rfl⟩
    obtain ⟨y63, my63⟩ : ∃ x, h_gi G H9 11 o 14 = x := ⟨_, rfl⟩
    have by63 : 0 ≤ y63.toInt ∧ y63.toInt ≤ 500 := by rw [← my63]; exact (hT9.gi (hM.o rfl) 14 rfl).1
    obtain ⟨y64, my64⟩ : ∃ x, h_gi G H9 11 o 15 = x := ⟨_, rfl⟩
    have f65 : r58.toInt = 0 ∧ y63.toInt = y1.toInt ∧ y62.toInt = y56.toInt ∧ y64.toInt = y57.toInt := by have q := hp9.2; rw [my56] at q; rw [my62] at q; rw [my1] at q; rw [my63] at q; rw [my57] at q; rw [my64] at q; exact q
    exact hret _ _ _ _ _ hT9 hS9 ⟨hp9.1, ⟨⟨hp9.1, (show (h_gi G H0 11 o 14).toInt ≤ (h_gi G H9 11 o 14).toInt ∧ (r58.toInt = 0 ∨ ((h_gi G H9 11 o 12).toInt = 4 → (h_gi G H0 11 o 14).toInt < (h_gi G H9 11 o 14).toInt)) from by rw [my62, my1, my63]; show y1.toInt ≤ y63.toInt ∧ (r58.toInt = 0 ∨ (y62.toInt = 4 → y1.toInt < y63.toInt)); omega)⟩, ⟨R61, z59⟩⟩⟩ dX11_aBreak_16
set_option maxHeartbeats 4000000 in
set_option maxRecDepth 100000 in
theorem c_X11_aState (l : Launch) (G : hG) (Y : hW) (P : Int32 → Prop) (o : Nat) (hM : h_On Y o (modE (tM P) o)) (u1 : Int32) (hz1 : u1 = 0 ∨ u1 = 1) : hMi l yX11_aState cX11_aState 3 (some .boolean) 7 151 G Y [.ref (o), .int u1] (fun H => mR o H) (fun H r H1 => ((r = 0 ∨ r = 1) ∧ ((h_gi G H 11 o 14).toInt ≤ (h_gi G H1 11 o 14).toInt ∧ (r.toInt = 0 ∨ ((h_gi G H1 11 o 12).toInt = 4 → (h_gi G H 11 o 14).toInt < (h_gi G H1 11 o 14).toInt)))) ∧ (mR o H1 ∧ mW o H H1)) := by
  refine h_ofz (by decide +kernel) (Nat.le_of_ble_eq_true rfl) ?_
  intro p e s m args below meth c H0 ls Q hx hb hts hown hml hK hZ hT0 hpr hS0 hl hret
  have hl : lv_has ls 3 [(0, .ref (o)), (1, .int u1)] := hl
  obtain ⟨y1, my1⟩ : ∃ x, h_gi G H0 11 o 14 = x := ⟨_, rfl⟩
  have by1 : 0 ≤ y1.toInt ∧ y1.toInt ≤ 500 := by rw [← my1]; exact (hT0.gi (hM.o rfl) 14 rfl).1
  refine lv_aload_n hx hb dX11_aState_0 rfl (lv_at hl 0 rfl) ?_
  refine h_callVv (T := TX11) (rest := []) (As := []) hx hb hml hown hts hK hT0 hZ (fun _ h => h) hS0 (c_X11_ahead l G Y P (o) hM) trivial wd_X11_ahead wV_X11_ahead wL_X11_232 (hM.o rfl) rfl rfl hl.1 rfl (Nat.le_of_ble_eq_true rfl) dX11_aState_1 ⟨Nat.le_of_ble_eq_true rfl, Nat.le_of_ble_eq_true rfl⟩ ⟨Nat.zero_le _, Nat.zero_le _⟩ (fun H1 locs hp1 hT1 hS1 hk1 => ?_)
  obtain ⟨hp1, hB1⟩ := hp1
  have z2 : ∀ j : Nat, 600 ≤ j → h_ai H1 (o + 1) j = h_ai H0 (o + 1) j := fun j hj => (h_ai_same hB1)
  have R3 : mR o H1 := hpr.same hB1
  obtain ⟨y4, my4⟩ : ∃ x, h_gi G H1 11 o 12 = x := ⟨_, rfl⟩
  obtain ⟨y5, my5⟩ : ∃ x, h_gi G H1 11 o 14 = x := ⟨_, rfl⟩
  have by5 : 0 ≤ y5.toInt ∧ y5.toInt ≤ 500 := by rw [← my5]; exact (hT1.gi (hM.o rfl) 14 rfl).1
  have f6 : y1.toInt ≤ y5.toInt ∧ (y4.toInt = 4 → y1.toInt < y5.toInt) := by have q := hp1; rw [my4] at q; rw [my1] at q; rw [my5] at q; exact q
  refine lv_aload_n hx hb dX11_aState_4 rfl (lv_at hl 0 rfl) ?_
  obtain ⟨v7, mv7⟩ : ∃ x, h_ai H1 (o + 1) 0 = x := ⟨_, rfl⟩
  have bv7 := mP_N (mP_cell hM hT1 (j := 0) (by omega)) (by omega)
  rw [mv7] at bv7
  refine h_callVi (T := TX11) (rest := []) (As := []) hx hb hml hown hts hK hT1 hZ (fun _ h => h) hS1 (c_X11_stationHere l G Y P (o) hM) trivial wd_X11_stationHere wV_X11_stationHere wL_X11_244 (hM.o rfl) rfl rfl hl.1 rfl (Nat.le_of_ble_eq_true rfl) dX11_aState_5 ⟨Nat.le_of_ble_eq_true rfl, Nat.le_of_ble_eq_true rfl⟩ ⟨Nat.zero_le _, Nat.zero_le _⟩ (fun r8 H2 locs hp2 hT2 hS2 hk2 => ?_)
  obtain ⟨hp2, hB2⟩ := hp2
  have z9 : ∀ j : Nat, 600 ≤ j → h_ai H2 (o + 1) j = h_ai H0 (o + 1) j := fun j hj => (h_ai_same hB2).trans (z2 j hj)
  have m10 : h_ai H2 (o + 1) 0 = v7 := (h_ai_same hB2).trans mv7
  have R11 : mR o H2 := R3.same hB2
  obtain ⟨y12, my12⟩ : ∃ x, h_gi G H2 11 o 12 = x := ⟨_, rfl⟩
  obtain ⟨y13, my13⟩ : ∃ x, h_gi G H2 11 o 14 = x := ⟨_, rfl⟩
  have by13 : 0 ≤ y13.toInt ∧ y13.toInt ≤ 500 := by rw [← my13]; exact (hT2.gi (hM.o rfl) 14 rfl).1
  have f14 : y13.toInt = y5.toInt ∧ y12.toInt = y4.toInt ∧ (r8.toInt = -1 ∨ (0 ≤ r8.toInt ∧ r8.toInt < v7.toInt)) := by have q := hp2; rw [mv7] at q; rw [my4] at q; rw [my12] at q; rw [my5] at q; rw [my13] at q; exact q
  refine lv_istore_n (lv' := [(2, .int r8), (0, .ref (o)), (1, .int u1)]) hx hb dX11_aState_8 rfl hl (by decide) rfl (fun ls hl => ?_)
  refine lv_iload_n hx hb dX11_aState_9 rfl (lv_at hl 0 rfl) ?_
  refine lv_iconst (v := (-1)) hx hb dX11_aState_10 (by decide) ?_
  refine lv_icmp_ne (tgt := 16) hx hb dX11_aState_11 (by decide) (fun c15 => ?_) (fun c15 => ?_)
  · skip
    have c15 : ¬ r8.toInt = (-1 : Int) := h_neI c15
    refine lv_iload_n hx hb dX11_aState_16 rfl (lv_at hl 2 rfl) ?_
    refine lv_if_eq (tgt := 34) hx hb dX11_aState_17 (by decide) (fun c16 => ?_) (fun c16 => ?_)
    · skip
      have c16 : u1.toInt = (0 : Int) := congrArg Int32.toInt c16
      refine lv_iload_n hx hb dX11_aState_34 rfl (lv_at hl 2 rfl) ?_
      refine lv_if_eq (tgt := 50) hx hb dX11_aState_35 (by decide) (fun _ => ?_) (fun h => absurd (Int32.toInt_inj.mp (show u1.toInt = (0 : Int) from by omega)) h)
      refine lv_aload_n hx hb dX11_aState_50 rfl (lv_at hl 1 rfl) ?_
      refine lv_iconst (v := 1) hx hb dX11_aState_51 (by decide) ?_
      refine lv_iload_n hx hb dX11_aState_52 rfl (lv_at hl 0 rfl) ?_
      refine h_callVv (T := TX11) (rest := []) (As := [.int 1, .int r8]) hx hb hml hown hts hK hT2 hZ (fun _ h => h) hS2 (c_puts l G Y P (o) hM 1 r8 1 (by decide) (h_inc (by decide)) (mP_of1 (by omega) (show -1 ≤ r8.toInt from by omega) (show r8.toInt ≤ 7 from by omega))) trivial wd_X11_puts wV_X11_puts wL_X11_43 (hM.o rfl) rfl rfl hl.1 rfl (Nat.le_of_ble_eq_true rfl) dX11_aState_53 ⟨Nat.le_of_ble_eq_true rfl, Nat.le_of_ble_eq_true rfl⟩ ⟨Nat.zero_le _, Nat.zero_le _⟩ (fun H3 locs hp3 hT3 hS3 hk3 => ?_)
      have hp3 : h_apu H2 H3 (o + 1) 1 (.int r8) := hp3.2
      have z17 : ∀ j : Nat, 600 ≤ j → h_ai H3 (o + 1) j = h_ai H0 (o + 1) j := fun j hj => (h_apn hp3 (by omega)).trans (z9 j hj)
      have m18 : h_ai H3 (o + 1) 0 = v7 := (h_apn hp3 (by omega)).trans m10
      have R19 : mR o H3 := R11.keep (fun j hj => h_apn hp3 (by unfold mK at hj; omega))
      have m20 : h_ai H3 (o + 1) 1 = r8 := h_aps hp3
      refine lv_aload_n hx hb dX11_aState_56 rfl (lv_at hl 1 rfl) ?_
      refine h_callVv (T := TX11) (rest := []) (As := []) hx hb hml hown hts hK hT3 hZ (fun _ h => h) hS3 (c_X11_ahead l G Y P (o) hM) trivial wd_X11_ahead wV_X11_ahead wL_X11_232 (hM.o rfl) rfl rfl hl.1 rfl (Nat.le_of_ble_eq_true rfl) dX11_aState_57 ⟨Nat.le_of_ble_eq_true rfl, Nat.le_of_ble_eq_true rfl⟩ ⟨Nat.zero_le _, Nat.zero_le _⟩ (fun H4 locs hp4 hT4 hS4 hk4 => ?_)
      obtain ⟨hp4, hB4⟩ := hp4
      have z21 : ∀ j : Nat, 600 ≤ j → h_ai H4 (o + 1) j = h_ai H0 (o + 1) j := fun j hj => (h_ai_same hB4).trans (z17 j hj)
      have m22 : h_ai H4 (o + 1) 0 = v7 := (h_ai_same hB4).trans m18
      have m23 : h_ai H4 (o + 1) 1 = r8 := (h_ai_same hB4).trans m20
      have R24 : mR o H4 := R19.same hB4
      obtain ⟨y25, my25⟩ : ∃ x, h_gi G H4 11 o 12 = x := ⟨_, rfl⟩
      obtain ⟨y26, my26⟩ : ∃ x, h_gi G H4 11 o 14 = x := ⟨_, rfl⟩
      have by26 : 0 ≤ y26.toInt ∧ y26.toInt ≤ 500 := by rw [← my26]; exact (hT4.gi (hM.o rfl) 14 rfl).1
      have f27 : y13.toInt ≤ y26.toInt ∧ (y25.toInt = 4 → y13.toInt < y26.toInt) := by have q := hp4; rw [my25] at q; rw [((h_gi_same (hp3.2.1 _ (by omega))).trans my13)] at q; rw [my26] at q; exact q
      refine lv_iconst (v := 1) hx hb dX11_aState_60 (by decide) ?_
      exact hret _ _ _ _ _ hT4 hS4 ⟨(by decide), ⟨⟨(by decide), (show (h_gi G H0 11 o 14).toInt ≤ (h_gi G H4 11 o 14).toInt ∧ ((1 : Int) = 0 ∨ ((h_gi G H4 11 o 12).toInt = 4 → (h_gi G H0 11 o 14).toInt < (h_gi G H4 11 o 14).toInt)) from by rw [my25, my1, my26]; show y1.toInt ≤ y26.toInt ∧ ((1 : Int) = 0 ∨ (y25.toInt = 4 → y1.toInt < y26.toInt)); omega)⟩, ⟨R24, z21⟩⟩⟩ dX11_aState_61
    · skip
      have c16 : ¬ u1.toInt = (0 : Int) := h_neI c16
      refine lv_aload_n hx hb dX11_aState_20 rfl (lv_at hl 1 rfl) ?_
      refine lv_iload_n hx hb dX11_aState_21 rfl (lv_at hl 0 rfl) ?_
      refine h_callVi (T := TX11) (rest := []) (As := [.int r8]) hx hb hml hown hts hK hT2 hZ (fun _ h => h) hS2 (c_X11_isOn l G Y P (o) hM r8) trivial wd_X11_isOn wV_X11_isOn wL_X11_55 (hM.o rfl) rfl rfl hl.1 rfl (Nat.le_of_ble_eq_true rfl) dX11_aState_22 ⟨Nat.le_of_ble_eq_true rfl, Nat.le_of_ble_eq_true rfl⟩ ⟨Nat.zero_le _, Nat.zero_le _⟩ (fun r28 H5 locs hp5 hT5 hS5 hk5 => ?_)
      obtain ⟨hp5, he⟩ := hp5
      have he := he.symm
      subst he
      have f29 : r28.toInt = 0 ∨ (0 ≤ r8.toInt ∧ r8.toInt < v7.toInt) := by have q := hp5.2; rw [m10] at q; exact q
      refine lv_if_ne (tgt := 34) hx hb dX11_aState_25 (by decide) (fun c30 => ?_) (fun c30 => ?_)
      · skip
        have c30 : ¬ r28.toInt = (0 : Int) := h_neI c30
        refine lv_iload_n hx hb dX11_aState_34 rfl (lv_at hl 2 rfl) ?_
        refine lv_if_eq (tgt := 50) hx hb dX11_aState_35 (by decide) (fun c31 => ?_) (fun c31 => ?_)
        · skip
          have c31 : u1.toInt = (0 : Int) := congrArg Int32.toInt c31
          refine lv_aload_n hx hb dX11_aState_50 rfl (lv_at hl 1 rfl) ?_
          refine lv_iconst (v := 1) hx hb dX11_aState_51 (by decide) ?_
          refine lv_iload_n hx hb dX11_aState_52 rfl (lv_at hl 0 rfl) ?_
          refine h_callVv (T := TX11) (rest := []) (As := [.int 1, .int r8]) hx hb hml hown hts hK hT2 hZ (fun _ h => h) hS5 (c_puts l G Y P (o) hM 1 r8 1 (by decide) (h_inc (by decide)) (mP_of1 (by omega) (show -1 ≤ r8.toInt from by omega) (show r8.toInt ≤ 7 from by omega))) trivial wd_X11_puts wV_X11_puts wL_X11_43 (hM.o rfl) rfl rfl hl.1 rfl (Nat.le_of_ble_eq_true rfl) dX11_aState_53 ⟨Nat.le_of_ble_eq_true rfl, Nat.le_of_ble_eq_true rfl⟩ ⟨Nat.zero_le _, Nat.zero_le _⟩ (fun H6 locs hp6 hT6 hS6 hk6 => ?_)
          have hp6 : h_apu H2 H6 (o + 1) 1 (.int r8) := hp6.2
          have z32 : ∀ j : Nat, 600 ≤ j → h_ai H6 (o + 1) j = h_ai H0 (o + 1) j := fun j hj => (h_apn hp6 (by omega)).trans (z9 j hj)
          have m33 : h_ai H6 (o + 1) 0 = v7 := (h_apn hp6 (by omega)).trans m10
          have R34 : mR o H6 := R11.keep (fun j hj => h_apn hp6 (by unfold mK at hj; omega))
          have m35 : h_ai H6 (o + 1) 1 = r8 := h_aps hp6
          refine lv_aload_n hx hb dX11_aState_56 rfl (lv_at hl 1 rfl) ?_
          refine h_callVv (T := TX11) (rest := []) (As := []) hx hb hml hown hts hK hT6 hZ (fun _ h => h) hS6 (c_X11_ahead l G Y P (o) hM) trivial wd_X11_ahead wV_X11_ahead wL_X11_232 (hM.o rfl) rfl rfl hl.1 rfl (Nat.le_of_ble_eq_true rfl) dX11_aState_57 ⟨Nat.le_of_ble_eq_true rfl, Nat.le_of_ble_eq_true rfl⟩ ⟨Nat.zero_le _, Nat.zero_le _⟩ (fun H7 locs hp7 hT7 hS7 hk7 => ?_)
          obtain ⟨hp7, hB7⟩ := hp7
          have z36 : ∀ j : Nat, 600 ≤ j → h_ai H7 (o + 1) j = h_ai H0 (o + 1) j := fun j hj => (h_ai_same hB7).trans (z32 j hj)
          have m37 : h_ai H7 (o + 1) 0 = v7 := (h_ai_same hB7).trans m33
          have m38 : h_ai H7 (o + 1) 1 = r8 := (h_ai_same hB7).trans m35
          have R39 : mR o H7 := R34.same hB7
          obtain ⟨y40, my40⟩ : ∃ x, h_gi G H7 11 o 12 = x := ⟨_, rfl⟩
          obtain ⟨y41, my41⟩ : ∃ x, h_gi G H7 11 o 14 = x := ⟨_, rfl⟩
          have by41 : 0 ≤ y41.toInt ∧ y41.toInt ≤ 500 := by rw [← my41]; exact (hT7.gi (hM.o rfl) 14 rfl).1
          have f42 : y13.toInt ≤ y41.toInt ∧ (y40.toInt = 4 → y13.toInt < y41.toInt) := by have q := hp7; rw [my40] at q; rw [((h_gi_same (hp6.2.1 _ (by omega))).trans my13)] at q; rw [my41] at q; exact q
          refine lv_iconst (v := 1) hx hb dX11_aState_60 (by decide) ?_
          exact hret _ _ _ _ _ hT7 hS7 ⟨(by decide), ⟨⟨(by decide), (show (h_gi G H0 11 o 14).toInt ≤ (h_gi G H7 11 o 14).toInt ∧ ((1 : Int) = 0 ∨ ((h_gi G H7 11 o 12).toInt = 4 → (h_gi G H0 11 o 14).toInt < (h_gi G H7 11 o 14).toInt)) from by rw [my40, my1, my41]; show y1.toInt ≤ y41.toInt ∧ ((1 : Int) = 0 ∨ (y40.toInt = 4 → y1.toInt < y41.toInt)); omega)⟩, ⟨R39, z36⟩⟩⟩ dX11_aState_61
        · skip
          have c31 : ¬ u1.toInt = (0 : Int) := h_neI c31
          refine lv_aload_n hx hb dX11_aState_38 rfl (lv_at hl 1 rfl) ?_
          refine lv_bipush (v := 48) hx hb dX11_aState_39 (by decide) ?_
          refine lv_iload_n hx hb dX11_aState_41 rfl (lv_at hl 0 rfl) ?_
          refine lv_iadd hx hb dX11_aState_42 ?_
          obtain ⟨x43, qx43, ix43⟩ := h_addX 48 r8 (48 : Int) r8.toInt rfl rfl (by omega) (by omega)
          refine h_top (v := x43) qx43 ?_
          refine lv_iconst (v := 0) hx hb dX11_aState_43 (by decide) ?_
          refine h_callVv (T := TX11) (rest := []) (As := [.int x43, .int 0]) hx hb hml hown hts hK hT2 hZ (fun _ h => h) hS5 (c_puts l G Y P (o) hM x43 0 (48 + r8.toInt).toNat (show x43.toInt.toNat = (48 + r8.toInt).toNat from by omega) (h_vin (by omega) (by omega)) mP_zero) trivial wd_X11_puts wV_X11_puts wL_X11_43 (hM.o rfl) rfl rfl hl.1 rfl (Nat.le_of_ble_eq_true rfl) dX11_aState_44 ⟨Nat.le_of_ble_eq_true rfl, Nat.le_of_ble_eq_true rfl⟩ ⟨Nat.zero_le _, Nat.zero_le _⟩ (fun H8 locs hp8 hT8 hS8 hk8 => ?_)
          have hp8 : h_apu H2 H8 (o + 1) (48 + r8.toInt).toNat (.int 0) := hp8.2
          have z44 : ∀ j : Nat, 600 ≤ j → h_ai H8 (o + 1) j = h_ai H0 (o + 1) j := fun j hj => (h_apn hp8 (by omega)).trans (z9 j hj)
          have m45 : h_ai H8 (o + 1) 0 = v7 := (h_apn hp8 (by omega)).trans m10
          have R46 : mR o H8 := R11.keep (fun j hj => h_apn hp8 (by unfold mK at hj; omega))
          have m47 : h_ai H8 (o + 1) (48 + r8.toInt).toNat = 0 := h_aps hp8
          refine lv_goto (tgt := 56) hx hb dX11_aState_47 (by decide) ?_
          refine lv_aload_n hx hb dX11_aState_56 rfl (lv_at hl 1 rfl) ?_
          refine h_callVv (T := TX11) (rest := []) (As := []) hx hb hml hown hts hK hT8 hZ (fun _ h => h) hS8 (c_X11_ahead l G Y P (o) hM) trivial wd_X11_ahead wV_X11_ahead wL_X11_232 (hM.o rfl) rfl rfl hl.1 rfl (Nat.le_of_ble_eq_true rfl) dX11_aState_57 ⟨Nat.le_of_ble_eq_true rfl, Nat.le_of_ble_eq_true rfl⟩ ⟨Nat.zero_le _, Nat.zero_le _⟩ (fun H9 locs hp9 hT9 hS9 hk9 => ?_)
          obtain ⟨hp9, hB9⟩ := hp9
          have z48 : ∀ j : Nat, 600 ≤ j → h_ai H9 (o + 1) j = h_ai H0 (o + 1) j := fun j hj => (h_ai_same hB9).trans (z44 j hj)
          have m49 : h_ai H9 (o + 1) 0 = v7 := (h_ai_same hB9).trans m45
          have m50 : h_ai H9 (o + 1) (48 + r8.toInt).toNat = 0 := (h_ai_same hB9).trans m47
          have R51 : mR o H9 := R46.same hB9
          obtain ⟨y52, my52⟩ : ∃ x, h_gi G H9 11 o 12 = x := ⟨_, rfl⟩
          obtain ⟨y53, my53⟩ : ∃ x, h_gi G H9 11 o 14 = x := ⟨_, rfl⟩
          have by53 : 0 ≤ y53.toInt ∧ y53.toInt ≤ 500 := by rw [← my53]; exact (hT9.gi (hM.o rfl) 14 rfl).1
          have f54 : y13.toInt ≤ y53.toInt ∧ (y52.toInt = 4 → y13.toInt < y53.toInt) := by have q := hp9; rw [my52] at q; rw [((h_gi_same (hp8.2.1 _ (by omega))).trans my13)] at q; rw [my53] at q; exact q
          refine lv_iconst (v := 1) hx hb dX11_aState_60 (by decide) ?_
          exact hret _ _ _ _ _ hT9 hS9 ⟨(by decide), ⟨⟨(by decide), (show (h_gi G H0 11 o 14).toInt ≤ (h_gi G H9 11 o 14).toInt ∧ ((1 : Int) = 0 ∨ ((h_gi G H9 11 o 12).toInt = 4 → (h_gi G H0 11 o 14).toInt < (h_gi G H9 11 o 14).toInt)) from by rw [my52, my1, my53]; show y1.toInt ≤ y53.toInt ∧ ((1 : Int) = 0 ∨ (y52.toInt = 4 → y1.toInt < y53.toInt)); omega)⟩, ⟨R51, z48⟩⟩⟩ dX11_aState_61
      · skip
        have c30 : r28.toInt = (0 : Int) := congrArg Int32.toInt c30
        refine lv_aload_n hx hb dX11_aState_28 rfl (lv_at hl 1 rfl) ?_
        refine lv_iconst (v := 5) hx hb dX11_aState_29 (by decide) ?_
        obtain ⟨y55, my55⟩ : ∃ x, h_gi G H2 11 o 15 = x := ⟨_, rfl⟩
        refine h_callVi (T := TX11) (rest := []) (As := [.int 5]) hx hb hml hown hts hK hT2 hZ (fun _ h => h) hS5 (c_X11_fails l G Y P (o) hM 5) trivial wd_X11_fails wV_X11_fails wL_X11_222 (hM.o rfl) rfl rfl hl.1 rfl (Nat.le_of_ble_eq_true rfl) dX11_aState_30 ⟨Nat.le_of_ble_eq_true rfl, Nat.le_of_ble_eq_true rfl⟩ ⟨Nat.zero_le _, Nat.zero_le _⟩ (fun r56 H10 locs hp10 hT10 hS10 hk10 => ?_)
        obtain ⟨hp10, hB10⟩ := hp10
        have z57 : ∀ j : Nat, 600 ≤ j → h_ai H10 (o + 1) j = h_ai H0 (o + 1) j := fun j hj => (h_ai_same hB10).trans (z9 j hj)
        have m58 : h_ai H10 (o + 1) 0 = v7 := (h_ai_same hB10).trans m10
        have R59 : mR o H10 := R11.same hB10
        obtain ⟨y60, my60⟩ : ∃ x, h_gi G H10 11 o 12 = x := ⟨_, rfl⟩
        obtain ⟨y61, my61⟩ : ∃ x, h_gi G H10 11 o 14 = x := ⟨_, rfl⟩
        have by61 : 0 ≤ y61.toInt ∧ y61.toInt ≤ 500 := by rw [← my61]; exact (hT10.gi (hM.o rfl) 14 rfl).1
        obtain ⟨y62, my62⟩ : ∃ x, h_gi G H10 11 o 15 = x := ⟨_, rfl⟩
        have f63 : r56.toInt = 0 ∧ y61.toInt = y13.toInt ∧ y60.toInt = y12.toInt ∧ y62.toInt = y55.toInt := by have q := hp10.2; rw [my12] at q; rw [my60] at q; rw [my13] at q; rw [my61] at q; rw [my55] at q; rw [my62] at q; exact q
        exact hret _ _ _ _ _ hT10 hS10 ⟨hp10.1, ⟨⟨hp10.1, (show (h_gi G H0 11 o 14).toInt ≤ (h_gi G H10 11 o 14).toInt ∧ (r56.toInt = 0 ∨ ((h_gi G H10 11 o 12).toInt = 4 → (h_gi G H0 11 o 14).toInt < (h_gi G H10 11 o 14).toInt)) from by rw [my60, my1, my61]; show y1.toInt ≤ y61.toInt ∧ (r56.toInt = 0 ∨ (y60.toInt = 4 → y1.toInt < y61.toInt)); omega)⟩, ⟨R59, z57⟩⟩⟩ dX11_aState_33
  · skip
    have c15 : r8.toInt = (-1 : Int) := congrArg Int32.toInt c15
    refine lv_iconst (v := 0) hx hb dX11_aState_14 (by decide) ?_
    exact hret _ _ _ _ _ hT2 hS2 ⟨(by decide), ⟨⟨(by decide), (show (h_gi G H0 11 o 14).toInt ≤ (h_gi G H2 11 o 14).toInt ∧ ((0 : Int) = 0 ∨ ((h_gi G H2 11 o 12).toInt = 4 → (h_gi G H0 11 o 14).toInt < (h_gi G H2 11 o 14).toInt)) from by rw [my12, my1, my13]; show y1.toInt ≤ y13.toInt ∧ ((0 : Int) = 0 ∨ (y12.toInt = 4 → y1.toInt < y13.toInt)); omega)⟩, ⟨R11, z9⟩⟩⟩ dX11_aState_15
set_option maxHeartbeats 4000000 in
set_option maxRecDepth 100000 in
theorem c_X11_aLine (l : Launch) (G : hG) (Y : hW) (P : Int32 → Prop) (o : Nat) (hM : h_On Y o (modE (tM P) o)) : hMi l yX11_aLine cX11_aLine 1 (some .boolean) 8 173 G Y [.ref (o)] (fun H => mR o H) (fun H r H1 => ((r = 0 ∨ r = 1) ∧ ((h_gi G H 11 o 14).toInt ≤ (h_gi G H1 11 o 14).toInt ∧ (r.toInt = 0 ∨ (h_gi G H 11 o 14).toInt < (h_gi G H1 11 o 14).toInt))) ∧ (mR o H1 ∧ mW o H H1)) := by
  refine h_ofz (by decide +kernel) (Nat.le_of_ble_eq_true rfl) ?_
  intro p e s m args below meth c H0 ls Q hx hb hts hown hml hK hZ hT0 hpr hS0 hl hret
  have hl : lv_has ls 1 [(0, .ref (o))] := hl
  obtain ⟨y1, my1⟩ : ∃ x, h_gi G H0 11 o 14 = x := ⟨_, rfl⟩
  have by1 : 0 ≤ y1.toInt ∧ y1.toInt ≤ 500 := by rw [← my1]; exact (hT0.gi (hM.o rfl) 14 rfl).1
  refine lv_aload_n hx hb dX11_aLine_0 rfl (lv_at hl 0 rfl) ?_
  refine h_callVi (T := TX11) (rest := []) (As := []) hx hb hml hown hts hK hT0 hZ (fun _ h => h) hS0 (c_X11_key l G Y P (o) hM) trivial wd_X11_key wV_X11_key wL_X11_216 (hM.o rfl) rfl rfl hl.1 rfl (Nat.le_of_ble_eq_true rfl) dX11_aLine_1 ⟨Nat.le_of_ble_eq_true rfl, Nat.le_of_ble_eq_true rfl⟩ ⟨Nat.zero_le _, Nat.zero_le _⟩ (fun r2 H1 locs hp1 hT1 hS1 hk1 => ?_)
  obtain ⟨hp1, he⟩ := hp1
  have he := he.symm
  subst he
  rcases h_sw5 r2 with c3 | c3 | c3 | c3 | c3 | c3
  · skip
    refine lv_tableOut (tgt := 142) hx hb dX11_aLine_4 c3 (by decide) ?_
    refine lv_aload_n hx hb dX11_aLine_142 rfl (lv_at hl 0 rfl) ?_
    refine lv_iconst (v := 2) hx hb dX11_aLine_143 (by decide) ?_
    obtain ⟨y4, my4⟩ : ∃ x, h_gi G H0 11 o 12 = x := ⟨_, rfl⟩
    obtain ⟨y5, my5⟩ : ∃ x, h_gi G H0 11 o 15 = x := ⟨_, rfl⟩
    refine h_callVi (T := TX11) (rest := []) (As := [.int 2]) hx hb hml hown hts hK hT0 hZ (fun _ h => h) hS1 (c_X11_fails l G Y P (o) hM 2) trivial wd_X11_fails wV_X11_fails wL_X11_222 (hM.o rfl) rfl rfl hl.1 rfl (Nat.le_of_ble_eq_true rfl) dX11_aLine_144 ⟨Nat.le_of_ble_eq_true rfl, Nat.le_of_ble_eq_true rfl⟩ ⟨Nat.zero_le _, Nat.zero_le _⟩ (fun r6 H2 locs hp2 hT2 hS2 hk2 => ?_)
    obtain ⟨hp2, hB2⟩ := hp2
    have z7 : ∀ j : Nat, 600 ≤ j → h_ai H2 (o + 1) j = h_ai H0 (o + 1) j := fun j hj => (h_ai_same hB2)
    have R8 : mR o H2 := hpr.same hB2
    obtain ⟨y9, my9⟩ : ∃ x, h_gi G H2 11 o 12 = x := ⟨_, rfl⟩
    obtain ⟨y10, my10⟩ : ∃ x, h_gi G H2 11 o 14 = x := ⟨_, rfl⟩
    have by10 : 0 ≤ y10.toInt ∧ y10.toInt ≤ 500 := by rw [← my10]; exact (hT2.gi (hM.o rfl) 14 rfl).1
    obtain ⟨y11, my11⟩ : ∃ x, h_gi G H2 11 o 15 = x := ⟨_, rfl⟩
    have f12 : r6.toInt = 0 ∧ y10.toInt = y1.toInt ∧ y9.toInt = y4.toInt ∧ y11.toInt = y5.toInt := by have q := hp2.2; rw [my4] at q; rw [my9] at q; rw [my1] at q; rw [my10] at q; rw [my5] at q; rw [my11] at q; exact q
    exact hret _ _ _ _ _ hT2 hS2 ⟨hp2.1, ⟨⟨hp2.1, (show (h_gi G H0 11 o 14).toInt ≤ (h_gi G H2 11 o 14).toInt ∧ (r6.toInt = 0 ∨ (h_gi G H0 11 o 14).toInt < (h_gi G H2 11 o 14).toInt) from by rw [my1, my10]; show y1.toInt ≤ y10.toInt ∧ (r6.toInt = 0 ∨ y1.toInt < y10.toInt); omega)⟩, ⟨R8, z7⟩⟩⟩ dX11_aLine_147
  · subst c3
    refine lv_tableIn (tgt := 40) hx hb dX11_aLine_4 (by decide) (by decide) rfl (by decide) ?_
    refine lv_aload_n hx hb dX11_aLine_40 rfl (lv_at hl 0 rfl) ?_
    refine h_callVi (T := TX11) (rest := []) (As := []) hx hb hml hown hts hK hT0 hZ (fun _ h => h) hS1 (c_X11_aStation l G Y P (o) hM) hpr wd_X11_aStation wV_X11_aStation wL_X11_251 (hM.o rfl) rfl rfl hl.1 rfl (Nat.le_of_ble_eq_true rfl) dX11_aLine_41 ⟨Nat.le_of_ble_eq_true rfl, Nat.le_of_ble_eq_true rfl⟩ ⟨Nat.zero_le _, Nat.zero_le _⟩ (fun r13 H3 locs hp3 hT3 hS3 hk3 => ?_)
    obtain ⟨hp3, hB3⟩ := hp3
    have z14 : ∀ j : Nat, 600 ≤ j → h_ai H3 (o + 1) j = h_ai H0 (o + 1) j := fun j hj => (hB3.2 j hj)
    have R15 : mR o H3 := hB3.1
    obtain ⟨y16, my16⟩ : ∃ x, h_gi G H3 11 o 12 = x := ⟨_, rfl⟩
    obtain ⟨y17, my17⟩ : ∃ x, h_gi G H3 11 o 14 = x := ⟨_, rfl⟩
    have by17 : 0 ≤ y17.toInt ∧ y17.toInt ≤ 500 := by rw [← my17]; exact (hT3.gi (hM.o rfl) 14 rfl).1
    have f18 : y1.toInt ≤ y17.toInt ∧ (r13.toInt = 0 ∨ (y16.toInt = 4 → y1.toInt < y17.toInt)) := by have q := hp3.2; rw [my16] at q; rw [my1] at q; rw [my17] at q; exact q
    refine lv_if_eq (tgt := 58) hx hb dX11_aLine_44 (by decide) (fun c19 => ?_) (fun c19 => ?_)
    · skip
      have c19 : r13.toInt = (0 : Int) := congrArg Int32.toInt c19
      refine lv_iconst (v := 0) hx hb dX11_aLine_58 (by decide) ?_
      exact hret _ _ _ _ _ hT3 hS3 ⟨(by decide), ⟨⟨(by decide), (show (h_gi G H0 11 o 14).toInt ≤ (h_gi G H3 11 o 14).toInt ∧ ((0 : Int) = 0 ∨ (h_gi G H0 11 o 14).toInt < (h_gi G H3 11 o 14).toInt) from by rw [my1, my17]; show y1.toInt ≤ y17.toInt ∧ ((0 : Int) = 0 ∨ y1.toInt < y17.toInt); omega)⟩, ⟨R15, z14⟩⟩⟩ dX11_aLine_59
    · skip
      have c19 : ¬ r13.toInt = (0 : Int) := h_neI c19
      refine lv_aload_n hx hb dX11_aLine_47 rfl (lv_at hl 0 rfl) ?_
      refine h_callVi (T := TX11) (rest := []) (As := []) hx hb hml hown hts hK hT3 hZ (fun _ h => h) hS3 (c_X11_closes l G Y P (o) hM) trivial wd_X11_closes wV_X11_closes wL_X11_254 (hM.o rfl) rfl rfl hl.1 rfl (Nat.le_of_ble_eq_true rfl) dX11_aLine_48 ⟨Nat.le_of_ble_eq_true rfl, Nat.le_of_ble_eq_true rfl⟩ ⟨Nat.zero_le _, Nat.zero_le _⟩ (fun r20 H4 locs hp4 hT4 hS4 hk4 => ?_)
      obtain ⟨hp4, hB4⟩ := hp4
      have z21 : ∀ j : Nat, 600 ≤ j → h_ai H4 (o + 1) j = h_ai H0 (o + 1) j := fun j hj => (h_ai_same hB4).trans (z14 j hj)
      have R22 : mR o H4 := R15.same hB4
      obtain ⟨y23, my23⟩ : ∃ x, h_gi G H4 11 o 14 = x := ⟨_, rfl⟩
      have by23 : 0 ≤ y23.toInt ∧ y23.toInt ≤ 500 := by rw [← my23]; exact (hT4.gi (hM.o rfl) 14 rfl).1
      have f24 : y17.toInt ≤ y23.toInt ∧ (r20.toInt = 0 ∨ y16.toInt = 4) := by have q := hp4.2; rw [my16] at q; rw [my17] at q; rw [my23] at q; exact q
      refine lv_if_eq (tgt := 58) hx hb dX11_aLine_51 (by decide) (fun c25 => ?_) (fun c25 => ?_)
      · skip
        have c25 : r20.toInt = (0 : Int) := congrArg Int32.toInt c25
        refine lv_iconst (v := 0) hx hb dX11_aLine_58 (by decide) ?_
        exact hret _ _ _ _ _ hT4 hS4 ⟨(by decide), ⟨⟨(by decide), (show (h_gi G H0 11 o 14).toInt ≤ (h_gi G H4 11 o 14).toInt ∧ ((0 : Int) = 0 ∨ (h_gi G H0 11 o 14).toInt < (h_gi G H4 11 o 14).toInt) from by rw [my1, my23]; show y1.toInt ≤ y23.toInt ∧ ((0 : Int) = 0 ∨ y1.toInt < y23.toInt); omega)⟩, ⟨R22, z21⟩⟩⟩ dX11_aLine_59
      · skip
        have c25 : ¬ r20.toInt = (0 : Int) := h_neI c25
        refine lv_iconst (v := 1) hx hb dX11_aLine_54 (by decide) ?_
        refine lv_goto (tgt := 59) hx hb dX11_aLine_55 (by decide) ?_
        exact hret _ _ _ _ _ hT4 hS4 ⟨(by decide), ⟨⟨(by decide), (show (h_gi G H0 11 o 14).toInt ≤ (h_gi G H4 11 o 14).toInt ∧ ((1 : Int) = 0 ∨ (h_gi G H0 11 o 14).toInt < (h_gi G H4 11 o 14).toInt) from by rw [my1, my23]; show y1.toInt ≤ y23.toInt ∧ ((1 : Int) = 0 ∨ y1.toInt < y23.toInt); omega)⟩, ⟨R22, z21⟩⟩⟩ dX11_aLine_59
  · subst c3
    refine lv_tableIn (tgt := 60) hx hb dX11_aLine_4 (by decide) (by decide) rfl (by decide) ?_
    refine lv_aload_n hx hb dX11_aLine_60 rfl (lv_at hl 0 rfl) ?_
    refine lv_iconst (v := 1) hx hb dX11_aLine_61 (by decide) ?_
    refine h_callVi (T := TX11) (rest := []) (As := [.int 1]) hx hb hml hown hts hK hT0 hZ (fun _ h => h) hS1 (c_X11_aState l G Y P (o) hM 1 (by decide)) hpr wd_X11_aState wV_X11_aState wL_X11_257 (hM.o rfl) rfl rfl hl.1 rfl (Nat.le_of_ble_eq_true rfl) dX11_aLine_62 ⟨Nat.le_of_ble_eq_true rfl, Nat.le_of_ble_eq_true rfl⟩ ⟨Nat.zero_le _, Nat.zero_le _⟩ (fun r26 H5 locs hp5 hT5 hS5 hk5 => ?_)
    obtain ⟨hp5, hB5⟩ := hp5
    have z27 : ∀ j : Nat, 600 ≤ j → h_ai H5 (o + 1) j = h_ai H0 (o + 1) j := fun j hj => (hB5.2 j hj)
    have R28 : mR o H5 := hB5.1
    obtain ⟨y29, my29⟩ : ∃ x, h_gi G H5 11 o 12 = x := ⟨_, rfl⟩
    obtain ⟨y30, my30⟩ : ∃ x, h_gi G H5 11 o 14 = x := ⟨_, rfl⟩
    have by30 : 0 ≤ y30.toInt ∧ y30.toInt ≤ 500 := by rw [← my30]; exact (hT5.gi (hM.o rfl) 14 rfl).1
    have f31 : y1.toInt ≤ y30.toInt ∧ (r26.toInt = 0 ∨ (y29.toInt = 4 → y1.toInt < y30.toInt)) := by have q := hp5.2; rw [my29] at q; rw [my1] at q; rw [my30] at q; exact q
    refine lv_if_eq (tgt := 79) hx hb dX11_aLine_65 (by decide) (fun c32 => ?_) (fun c32 => ?_)
    · skip
      have c32 : r26.toInt = (0 : Int) := congrArg Int32.toInt c32
      refine lv_iconst (v := 0) hx hb dX11_aLine_79 (by decide) ?_
      exact hret _ _ _ _ _ hT5 hS5 ⟨(by decide), ⟨⟨(by decide), (show (h_gi G H0 11 o 14).toInt ≤ (h_gi G H5 11 o 14).toInt ∧ ((0 : Int) = 0 ∨ (h_gi G H0 11 o 14).toInt < (h_gi G H5 11 o 14).toInt) from by rw [my1, my30]; show y1.toInt ≤ y30.toInt ∧ ((0 : Int) = 0 ∨ y1.toInt < y30.toInt); omega)⟩, ⟨R28, z27⟩⟩⟩ dX11_aLine_80
    · skip
      have c32 : ¬ r26.toInt = (0 : Int) := h_neI c32
      refine lv_aload_n hx hb dX11_aLine_68 rfl (lv_at hl 0 rfl) ?_
      refine h_callVi (T := TX11) (rest := []) (As := []) hx hb hml hown hts hK hT5 hZ (fun _ h => h) hS5 (c_X11_closes l G Y P (o) hM) trivial wd_X11_closes wV_X11_closes wL_X11_254 (hM.o rfl) rfl rfl hl.1 rfl (Nat.le_of_ble_eq_true rfl) dX11_aLine_69 ⟨Nat.le_of_ble_eq_true rfl, Nat.le_of_ble_eq_true rfl⟩ ⟨Nat.zero_le _, Nat.zero_le _⟩ (fun r33 H6 locs hp6 hT6 hS6 hk6 => ?_)
      obtain ⟨hp6, hB6⟩ := hp6
      have z34 : ∀ j : Nat, 600 ≤ j → h_ai H6 (o + 1) j = h_ai H0 (o + 1) j := fun j hj => (h_ai_same hB6).trans (z27 j hj)
      have R35 : mR o H6 := R28.same hB6
      obtain ⟨y36, my36⟩ : ∃ x, h_gi G H6 11 o 14 = x := ⟨_, rfl⟩
      have by36 : 0 ≤ y36.toInt ∧ y36.toInt ≤ 500 := by rw [← my36]; exact (hT6.gi (hM.o rfl) 14 rfl).1
      have f37 : y30.toInt ≤ y36.toInt ∧ (r33.toInt = 0 ∨ y29.toInt = 4) := by have q := hp6.2; rw [my29] at q; rw [my30] at q; rw [my36] at q; exact q
      refine lv_if_eq (tgt := 79) hx hb dX11_aLine_72 (by decide) (fun c38 => ?_) (fun c38 => ?_)
      · skip
        have c38 : r33.toInt = (0 : Int) := congrArg Int32.toInt c38
        refine lv_iconst (v := 0) hx hb dX11_aLine_79 (by decide) ?_
        exact hret _ _ _ _ _ hT6 hS6 ⟨(by decide), ⟨⟨(by decide), (show (h_gi G H0 11 o 14).toInt ≤ (h_gi G H6 11 o 14).toInt ∧ ((0 : Int) = 0 ∨ (h_gi G H0 11 o 14).toInt < (h_gi G H6 11 o 14).toInt) from by rw [my1, my36]; show y1.toInt ≤ y36.toInt ∧ ((0 : Int) = 0 ∨ y1.toInt < y36.toInt); omega)⟩, ⟨R35, z34⟩⟩⟩ dX11_aLine_80
      · skip
        have c38 : ¬ r33.toInt = (0 : Int) := h_neI c38
        refine lv_iconst (v := 1) hx hb dX11_aLine_75 (by decide) ?_
        refine lv_goto (tgt := 80) hx hb dX11_aLine_76 (by decide) ?_
        exact hret _ _ _ _ _ hT6 hS6 ⟨(by decide), ⟨⟨(by decide), (show (h_gi G H0 11 o 14).toInt ≤ (h_gi G H6 11 o 14).toInt ∧ ((1 : Int) = 0 ∨ (h_gi G H0 11 o 14).toInt < (h_gi G H6 11 o 14).toInt) from by rw [my1, my36]; show y1.toInt ≤ y36.toInt ∧ ((1 : Int) = 0 ∨ y1.toInt < y36.toInt); omega)⟩, ⟨R35, z34⟩⟩⟩ dX11_aLine_80
  · subst c3
    refine lv_tableIn (tgt := 81) hx hb dX11_aLine_4 (by decide) (by decide) rfl (by decide) ?_
    refine lv_aload_n hx hb dX11_aLine_81 rfl (lv_at hl 0 rfl) ?_
    refine lv_iconst (v := 0) hx hb dX11_aLine_82 (by decide) ?_
    refine h_callVi (T := TX11) (rest := []) (As := [.int 0]) hx hb hml hown hts hK hT0 hZ (fun _ h => h) hS1 (c_X11_aState l G Y P (o) hM 0 (by decide)) hpr wd_X11_aState wV_X11_aState wL_X11_257 (hM.o rfl) rfl rfl hl.1 rfl (Nat.le_of_ble_eq_true rfl) dX11_aLine_83 ⟨Nat.le_of_ble_eq_true rfl, Nat.le_of_ble_eq_true rfl⟩ ⟨Nat.zero_le _, Nat.zero_le _⟩ (fun r39 H7 locs hp7 hT7 hS7 hk7 => ?_)
    obtain ⟨hp7, hB7⟩ := hp7
    have z40 : ∀ j : Nat, 600 ≤ j → h_ai H7 (o + 1) j = h_ai H0 (o + 1) j := fun j hj => (hB7.2 j hj)
    have R41 : mR o H7 := hB7.1
    obtain ⟨y42, my42⟩ : ∃ x, h_gi G H7 11 o 12 = x := ⟨_, rfl⟩
    obtain ⟨y43, my43⟩ : ∃ x, h_gi G H7 11 o 14 = x := ⟨_, rfl⟩
    have by43 : 0 ≤ y43.toInt ∧ y43.toInt ≤ 500 := by rw [← my43]; exact (hT7.gi (hM.o rfl) 14 rfl).1
    have f44 : y1.toInt ≤ y43.toInt ∧ (r39.toInt = 0 ∨ (y42.toInt = 4 → y1.toInt < y43.toInt)) := by have q := hp7.2; rw [my42] at q; rw [my1] at q; rw [my43] at q; exact q
    refine lv_if_eq (tgt := 100) hx hb dX11_aLine_86 (by decide) (fun c45 => ?_) (fun c45 => ?_)
    · skip
      have c45 : r39.toInt = (0 : Int) := congrArg Int32.toInt c45
      refine lv_iconst (v := 0) hx hb dX11_aLine_100 (by decide) ?_
      exact hret _ _ _ _ _ hT7 hS7 ⟨(by decide), ⟨⟨(by decide), (show (h_gi G H0 11 o 14).toInt ≤ (h_gi G H7 11 o 14).toInt ∧ ((0 : Int) = 0 ∨ (h_gi G H0 11 o 14).toInt < (h_gi G H7 11 o 14).toInt) from by rw [my1, my43]; show y1.toInt ≤ y43.toInt ∧ ((0 : Int) = 0 ∨ y1.toInt < y43.toInt); omega)⟩, ⟨R41, z40⟩⟩⟩ dX11_aLine_101
    · skip
      have c45 : ¬ r39.toInt = (0 : Int) := h_neI c45
      refine lv_aload_n hx hb dX11_aLine_89 rfl (lv_at hl 0 rfl) ?_
      refine h_callVi (T := TX11) (rest := []) (As := []) hx hb hml hown hts hK hT7 hZ (fun _ h => h) hS7 (c_X11_closes l G Y P (o) hM) trivial wd_X11_closes wV_X11_closes wL_X11_254 (hM.o rfl) rfl rfl hl.1 rfl (Nat.le_of_ble_eq_true rfl) dX11_aLine_90 ⟨Nat.le_of_ble_eq_true rfl, Nat.le_of_ble_eq_true rfl⟩ ⟨Nat.zero_le _, Nat.zero_le _⟩ (fun r46 H8 locs hp8 hT8 hS8 hk8 => ?_)
      obtain ⟨hp8, hB8⟩ := hp8
      have z47 : ∀ j : Nat, 600 ≤ j → h_ai H8 (o + 1) j = h_ai H0 (o + 1) j := fun j hj => (h_ai_same hB8).trans (z40 j hj)
      have R48 : mR o H8 := R41.same hB8
      obtain ⟨y49, my49⟩ : ∃ x, h_gi G H8 11 o 14 = x := ⟨_, rfl⟩
      have by49 : 0 ≤ y49.toInt ∧ y49.toInt ≤ 500 := by rw [← my49]; exact (hT8.gi (hM.o rfl) 14 rfl).1
      have f50 : y43.toInt ≤ y49.toInt ∧ (r46.toInt = 0 ∨ y42.toInt = 4) := by have q := hp8.2; rw [my42] at q; rw [my43] at q; rw [my49] at q; exact q
      refine lv_if_eq (tgt := 100) hx hb dX11_aLine_93 (by decide) (fun c51 => ?_) (fun c51 => ?_)
      · skip
        have c51 : r46.toInt = (0 : Int) := congrArg Int32.toInt c51
        refine lv_iconst (v := 0) hx hb dX11_aLine_100 (by decide) ?_
        exact hret _ _ _ _ _ hT8 hS8 ⟨(by decide), ⟨⟨(by decide), (show (h_gi G H0 11 o 14).toInt ≤ (h_gi G H8 11 o 14).toInt ∧ ((0 : Int) = 0 ∨ (h_gi G H0 11 o 14).toInt < (h_gi G H8 11 o 14).toInt) from by rw [my1, my49]; show y1.toInt ≤ y49.toInt ∧ ((0 : Int) = 0 ∨ y1.toInt < y49.toInt); omega)⟩, ⟨R48, z47⟩⟩⟩ dX11_aLine_101
      · skip
        have c51 : ¬ r46.toInt = (0 : Int) := h_neI c51
        refine lv_iconst (v := 1) hx hb dX11_aLine_96 (by decide) ?_
        refine lv_goto (tgt := 101) hx hb dX11_aLine_97 (by decide) ?_
        exact hret _ _ _ _ _ hT8 hS8 ⟨(by decide), ⟨⟨(by decide), (show (h_gi G H0 11 o 14).toInt ≤ (h_gi G H8 11 o 14).toInt ∧ ((1 : Int) = 0 ∨ (h_gi G H0 11 o 14).toInt < (h_gi G H8 11 o 14).toInt) from by rw [my1, my49]; show y1.toInt ≤ y49.toInt ∧ ((1 : Int) = 0 ∨ y1.toInt < y49.toInt); omega)⟩, ⟨R48, z47⟩⟩⟩ dX11_aLine_101
  · subst c3
    refine lv_tableIn (tgt := 102) hx hb dX11_aLine_4 (by decide) (by decide) rfl (by decide) ?_
    refine lv_aload_n hx hb dX11_aLine_102 rfl (lv_at hl 0 rfl) ?_
    refine h_callVi (T := TX11) (rest := []) (As := []) hx hb hml hown hts hK hT0 hZ (fun _ h => h) hS1 (c_X11_aSend l G Y P (o) hM) hpr wd_X11_aSend wV_X11_aSend wL_X11_261 (hM.o rfl) rfl rfl hl.1 rfl (Nat.le_of_ble_eq_true rfl) dX11_aLine_103 ⟨Nat.le_of_ble_eq_true rfl, Nat.le_of_ble_eq_true rfl⟩ ⟨Nat.zero_le _, Nat.zero_le _⟩ (fun r52 H9 locs hp9 hT9 hS9 hk9 => ?_)
    obtain ⟨hp9, hB9⟩ := hp9
    have z53 : ∀ j : Nat, 600 ≤ j → h_ai H9 (o + 1) j = h_ai H0 (o + 1) j := fun j hj => (hB9.2 j hj)
    have R54 : mR o H9 := hB9.1
    obtain ⟨y55, my55⟩ : ∃ x, h_gi G H9 11 o 12 = x := ⟨_, rfl⟩
    obtain ⟨y56, my56⟩ : ∃ x, h_gi G H9 11 o 14 = x := ⟨_, rfl⟩
    have by56 : 0 ≤ y56.toInt ∧ y56.toInt ≤ 500 := by rw [← my56]; exact (hT9.gi (hM.o rfl) 14 rfl).1
    have f57 : y1.toInt ≤ y56.toInt ∧ (r52.toInt = 0 ∨ (y55.toInt = 4 → y1.toInt < y56.toInt)) := by have q := hp9.2; rw [my55] at q; rw [my1] at q; rw [my56] at q; exact q
    refine lv_if_eq (tgt := 120) hx hb dX11_aLine_106 (by decide) (fun c58 => ?_) (fun c58 => ?_)
    · skip
      have c58 : r52.toInt = (0 : Int) := congrArg Int32.toInt c58
      refine lv_iconst (v := 0) hx hb dX11_aLine_120 (by decide) ?_
      exact hret _ _ _ _ _ hT9 hS9 ⟨(by decide), ⟨⟨(by decide), (show (h_gi G H0 11 o 14).toInt ≤ (h_gi G H9 11 o 14).toInt ∧ ((0 : Int) = 0 ∨ (h_gi G H0 11 o 14).toInt < (h_gi G H9 11 o 14).toInt) from by rw [my1, my56]; show y1.toInt ≤ y56.toInt ∧ ((0 : Int) = 0 ∨ y1.toInt < y56.toInt); omega)⟩, ⟨R54, z53⟩⟩⟩ dX11_aLine_121
    · skip
      have c58 : ¬ r52.toInt = (0 : Int) := h_neI c58
      refine lv_aload_n hx hb dX11_aLine_109 rfl (lv_at hl 0 rfl) ?_
      refine h_callVi (T := TX11) (rest := []) (As := []) hx hb hml hown hts hK hT9 hZ (fun _ h => h) hS9 (c_X11_closes l G Y P (o) hM) trivial wd_X11_closes wV_X11_closes wL_X11_254 (hM.o rfl) rfl rfl hl.1 rfl (Nat.le_of_ble_eq_true rfl) dX11_aLine_110 ⟨Nat.le_of_ble_eq_true rfl, Nat.le_of_ble_eq_true rfl⟩ ⟨Nat.zero_le _, Nat.zero_le _⟩ (fun r59 H10 locs hp10 hT10 hS10 hk10 => ?_)
      obtain ⟨hp10, hB10⟩ := hp10
      have z60 : ∀ j : Nat, 600 ≤ j → h_ai H10 (o + 1) j = h_ai H0 (o + 1) j := fun j hj => (h_ai_same hB10).trans (z53 j hj)
      have R61 : mR o H10 := R54.same hB10
      obtain ⟨y62, my62⟩ : ∃ x, h_gi G H10 11 o 14 = x := ⟨_, rfl⟩
      have by62 : 0 ≤ y62.toInt ∧ y62.toInt ≤ 500 := by rw [← my62]; exact (hT10.gi (hM.o rfl) 14 rfl).1
      have f63 : y56.toInt ≤ y62.toInt ∧ (r59.toInt = 0 ∨ y55.toInt = 4) := by have q := hp10.2; rw [my55] at q; rw [my56] at q; rw [my62] at q; exact q
      refine lv_if_eq (tgt := 120) hx hb dX11_aLine_113 (by decide) (fun c64 => ?_) (fun c64 => ?_)
      · skip
        have c64 : r59.toInt = (0 : Int) := congrArg Int32.toInt c64
        refine lv_iconst (v := 0) hx hb dX11_aLine_120 (by decide) ?_
        exact hret _ _ _ _ _ hT10 hS10 ⟨(by decide), ⟨⟨(by decide), (show (h_gi G H0 11 o 14).toInt ≤ (h_gi G H10 11 o 14).toInt ∧ ((0 : Int) = 0 ∨ (h_gi G H0 11 o 14).toInt < (h_gi G H10 11 o 14).toInt) from by rw [my1, my62]; show y1.toInt ≤ y62.toInt ∧ ((0 : Int) = 0 ∨ y1.toInt < y62.toInt); omega)⟩, ⟨R61, z60⟩⟩⟩ dX11_aLine_121
      · skip
        have c64 : ¬ r59.toInt = (0 : Int) := h_neI c64
        refine lv_iconst (v := 1) hx hb dX11_aLine_116 (by decide) ?_
        refine lv_goto (tgt := 121) hx hb dX11_aLine_117 (by decide) ?_
        exact hret _ _ _ _ _ hT10 hS10 ⟨(by decide), ⟨⟨(by decide), (show (h_gi G H0 11 o 14).toInt ≤ (h_gi G H10 11 o 14).toInt ∧ ((1 : Int) = 0 ∨ (h_gi G H0 11 o 14).toInt < (h_gi G H10 11 o 14).toInt) from by rw [my1, my62]; show y1.toInt ≤ y62.toInt ∧ ((1 : Int) = 0 ∨ y1.toInt < y62.toInt); omega)⟩, ⟨R61, z60⟩⟩⟩ dX11_aLine_121
  · subst c3
    refine lv_tableIn (tgt := 122) hx hb dX11_aLine_4 (by decide) (by decide) rfl (by decide) ?_
    refine lv_aload_n hx hb dX11_aLine_122 rfl (lv_at hl 0 rfl) ?_
    refine h_callVi (T := TX11) (rest := []) (As := []) hx hb hml hown hts hK hT0 hZ (fun _ h => h) hS1 (c_X11_aBreak l G Y P (o) hM) hpr wd_X11_aBreak wV_X11_aBreak wL_X11_264 (hM.o rfl) rfl rfl hl.1 rfl (Nat.le_of_ble_eq_true rfl) dX11_aLine_123 ⟨Nat.le_of_ble_eq_true rfl, Nat.le_of_ble_eq_true rfl⟩ ⟨Nat.zero_le _, Nat.zero_le _⟩ (fun r65 H11 locs hp11 hT11 hS11 hk11 => ?_)
    obtain ⟨hp11, hB11⟩ := hp11
    have z66 : ∀ j : Nat, 600 ≤ j → h_ai H11 (o + 1) j = h_ai H0 (o + 1) j := fun j hj => (hB11.2 j hj)
    have R67 : mR o H11 := hB11.1
    obtain ⟨y68, my68⟩ : ∃ x, h_gi G H11 11 o 12 = x := ⟨_, rfl⟩
    obtain ⟨y69, my69⟩ : ∃ x, h_gi G H11 11 o 14 = x := ⟨_, rfl⟩
    have by69 : 0 ≤ y69.toInt ∧ y69.toInt ≤ 500 := by rw [← my69]; exact (hT11.gi (hM.o rfl) 14 rfl).1
    have f70 : y1.toInt ≤ y69.toInt ∧ (r65.toInt = 0 ∨ (y68.toInt = 4 → y1.toInt < y69.toInt)) := by have q := hp11.2; rw [my68] at q; rw [my1] at q; rw [my69] at q; exact q
    refine lv_if_eq (tgt := 140) hx hb dX11_aLine_126 (by decide) (fun c71 => ?_) (fun c71 => ?_)
    · skip
      have c71 : r65.toInt = (0 : Int) := congrArg Int32.toInt c71
      refine lv_iconst (v := 0) hx hb dX11_aLine_140 (by decide) ?_
      exact hret _ _ _ _ _ hT11 hS11 ⟨(by decide), ⟨⟨(by decide), (show (h_gi G H0 11 o 14).toInt ≤ (h_gi G H11 11 o 14).toInt ∧ ((0 : Int) = 0 ∨ (h_gi G H0 11 o 14).toInt < (h_gi G H11 11 o 14).toInt) from by rw [my1, my69]; show y1.toInt ≤ y69.toInt ∧ ((0 : Int) = 0 ∨ y1.toInt < y69.toInt); omega)⟩, ⟨R67, z66⟩⟩⟩ dX11_aLine_141
    · skip
      have c71 : ¬ r65.toInt = (0 : Int) := h_neI c71
      refine lv_aload_n hx hb dX11_aLine_129 rfl (lv_at hl 0 rfl) ?_
      refine h_callVi (T := TX11) (rest := []) (As := []) hx hb hml hown hts hK hT11 hZ (fun _ h => h) hS11 (c_X11_closes l G Y P (o) hM) trivial wd_X11_closes wV_X11_closes wL_X11_254 (hM.o rfl) rfl rfl hl.1 rfl (Nat.le_of_ble_eq_true rfl) dX11_aLine_130 ⟨Nat.le_of_ble_eq_true rfl, Nat.le_of_ble_eq_true rfl⟩ ⟨Nat.zero_le _, Nat.zero_le _⟩ (fun r72 H12 locs hp12 hT12 hS12 hk12 => ?_)
      obtain ⟨hp12, hB12⟩ := hp12
      have z73 : ∀ j : Nat, 600 ≤ j → h_ai H12 (o + 1) j = h_ai H0 (o + 1) j := fun j hj => (h_ai_same hB12).trans (z66 j hj)
      have R74 : mR o H12 := R67.same hB12
      obtain ⟨y75, my75⟩ : ∃ x, h_gi G H12 11 o 14 = x := ⟨_, rfl⟩
      have by75 : 0 ≤ y75.toInt ∧ y75.toInt ≤ 500 := by rw [← my75]; exact (hT12.gi (hM.o rfl) 14 rfl).1
      have f76 : y69.toInt ≤ y75.toInt ∧ (r72.toInt = 0 ∨ y68.toInt = 4) := by have q := hp12.2; rw [my68] at q; rw [my69] at q; rw [my75] at q; exact q
      refine lv_if_eq (tgt := 140) hx hb dX11_aLine_133 (by decide) (fun c77 => ?_) (fun c77 => ?_)
      · skip
        have c77 : r72.toInt = (0 : Int) := congrArg Int32.toInt c77
        refine lv_iconst (v := 0) hx hb dX11_aLine_140 (by decide) ?_
        exact hret _ _ _ _ _ hT12 hS12 ⟨(by decide), ⟨⟨(by decide), (show (h_gi G H0 11 o 14).toInt ≤ (h_gi G H12 11 o 14).toInt ∧ ((0 : Int) = 0 ∨ (h_gi G H0 11 o 14).toInt < (h_gi G H12 11 o 14).toInt) from by rw [my1, my75]; show y1.toInt ≤ y75.toInt ∧ ((0 : Int) = 0 ∨ y1.toInt < y75.toInt); omega)⟩, ⟨R74, z73⟩⟩⟩ dX11_aLine_141
      · skip
        have c77 : ¬ r72.toInt = (0 : Int) := h_neI c77
        refine lv_iconst (v := 1) hx hb dX11_aLine_136 (by decide) ?_
        refine lv_goto (tgt := 141) hx hb dX11_aLine_137 (by decide) ?_
        exact hret _ _ _ _ _ hT12 hS12 ⟨(by decide), ⟨⟨(by decide), (show (h_gi G H0 11 o 14).toInt ≤ (h_gi G H12 11 o 14).toInt ∧ ((1 : Int) = 0 ∨ (h_gi G H0 11 o 14).toInt < (h_gi G H12 11 o 14).toInt) from by rw [my1, my75]; show y1.toInt ≤ y75.toInt ∧ ((1 : Int) = 0 ∨ y1.toInt < y75.toInt); omega)⟩, ⟨R74, z73⟩⟩⟩ dX11_aLine_141
