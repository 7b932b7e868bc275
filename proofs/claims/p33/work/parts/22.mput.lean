set_option maxHeartbeats 4000000 in
set_option maxRecDepth 100000 in
theorem c_X11_happens (l : Launch) (G : hG) (Y : hW) (P : Int32 → Prop) (o : Nat) (hM : h_On Y o (modE (tM P) o)) (u1 u2 : Int32) : hMv l yX11_happens cX11_happens 4 none 1 22 G Y [.ref (o), .int u1, .int u2] (fun H => True) (fun H H1 => (True) ∧ (mE o H H1)) := by
  refine h_ofv (by decide +kernel) (Nat.le_of_ble_eq_true rfl) ?_
  intro p e s m args below meth c H0 ls Q hx hb hts hown hml hK hZ hT0 hpr hS0 hl hret
  have hl : lv_has ls 4 [(0, .ref (o)), (1, .int u1), (2, .int u2)] := hl
  refine lv_aload_n hx hb dX11_happens_0 rfl (lv_at hl 0 rfl) ?_
  refine lv_bipush (v := 32) hx hb dX11_happens_1 (by decide) ?_
  refine h_callVi (T := TX11) (rest := []) (As := [.int 32]) hx hb hml hown hts hK hT0 hZ (fun _ h => h) hS0 (c_of l G Y P (o) hM 32 32 (by decide) (h_inc (by decide))) trivial wd_X11_of wV_X11_of wL_X11_47 (hM.o rfl) rfl rfl hl.1 rfl (Nat.le_of_ble_eq_true rfl) dX11_happens_3 ⟨Nat.le_of_ble_eq_true rfl, Nat.le_of_ble_eq_true rfl⟩ ⟨Nat.zero_le _, Nat.zero_le _⟩ (fun r1 H1 locs hp1 hT1 hS1 hk1 => ?_)
  obtain ⟨hp1, he⟩ := hp1
  have he := he.symm
  subst he
  have mr1 : h_ai H0 (o + 1) 32 = r1 := hp1.1.symm
  have br1 := mP_em hp1.2 (by omega)
  refine lv_bipush (v := 24) hx hb dX11_happens_6 (by decide) ?_
  refine lv_icmp_ne (tgt := 47) hx hb dX11_happens_8 (by decide) (fun c2 => ?_) (fun c2 => ?_)
  · skip
    have c2 : ¬ r1.toInt = (24 : Int) := h_neI c2
    refine lv_sipush (v := 512) hx hb dX11_happens_47 (by decide) ?_
    refine lv_iconst (v := 3) hx hb dX11_happens_50 (by decide) ?_
    refine lv_aload_n hx hb dX11_happens_51 rfl (lv_at hl 0 rfl) ?_
    refine lv_bipush (v := 32) hx hb dX11_happens_52 (by decide) ?_
    refine h_callVi (T := TX11) (rest := [.int 3, .int 512]) (As := [.int 32]) hx hb hml hown hts hK hT0 hZ (fun _ h => h) hS1 (c_of l G Y P (o) hM 32 32 (by decide) (h_inc (by decide))) trivial wd_X11_of wV_X11_of wL_X11_47 (hM.o rfl) rfl rfl hl.1 rfl (Nat.le_of_ble_eq_true rfl) dX11_happens_54 ⟨Nat.le_of_ble_eq_true rfl, Nat.le_of_ble_eq_true rfl⟩ ⟨Nat.zero_le _, Nat.zero_le _⟩ (fun r3 H2 locs hp2 hT2 hS2 hk2 => ?_)
    obtain ⟨hp2, he⟩ := hp2
    have he := he.symm
    subst he
    have hp2 : r1 = r3 := (hp2.1.trans mr1).symm
    subst hp2
    refine lv_imul hx hb dX11_happens_57 ?_
    obtain ⟨x4, qx4, ix4⟩ := h_mulX 3 r1 (3 : Int) r1.toInt rfl rfl (by omega) (by omega)
    refine h_top (v := x4) qx4 ?_
    refine lv_iadd hx hb dX11_happens_58 ?_
    obtain ⟨x5, qx5, ix5⟩ := h_addX 512 x4 (512 : Int) x4.toInt rfl rfl (by omega) (by omega)
    refine h_top (v := x5) qx5 ?_
    refine lv_istore_n (lv' := [(3, .int x5), (0, .ref (o)), (1, .int u1), (2, .int u2)]) hx hb dX11_happens_59 rfl hl (by decide) rfl (fun ls hl => ?_)
    refine lv_aload_n hx hb dX11_happens_60 rfl (lv_at hl 1 rfl) ?_
    refine lv_iload_n hx hb dX11_happens_61 rfl (lv_at hl 0 rfl) ?_
    refine lv_iload_n hx hb dX11_happens_62 rfl (lv_at hl 2 rfl) ?_
    refine h_callVv (T := TX11) (rest := []) (As := [.int x5, .int u1]) hx hb hml hown hts hK hT0 hZ (fun _ h => h) hS2 (c_puts l G Y P (o) hM x5 u1 (512 + 3 * r1.toInt).toNat (show x5.toInt.toNat = (512 + 3 * r1.toInt).toNat from by omega) (h_vin (by omega) (by omega)) (mP_free (by unfold mFree; omega))) trivial wd_X11_puts wV_X11_puts wL_X11_43 (hM.o rfl) rfl rfl hl.1 rfl (Nat.le_of_ble_eq_true rfl) dX11_happens_63 ⟨Nat.le_of_ble_eq_true rfl, Nat.le_of_ble_eq_true rfl⟩ ⟨Nat.zero_le _, Nat.zero_le _⟩ (fun H3 locs hp3 hT3 hS3 hk3 => ?_)
    have hp3 : h_apu H0 H3 (o + 1) (512 + 3 * r1.toInt).toNat (.int u1) := hp3.2
    have z6 : ∀ j : Nat, mK j → h_ai H3 (o + 1) j = h_ai H0 (o + 1) j := fun j hj => (h_apn hp3 (by unfold mK at hj; omega))
    have m7 : h_ai H3 (o + 1) 32 = r1 := (h_apn hp3 (by omega)).trans mr1
    have m8 : h_ai H3 (o + 1) (512 + 3 * r1.toInt).toNat = u1 := h_aps hp3
    refine lv_aload_n hx hb dX11_happens_66 rfl (lv_at hl 1 rfl) ?_
    refine lv_iload_n hx hb dX11_happens_67 rfl (lv_at hl 0 rfl) ?_
    refine lv_iconst (v := 1) hx hb dX11_happens_68 (by decide) ?_
    refine lv_iadd hx hb dX11_happens_69 ?_
    obtain ⟨x9, qx9, ix9⟩ := h_addX x5 1 x5.toInt (1 : Int) rfl rfl (by omega) (by omega)
    refine h_top (v := x9) qx9 ?_
    refine lv_aload_n hx hb dX11_happens_70 rfl (lv_at hl 1 rfl) ?_
    refine lv_iconst (v := 3) hx hb dX11_happens_71 (by decide) ?_
    refine h_callVi (T := TX11) (rest := [.int x9, .ref (o)]) (As := [.int 3]) hx hb hml hown hts hK hT3 hZ (fun _ h => h) hS3 (c_of l G Y P (o) hM 3 3 (by decide) (h_inc (by decide))) trivial wd_X11_of wV_X11_of wL_X11_47 (hM.o rfl) rfl rfl hl.1 rfl (Nat.le_of_ble_eq_true rfl) dX11_happens_72 ⟨Nat.le_of_ble_eq_true rfl, Nat.le_of_ble_eq_true rfl⟩ ⟨Nat.zero_le _, Nat.zero_le _⟩ (fun r10 H4 locs hp4 hT4 hS4 hk4 => ?_)
    obtain ⟨hp4, he⟩ := hp4
    have he := he.symm
    subst he
    have mr10 : h_ai H3 (o + 1) 3 = r10 := hp4.1.symm
    refine h_callVv (T := TX11) (rest := []) (As := [.int x9, .int r10]) hx hb hml hown hts hK hT3 hZ (fun _ h => h) hS4 (c_puts l G Y P (o) hM x9 r10 (513 + 3 * r1.toInt).toNat (show x9.toInt.toNat = (513 + 3 * r1.toInt).toNat from by omega) (h_vin (by omega) (by omega)) (mP_free (by unfold mFree; omega))) trivial wd_X11_puts wV_X11_puts wL_X11_43 (hM.o rfl) rfl rfl hl.1 rfl (Nat.le_of_ble_eq_true rfl) dX11_happens_75 ⟨Nat.le_of_ble_eq_true rfl, Nat.le_of_ble_eq_true rfl⟩ ⟨Nat.zero_le _, Nat.zero_le _⟩ (fun H5 locs hp5 hT5 hS5 hk5 => ?_)
    have hp5 : h_apu H3 H5 (o + 1) (513 + 3 * r1.toInt).toNat (.int r10) := hp5.2
    have z11 : ∀ j : Nat, mK j → h_ai H5 (o + 1) j = h_ai H0 (o + 1) j := fun j hj => (h_apn hp5 (by unfold mK at hj; omega)).trans (z6 j hj)
    have m12 : h_ai H5 (o + 1) 32 = r1 := (h_apn hp5 (by omega)).trans m7
    have m13 : h_ai H5 (o + 1) (512 + 3 * r1.toInt).toNat = u1 := (h_apn hp5 (by omega)).trans m8
    have m14 : h_ai H5 (o + 1) 3 = r10 := (h_apn hp5 (by omega)).trans mr10
    have m15 : h_ai H5 (o + 1) (513 + 3 * r1.toInt).toNat = r10 := h_aps hp5
    refine lv_aload_n hx hb dX11_happens_78 rfl (lv_at hl 1 rfl) ?_
    refine lv_iload_n hx hb dX11_happens_79 rfl (lv_at hl 0 rfl) ?_
    refine lv_iconst (v := 2) hx hb dX11_happens_80 (by decide) ?_
    refine lv_iadd hx hb dX11_happens_81 ?_
    obtain ⟨x16, qx16, ix16⟩ := h_addX x5 2 x5.toInt (2 : Int) rfl rfl (by omega) (by omega)
    refine h_top (v := x16) qx16 ?_
    refine lv_iload_n hx hb dX11_happens_82 rfl (lv_at hl 3 rfl) ?_
    refine h_callVv (T := TX11) (rest := []) (As := [.int x16, .int u2]) hx hb hml hown hts hK hT5 hZ (fun _ h => h) hS5 (c_puts l G Y P (o) hM x16 u2 (514 + 3 * r1.toInt).toNat (show x16.toInt.toNat = (514 + 3 * r1.toInt).toNat from by omega) (h_vin (by omega) (by omega)) (mP_free (by unfold mFree; omega))) trivial wd_X11_puts wV_X11_puts wL_X11_43 (hM.o rfl) rfl rfl hl.1 rfl (Nat.le_of_ble_eq_true rfl) dX11_happens_83 ⟨Nat.le_of_ble_eq_true rfl, Nat.le_of_ble_eq_true rfl⟩ ⟨Nat.zero_le _, Nat.zero_le _⟩ (fun H6 locs hp6 hT6 hS6 hk6 => ?_)
    have hp6 : h_apu H5 H6 (o + 1) (514 + 3 * r1.toInt).toNat (.int u2) := hp6.2
    have z17 : ∀ j : Nat, mK j → h_ai H6 (o + 1) j = h_ai H0 (o + 1) j := fun j hj => (h_apn hp6 (by unfold mK at hj; omega)).trans (z11 j hj)
    have m18 : h_ai H6 (o + 1) 32 = r1 := (h_apn hp6 (by omega)).trans m12
    have m19 : h_ai H6 (o + 1) (512 + 3 * r1.toInt).toNat = u1 := (h_apn hp6 (by omega)).trans m13
    have m20 : h_ai H6 (o + 1) 3 = r10 := (h_apn hp6 (by omega)).trans m14
    have m21 : h_ai H6 (o + 1) (513 + 3 * r1.toInt).toNat = r10 := (h_apn hp6 (by omega)).trans m15
    have m22 : h_ai H6 (o + 1) (514 + 3 * r1.toInt).toNat = u2 := h_aps hp6
    refine lv_aload_n hx hb dX11_happens_86 rfl (lv_at hl 1 rfl) ?_
    refine lv_bipush (v := 32) hx hb dX11_happens_87 (by decide) ?_
    refine lv_iconst (v := 1) hx hb dX11_happens_89 (by decide) ?_
    obtain ⟨x23, qx23, ix23⟩ := h_addX r1 1 r1.toInt (1 : Int) rfl rfl (by omega) (by omega)
    refine h_callVv (T := TX11) (rest := []) (As := [.int 32, .int 1]) hx hb hml hown hts hK hT6 hZ (fun _ h => h) hS6 (c_adds l G Y P (o) hM 32 1 32 (by decide) (h_inc (by decide))) (show mP 32 (h_ai H6 (o + 1) 32 + 1) from (by rw [m18, qx23]; exact (mP_of24 (by omega) (show 0 ≤ x23.toInt from by omega) (show x23.toInt ≤ 24 from by omega)))) wd_X11_adds wV_X11_adds wL_X11_69 (hM.o rfl) rfl rfl hl.1 rfl (Nat.le_of_ble_eq_true rfl) dX11_happens_90 ⟨Nat.le_of_ble_eq_true rfl, Nat.le_of_ble_eq_true rfl⟩ ⟨Nat.zero_le _, Nat.zero_le _⟩ (fun H7 locs hp7 hT7 hS7 hk7 => ?_)
    have hp7 : h_apu H6 H7 (o + 1) 32 (.int (h_ai H6 (o + 1) 32 + 1)) := hp7.2
    rw [show h_ai H6 (o + 1) 32 + 1 = x23 from (by rw [m18]; exact qx23)] at hp7
    have hp7 : h_apu H6 H7 (o + 1) 32 (.int x23) := hp7
    have z24 : ∀ j : Nat, mK j → h_ai H7 (o + 1) j = h_ai H0 (o + 1) j := fun j hj => (h_apn hp7 (by unfold mK at hj; omega)).trans (z17 j hj)
    have m25 : h_ai H7 (o + 1) (512 + 3 * r1.toInt).toNat = u1 := (h_apn hp7 (by omega)).trans m19
    have m26 : h_ai H7 (o + 1) 3 = r10 := (h_apn hp7 (by omega)).trans m20
    have m27 : h_ai H7 (o + 1) (513 + 3 * r1.toInt).toNat = r10 := (h_apn hp7 (by omega)).trans m21
    have m28 : h_ai H7 (o + 1) (514 + 3 * r1.toInt).toNat = u2 := (h_apn hp7 (by omega)).trans m22
    have m29 : h_ai H7 (o + 1) 32 = x23 := h_aps hp7
    exact hret _ _ _ _ hT7 hS7 ⟨trivial, z24⟩ dX11_happens_93
  · skip
    have c2 : r1.toInt = (24 : Int) := congrArg Int32.toInt c2
    refine lv_sipush (v := 512) hx hb dX11_happens_11 (by decide) ?_
    refine lv_istore_n (lv' := [(3, .int 512), (0, .ref (o)), (1, .int u1), (2, .int u2)]) hx hb dX11_happens_14 rfl hl (by decide) rfl (fun ls hl => ?_)
    have LP1 : ∀ (n1 : Nat) (w1_3 : Int32) (H8 : Heap), (2147483647 - w1_3.toInt < (n1 : Int)) → (512 ≤ w1_3.toInt) → (hT G Y H8) → (∀ j : Nat, mK j → h_ai H8 (o + 1) j = h_ai H0 (o + 1) j) → (h_ai H8 (o + 1) 32 = r1) → ∀ (locs : List Loc) (ls : Array Slot), va_S (h_A Y) s.heap H8 locs → lv_has ls 4 [(3, .int w1_3), (0, .ref (o)), (1, .int u1), (2, .int u2)] → W p l e (h_rm 1 22) s m args below meth c H8 locs 0 0 Q (F0 m 15 ls []) := by
      intro n1
      induction n1 with
      | zero =>
        intro w1_3 H8 hm hlo1_3
        intros
        exfalso
        have := Int32.toInt_lt w1_3; have := Int32.le_toInt w1_3
        omega
      | succ n1 ih1 =>
        intro w1_3 H8 hm hlo1_3 hT8 z30 m31 locs ls hS8 hl
        refine lv_iload_n hx hb dX11_happens_15 rfl (lv_at hl 0 rfl) ?_
        refine lv_sipush (v := 581) hx hb dX11_happens_16 (by decide) ?_
        refine lv_icmp_ge (tgt := 40) hx hb dX11_happens_19 (by decide) (fun c32 => ?_) (fun c32 => ?_)
        · skip
          have c32 : (581 : Int) ≤ w1_3.toInt := Int32.le_iff_toInt_le.mp c32
          refine lv_aload_n hx hb dX11_happens_40 rfl (lv_at hl 1 rfl) ?_
          refine lv_bipush (v := 32) hx hb dX11_happens_41 (by decide) ?_
          refine lv_iconst (v := (-1)) hx hb dX11_happens_43 (by decide) ?_
          obtain ⟨x33, qx33, ix33⟩ := h_addX r1 (-1) r1.toInt (-1 : Int) rfl rfl (by omega) (by omega)
          refine h_callVv (T := TX11) (rest := []) (As := [.int 32, .int (-1)]) hx hb hml hown hts hK hT8 hZ (fun _ h => h) hS8 (c_adds l G Y P (o) hM 32 (-1) 32 (by decide) (h_inc (by decide))) (show mP 32 (h_ai H8 (o + 1) 32 + (-1)) from (by rw [m31, qx33]; exact (mP_of24 (by omega) (show 0 ≤ x33.toInt from by omega) (show x33.toInt ≤ 24 from by omega)))) wd_X11_adds wV_X11_adds wL_X11_69 (hM.o rfl) rfl rfl hl.1 rfl (Nat.le_of_ble_eq_true rfl) dX11_happens_44 ⟨Nat.le_of_ble_eq_true rfl, Nat.le_of_ble_eq_true rfl⟩ ⟨Nat.zero_le _, Nat.zero_le _⟩ (fun H10 locs hp10 hT10 hS10 hk10 => ?_)
          have hp10 : h_apu H8 H10 (o + 1) 32 (.int (h_ai H8 (o + 1) 32 + (-1))) := hp10.2
          rw [show h_ai H8 (o + 1) 32 + (-1) = x33 from (by rw [m31]; exact qx33)] at hp10
          have hp10 : h_apu H8 H10 (o + 1) 32 (.int x33) := hp10
          have z34 : ∀ j : Nat, mK j → h_ai H10 (o + 1) j = h_ai H0 (o + 1) j := fun j hj => (h_apn hp10 (by unfold mK at hj; omega)).trans (z30 j hj)
          have m35 : h_ai H10 (o + 1) 32 = x33 := h_aps hp10
          refine lv_sipush (v := 512) hx hb dX11_happens_47 (by decide) ?_
          refine lv_iconst (v := 3) hx hb dX11_happens_50 (by decide) ?_
          refine lv_aload_n hx hb dX11_happens_51 rfl (lv_at hl 1 rfl) ?_
          refine lv_bipush (v := 32) hx hb dX11_happens_52 (by decide) ?_
          refine h_callVi (T := TX11) (rest := [.int 3, .int 512]) (As := [.int 32]) hx hb hml hown hts hK hT10 hZ (fun _ h => h) hS10 (c_of l G Y P (o) hM 32 32 (by decide) (h_inc (by decide))) trivial wd_X11_of wV_X11_of wL_X11_47 (hM.o rfl) rfl rfl hl.1 rfl (Nat.le_of_ble_eq_true rfl) dX11_happens_54 ⟨Nat.le_of_ble_eq_true rfl, Nat.le_of_ble_eq_true rfl⟩ ⟨Nat.zero_le _, Nat.zero_le _⟩ (fun r36 H11 locs hp11 hT11 hS11 hk11 => ?_)
          obtain ⟨hp11, he⟩ := hp11
          have he := he.symm
          subst he
          have hp11 : x33 = r36 := (hp11.1.trans m35).symm
          subst hp11
          refine lv_imul hx hb dX11_happens_57 ?_
          obtain ⟨x37, qx37, ix37⟩ := h_mulX 3 x33 (3 : Int) x33.toInt rfl rfl (by omega) (by omega)
          refine h_top (v := x37) qx37 ?_
          refine lv_iadd hx hb dX11_happens_58 ?_
          obtain ⟨x38, qx38, ix38⟩ := h_addX 512 x37 (512 : Int) x37.toInt rfl rfl (by omega) (by omega)
          refine h_top (v := x38) qx38 ?_
          refine lv_istore_n (lv' := [(3, .int x38), (0, .ref (o)), (1, .int u1), (2, .int u2)]) hx hb dX11_happens_59 rfl hl (by decide) rfl (fun ls hl => ?_)
          refine lv_aload_n hx hb dX11_happens_60 rfl (lv_at hl 1 rfl) ?_
          refine lv_iload_n hx hb dX11_happens_61 rfl (lv_at hl 0 rfl) ?_
          refine lv_iload_n hx hb dX11_happens_62 rfl (lv_at hl 2 rfl) ?_
          refine h_callVv (T := TX11) (rest := []) (As := [.int x38, .int u1]) hx hb hml hown hts hK hT10 hZ (fun _ h => h) hS11 (c_puts l G Y P (o) hM x38 u1 (509 + 3 * r1.toInt).toNat (show x38.toInt.toNat = (509 + 3 * r1.toInt).toNat from by omega) (h_vin (by omega) (by omega)) (mP_free (by unfold mFree; omega))) trivial wd_X11_puts wV_X11_puts wL_X11_43 (hM.o rfl) rfl rfl hl.1 rfl (Nat.le_of_ble_eq_true rfl) dX11_happens_63 ⟨Nat.le_of_ble_eq_true rfl, Nat.le_of_ble_eq_true rfl⟩ ⟨Nat.zero_le _, Nat.zero_le _⟩ (fun H12 locs hp12 hT12 hS12 hk12 => ?_)
          have hp12 : h_apu H10 H12 (o + 1) (509 + 3 * r1.toInt).toNat (.int u1) := hp12.2
          have z39 : ∀ j : Nat, mK j → h_ai H12 (o + 1) j = h_ai H0 (o + 1) j := fun j hj => (h_apn hp12 (by unfold mK at hj; omega)).trans (z34 j hj)
          have m40 : h_ai H12 (o + 1) 32 = x33 := (h_apn hp12 (by omega)).trans m35
          have m41 : h_ai H12 (o + 1) (509 + 3 * r1.toInt).toNat = u1 := h_aps hp12
          refine lv_aload_n hx hb dX11_happens_66 rfl (lv_at hl 1 rfl) ?_
          refine lv_iload_n hx hb dX11_happens_67 rfl (lv_at hl 0 rfl) ?_
          refine lv_iconst (v := 1) hx hb dX11_happens_68 (by decide) ?_
          refine lv_iadd hx hb dX11_happens_69 ?_
          obtain ⟨x42, qx42, ix42⟩ := h_addX x38 1 x38.toInt (1 : Int) rfl rfl (by omega) (by omega)
          refine h_top (v := x42) qx42 ?_
          refine lv_aload_n hx hb dX11_happens_70 rfl (lv_at hl 1 rfl) ?_
          refine lv_iconst (v := 3) hx hb dX11_happens_71 (by decide) ?_
          refine h_callVi (T := TX11) (rest := [.int x42, .ref (o)]) (As := [.int 3]) hx hb hml hown hts hK hT12 hZ (fun _ h => h) hS12 (c_of l G Y P (o) hM 3 3 (by decide) (h_inc (by decide))) trivial wd_X11_of wV_X11_of wL_X11_47 (hM.o rfl) rfl rfl hl.1 rfl (Nat.le_of_ble_eq_true rfl) dX11_happens_72 ⟨Nat.le_of_ble_eq_true rfl, Nat.le_of_ble_eq_true rfl⟩ ⟨Nat.zero_le _, Nat.zero_le _⟩ (fun r43 H13 locs hp13 hT13 hS13 hk13 => ?_)
          obtain ⟨hp13, he⟩ := hp13
          have he := he.symm
          subst he
          have mr43 : h_ai H12 (o + 1) 3 = r43 := hp13.1.symm
          refine h_callVv (T := TX11) (rest := []) (As := [.int x42, .int r43]) hx hb hml hown hts hK hT12 hZ (fun _ h => h) hS13 (c_puts l G Y P (o) hM x42 r43 (510 + 3 * r1.toInt).toNat (show x42.toInt.toNat = (510 + 3 * r1.toInt).toNat from by omega) (h_vin (by omega) (by omega)) (mP_free (by unfold mFree; omega))) trivial wd_X11_puts wV_X11_puts wL_X11_43 (hM.o rfl) rfl rfl hl.1 rfl (Nat.le_of_ble_eq_true rfl) dX11_happens_75 ⟨Nat.le_of_ble_eq_true rfl, Nat.le_of_ble_eq_true rfl⟩ ⟨Nat.zero_le _, Nat.zero_le _⟩ (fun H14 locs hp14 hT14 hS14 hk14 => ?_)
          have hp14 : h_apu H12 H14 (o + 1) (510 + 3 * r1.toInt).toNat (.int r43) := hp14.2
          have z44 : ∀ j : Nat, mK j → h_ai H14 (o + 1) j = h_ai H0 (o + 1) j := fun j hj => (h_apn hp14 (by unfold mK at hj; omega)).trans (z39 j hj)
          have m45 : h_ai H14 (o + 1) 32 = x33 := (h_apn hp14 (by omega)).trans m40
          have m46 : h_ai H14 (o + 1) (509 + 3 * r1.toInt).toNat = u1 := (h_apn hp14 (by omega)).trans m41
          have m47 : h_ai H14 (o + 1) 3 = r43 := (h_apn hp14 (by omega)).trans mr43
          have m48 : h_ai H14 (o + 1) (510 + 3 * r1.toInt).toNat = r43 := h_aps hp14
          refine lv_aload_n hx hb dX11_happens_78 rfl (lv_at hl 1 rfl) ?_
          refine lv_iload_n hx hb dX11_happens_79 rfl (lv_at hl 0 rfl) ?_
          refine lv_iconst (v := 2) hx hb dX11_happens_80 (by decide) ?_
          refine lv_iadd hx hb dX11_happens_81 ?_
          obtain ⟨x49, qx49, ix49⟩ := h_addX x38 2 x38.toInt (2 : Int) rfl rfl (by omega) (by omega)
          refine h_top (v := x49) qx49 ?_
          refine lv_iload_n hx hb dX11_happens_82 rfl (lv_at hl 3 rfl) ?_
          refine h_callVv (T := TX11) (rest := []) (As := [.int x49, .int u2]) hx hb hml hown hts hK hT14 hZ (fun _ h => h) hS14 (c_puts l G Y P (o) hM x49 u2 (511 + 3 * r1.toInt).toNat (show x49.toInt.toNat = (511 + 3 * r1.toInt).toNat from by omega) (h_vin (by omega) (by omega)) (mP_free (by unfold mFree; omega))) trivial wd_X11_puts wV_X11_puts wL_X11_43 (hM.o rfl) rfl rfl hl.1 rfl (Nat.le_of_ble_eq_true rfl) dX11_happens_83 ⟨Nat.le_of_ble_eq_true rfl, Nat.le_of_ble_eq_true rfl⟩ ⟨Nat.zero_le _, Nat.zero_le _⟩ (fun H15 locs hp15 hT15 hS15 hk15 => ?_)
          have hp15 : h_apu H14 H15 (o + 1) (511 + 3 * r1.toInt).toNat (.int u2) := hp15.2
          have z50 : ∀ j : Nat, mK j → h_ai H15 (o + 1) j = h_ai H0 (o + 1) j := fun j hj => (h_apn hp15 (by unfold mK at hj; omega)).trans (z44 j hj)
          have m51 : h_ai H15 (o + 1) 32 = x33 := (h_apn hp15 (by omega)).trans m45
          have m52 : h_ai H15 (o + 1) (509 + 3 * r1.toInt).toNat = u1 := (h_apn hp15 (by omega)).trans m46
          have m53 : h_ai H15 (o + 1) 3 = r43 := (h_apn hp15 (by omega)).trans m47
          have m54 : h_ai H15 (o + 1) (510 + 3 * r1.toInt).toNat = r43 := (h_apn hp15 (by omega)).trans m48
          have m55 : h_ai H15 (o + 1) (511 + 3 * r1.toInt).toNat = u2 := h_aps hp15
          refine lv_aload_n hx hb dX11_happens_86 rfl (lv_at hl 1 rfl) ?_
          refine lv_bipush (v := 32) hx hb dX11_happens_87 (by decide) ?_
          refine lv_iconst (v := 1) hx hb dX11_happens_89 (by decide) ?_
          refine h_callVv (T := TX11) (rest := []) (As := [.int 32, .int 1]) hx hb hml hown hts hK hT15 hZ (fun _ h => h) hS15 (c_adds l G Y P (o) hM 32 1 32 (by decide) (h_inc (by decide))) (show mP 32 (h_ai H15 (o + 1) 32 + 1) from (by rw [m51, (h_addE x33 1 r1 x33.toInt (1 : Int) rfl rfl (by omega) (by omega) (by omega))]; exact (mP_of24 (by omega) (show 0 ≤ r1.toInt from by omega) (show r1.toInt ≤ 24 from by omega)))) wd_X11_adds wV_X11_adds wL_X11_69 (hM.o rfl) rfl rfl hl.1 rfl (Nat.le_of_ble_eq_true rfl) dX11_happens_90 ⟨Nat.le_of_ble_eq_true rfl, Nat.le_of_ble_eq_true rfl⟩ ⟨Nat.zero_le _, Nat.zero_le _⟩ (fun H16 locs hp16 hT16 hS16 hk16 => ?_)
          have hp16 : h_apu H15 H16 (o + 1) 32 (.int (h_ai H15 (o + 1) 32 + 1)) := hp16.2
          rw [show h_ai H15 (o + 1) 32 + 1 = r1 from (by rw [m51]; exact (h_addE x33 1 r1 x33.toInt (1 : Int) rfl rfl (by omega) (by omega) (by omega)))] at hp16
          have hp16 : h_apu H15 H16 (o + 1) 32 (.int r1) := hp16
          have z56 : ∀ j : Nat, mK j → h_ai H16 (o + 1) j = h_ai H0 (o + 1) j := fun j hj => (h_apn hp16 (by unfold mK at hj; omega)).trans (z50 j hj)
          have m57 : h_ai H16 (o + 1) (509 + 3 * r1.toInt).toNat = u1 := (h_apn hp16 (by omega)).trans m52
          have m58 : h_ai H16 (o + 1) 3 = r43 := (h_apn hp16 (by omega)).trans m53
          have m59 : h_ai H16 (o + 1) (510 + 3 * r1.toInt).toNat = r43 := (h_apn hp16 (by omega)).trans m54
          have m60 : h_ai H16 (o + 1) (511 + 3 * r1.toInt).toNat = u2 := (h_apn hp16 (by omega)).trans m55
          have m61 : h_ai H16 (o + 1) 32 = r1 := h_aps hp16
          exact hret _ _ _ _ hT16 hS16 ⟨trivial, z56⟩ dX11_happens_93
        · skip
          have c32 : ¬ (581 : Int) ≤ w1_3.toInt := h_nleI c32
          refine lv_aload_n hx hb dX11_happens_22 rfl (lv_at hl 1 rfl) ?_
          refine lv_iload_n hx hb dX11_happens_23 rfl (lv_at hl 0 rfl) ?_
          refine lv_aload_n hx hb dX11_happens_24 rfl (lv_at hl 1 rfl) ?_
          refine lv_iload_n hx hb dX11_happens_25 rfl (lv_at hl 0 rfl) ?_
          refine lv_iconst (v := 3) hx hb dX11_happens_26 (by decide) ?_
          refine lv_iadd hx hb dX11_happens_27 ?_
          obtain ⟨x62, qx62, ix62⟩ := h_addX w1_3 3 w1_3.toInt (3 : Int) rfl rfl (by omega) (by omega)
          refine h_top (v := x62) qx62 ?_
          refine h_callVi (T := TX11) (rest := [.int w1_3, .ref (o)]) (As := [.int x62]) hx hb hml hown hts hK hT8 hZ (fun _ h => h) hS8 (c_of l G Y P (o) hM x62 (3 + w1_3.toInt).toNat (show x62.toInt.toNat = (3 + w1_3.toInt).toNat from by omega) (h_vin (by omega) (by omega))) trivial wd_X11_of wV_X11_of wL_X11_47 (hM.o rfl) rfl rfl hl.1 rfl (Nat.le_of_ble_eq_true rfl) dX11_happens_28 ⟨Nat.le_of_ble_eq_true rfl, Nat.le_of_ble_eq_true rfl⟩ ⟨Nat.zero_le _, Nat.zero_le _⟩ (fun r63 H17 locs hp17 hT17 hS17 hk17 => ?_)
          obtain ⟨hp17, he⟩ := hp17
          have he := he.symm
          subst he
          have mr63 : h_ai H8 (o + 1) (3 + w1_3.toInt).toNat = r63 := hp17.1.symm
          refine h_callVv (T := TX11) (rest := []) (As := [.int w1_3, .int r63]) hx hb hml hown hts hK hT8 hZ (fun _ h => h) hS17 (c_puts l G Y P (o) hM w1_3 r63 (w1_3.toInt).toNat (show w1_3.toInt.toNat = (w1_3.toInt).toNat from by omega) (h_vin (by omega) (by omega)) (mP_free (by unfold mFree; omega))) trivial wd_X11_puts wV_X11_puts wL_X11_43 (hM.o rfl) rfl rfl hl.1 rfl (Nat.le_of_ble_eq_true rfl) dX11_happens_31 ⟨Nat.le_of_ble_eq_true rfl, Nat.le_of_ble_eq_true rfl⟩ ⟨Nat.zero_le _, Nat.zero_le _⟩ (fun H18 locs hp18 hT18 hS18 hk18 => ?_)
          have hp18 : h_apu H8 H18 (o + 1) (w1_3.toInt).toNat (.int r63) := hp18.2
          have z64 : ∀ j : Nat, mK j → h_ai H18 (o + 1) j = h_ai H0 (o + 1) j := fun j hj => (h_apn hp18 (by unfold mK at hj; omega)).trans (z30 j hj)
          have m65 : h_ai H18 (o + 1) 32 = r1 := (h_apn hp18 (by omega)).trans m31
          have m66 : h_ai H18 (o + 1) (3 + w1_3.toInt).toNat = r63 := (h_apn hp18 (by omega)).trans mr63
          have m67 : h_ai H18 (o + 1) (w1_3.toInt).toNat = r63 := h_aps hp18
          obtain ⟨x68, qx68, ix68⟩ := h_addX w1_3 1 w1_3.toInt (1 : Int) rfl rfl (by omega) (by omega)
          refine lv_iinc (v := x68) (lv' := [(3, .int x68), (0, .ref (o)), (1, .int u1), (2, .int u2)]) hx hb dX11_happens_34 hl (k := 0) rfl qx68 (by decide) rfl (fun ls hl => ?_)
          refine lv_goto (tgt := 15) hx hb dX11_happens_37 (by decide) ?_
          exact ih1 x68 _ (show 2147483647 - x68.toInt < (n1 : Int) from by omega) (show 512 ≤ x68.toInt from by omega) hT18 z64 m65 _ _ hS18 (lv_sub hl [0, 1, 2, 3] rfl)
    exact LP1 4294967296 512 _ (show 2147483647 - (512 : Int) < ((4294967296 : Nat) : Int) from by omega) (show 512 ≤ (512 : Int) from by omega) hT0 (fun _ _ => rfl) mr1 _ _ hS1 (lv_sub hl [0, 1, 2, 3] rfl)
set_option maxHeartbeats 4000000 in
set_option maxRecDepth 100000 in
theorem c_X11_isSilent (l : Launch) (G : hG) (Y : hW) (P : Int32 → Prop) (o : Nat) (hM : h_On Y o (modE (tM P) o)) : hMv l yX11_isSilent cX11_isSilent 1 none 1 22 G Y [.ref (o)] (fun H => True) (fun H H1 => (True) ∧ (mE o H H1)) := by
  refine h_ofv (by decide +kernel) (Nat.le_of_ble_eq_true rfl) ?_
  intro p e s m args below meth c H0 ls Q hx hb hts hown hml hK hZ hT0 hpr hS0 hl hret
  have hl : lv_has ls 1 [(0, .ref (o))] := hl
  refine lv_aload_n hx hb dX11_isSilent_0 rfl (lv_at hl 0 rfl) ?_
  refine lv_iconst (v := 5) hx hb dX11_isSilent_1 (by decide) ?_
  refine lv_iconst (v := 0) hx hb dX11_isSilent_2 (by decide) ?_
  refine h_callVv (T := TX11) (rest := []) (As := [.int 5, .int 0]) hx hb hml hown hts hK hT0 hZ (fun _ h => h) hS0 (c_puts l G Y P (o) hM 5 0 5 (by decide) (h_inc (by decide)) mP_zero) trivial wd_X11_puts wV_X11_puts wL_X11_43 (hM.o rfl) rfl rfl hl.1 rfl (Nat.le_of_ble_eq_true rfl) dX11_isSilent_3 ⟨Nat.le_of_ble_eq_true rfl, Nat.le_of_ble_eq_true rfl⟩ ⟨Nat.zero_le _, Nat.zero_le _⟩ (fun H1 locs hp1 hT1 hS1 hk1 => ?_)
  have hp1 : h_apu H0 H1 (o + 1) 5 (.int 0) := hp1.2
  have z1 : ∀ j : Nat, mK j → h_ai H1 (o + 1) j = h_ai H0 (o + 1) j := fun j hj => (h_apn hp1 (by unfold mK at hj; omega))
  have m2 : h_ai H1 (o + 1) 5 = 0 := h_aps hp1
  refine lv_aload_n hx hb dX11_isSilent_6 rfl (lv_at hl 0 rfl) ?_
  refine lv_iconst (v := 4) hx hb dX11_isSilent_7 (by decide) ?_
  refine lv_iconst (v := 0) hx hb dX11_isSilent_8 (by decide) ?_
  refine h_callVv (T := TX11) (rest := []) (As := [.int 4, .int 0]) hx hb hml hown hts hK hT1 hZ (fun _ h => h) hS1 (c_puts l G Y P (o) hM 4 0 4 (by decide) (h_inc (by decide)) mP_zero) trivial wd_X11_puts wV_X11_puts wL_X11_43 (hM.o rfl) rfl rfl hl.1 rfl (Nat.le_of_ble_eq_true rfl) dX11_isSilent_9 ⟨Nat.le_of_ble_eq_true rfl, Nat.le_of_ble_eq_true rfl⟩ ⟨Nat.zero_le _, Nat.zero_le _⟩ (fun H2 locs hp2 hT2 hS2 hk2 => ?_)
  have hp2 : h_apu H1 H2 (o + 1) 4 (.int 0) := hp2.2
  have z3 : ∀ j : Nat, mK j → h_ai H2 (o + 1) j = h_ai H0 (o + 1) j := fun j hj => (h_apn hp2 (by unfold mK at hj; omega)).trans (z1 j hj)
  have m4 : h_ai H2 (o + 1) 5 = 0 := (h_apn hp2 (by omega)).trans m2
  have m5 : h_ai H2 (o + 1) 4 = 0 := h_aps hp2
  refine lv_aload_n hx hb dX11_isSilent_12 rfl (lv_at hl 0 rfl) ?_
  refine lv_bipush (v := 18) hx hb dX11_isSilent_13 (by decide) ?_
  refine lv_iconst (v := 0) hx hb dX11_isSilent_15 (by decide) ?_
  refine h_callVv (T := TX11) (rest := []) (As := [.int 18, .int 0]) hx hb hml hown hts hK hT2 hZ (fun _ h => h) hS2 (c_puts l G Y P (o) hM 18 0 18 (by decide) (h_inc (by decide)) mP_zero) trivial wd_X11_puts wV_X11_puts wL_X11_43 (hM.o rfl) rfl rfl hl.1 rfl (Nat.le_of_ble_eq_true rfl) dX11_isSilent_16 ⟨Nat.le_of_ble_eq_true rfl, Nat.le_of_ble_eq_true rfl⟩ ⟨Nat.zero_le _, Nat.zero_le _⟩ (fun H3 locs hp3 hT3 hS3 hk3 => ?_)
  have hp3 : h_apu H2 H3 (o + 1) 18 (.int 0) := hp3.2
  have z6 : ∀ j : Nat, mK j → h_ai H3 (o + 1) j = h_ai H0 (o + 1) j := fun j hj => (h_apn hp3 (by unfold mK at hj; omega)).trans (z3 j hj)
  have m7 : h_ai H3 (o + 1) 5 = 0 := (h_apn hp3 (by omega)).trans m4
  have m8 : h_ai H3 (o + 1) 4 = 0 := (h_apn hp3 (by omega)).trans m5
  have m9 : h_ai H3 (o + 1) 18 = 0 := h_aps hp3
  exact hret _ _ _ _ hT3 hS3 ⟨trivial, z6⟩ dX11_isSilent_19
set_option maxHeartbeats 4000000 in
set_option maxRecDepth 100000 in
theorem c_X11_isLost (l : Launch) (G : hG) (Y : hW) (P : Int32 → Prop) (o : Nat) (hM : h_On Y o (modE (tM P) o)) : hMv l yX11_isLost cX11_isLost 1 none 2 45 G Y [.ref (o)] (fun H => True) (fun H H1 => (True) ∧ (mE o H H1)) := by
  refine h_ofv (by decide +kernel) (Nat.le_of_ble_eq_true rfl) ?_
  intro p e s m args below meth c H0 ls Q hx hb hts hown hml hK hZ hT0 hpr hS0 hl hret
  have hl : lv_has ls 1 [(0, .ref (o))] := hl
  refine lv_aload_n hx hb dX11_isLost_0 rfl (lv_at hl 0 rfl) ?_
  refine lv_bipush (v := 23) hx hb dX11_isLost_1 (by decide) ?_
  refine lv_iconst (v := 1) hx hb dX11_isLost_3 (by decide) ?_
  refine h_callVv (T := TX11) (rest := []) (As := [.int 23, .int 1]) hx hb hml hown hts hK hT0 hZ (fun _ h => h) hS0 (c_adds l G Y P (o) hM 23 1 23 (by decide) (h_inc (by decide))) (show mP 23 (h_ai H0 (o + 1) 23 + 1) from (mP_free (by unfold mFree; omega))) wd_X11_adds wV_X11_adds wL_X11_69 (hM.o rfl) rfl rfl hl.1 rfl (Nat.le_of_ble_eq_true rfl) dX11_isLost_4 ⟨Nat.le_of_ble_eq_true rfl, Nat.le_of_ble_eq_true rfl⟩ ⟨Nat.zero_le _, Nat.zero_le _⟩ (fun H1 locs hp1 hT1 hS1 hk1 => ?_)
  have hp1 : h_apu H0 H1 (o + 1) 23 (.int (h_ai H0 (o + 1) 23 + 1)) := hp1.2
  have z1 : ∀ j : Nat, mK j → h_ai H1 (o + 1) j = h_ai H0 (o + 1) j := fun j hj => (h_apn hp1 (by unfold mK at hj; omega))
  refine lv_aload_n hx hb dX11_isLost_7 rfl (lv_at hl 0 rfl) ?_
  refine lv_iconst (v := 2) hx hb dX11_isLost_8 (by decide) ?_
  refine lv_aload_n hx hb dX11_isLost_9 rfl (lv_at hl 0 rfl) ?_
  refine lv_bipush (v := 6) hx hb dX11_isLost_10 (by decide) ?_
  refine h_callVi (T := TX11) (rest := [.int 2, .ref (o)]) (As := [.int 6]) hx hb hml hown hts hK hT1 hZ (fun _ h => h) hS1 (c_of l G Y P (o) hM 6 6 (by decide) (h_inc (by decide))) trivial wd_X11_of wV_X11_of wL_X11_47 (hM.o rfl) rfl rfl hl.1 rfl (Nat.le_of_ble_eq_true rfl) dX11_isLost_12 ⟨Nat.le_of_ble_eq_true rfl, Nat.le_of_ble_eq_true rfl⟩ ⟨Nat.zero_le _, Nat.zero_le _⟩ (fun r2 H2 locs hp2 hT2 hS2 hk2 => ?_)
  obtain ⟨hp2, he⟩ := hp2
  have he := he.symm
  subst he
  have mr2 : h_ai H1 (o + 1) 6 = r2 := hp2.1.symm
  have br2 := mP_m1 hp2.2 (by omega)
  refine h_callVv (T := TX11) (rest := []) (As := [.int 2, .int r2]) hx hb hml hown hts hK hT1 hZ (fun _ h => h) hS2 (c_X11_happens l G Y P (o) hM 2 r2) trivial wd_X11_happens wV_X11_happens wL_X11_72 (hM.o rfl) rfl rfl hl.1 rfl (Nat.le_of_ble_eq_true rfl) dX11_isLost_15 ⟨Nat.le_of_ble_eq_true rfl, Nat.le_of_ble_eq_true rfl⟩ ⟨Nat.zero_le _, Nat.zero_le _⟩ (fun H3 locs hp3 hT3 hS3 hk3 => ?_)
  obtain ⟨hp3, hB3⟩ := hp3
  have z3 : ∀ j : Nat, mK j → h_ai H3 (o + 1) j = h_ai H0 (o + 1) j := fun j hj => (hB3 j hj).trans (z1 j hj)
  exact hret _ _ _ _ hT3 hS3 ⟨trivial, z3⟩ dX11_isLost_18
set_option maxHeartbeats 4000000 in
set_option maxRecDepth 100000 in
theorem c_X11_dropsRaises (l : Launch) (G : hG) (Y : hW) (P : Int32 → Prop) (o : Nat) (hM : h_On Y o (modE (tM P) o)) (u1 : Int32) (hu1 : (-1) ≤ u1.toInt ∧ u1.toInt ≤ 7) : hMv l yX11_dropsRaises cX11_dropsRaises 2 none 1 22 G Y [.ref (o), .int u1] (fun H => True) (fun H H1 => (True) ∧ (h_apu H H1 (o + 1) (88 + u1.toInt).toNat (.int 0))) := by
  refine h_ofv (by decide +kernel) (Nat.le_of_ble_eq_true rfl) ?_
  intro p e s m args below meth c H0 ls Q hx hb hts hown hml hK hZ hT0 hpr hS0 hl hret
  have hl : lv_has ls 2 [(0, .ref (o)), (1, .int u1)] := hl
  refine lv_aload_n hx hb dX11_dropsRaises_0 rfl (lv_at hl 0 rfl) ?_
  refine lv_bipush (v := 88) hx hb dX11_dropsRaises_1 (by decide) ?_
  refine lv_iload_n hx hb dX11_dropsRaises_3 rfl (lv_at hl 1 rfl) ?_
  refine lv_iadd hx hb dX11_dropsRaises_4 ?_
  obtain ⟨x1, qx1, ix1⟩ := h_addX 88 u1 (88 : Int) u1.toInt rfl rfl (by omega) (by omega)
  refine h_top (v := x1) qx1 ?_
  refine lv_iconst (v := 0) hx hb dX11_dropsRaises_5 (by decide) ?_
  refine h_callVv (T := TX11) (rest := []) (As := [.int x1, .int 0]) hx hb hml hown hts hK hT0 hZ (fun _ h => h) hS0 (c_puts l G Y P (o) hM x1 0 (88 + u1.toInt).toNat (show x1.toInt.toNat = (88 + u1.toInt).toNat from by omega) (h_vin (by omega) (by omega)) mP_zero) trivial wd_X11_puts wV_X11_puts wL_X11_43 (hM.o rfl) rfl rfl hl.1 rfl (Nat.le_of_ble_eq_true rfl) dX11_dropsRaises_6 ⟨Nat.le_of_ble_eq_true rfl, Nat.le_of_ble_eq_true rfl⟩ ⟨Nat.zero_le _, Nat.zero_le _⟩ (fun H1 locs hp1 hT1 hS1 hk1 => ?_)
  have hp1 : h_apu H0 H1 (o + 1) (88 + u1.toInt).toNat (.int 0) := hp1.2
  have m2 : h_ai H1 (o + 1) (88 + u1.toInt).toNat = 0 := h_aps hp1
  exact hret _ _ _ _ hT1 hS1 ⟨trivial, hp1⟩ dX11_dropsRaises_9
set_option maxHeartbeats 4000000 in
set_option maxRecDepth 100000 in
theorem c_X11_isLevel (l : Launch) (G : hG) (Y : hW) (P : Int32 → Prop) (o : Nat) (hM : h_On Y o (modE (tM P) o)) (u1 : Int32) (hu1 : 0 ≤ u1.toInt ∧ u1.toInt ≤ 7) : hMv l yX11_isLevel cX11_isLevel 2 none 1 22 G Y [.ref (o), .int u1] (fun H => True) (fun H H1 => (True) ∧ (∃ (Hm : Heap) (v : Int32), h_apu H Hm (o + 1) 7 (.int u1) ∧ h_apu Hm H1 (o + 1) 27 (.int v))) := by
  refine h_ofv (by decide +kernel) (Nat.le_of_ble_eq_true rfl) ?_
  intro p e s m args below meth c H0 ls Q hx hb hts hown hml hK hZ hT0 hpr hS0 hl hret
  have hl : lv_has ls 2 [(0, .ref (o)), (1, .int u1)] := hl
  refine lv_aload_n hx hb dX11_isLevel_0 rfl (lv_at hl 0 rfl) ?_
  refine lv_bipush (v := 7) hx hb dX11_isLevel_1 (by decide) ?_
  refine lv_iload_n hx hb dX11_isLevel_3 rfl (lv_at hl 1 rfl) ?_
  refine h_callVv (T := TX11) (rest := []) (As := [.int 7, .int u1]) hx hb hml hown hts hK hT0 hZ (fun _ h => h) hS0 (c_puts l G Y P (o) hM 7 u1 7 (by decide) (h_inc (by decide)) (mP_of7 (by omega) (show 0 ≤ u1.toInt from by omega) (show u1.toInt ≤ 7 from by omega))) trivial wd_X11_puts wV_X11_puts wL_X11_43 (hM.o rfl) rfl rfl hl.1 rfl (Nat.le_of_ble_eq_true rfl) dX11_isLevel_4 ⟨Nat.le_of_ble_eq_true rfl, Nat.le_of_ble_eq_true rfl⟩ ⟨Nat.zero_le _, Nat.zero_le _⟩ (fun H1 locs hp1 hT1 hS1 hk1 => ?_)
  have hp1 : h_apu H0 H1 (o + 1) 7 (.int u1) := hp1.2
  have m1 : h_ai H1 (o + 1) 7 = u1 := h_aps hp1
  refine lv_aload_n hx hb dX11_isLevel_7 rfl (lv_at hl 0 rfl) ?_
  refine lv_bipush (v := 27) hx hb dX11_isLevel_8 (by decide) ?_
  refine lv_aload_n hx hb dX11_isLevel_10 rfl (lv_at hl 0 rfl) ?_
  refine lv_bipush (v := 27) hx hb dX11_isLevel_11 (by decide) ?_
  refine h_callVi (T := TX11) (rest := [.int 27, .ref (o)]) (As := [.int 27]) hx hb hml hown hts hK hT1 hZ (fun _ h => h) hS1 (c_of l G Y P (o) hM 27 27 (by decide) (h_inc (by decide))) trivial wd_X11_of wV_X11_of wL_X11_47 (hM.o rfl) rfl rfl hl.1 rfl (Nat.le_of_ble_eq_true rfl) dX11_isLevel_13 ⟨Nat.le_of_ble_eq_true rfl, Nat.le_of_ble_eq_true rfl⟩ ⟨Nat.zero_le _, Nat.zero_le _⟩ (fun r2 H2 locs hp2 hT2 hS2 hk2 => ?_)
  obtain ⟨hp2, he⟩ := hp2
  have he := he.symm
  subst he
  have mr2 : h_ai H1 (o + 1) 27 = r2 := hp2.1.symm
  refine lv_iload_n hx hb dX11_isLevel_16 rfl (lv_at hl 1 rfl) ?_
  refine h_callSi (rest := [.int 27, .ref (o)]) (As := [.int r2, .int u1]) hx hb hml hown hts hK hT1 hZ (fun _ h => h) hS2 (c_J_max l G Y r2 u1) trivial wd_J9_max_7cf53 wS_J9_max_7cf53 wL_X11_86 rfl hl.1 rfl (Nat.le_of_ble_eq_true rfl) dX11_isLevel_17 ⟨Nat.le_of_ble_eq_true rfl, Nat.le_of_ble_eq_true rfl⟩ ⟨Nat.zero_le _, Nat.zero_le _⟩ (fun r3 H3 locs hp3 hT3 hS3 hk3 => ?_)
  obtain ⟨hp3, he⟩ := hp3
  have he := he.symm
  subst he
  have f4 : ((r3.toInt = r2.toInt ∨ r3.toInt = u1.toInt) ∧ r2.toInt ≤ r3.toInt ∧ u1.toInt ≤ r3.toInt) := by have q := hp3; exact q
  refine h_callVv (T := TX11) (rest := []) (As := [.int 27, .int r3]) hx hb hml hown hts hK hT1 hZ (fun _ h => h) hS3 (c_puts l G Y P (o) hM 27 r3 27 (by decide) (h_inc (by decide)) (mP_free (by unfold mFree; omega))) trivial wd_X11_puts wV_X11_puts wL_X11_43 (hM.o rfl) rfl rfl hl.1 rfl (Nat.le_of_ble_eq_true rfl) dX11_isLevel_20 ⟨Nat.le_of_ble_eq_true rfl, Nat.le_of_ble_eq_true rfl⟩ ⟨Nat.zero_le _, Nat.zero_le _⟩ (fun H4 locs hp4 hT4 hS4 hk4 => ?_)
  have hp4 : h_apu H1 H4 (o + 1) 27 (.int r3) := hp4.2
  have m5 : h_ai H4 (o + 1) 7 = u1 := (h_apn hp4 (by omega)).trans m1
  have m6 : h_ai H4 (o + 1) 27 = r3 := h_aps hp4
  exact hret _ _ _ _ hT4 hS4 ⟨trivial, ⟨_, _, hp1, hp4⟩⟩ dX11_isLevel_23
set_option maxHeartbeats 4000000 in
set_option maxRecDepth 100000 in
theorem c_X11_sends (l : Launch) (G : hG) (Y : hW) (P : Int32 → Prop) (o : Nat) (hM : h_On Y o (modE (tM P) o)) (u1 u2 u3 : Int32) (hu1 : 0 ≤ u1.toInt ∧ u1.toInt ≤ 7) (hu2 : 0 ≤ u2.toInt ∧ u2.toInt ≤ 7) (hu3 : 0 ≤ u3.toInt ∧ u3.toInt ≤ 7) : hMi l yX11_sends cX11_sends 5 (some .int) 1 22 G Y [.ref (o), .int u1, .int u2, .int u3] (fun H => (h_ai H (o + 1) (80 + u1.toInt).toNat).toInt ≤ 5) (fun H r H1 => (True) ∧ (mE o H H1 ∧ ∀ q : Nat, q ≠ o + 1 → H1[q]? = H[q]?)) := by
  refine h_ofi (by decide +kernel) (Nat.le_of_ble_eq_true rfl) ?_
  intro p e s m args below meth c H0 ls Q hx hb hts hown hml hK hZ hT0 hpr hS0 hl hret
  have hl : lv_has ls 5 [(0, .ref (o)), (1, .int u1), (2, .int u2), (3, .int u3)] := hl
  obtain ⟨v1, mv1⟩ : ∃ x, h_ai H0 (o + 1) (80 + u1.toInt).toNat = x := ⟨_, rfl⟩
  have bv1 := mP_wm (mP_cell hM hT0 (j := (80 + u1.toInt).toNat) (by omega)) (by omega)
  rw [mv1] at bv1
  have g2 : v1.toInt ≤ 5 := by have q := hpr; rw [mv1] at q; exact q
  refine lv_iload_n hx hb dX11_sends_0 rfl (lv_at hl 1 rfl) ?_
  refine lv_aload_n hx hb dX11_sends_1 rfl (lv_at hl 0 rfl) ?_
  refine lv_bipush (v := 80) hx hb dX11_sends_2 (by decide) ?_
  refine lv_iload_n hx hb dX11_sends_4 rfl (lv_at hl 1 rfl) ?_
  refine lv_iadd hx hb dX11_sends_5 ?_
  obtain ⟨x3, qx3, ix3⟩ := h_addX 80 u1 (80 : Int) u1.toInt rfl rfl (by omega) (by omega)
  refine h_top (v := x3) qx3 ?_
  refine h_callVi (T := TX11) (rest := [.int u1]) (As := [.int x3]) hx hb hml hown hts hK hT0 hZ (fun _ h => h) hS0 (c_of l G Y P (o) hM x3 (80 + u1.toInt).toNat (show x3.toInt.toNat = (80 + u1.toInt).toNat from by omega) (h_vin (by omega) (by omega))) trivial wd_X11_of wV_X11_of wL_X11_47 (hM.o rfl) rfl rfl hl.1 rfl (Nat.le_of_ble_eq_true rfl) dX11_sends_6 ⟨Nat.le_of_ble_eq_true rfl, Nat.le_of_ble_eq_true rfl⟩ ⟨Nat.zero_le _, Nat.zero_le _⟩ (fun r4 H1 locs hp1 hT1 hS1 hk1 => ?_)
  obtain ⟨hp1, he⟩ := hp1
  have he := he.symm
  subst he
  have hp1 : v1 = r4 := (hp1.1.trans mv1).symm
  subst hp1
  refine h_callSi (rest := []) (As := [.int u1, .int v1]) hx hb hml hown hts hK hT0 hZ (fun _ h => h) hS1 (c_X11_waitAt l G Y u1 v1 (show 0 ≤ u1.toInt ∧ u1.toInt ≤ 7 from by omega) (show 0 ≤ v1.toInt ∧ v1.toInt ≤ 6 from by omega)) trivial wd_X11_waitAt wS_X11_waitAt wL_X11_62 rfl hl.1 rfl (Nat.le_of_ble_eq_true rfl) dX11_sends_9 ⟨Nat.le_of_ble_eq_true rfl, Nat.le_of_ble_eq_true rfl⟩ ⟨Nat.zero_le _, Nat.zero_le _⟩ (fun r5 H2 locs hp2 hT2 hS2 hk2 => ?_)
  obtain ⟨hp2, he⟩ := hp2
  have he := he.symm
  subst he
  have f6 : r5.toInt = 96 + 24 * u1.toInt + 4 * v1.toInt := by have q := hp2; exact q
  refine lv_istore (lv' := [(4, .int r5), (0, .ref (o)), (1, .int u1), (2, .int u2), (3, .int u3)]) hx hb dX11_sends_12 hl (by decide) rfl (fun ls hl => ?_)
  refine lv_aload_n hx hb dX11_sends_14 rfl (lv_at hl 1 rfl) ?_
  refine lv_iload hx hb dX11_sends_15 (lv_at hl 0 rfl) ?_
  refine lv_aload_n hx hb dX11_sends_17 rfl (lv_at hl 1 rfl) ?_
  refine lv_iconst (v := 2) hx hb dX11_sends_18 (by decide) ?_
  refine h_callVi (T := TX11) (rest := [.int r5, .ref (o)]) (As := [.int 2]) hx hb hml hown hts hK hT0 hZ (fun _ h => h) hS2 (c_of l G Y P (o) hM 2 2 (by decide) (h_inc (by decide))) trivial wd_X11_of wV_X11_of wL_X11_47 (hM.o rfl) rfl rfl hl.1 rfl (Nat.le_of_ble_eq_true rfl) dX11_sends_19 ⟨Nat.le_of_ble_eq_true rfl, Nat.le_of_ble_eq_true rfl⟩ ⟨Nat.zero_le _, Nat.zero_le _⟩ (fun r7 H3 locs hp3 hT3 hS3 hk3 => ?_)
  obtain ⟨hp3, he⟩ := hp3
  have he := he.symm
  subst he
  have mr7 : h_ai H0 (o + 1) 2 = r7 := hp3.1.symm
  refine h_callVv (T := TX11) (rest := []) (As := [.int r5, .int r7]) hx hb hml hown hts hK hT0 hZ (fun _ h => h) hS3 (c_puts l G Y P (o) hM r5 r7 (96 + 24 * u1.toInt + 4 * v1.toInt).toNat (show r5.toInt.toNat = (96 + 24 * u1.toInt + 4 * v1.toInt).toNat from by omega) (h_vin (by omega) (by omega)) (mP_free (by unfold mFree; omega))) trivial wd_X11_puts wV_X11_puts wL_X11_43 (hM.o rfl) rfl rfl hl.1 rfl (Nat.le_of_ble_eq_true rfl) dX11_sends_22 ⟨Nat.le_of_ble_eq_true rfl, Nat.le_of_ble_eq_true rfl⟩ ⟨Nat.zero_le _, Nat.zero_le _⟩ (fun H4 locs hp4 hT4 hS4 hk4 => ?_)
  have hp4 : h_apu H0 H4 (o + 1) (96 + 24 * u1.toInt + 4 * v1.toInt).toNat (.int r7) := hp4.2
  have z8 : ∀ j : Nat, mK j → h_ai H4 (o + 1) j = h_ai H0 (o + 1) j := fun j hj => (h_apn hp4 (by unfold mK at hj; omega))
  have z9 : ∀ q : Nat, q ≠ o + 1 → H4[q]? = H0[q]? := fun q hq => (hp4.2.1 q hq)
  have m10 : h_ai H4 (o + 1) (80 + u1.toInt).toNat = v1 := (h_apn hp4 (by omega)).trans mv1
  have m11 : h_ai H4 (o + 1) 2 = r7 := (h_apn hp4 (by omega)).trans mr7
  have m12 : h_ai H4 (o + 1) (96 + 24 * u1.toInt + 4 * v1.toInt).toNat = r7 := h_aps hp4
  refine lv_aload_n hx hb dX11_sends_25 rfl (lv_at hl 1 rfl) ?_
  refine lv_iload hx hb dX11_sends_26 (lv_at hl 0 rfl) ?_
  refine lv_iconst (v := 1) hx hb dX11_sends_28 (by decide) ?_
  refine lv_iadd hx hb dX11_sends_29 ?_
  obtain ⟨x13, qx13, ix13⟩ := h_addX r5 1 r5.toInt (1 : Int) rfl rfl (by omega) (by omega)
  refine h_top (v := x13) qx13 ?_
  refine lv_iload_n hx hb dX11_sends_30 rfl (lv_at hl 3 rfl) ?_
  refine h_callVv (T := TX11) (rest := []) (As := [.int x13, .int u2]) hx hb hml hown hts hK hT4 hZ (fun _ h => h) hS4 (c_puts l G Y P (o) hM x13 u2 (97 + 24 * u1.toInt + 4 * v1.toInt).toNat (show x13.toInt.toNat = (97 + 24 * u1.toInt + 4 * v1.toInt).toNat from by omega) (h_vin (by omega) (by omega)) (mP_of7 (by omega) (show 0 ≤ u2.toInt from by omega) (show u2.toInt ≤ 7 from by omega))) trivial wd_X11_puts wV_X11_puts wL_X11_43 (hM.o rfl) rfl rfl hl.1 rfl (Nat.le_of_ble_eq_true rfl) dX11_sends_31 ⟨Nat.le_of_ble_eq_true rfl, Nat.le_of_ble_eq_true rfl⟩ ⟨Nat.zero_le _, Nat.zero_le _⟩ (fun H5 locs hp5 hT5 hS5 hk5 => ?_)
  have hp5 : h_apu H4 H5 (o + 1) (97 + 24 * u1.toInt + 4 * v1.toInt).toNat (.int u2) := hp5.2
  have z14 : ∀ j : Nat, mK j → h_ai H5 (o + 1) j = h_ai H0 (o + 1) j := fun j hj => (h_apn hp5 (by unfold mK at hj; omega)).trans (z8 j hj)
  have z15 : ∀ q : Nat, q ≠ o + 1 → H5[q]? = H0[q]? := fun q hq => (hp5.2.1 q hq).trans (z9 q hq)
  have m16 : h_ai H5 (o + 1) (80 + u1.toInt).toNat = v1 := (h_apn hp5 (by omega)).trans m10
  have m17 : h_ai H5 (o + 1) 2 = r7 := (h_apn hp5 (by omega)).trans m11
  have m18 : h_ai H5 (o + 1) (96 + 24 * u1.toInt + 4 * v1.toInt).toNat = r7 := (h_apn hp5 (by omega)).trans m12
  have m19 : h_ai H5 (o + 1) (97 + 24 * u1.toInt + 4 * v1.toInt).toNat = u2 := h_aps hp5
  refine lv_aload_n hx hb dX11_sends_34 rfl (lv_at hl 1 rfl) ?_
  refine lv_iload hx hb dX11_sends_35 (lv_at hl 0 rfl) ?_
  refine lv_iconst (v := 2) hx hb dX11_sends_37 (by decide) ?_
  refine lv_iadd hx hb dX11_sends_38 ?_
  obtain ⟨x20, qx20, ix20⟩ := h_addX r5 2 r5.toInt (2 : Int) rfl rfl (by omega) (by omega)
  refine h_top (v := x20) qx20 ?_
  refine lv_iload_n hx hb dX11_sends_39 rfl (lv_at hl 4 rfl) ?_
  refine h_callVv (T := TX11) (rest := []) (As := [.int x20, .int u3]) hx hb hml hown hts hK hT5 hZ (fun _ h => h) hS5 (c_puts l G Y P (o) hM x20 u3 (98 + 24 * u1.toInt + 4 * v1.toInt).toNat (show x20.toInt.toNat = (98 + 24 * u1.toInt + 4 * v1.toInt).toNat from by omega) (h_vin (by omega) (by omega)) (mP_of7 (by omega) (show 0 ≤ u3.toInt from by omega) (show u3.toInt ≤ 7 from by omega))) trivial wd_X11_puts wV_X11_puts wL_X11_43 (hM.o rfl) rfl rfl hl.1 rfl (Nat.le_of_ble_eq_true rfl) dX11_sends_40 ⟨Nat.le_of_ble_eq_true rfl, Nat.le_of_ble_eq_true rfl⟩ ⟨Nat.zero_le _, Nat.zero_le _⟩ (fun H6 locs hp6 hT6 hS6 hk6 => ?_)
  have hp6 : h_apu H5 H6 (o + 1) (98 + 24 * u1.toInt + 4 * v1.toInt).toNat (.int u3) := hp6.2
  have z21 : ∀ j : Nat, mK j → h_ai H6 (o + 1) j = h_ai H0 (o + 1) j := fun j hj => (h_apn hp6 (by unfold mK at hj; omega)).trans (z14 j hj)
  have z22 : ∀ q : Nat, q ≠ o + 1 → H6[q]? = H0[q]? := fun q hq => (hp6.2.1 q hq).trans (z15 q hq)
  have m23 : h_ai H6 (o + 1) (80 + u1.toInt).toNat = v1 := (h_apn hp6 (by omega)).trans m16
  have m24 : h_ai H6 (o + 1) 2 = r7 := (h_apn hp6 (by omega)).trans m17
  have m25 : h_ai H6 (o + 1) (96 + 24 * u1.toInt + 4 * v1.toInt).toNat = r7 := (h_apn hp6 (by omega)).trans m18
  have m26 : h_ai H6 (o + 1) (97 + 24 * u1.toInt + 4 * v1.toInt).toNat = u2 := (h_apn hp6 (by omega)).trans m19
  have m27 : h_ai H6 (o + 1) (98 + 24 * u1.toInt + 4 * v1.toInt).toNat = u3 := h_aps hp6
  refine lv_aload_n hx hb dX11_sends_43 rfl (lv_at hl 1 rfl) ?_
  refine lv_iload hx hb dX11_sends_44 (lv_at hl 0 rfl) ?_
  refine lv_iconst (v := 3) hx hb dX11_sends_46 (by decide) ?_
  refine lv_iadd hx hb dX11_sends_47 ?_
  obtain ⟨x28, qx28, ix28⟩ := h_addX r5 3 r5.toInt (3 : Int) rfl rfl (by omega) (by omega)
  refine h_top (v := x28) qx28 ?_
  refine lv_aload_n hx hb dX11_sends_48 rfl (lv_at hl 1 rfl) ?_
  refine lv_iconst (v := 3) hx hb dX11_sends_49 (by decide) ?_
  refine h_callVi (T := TX11) (rest := [.int x28, .ref (o)]) (As := [.int 3]) hx hb hml hown hts hK hT6 hZ (fun _ h => h) hS6 (c_of l G Y P (o) hM 3 3 (by decide) (h_inc (by decide))) trivial wd_X11_of wV_X11_of wL_X11_47 (hM.o rfl) rfl rfl hl.1 rfl (Nat.le_of_ble_eq_true rfl) dX11_sends_50 ⟨Nat.le_of_ble_eq_true rfl, Nat.le_of_ble_eq_true rfl⟩ ⟨Nat.zero_le _, Nat.zero_le _⟩ (fun r29 H7 locs hp7 hT7 hS7 hk7 => ?_)
  obtain ⟨hp7, he⟩ := hp7
  have he := he.symm
  subst he
  have mr29 : h_ai H6 (o + 1) 3 = r29 := hp7.1.symm
  refine h_callVv (T := TX11) (rest := []) (As := [.int x28, .int r29]) hx hb hml hown hts hK hT6 hZ (fun _ h => h) hS7 (c_puts l G Y P (o) hM x28 r29 (99 + 24 * u1.toInt + 4 * v1.toInt).toNat (show x28.toInt.toNat = (99 + 24 * u1.toInt + 4 * v1.toInt).toNat from by omega) (h_vin (by omega) (by omega)) (mP_free (by unfold mFree; omega))) trivial wd_X11_puts wV_X11_puts wL_X11_43 (hM.o rfl) rfl rfl hl.1 rfl (Nat.le_of_ble_eq_true rfl) dX11_sends_53 ⟨Nat.le_of_ble_eq_true rfl, Nat.le_of_ble_eq_true rfl⟩ ⟨Nat.zero_le _, Nat.zero_le _⟩ (fun H8 locs hp8 hT8 hS8 hk8 => ?_)
  have hp8 : h_apu H6 H8 (o + 1) (99 + 24 * u1.toInt + 4 * v1.toInt).toNat (.int r29) := hp8.2
  have z30 : ∀ j : Nat, mK j → h_ai H8 (o + 1) j = h_ai H0 (o + 1) j := fun j hj => (h_apn hp8 (by unfold mK at hj; omega)).trans (z21 j hj)
  have z31 : ∀ q : Nat, q ≠ o + 1 → H8[q]? = H0[q]? := fun q hq => (hp8.2.1 q hq).trans (z22 q hq)
  have m32 : h_ai H8 (o + 1) (80 + u1.toInt).toNat = v1 := (h_apn hp8 (by omega)).trans m23
  have m33 : h_ai H8 (o + 1) 2 = r7 := (h_apn hp8 (by omega)).trans m24
  have m34 : h_ai H8 (o + 1) (96 + 24 * u1.toInt + 4 * v1.toInt).toNat = r7 := (h_apn hp8 (by omega)).trans m25
  have m35 : h_ai H8 (o + 1) (97 + 24 * u1.toInt + 4 * v1.toInt).toNat = u2 := (h_apn hp8 (by omega)).trans m26
  have m36 : h_ai H8 (o + 1) (98 + 24 * u1.toInt + 4 * v1.toInt).toNat = u3 := (h_apn hp8 (by omega)).trans m27
  have m37 : h_ai H8 (o + 1) 3 = r29 := (h_apn hp8 (by omega)).trans mr29
  have m38 : h_ai H8 (o + 1) (99 + 24 * u1.toInt + 4 * v1.toInt).toNat = r29 := h_aps hp8
  refine lv_aload_n hx hb dX11_sends_56 rfl (lv_at hl 1 rfl) ?_
  refine lv_bipush (v := 80) hx hb dX11_sends_57 (by decide) ?_
  refine lv_iload_n hx hb dX11_sends_59 rfl (lv_at hl 2 rfl) ?_
  refine lv_iadd hx hb dX11_sends_60 ?_
  refine h_top (v := x3) (h_addE 80 u1 x3 (80 : Int) u1.toInt rfl rfl (by omega) (by omega) (by omega)) ?_
  refine lv_iconst (v := 1) hx hb dX11_sends_61 (by decide) ?_
  obtain ⟨x39, qx39, ix39⟩ := h_addX v1 1 v1.toInt (1 : Int) rfl rfl (by omega) (by omega)
  refine h_callVv (T := TX11) (rest := []) (As := [.int x3, .int 1]) hx hb hml hown hts hK hT8 hZ (fun _ h => h) hS8 (c_adds l G Y P (o) hM x3 1 (80 + u1.toInt).toNat (show x3.toInt.toNat = (80 + u1.toInt).toNat from by omega) (h_vin (by omega) (by omega))) (show mP (80 + u1.toInt).toNat (h_ai H8 (o + 1) (80 + u1.toInt).toNat + 1) from (by rw [m32, qx39]; exact (mP_06 (show 0 ≤ x39.toInt from by omega) (show x39.toInt ≤ 6 from by omega)))) wd_X11_adds wV_X11_adds wL_X11_69 (hM.o rfl) rfl rfl hl.1 rfl (Nat.le_of_ble_eq_true rfl) dX11_sends_62 ⟨Nat.le_of_ble_eq_true rfl, Nat.le_of_ble_eq_true rfl⟩ ⟨Nat.zero_le _, Nat.zero_le _⟩ (fun H9 locs hp9 hT9 hS9 hk9 => ?_)
  have hp9 : h_apu H8 H9 (o + 1) (80 + u1.toInt).toNat (.int (h_ai H8 (o + 1) (80 + u1.toInt).toNat + 1)) := hp9.2
  rw [show h_ai H8 (o + 1) (80 + u1.toInt).toNat + 1 = x39 from (by rw [m32]; exact qx39)] at hp9
  have hp9 : h_apu H8 H9 (o + 1) (80 + u1.toInt).toNat (.int x39) := hp9
  have z40 : ∀ j : Nat, mK j → h_ai H9 (o + 1) j = h_ai H0 (o + 1) j := fun j hj => (h_apn hp9 (by unfold mK at hj; omega)).trans (z30 j hj)
  have z41 : ∀ q : Nat, q ≠ o + 1 → H9[q]? = H0[q]? := fun q hq => (hp9.2.1 q hq).trans (z31 q hq)
  have m42 : h_ai H9 (o + 1) 2 = r7 := (h_apn hp9 (by omega)).trans m33
  have m43 : h_ai H9 (o + 1) (96 + 24 * u1.toInt + 4 * v1.toInt).toNat = r7 := (h_apn hp9 (by omega)).trans m34
  have m44 : h_ai H9 (o + 1) (97 + 24 * u1.toInt + 4 * v1.toInt).toNat = u2 := (h_apn hp9 (by omega)).trans m35
  have m45 : h_ai H9 (o + 1) (98 + 24 * u1.toInt + 4 * v1.toInt).toNat = u3 := (h_apn hp9 (by omega)).trans m36
  have m46 : h_ai H9 (o + 1) 3 = r29 := (h_apn hp9 (by omega)).trans m37
  have m47 : h_ai H9 (o + 1) (99 + 24 * u1.toInt + 4 * v1.toInt).toNat = r29 := (h_apn hp9 (by omega)).trans m38
  have m48 : h_ai H9 (o + 1) (80 + u1.toInt).toNat = x39 := h_aps hp9
  refine lv_aload_n hx hb dX11_sends_65 rfl (lv_at hl 1 rfl) ?_
  refine lv_iconst (v := 2) hx hb dX11_sends_66 (by decide) ?_
  refine lv_iconst (v := 1) hx hb dX11_sends_67 (by decide) ?_
  refine h_callVv (T := TX11) (rest := []) (As := [.int 2, .int 1]) hx hb hml hown hts hK hT9 hZ (fun _ h => h) hS9 (c_adds l G Y P (o) hM 2 1 2 (by decide) (h_inc (by decide))) (show mP 2 (h_ai H9 (o + 1) 2 + 1) from (mP_free (by unfold mFree; omega))) wd_X11_adds wV_X11_adds wL_X11_69 (hM.o rfl) rfl rfl hl.1 rfl (Nat.le_of_ble_eq_true rfl) dX11_sends_68 ⟨Nat.le_of_ble_eq_true rfl, Nat.le_of_ble_eq_true rfl⟩ ⟨Nat.zero_le _, Nat.zero_le _⟩ (fun H10 locs hp10 hT10 hS10 hk10 => ?_)
  have hp10 : h_apu H9 H10 (o + 1) 2 (.int (h_ai H9 (o + 1) 2 + 1)) := hp10.2
  have z49 : ∀ j : Nat, mK j → h_ai H10 (o + 1) j = h_ai H0 (o + 1) j := fun j hj => (h_apn hp10 (by unfold mK at hj; omega)).trans (z40 j hj)
  have z50 : ∀ q : Nat, q ≠ o + 1 → H10[q]? = H0[q]? := fun q hq => (hp10.2.1 q hq).trans (z41 q hq)
  have m51 : h_ai H10 (o + 1) (96 + 24 * u1.toInt + 4 * v1.toInt).toNat = r7 := (h_apn hp10 (by omega)).trans m43
  have m52 : h_ai H10 (o + 1) (97 + 24 * u1.toInt + 4 * v1.toInt).toNat = u2 := (h_apn hp10 (by omega)).trans m44
  have m53 : h_ai H10 (o + 1) (98 + 24 * u1.toInt + 4 * v1.toInt).toNat = u3 := (h_apn hp10 (by omega)).trans m45
  have m54 : h_ai H10 (o + 1) 3 = r29 := (h_apn hp10 (by omega)).trans m46
  have m55 : h_ai H10 (o + 1) (99 + 24 * u1.toInt + 4 * v1.toInt).toNat = r29 := (h_apn hp10 (by omega)).trans m47
  have m56 : h_ai H10 (o + 1) (80 + u1.toInt).toNat = x39 := (h_apn hp10 (by omega)).trans m48
  refine lv_aload_n hx hb dX11_sends_71 rfl (lv_at hl 1 rfl) ?_
  refine lv_iconst (v := 2) hx hb dX11_sends_72 (by decide) ?_
  refine h_callVi (T := TX11) (rest := []) (As := [.int 2]) hx hb hml hown hts hK hT10 hZ (fun _ h => h) hS10 (c_of l G Y P (o) hM 2 2 (by decide) (h_inc (by decide))) trivial wd_X11_of wV_X11_of wL_X11_47 (hM.o rfl) rfl rfl hl.1 rfl (Nat.le_of_ble_eq_true rfl) dX11_sends_73 ⟨Nat.le_of_ble_eq_true rfl, Nat.le_of_ble_eq_true rfl⟩ ⟨Nat.zero_le _, Nat.zero_le _⟩ (fun r57 H11 locs hp11 hT11 hS11 hk11 => ?_)
  obtain ⟨hp11, he⟩ := hp11
  have he := he.symm
  subst he
  have mr57 : h_ai H10 (o + 1) 2 = r57 := hp11.1.symm
  refine lv_iconst (v := 1) hx hb dX11_sends_76 (by decide) ?_
  refine lv_isub hx hb dX11_sends_77 ?_
  refine lv_topi (fun x58 ex58 => ?_)
  exact hret _ _ _ _ _ hT10 hS11 ⟨trivial, ⟨z49, z50⟩⟩ dX11_sends_78
set_option maxHeartbeats 4000000 in
set_option maxRecDepth 100000 in
theorem c_X11_takes (l : Launch) (G : hG) (Y : hW) (P : Int32 → Prop) (o : Nat) (hM : h_On Y o (modE (tM P) o)) (u1 u2 : Int32) (hu1 : 0 ≤ u1.toInt ∧ u1.toInt ≤ 7) (hu2 : 0 ≤ u2.toInt ∧ u2.toInt ≤ 5) : hMv l yX11_takes cX11_takes 4 none 1 22 G Y [.ref (o), .int u1, .int u2] (fun H => u2.toInt < (h_ai H (o + 1) (80 + u1.toInt).toNat).toInt) (fun H H1 => ((h_ai H1 (o + 1) (80 + u1.toInt).toNat).toInt = (h_ai H (o + 1) (80 + u1.toInt).toNat).toInt - 1) ∧ (mE o H H1)) := by
  refine h_ofv (by decide +kernel) (Nat.le_of_ble_eq_true rfl) ?_
  intro p e s m args below meth c H0 ls Q hx hb hts hown hml hK hZ hT0 hpr hS0 hl hret
  have hl : lv_has ls 4 [(0, .ref (o)), (1, .int u1), (2, .int u2)] := hl
  obtain ⟨v1, mv1⟩ : ∃ x, h_ai H0 (o + 1) (80 + u1.toInt).toNat = x := ⟨_, rfl⟩
  have bv1 := mP_wm (mP_cell hM hT0 (j := (80 + u1.toInt).toNat) (by omega)) (by omega)
  rw [mv1] at bv1
  have g2 : u2.toInt < v1.toInt := by have q := hpr; rw [mv1] at q; exact q
  refine lv_aload_n hx hb dX11_takes_0 rfl (lv_at hl 0 rfl) ?_
  refine lv_bipush (v := 80) hx hb dX11_takes_1 (by decide) ?_
  refine lv_iload_n hx hb dX11_takes_3 rfl (lv_at hl 1 rfl) ?_
  refine lv_iadd hx hb dX11_takes_4 ?_
  obtain ⟨x3, qx3, ix3⟩ := h_addX 80 u1 (80 : Int) u1.toInt rfl rfl (by omega) (by omega)
  refine h_top (v := x3) qx3 ?_
  refine lv_iconst (v := (-1)) hx hb dX11_takes_5 (by decide) ?_
  obtain ⟨x4, qx4, ix4⟩ := h_addX v1 (-1) v1.toInt (-1 : Int) rfl rfl (by omega) (by omega)
  refine h_callVv (T := TX11) (rest := []) (As := [.int x3, .int (-1)]) hx hb hml hown hts hK hT0 hZ (fun _ h => h) hS0 (c_adds l G Y P (o) hM x3 (-1) (80 + u1.toInt).toNat (show x3.toInt.toNat = (80 + u1.toInt).toNat from by omega) (h_vin (by omega) (by omega))) (show mP (80 + u1.toInt).toNat (h_ai H0 (o + 1) (80 + u1.toInt).toNat + (-1)) from (by rw [mv1, qx4]; exact (mP_06 (show 0 ≤ x4.toInt from by omega) (show x4.toInt ≤ 6 from by omega)))) wd_X11_adds wV_X11_adds wL_X11_69 (hM.o rfl) rfl rfl hl.1 rfl (Nat.le_of_ble_eq_true rfl) dX11_takes_6 ⟨Nat.le_of_ble_eq_true rfl, Nat.le_of_ble_eq_true rfl⟩ ⟨Nat.zero_le _, Nat.zero_le _⟩ (fun H1 locs hp1 hT1 hS1 hk1 => ?_)
  have hp1 : h_apu H0 H1 (o + 1) (80 + u1.toInt).toNat (.int (h_ai H0 (o + 1) (80 + u1.toInt).toNat + (-1))) := hp1.2
  rw [show h_ai H0 (o + 1) (80 + u1.toInt).toNat + (-1) = x4 from (by rw [mv1]; exact qx4)] at hp1
  have hp1 : h_apu H0 H1 (o + 1) (80 + u1.toInt).toNat (.int x4) := hp1
  have z5 : ∀ j : Nat, mK j → h_ai H1 (o + 1) j = h_ai H0 (o + 1) j := fun j hj => (h_apn hp1 (by unfold mK at hj; omega))
  have m6 : h_ai H1 (o + 1) (80 + u1.toInt).toNat = x4 := h_aps hp1
  refine lv_iload_n hx hb dX11_takes_9 rfl (lv_at hl 1 rfl) ?_
  refine lv_iload_n hx hb dX11_takes_10 rfl (lv_at hl 2 rfl) ?_
  refine h_callSi (rest := []) (As := [.int u1, .int u2]) hx hb hml hown hts hK hT1 hZ (fun _ h => h) hS1 (c_X11_waitAt l G Y u1 u2 (show 0 ≤ u1.toInt ∧ u1.toInt ≤ 7 from by omega) (show 0 ≤ u2.toInt ∧ u2.toInt ≤ 6 from by omega)) trivial wd_X11_waitAt wS_X11_waitAt wL_X11_62 rfl hl.1 rfl (Nat.le_of_ble_eq_true rfl) dX11_takes_11 ⟨Nat.le_of_ble_eq_true rfl, Nat.le_of_ble_eq_true rfl⟩ ⟨Nat.zero_le _, Nat.zero_le _⟩ (fun r7 H2 locs hp2 hT2 hS2 hk2 => ?_)
  obtain ⟨hp2, he⟩ := hp2
  have he := he.symm
  subst he
  have f8 : r7.toInt = 96 + 24 * u1.toInt + 4 * u2.toInt := by have q := hp2; exact q
  refine lv_istore_n (lv' := [(3, .int r7), (0, .ref (o)), (1, .int u1), (2, .int u2)]) hx hb dX11_takes_14 rfl hl (by decide) rfl (fun ls hl => ?_)
  have LP1 : ∀ (n1 : Nat) (w1_3 : Int32) (H3 : Heap), (2147483647 - w1_3.toInt < (n1 : Int)) → (96 ≤ w1_3.toInt) → (hT G Y H3) → (∀ j : Nat, mK j → h_ai H3 (o + 1) j = h_ai H0 (o + 1) j) → (h_ai H3 (o + 1) (80 + u1.toInt).toNat = x4) → ∀ (locs : List Loc) (ls : Array Slot), va_S (h_A Y) s.heap H3 locs → lv_has ls 4 [(3, .int w1_3), (0, .ref (o)), (1, .int u1)] → W p l e (h_rm 1 22) s m args below meth c H3 locs 0 0 Q (F0 m 15 ls []) := by
    intro n1
    induction n1 with
    | zero =>
      intro w1_3 H3 hm hlo1_3
      intros
      exfalso
      have := Int32.toInt_lt w1_3; have := Int32.le_toInt w1_3
      omega
    | succ n1 ih1 =>
      intro w1_3 H3 hm hlo1_3 hT3 z9 m10 locs ls hS3 hl
      refine lv_iload_n hx hb dX11_takes_15 rfl (lv_at hl 0 rfl) ?_
      refine lv_iload_n hx hb dX11_takes_16 rfl (lv_at hl 2 rfl) ?_
      refine lv_aload_n hx hb dX11_takes_17 rfl (lv_at hl 1 rfl) ?_
      refine lv_bipush (v := 80) hx hb dX11_takes_18 (by decide) ?_
      refine lv_iload_n hx hb dX11_takes_20 rfl (lv_at hl 2 rfl) ?_
      refine lv_iadd hx hb dX11_takes_21 ?_
      refine h_top (v := x3) (h_addE 80 u1 x3 (80 : Int) u1.toInt rfl rfl (by omega) (by omega) (by omega)) ?_
      refine h_callVi (T := TX11) (rest := [.int u1, .int w1_3]) (As := [.int x3]) hx hb hml hown hts hK hT3 hZ (fun _ h => h) hS3 (c_of l G Y P (o) hM x3 (80 + u1.toInt).toNat (show x3.toInt.toNat = (80 + u1.toInt).toNat from by omega) (h_vin (by omega) (by omega))) trivial wd_X11_of wV_X11_of wL_X11_47 (hM.o rfl) rfl rfl hl.1 rfl (Nat.le_of_ble_eq_true rfl) dX11_takes_22 ⟨Nat.le_of_ble_eq_true rfl, Nat.le_of_ble_eq_true rfl⟩ ⟨Nat.zero_le _, Nat.zero_le _⟩ (fun r11 H5 locs hp5 hT5 hS5 hk5 => ?_)
      obtain ⟨hp5, he⟩ := hp5
      have he := he.symm
      subst he
      have hp5 : x4 = r11 := (hp5.1.trans m10).symm
      subst hp5
      refine h_callSi (rest := [.int w1_3]) (As := [.int u1, .int x4]) hx hb hml hown hts hK hT3 hZ (fun _ h => h) hS5 (c_X11_waitAt l G Y u1 x4 (show 0 ≤ u1.toInt ∧ u1.toInt ≤ 7 from by omega) (show 0 ≤ x4.toInt ∧ x4.toInt ≤ 6 from by omega)) trivial wd_X11_waitAt wS_X11_waitAt wL_X11_62 rfl hl.1 rfl (Nat.le_of_ble_eq_true rfl) dX11_takes_25 ⟨Nat.le_of_ble_eq_true rfl, Nat.le_of_ble_eq_true rfl⟩ ⟨Nat.zero_le _, Nat.zero_le _⟩ (fun r12 H6 locs hp6 hT6 hS6 hk6 => ?_)
      obtain ⟨hp6, he⟩ := hp6
      have he := he.symm
      subst he
      have f13 : r12.toInt = 96 + 24 * u1.toInt + 4 * x4.toInt := by have q := hp6; exact q
      refine lv_icmp_ge (tgt := 49) hx hb dX11_takes_28 (by decide) (fun c14 => ?_) (fun c14 => ?_)
      · skip
        have c14 : r12.toInt ≤ w1_3.toInt := Int32.le_iff_toInt_le.mp c14
        exact hret _ _ _ _ hT3 hS6 ⟨(show (h_ai H3 (o + 1) (80 + u1.toInt).toNat).toInt = (h_ai H0 (o + 1) (80 + u1.toInt).toNat).toInt - 1 from by rw [m10, mv1]; omega), z9⟩ dX11_takes_49
      · skip
        have c14 : ¬ r12.toInt ≤ w1_3.toInt := h_nleI c14
        refine lv_aload_n hx hb dX11_takes_31 rfl (lv_at hl 1 rfl) ?_
        refine lv_iload_n hx hb dX11_takes_32 rfl (lv_at hl 0 rfl) ?_
        refine lv_aload_n hx hb dX11_takes_33 rfl (lv_at hl 1 rfl) ?_
        refine lv_iload_n hx hb dX11_takes_34 rfl (lv_at hl 0 rfl) ?_
        refine lv_iconst (v := 4) hx hb dX11_takes_35 (by decide) ?_
        refine lv_iadd hx hb dX11_takes_36 ?_
        obtain ⟨x15, qx15, ix15⟩ := h_addX w1_3 4 w1_3.toInt (4 : Int) rfl rfl (by omega) (by omega)
        refine h_top (v := x15) qx15 ?_
        refine h_callVi (T := TX11) (rest := [.int w1_3, .ref (o)]) (As := [.int x15]) hx hb hml hown hts hK hT3 hZ (fun _ h => h) hS6 (c_of l G Y P (o) hM x15 (4 + w1_3.toInt).toNat (show x15.toInt.toNat = (4 + w1_3.toInt).toNat from by omega) (h_vin (by omega) (by omega))) trivial wd_X11_of wV_X11_of wL_X11_47 (hM.o rfl) rfl rfl hl.1 rfl (Nat.le_of_ble_eq_true rfl) dX11_takes_37 ⟨Nat.le_of_ble_eq_true rfl, Nat.le_of_ble_eq_true rfl⟩ ⟨Nat.zero_le _, Nat.zero_le _⟩ (fun r16 H7 locs hp7 hT7 hS7 hk7 => ?_)
        obtain ⟨hp7, he⟩ := hp7
        have he := he.symm
        subst he
        have mr16 : h_ai H3 (o + 1) (4 + w1_3.toInt).toNat = r16 := hp7.1.symm
        refine h_callVv (T := TX11) (rest := []) (As := [.int w1_3, .int r16]) hx hb hml hown hts hK hT3 hZ (fun _ h => h) hS7 (c_puts l G Y P (o) hM w1_3 r16 (w1_3.toInt).toNat (show w1_3.toInt.toNat = (w1_3.toInt).toNat from by omega) (h_vin (by omega) (by omega)) (mP_row hp7.2 (by omega) (by omega) (by omega))) trivial wd_X11_puts wV_X11_puts wL_X11_43 (hM.o rfl) rfl rfl hl.1 rfl (Nat.le_of_ble_eq_true rfl) dX11_takes_40 ⟨Nat.le_of_ble_eq_true rfl, Nat.le_of_ble_eq_true rfl⟩ ⟨Nat.zero_le _, Nat.zero_le _⟩ (fun H8 locs hp8 hT8 hS8 hk8 => ?_)
        have hp8 : h_apu H3 H8 (o + 1) (w1_3.toInt).toNat (.int r16) := hp8.2
        have z17 : ∀ j : Nat, mK j → h_ai H8 (o + 1) j = h_ai H0 (o + 1) j := fun j hj => (h_apn hp8 (by unfold mK at hj; omega)).trans (z9 j hj)
        have m18 : h_ai H8 (o + 1) (80 + u1.toInt).toNat = x4 := (h_apn hp8 (by omega)).trans m10
        have m19 : h_ai H8 (o + 1) (4 + w1_3.toInt).toNat = r16 := (h_apn hp8 (by omega)).trans mr16
        have m20 : h_ai H8 (o + 1) (w1_3.toInt).toNat = r16 := h_aps hp8
        obtain ⟨x21, qx21, ix21⟩ := h_addX w1_3 1 w1_3.toInt (1 : Int) rfl rfl (by omega) (by omega)
        refine lv_iinc (v := x21) (lv' := [(3, .int x21), (0, .ref (o)), (1, .int u1)]) hx hb dX11_takes_43 hl (k := 0) rfl qx21 (by decide) rfl (fun ls hl => ?_)
        refine lv_goto (tgt := 15) hx hb dX11_takes_46 (by decide) ?_
        exact ih1 x21 _ (show 2147483647 - x21.toInt < (n1 : Int) from by omega) (show 96 ≤ x21.toInt from by omega) hT8 z17 m18 _ _ hS8 (lv_sub hl [0, 1, 2] rfl)
  exact LP1 4294967296 r7 _ (show 2147483647 - r7.toInt < ((4294967296 : Nat) : Int) from by have := Int32.le_toInt r7; have := Int32.toInt_lt r7; omega) (show 96 ≤ r7.toInt from by omega) hT1 z5 m6 _ _ hS2 (lv_sub hl [0, 1, 2] rfl)
set_option maxHeartbeats 4000000 in
set_option maxRecDepth 100000 in
theorem c_X11_wishes (l : Launch) (G : hG) (Y : hW) (P : Int32 → Prop) (o : Nat) (hM : h_On Y o (modE (tM P) o)) (u1 : Int32) (hu1 : 0 ≤ u1.toInt ∧ u1.toInt ≤ 7) : hMv l yX11_wishes cX11_wishes 2 none 3 65 G Y [.ref (o), .int u1] (fun H => True) (fun H H1 => (True) ∧ (mE o H H1)) := by
  refine h_ofv (by decide +kernel) (Nat.le_of_ble_eq_true rfl) ?_
  intro p e s m args below meth c H0 ls Q hx hb hts hown hml hK hZ hT0 hpr hS0 hl hret
  have hl : lv_has ls 2 [(0, .ref (o)), (1, .int u1)] := hl
  refine lv_aload_n hx hb dX11_wishes_0 rfl (lv_at hl 0 rfl) ?_
  refine h_geti (C := RX11) (T := TX11) (N := 23) hx hb hts inX11 hown hK hT0 (hM.o rfl) rfl 6 rfl wF_X11_94 rfl dX11_wishes_1 (fun p1 => ?_)
  refine lv_topi (fun x2 ex2 => ?_)
  refine lv_if_ne (tgt := 32) hx hb dX11_wishes_4 (by decide) (fun c3 => ?_) (fun c3 => ?_)
  · skip
    have c3 : ¬ x2.toInt = (0 : Int) := h_neI c3
    exact hret _ _ _ _ hT0 hS0 ⟨trivial, (fun _ _ => rfl)⟩ dX11_wishes_32
  · skip
    have c3 : x2.toInt = (0 : Int) := congrArg Int32.toInt c3
    refine lv_aload_n hx hb dX11_wishes_7 rfl (lv_at hl 0 rfl) ?_
    refine lv_iload_n hx hb dX11_wishes_8 rfl (lv_at hl 1 rfl) ?_
    obtain ⟨v4, mv4⟩ : ∃ x, h_ai H0 (o + 1) (80 + u1.toInt).toNat = x := ⟨_, rfl⟩
    have bv4 := mP_wm (mP_cell hM hT0 (j := (80 + u1.toInt).toNat) (by omega)) (by omega)
    rw [mv4] at bv4
    refine h_callVi (T := TX11) (rest := []) (As := [.int u1]) hx hb hml hown hts hK hT0 hZ (fun _ h => h) hS0 (c_X11_firstRank l G Y P (o) hM u1 (show 0 ≤ u1.toInt ∧ u1.toInt ≤ 7 from by omega)) trivial wd_X11_firstRank wV_X11_firstRank wL_X11_97 (hM.o rfl) rfl rfl hl.1 rfl (Nat.le_of_ble_eq_true rfl) dX11_wishes_9 ⟨Nat.le_of_ble_eq_true rfl, Nat.le_of_ble_eq_true rfl⟩ ⟨Nat.zero_le _, Nat.zero_le _⟩ (fun r5 H1 locs hp1 hT1 hS1 hk1 => ?_)
    obtain ⟨hp1, he⟩ := hp1
    have he := he.symm
    subst he
    have f6 : (r5.toInt = -1 ∧ v4.toInt ≤ 0) ∨ (0 ≤ r5.toInt ∧ r5.toInt ≤ 7 ∧ 1 ≤ v4.toInt) := by have q := hp1; rw [mv4] at q; exact q
    refine lv_aload_n hx hb dX11_wishes_12 rfl (lv_at hl 0 rfl) ?_
    refine lv_bipush (v := 8) hx hb dX11_wishes_13 (by decide) ?_
    refine h_callVi (T := TX11) (rest := [.int r5]) (As := [.int 8]) hx hb hml hown hts hK hT0 hZ (fun _ h => h) hS1 (c_of l G Y P (o) hM 8 8 (by decide) (h_inc (by decide))) trivial wd_X11_of wV_X11_of wL_X11_47 (hM.o rfl) rfl rfl hl.1 rfl (Nat.le_of_ble_eq_true rfl) dX11_wishes_15 ⟨Nat.le_of_ble_eq_true rfl, Nat.le_of_ble_eq_true rfl⟩ ⟨Nat.zero_le _, Nat.zero_le _⟩ (fun r7 H2 locs hp2 hT2 hS2 hk2 => ?_)
    obtain ⟨hp2, he⟩ := hp2
    have he := he.symm
    subst he
    have mr7 : h_ai H0 (o + 1) 8 = r7 := hp2.1.symm
    have br7 := mP_l hp2.2 (by omega)
    refine lv_icmp_le (tgt := 32) hx hb dX11_wishes_18 (by decide) (fun c8 => ?_) (fun c8 => ?_)
    · skip
      have c8 : r5.toInt ≤ r7.toInt := Int32.le_iff_toInt_le.mp c8
      exact hret _ _ _ _ hT0 hS2 ⟨trivial, (fun _ _ => rfl)⟩ dX11_wishes_32
    · skip
      have c8 : ¬ r5.toInt ≤ r7.toInt := h_nleI c8
      refine lv_aload_n hx hb dX11_wishes_21 rfl (lv_at hl 0 rfl) ?_
      refine lv_bipush (v := 8) hx hb dX11_wishes_22 (by decide) ?_
      refine lv_aload_n hx hb dX11_wishes_24 rfl (lv_at hl 0 rfl) ?_
      refine lv_iload_n hx hb dX11_wishes_25 rfl (lv_at hl 1 rfl) ?_
      refine h_callVi (T := TX11) (rest := [.int 8, .ref (o)]) (As := [.int u1]) hx hb hml hown hts hK hT0 hZ (fun _ h => h) hS2 (c_X11_firstRank l G Y P (o) hM u1 (show 0 ≤ u1.toInt ∧ u1.toInt ≤ 7 from by omega)) trivial wd_X11_firstRank wV_X11_firstRank wL_X11_97 (hM.o rfl) rfl rfl hl.1 rfl (Nat.le_of_ble_eq_true rfl) dX11_wishes_26 ⟨Nat.le_of_ble_eq_true rfl, Nat.le_of_ble_eq_true rfl⟩ ⟨Nat.zero_le _, Nat.zero_le _⟩ (fun r9 H3 locs hp3 hT3 hS3 hk3 => ?_)
      obtain ⟨hp3, he⟩ := hp3
      have he := he.symm
      subst he
      have f10 : (r9.toInt = -1 ∧ v4.toInt ≤ 0) ∨ (0 ≤ r9.toInt ∧ r9.toInt ≤ 7 ∧ 1 ≤ v4.toInt) := by have q := hp3; rw [mv4] at q; exact q
      refine h_callVv (T := TX11) (rest := []) (As := [.int 8, .int r9]) hx hb hml hown hts hK hT0 hZ (fun _ h => h) hS3 (c_puts l G Y P (o) hM 8 r9 8 (by decide) (h_inc (by decide)) (mP_of7 (by omega) (show 0 ≤ r9.toInt from by omega) (show r9.toInt ≤ 7 from by omega))) trivial wd_X11_puts wV_X11_puts wL_X11_43 (hM.o rfl) rfl rfl hl.1 rfl (Nat.le_of_ble_eq_true rfl) dX11_wishes_29 ⟨Nat.le_of_ble_eq_true rfl, Nat.le_of_ble_eq_true rfl⟩ ⟨Nat.zero_le _, Nat.zero_le _⟩ (fun H4 locs hp4 hT4 hS4 hk4 => ?_)
      have hp4 : h_apu H0 H4 (o + 1) 8 (.int r9) := hp4.2
      have z11 : ∀ j : Nat, mK j → h_ai H4 (o + 1) j = h_ai H0 (o + 1) j := fun j hj => (h_apn hp4 (by unfold mK at hj; omega))
      have m12 : h_ai H4 (o + 1) (80 + u1.toInt).toNat = v4 := (h_apn hp4 (by omega)).trans mv4
      have m13 : h_ai H4 (o + 1) 8 = r9 := h_aps hp4
      exact hret _ _ _ _ hT4 hS4 ⟨trivial, z11⟩ dX11_wishes_32
set_option maxHeartbeats 4000000 in
set_option maxRecDepth 100000 in
theorem c_X11_isGot (l : Launch) (G : hG) (Y : hW) (P : Int32 → Prop) (o : Nat) (hM : h_On Y o (modE (tM P) o)) (u1 : Int32) (hu1 : 0 ≤ u1.toInt ∧ u1.toInt ≤ 7) : hMv l yX11_isGot cX11_isGot 4 none 1 22 G Y [.ref (o), .int u1] (fun H => True) (fun H H1 => (True) ∧ (mE o H H1)) := by
  refine h_ofv (by decide +kernel) (Nat.le_of_ble_eq_true rfl) ?_
  intro p e s m args below meth c H0 ls Q hx hb hts hown hml hK hZ hT0 hpr hS0 hl hret
  have hl : lv_has ls 4 [(0, .ref (o)), (1, .int u1)] := hl
  refine lv_aload_n hx hb dX11_isGot_0 rfl (lv_at hl 0 rfl) ?_
  refine lv_iconst (v := 3) hx hb dX11_isGot_1 (by decide) ?_
  refine h_callVi (T := TX11) (rest := []) (As := [.int 3]) hx hb hml hown hts hK hT0 hZ (fun _ h => h) hS0 (c_of l G Y P (o) hM 3 3 (by decide) (h_inc (by decide))) trivial wd_X11_of wV_X11_of wL_X11_47 (hM.o rfl) rfl rfl hl.1 rfl (Nat.le_of_ble_eq_true rfl) dX11_isGot_2 ⟨Nat.le_of_ble_eq_true rfl, Nat.le_of_ble_eq_true rfl⟩ ⟨Nat.zero_le _, Nat.zero_le _⟩ (fun r1 H1 locs hp1 hT1 hS1 hk1 => ?_)
  obtain ⟨hp1, he⟩ := hp1
  have he := he.symm
  subst he
  have mr1 : h_ai H0 (o + 1) 3 = r1 := hp1.1.symm
  refine lv_aload_n hx hb dX11_isGot_5 rfl (lv_at hl 0 rfl) ?_
  refine lv_bipush (v := 15) hx hb dX11_isGot_6 (by decide) ?_
  refine h_callVi (T := TX11) (rest := [.int r1]) (As := [.int 15]) hx hb hml hown hts hK hT0 hZ (fun _ h => h) hS1 (c_of l G Y P (o) hM 15 15 (by decide) (h_inc (by decide))) trivial wd_X11_of wV_X11_of wL_X11_47 (hM.o rfl) rfl rfl hl.1 rfl (Nat.le_of_ble_eq_true rfl) dX11_isGot_8 ⟨Nat.le_of_ble_eq_true rfl, Nat.le_of_ble_eq_true rfl⟩ ⟨Nat.zero_le _, Nat.zero_le _⟩ (fun r2 H2 locs hp2 hT2 hS2 hk2 => ?_)
  obtain ⟨hp2, he⟩ := hp2
  have he := he.symm
  subst he
  have mr2 : h_ai H0 (o + 1) 15 = r2 := hp2.1.symm
  refine lv_isub hx hb dX11_isGot_11 ?_
  refine lv_topi (fun x3 ex3 => ?_)
  refine lv_istore_n (lv' := [(2, .int x3), (0, .ref (o)), (1, .int u1)]) hx hb dX11_isGot_12 rfl hl (by decide) rfl (fun ls hl => ?_)
  refine lv_aload_n hx hb dX11_isGot_13 rfl (lv_at hl 1 rfl) ?_
  refine lv_bipush (v := 31) hx hb dX11_isGot_14 (by decide) ?_
  refine h_callVi (T := TX11) (rest := []) (As := [.int 31]) hx hb hml hown hts hK hT0 hZ (fun _ h => h) hS2 (c_of l G Y P (o) hM 31 31 (by decide) (h_inc (by decide))) trivial wd_X11_of wV_X11_of wL_X11_47 (hM.o rfl) rfl rfl hl.1 rfl (Nat.le_of_ble_eq_true rfl) dX11_isGot_16 ⟨Nat.le_of_ble_eq_true rfl, Nat.le_of_ble_eq_true rfl⟩ ⟨Nat.zero_le _, Nat.zero_le _⟩ (fun r4 H3 locs hp3 hT3 hS3 hk3 => ?_)
  obtain ⟨hp3, he⟩ := hp3
  have he := he.symm
  subst he
  have mr4 : h_ai H0 (o + 1) 31 = r4 := hp3.1.symm
  have br4 := mP_gm hp3.2 (by omega)
  refine lv_bipush (v := 16) hx hb dX11_isGot_19 (by decide) ?_
  refine lv_icmp_ne (tgt := 61) hx hb dX11_isGot_21 (by decide) (fun c5 => ?_) (fun c5 => ?_)
  · skip
    have c5 : ¬ r4.toInt = (16 : Int) := h_neI c5
    refine lv_sipush (v := 416) hx hb dX11_isGot_61 (by decide) ?_
    refine lv_bipush (v := 6) hx hb dX11_isGot_64 (by decide) ?_
    refine lv_aload_n hx hb dX11_isGot_66 rfl (lv_at hl 1 rfl) ?_
    refine lv_bipush (v := 31) hx hb dX11_isGot_67 (by decide) ?_
    refine h_callVi (T := TX11) (rest := [.int 6, .int 416]) (As := [.int 31]) hx hb hml hown hts hK hT0 hZ (fun _ h => h) hS3 (c_of l G Y P (o) hM 31 31 (by decide) (h_inc (by decide))) trivial wd_X11_of wV_X11_of wL_X11_47 (hM.o rfl) rfl rfl hl.1 rfl (Nat.le_of_ble_eq_true rfl) dX11_isGot_69 ⟨Nat.le_of_ble_eq_true rfl, Nat.le_of_ble_eq_true rfl⟩ ⟨Nat.zero_le _, Nat.zero_le _⟩ (fun r6 H4 locs hp4 hT4 hS4 hk4 => ?_)
    obtain ⟨hp4, he⟩ := hp4
    have he := he.symm
    subst he
    have hp4 : r4 = r6 := (hp4.1.trans mr4).symm
    subst hp4
    refine lv_imul hx hb dX11_isGot_72 ?_
    obtain ⟨x7, qx7, ix7⟩ := h_mulX 6 r4 (6 : Int) r4.toInt rfl rfl (by omega) (by omega)
    refine h_top (v := x7) qx7 ?_
    refine lv_iadd hx hb dX11_isGot_73 ?_
    obtain ⟨x8, qx8, ix8⟩ := h_addX 416 x7 (416 : Int) x7.toInt rfl rfl (by omega) (by omega)
    refine h_top (v := x8) qx8 ?_
    refine lv_istore_n (lv' := [(3, .int x8), (2, .int x3), (0, .ref (o)), (1, .int u1)]) hx hb dX11_isGot_74 rfl hl (by decide) rfl (fun ls hl => ?_)
    refine lv_aload_n hx hb dX11_isGot_75 rfl (lv_at hl 2 rfl) ?_
    refine lv_iload_n hx hb dX11_isGot_76 rfl (lv_at hl 0 rfl) ?_
    refine lv_aload_n hx hb dX11_isGot_77 rfl (lv_at hl 2 rfl) ?_
    refine lv_bipush (v := 14) hx hb dX11_isGot_78 (by decide) ?_
    refine h_callVi (T := TX11) (rest := [.int x8, .ref (o)]) (As := [.int 14]) hx hb hml hown hts hK hT0 hZ (fun _ h => h) hS4 (c_of l G Y P (o) hM 14 14 (by decide) (h_inc (by decide))) trivial wd_X11_of wV_X11_of wL_X11_47 (hM.o rfl) rfl rfl hl.1 rfl (Nat.le_of_ble_eq_true rfl) dX11_isGot_80 ⟨Nat.le_of_ble_eq_true rfl, Nat.le_of_ble_eq_true rfl⟩ ⟨Nat.zero_le _, Nat.zero_le _⟩ (fun r9 H5 locs hp5 hT5 hS5 hk5 => ?_)
    obtain ⟨hp5, he⟩ := hp5
    have he := he.symm
    subst he
    have mr9 : h_ai H0 (o + 1) 14 = r9 := hp5.1.symm
    refine h_callVv (T := TX11) (rest := []) (As := [.int x8, .int r9]) hx hb hml hown hts hK hT0 hZ (fun _ h => h) hS5 (c_puts l G Y P (o) hM x8 r9 (416 + 6 * r4.toInt).toNat (show x8.toInt.toNat = (416 + 6 * r4.toInt).toNat from by omega) (h_vin (by omega) (by omega)) (mP_free (by unfold mFree; omega))) trivial wd_X11_puts wV_X11_puts wL_X11_43 (hM.o rfl) rfl rfl hl.1 rfl (Nat.le_of_ble_eq_true rfl) dX11_isGot_83 ⟨Nat.le_of_ble_eq_true rfl, Nat.le_of_ble_eq_true rfl⟩ ⟨Nat.zero_le _, Nat.zero_le _⟩ (fun H6 locs hp6 hT6 hS6 hk6 => ?_)
    have hp6 : h_apu H0 H6 (o + 1) (416 + 6 * r4.toInt).toNat (.int r9) := hp6.2
    have z10 : ∀ j : Nat, mK j → h_ai H6 (o + 1) j = h_ai H0 (o + 1) j := fun j hj => (h_apn hp6 (by unfold mK at hj; omega))
    have m11 : h_ai H6 (o + 1) 3 = r1 := (h_apn hp6 (by omega)).trans mr1
    have m12 : h_ai H6 (o + 1) 15 = r2 := (h_apn hp6 (by omega)).trans mr2
    have m13 : h_ai H6 (o + 1) 31 = r4 := (h_apn hp6 (by omega)).trans mr4
    have m14 : h_ai H6 (o + 1) 14 = r9 := (h_apn hp6 (by omega)).trans mr9
    have m15 : h_ai H6 (o + 1) (416 + 6 * r4.toInt).toNat = r9 := h_aps hp6
    refine lv_aload_n hx hb dX11_isGot_86 rfl (lv_at hl 2 rfl) ?_
    refine lv_iload_n hx hb dX11_isGot_87 rfl (lv_at hl 0 rfl) ?_
    refine lv_iconst (v := 1) hx hb dX11_isGot_88 (by decide) ?_
    refine lv_iadd hx hb dX11_isGot_89 ?_
    obtain ⟨x16, qx16, ix16⟩ := h_addX x8 1 x8.toInt (1 : Int) rfl rfl (by omega) (by omega)
    refine h_top (v := x16) qx16 ?_
    refine lv_iload_n hx hb dX11_isGot_90 rfl (lv_at hl 3 rfl) ?_
    refine h_callVv (T := TX11) (rest := []) (As := [.int x16, .int u1]) hx hb hml hown hts hK hT6 hZ (fun _ h => h) hS6 (c_puts l G Y P (o) hM x16 u1 (417 + 6 * r4.toInt).toNat (show x16.toInt.toNat = (417 + 6 * r4.toInt).toNat from by omega) (h_vin (by omega) (by omega)) (mP_free (by unfold mFree; omega))) trivial wd_X11_puts wV_X11_puts wL_X11_43 (hM.o rfl) rfl rfl hl.1 rfl (Nat.le_of_ble_eq_true rfl) dX11_isGot_91 ⟨Nat.le_of_ble_eq_true rfl, Nat.le_of_ble_eq_true rfl⟩ ⟨Nat.zero_le _, Nat.zero_le _⟩ (fun H7 locs hp7 hT7 hS7 hk7 => ?_)
    have hp7 : h_apu H6 H7 (o + 1) (417 + 6 * r4.toInt).toNat (.int u1) := hp7.2
    have z17 : ∀ j : Nat, mK j → h_ai H7 (o + 1) j = h_ai H0 (o + 1) j := fun j hj => (h_apn hp7 (by unfold mK at hj; omega)).trans (z10 j hj)
    have m18 : h_ai H7 (o + 1) 3 = r1 := (h_apn hp7 (by omega)).trans m11
    have m19 : h_ai H7 (o + 1) 15 = r2 := (h_apn hp7 (by omega)).trans m12
    have m20 : h_ai H7 (o + 1) 31 = r4 := (h_apn hp7 (by omega)).trans m13
    have m21 : h_ai H7 (o + 1) 14 = r9 := (h_apn hp7 (by omega)).trans m14
    have m22 : h_ai H7 (o + 1) (416 + 6 * r4.toInt).toNat = r9 := (h_apn hp7 (by omega)).trans m15
    have m23 : h_ai H7 (o + 1) (417 + 6 * r4.toInt).toNat = u1 := h_aps hp7
    refine lv_aload_n hx hb dX11_isGot_94 rfl (lv_at hl 2 rfl) ?_
    refine lv_iload_n hx hb dX11_isGot_95 rfl (lv_at hl 0 rfl) ?_
    refine lv_iconst (v := 2) hx hb dX11_isGot_96 (by decide) ?_
    refine lv_iadd hx hb dX11_isGot_97 ?_
    obtain ⟨x24, qx24, ix24⟩ := h_addX x8 2 x8.toInt (2 : Int) rfl rfl (by omega) (by omega)
    refine h_top (v := x24) qx24 ?_
    refine lv_aload_n hx hb dX11_isGot_98 rfl (lv_at hl 2 rfl) ?_
    refine lv_bipush (v := 11) hx hb dX11_isGot_99 (by decide) ?_
    refine h_callVi (T := TX11) (rest := [.int x24, .ref (o)]) (As := [.int 11]) hx hb hml hown hts hK hT7 hZ (fun _ h => h) hS7 (c_of l G Y P (o) hM 11 11 (by decide) (h_inc (by decide))) trivial wd_X11_of wV_X11_of wL_X11_47 (hM.o rfl) rfl rfl hl.1 rfl (Nat.le_of_ble_eq_true rfl) dX11_isGot_101 ⟨Nat.le_of_ble_eq_true rfl, Nat.le_of_ble_eq_true rfl⟩ ⟨Nat.zero_le _, Nat.zero_le _⟩ (fun r25 H8 locs hp8 hT8 hS8 hk8 => ?_)
    obtain ⟨hp8, he⟩ := hp8
    have he := he.symm
    subst he
    have mr25 : h_ai H7 (o + 1) 11 = r25 := hp8.1.symm
    have br25 := mP_l hp8.2 (by omega)
    refine h_callVv (T := TX11) (rest := []) (As := [.int x24, .int r25]) hx hb hml hown hts hK hT7 hZ (fun _ h => h) hS8 (c_puts l G Y P (o) hM x24 r25 (418 + 6 * r4.toInt).toNat (show x24.toInt.toNat = (418 + 6 * r4.toInt).toNat from by omega) (h_vin (by omega) (by omega)) (mP_free (by unfold mFree; omega))) trivial wd_X11_puts wV_X11_puts wL_X11_43 (hM.o rfl) rfl rfl hl.1 rfl (Nat.le_of_ble_eq_true rfl) dX11_isGot_104 ⟨Nat.le_of_ble_eq_true rfl, Nat.le_of_ble_eq_true rfl⟩ ⟨Nat.zero_le _, Nat.zero_le _⟩ (fun H9 locs hp9 hT9 hS9 hk9 => ?_)
    have hp9 : h_apu H7 H9 (o + 1) (418 + 6 * r4.toInt).toNat (.int r25) := hp9.2
    have z26 : ∀ j : Nat, mK j → h_ai H9 (o + 1) j = h_ai H0 (o + 1) j := fun j hj => (h_apn hp9 (by unfold mK at hj; omega)).trans (z17 j hj)
    have m27 : h_ai H9 (o + 1) 3 = r1 := (h_apn hp9 (by omega)).trans m18
    have m28 : h_ai H9 (o + 1) 15 = r2 := (h_apn hp9 (by omega)).trans m19
    have m29 : h_ai H9 (o + 1) 31 = r4 := (h_apn hp9 (by omega)).trans m20
    have m30 : h_ai H9 (o + 1) 14 = r9 := (h_apn hp9 (by omega)).trans m21
    have m31 : h_ai H9 (o + 1) (416 + 6 * r4.toInt).toNat = r9 := (h_apn hp9 (by omega)).trans m22
    have m32 : h_ai H9 (o + 1) (417 + 6 * r4.toInt).toNat = u1 := (h_apn hp9 (by omega)).trans m23
    have m33 : h_ai H9 (o + 1) 11 = r25 := (h_apn hp9 (by omega)).trans mr25
    have m34 : h_ai H9 (o + 1) (418 + 6 * r4.toInt).toNat = r25 := h_aps hp9
    refine lv_aload_n hx hb dX11_isGot_107 rfl (lv_at hl 2 rfl) ?_
    refine lv_iload_n hx hb dX11_isGot_108 rfl (lv_at hl 0 rfl) ?_
    refine lv_iconst (v := 3) hx hb dX11_isGot_109 (by decide) ?_
    refine lv_iadd hx hb dX11_isGot_110 ?_
    obtain ⟨x35, qx35, ix35⟩ := h_addX x8 3 x8.toInt (3 : Int) rfl rfl (by omega) (by omega)
    refine h_top (v := x35) qx35 ?_
    refine lv_aload_n hx hb dX11_isGot_111 rfl (lv_at hl 2 rfl) ?_
    refine lv_bipush (v := 12) hx hb dX11_isGot_112 (by decide) ?_
    refine h_callVi (T := TX11) (rest := [.int x35, .ref (o)]) (As := [.int 12]) hx hb hml hown hts hK hT9 hZ (fun _ h => h) hS9 (c_of l G Y P (o) hM 12 12 (by decide) (h_inc (by decide))) trivial wd_X11_of wV_X11_of wL_X11_47 (hM.o rfl) rfl rfl hl.1 rfl (Nat.le_of_ble_eq_true rfl) dX11_isGot_114 ⟨Nat.le_of_ble_eq_true rfl, Nat.le_of_ble_eq_true rfl⟩ ⟨Nat.zero_le _, Nat.zero_le _⟩ (fun r36 H10 locs hp10 hT10 hS10 hk10 => ?_)
    obtain ⟨hp10, he⟩ := hp10
    have he := he.symm
    subst he
    have mr36 : h_ai H9 (o + 1) 12 = r36 := hp10.1.symm
    have br36 := mP_l hp10.2 (by omega)
    refine h_callVv (T := TX11) (rest := []) (As := [.int x35, .int r36]) hx hb hml hown hts hK hT9 hZ (fun _ h => h) hS10 (c_puts l G Y P (o) hM x35 r36 (419 + 6 * r4.toInt).toNat (show x35.toInt.toNat = (419 + 6 * r4.toInt).toNat from by omega) (h_vin (by omega) (by omega)) (mP_free (by unfold mFree; omega))) trivial wd_X11_puts wV_X11_puts wL_X11_43 (hM.o rfl) rfl rfl hl.1 rfl (Nat.le_of_ble_eq_true rfl) dX11_isGot_117 ⟨Nat.le_of_ble_eq_true rfl, Nat.le_of_ble_eq_true rfl⟩ ⟨Nat.zero_le _, Nat.zero_le _⟩ (fun H11 locs hp11 hT11 hS11 hk11 => ?_)
    have hp11 : h_apu H9 H11 (o + 1) (419 + 6 * r4.toInt).toNat (.int r36) := hp11.2
    have z37 : ∀ j : Nat, mK j → h_ai H11 (o + 1) j = h_ai H0 (o + 1) j := fun j hj => (h_apn hp11 (by unfold mK at hj; omega)).trans (z26 j hj)
    have m38 : h_ai H11 (o + 1) 3 = r1 := (h_apn hp11 (by omega)).trans m27
    have m39 : h_ai H11 (o + 1) 15 = r2 := (h_apn hp11 (by omega)).trans m28
    have m40 : h_ai H11 (o + 1) 31 = r4 := (h_apn hp11 (by omega)).trans m29
    have m41 : h_ai H11 (o + 1) 14 = r9 := (h_apn hp11 (by omega)).trans m30
    have m42 : h_ai H11 (o + 1) (416 + 6 * r4.toInt).toNat = r9 := (h_apn hp11 (by omega)).trans m31
    have m43 : h_ai H11 (o + 1) (417 + 6 * r4.toInt).toNat = u1 := (h_apn hp11 (by omega)).trans m32
    have m44 : h_ai H11 (o + 1) 11 = r25 := (h_apn hp11 (by omega)).trans m33
    have m45 : h_ai H11 (o + 1) (418 + 6 * r4.toInt).toNat = r25 := (h_apn hp11 (by omega)).trans m34
    have m46 : h_ai H11 (o + 1) 12 = r36 := (h_apn hp11 (by omega)).trans mr36
    have m47 : h_ai H11 (o + 1) (419 + 6 * r4.toInt).toNat = r36 := h_aps hp11
    refine lv_aload_n hx hb dX11_isGot_120 rfl (lv_at hl 2 rfl) ?_
    refine lv_iload_n hx hb dX11_isGot_121 rfl (lv_at hl 0 rfl) ?_
    refine lv_iconst (v := 4) hx hb dX11_isGot_122 (by decide) ?_
    refine lv_iadd hx hb dX11_isGot_123 ?_
    obtain ⟨x48, qx48, ix48⟩ := h_addX x8 4 x8.toInt (4 : Int) rfl rfl (by omega) (by omega)
    refine h_top (v := x48) qx48 ?_
    refine lv_aload_n hx hb dX11_isGot_124 rfl (lv_at hl 2 rfl) ?_
    refine lv_iconst (v := 3) hx hb dX11_isGot_125 (by decide) ?_
    refine h_callVi (T := TX11) (rest := [.int x48, .ref (o)]) (As := [.int 3]) hx hb hml hown hts hK hT11 hZ (fun _ h => h) hS11 (c_of l G Y P (o) hM 3 3 (by decide) (h_inc (by decide))) trivial wd_X11_of wV_X11_of wL_X11_47 (hM.o rfl) rfl rfl hl.1 rfl (Nat.le_of_ble_eq_true rfl) dX11_isGot_126 ⟨Nat.le_of_ble_eq_true rfl, Nat.le_of_ble_eq_true rfl⟩ ⟨Nat.zero_le _, Nat.zero_le _⟩ (fun r49 H12 locs hp12 hT12 hS12 hk12 => ?_)
    obtain ⟨hp12, he⟩ := hp12
    have he := he.symm
    subst he
    have hp12 : r1 = r49 := (hp12.1.trans m38).symm
    subst hp12
    refine h_callVv (T := TX11) (rest := []) (As := [.int x48, .int r1]) hx hb hml hown hts hK hT11 hZ (fun _ h => h) hS12 (c_puts l G Y P (o) hM x48 r1 (420 + 6 * r4.toInt).toNat (show x48.toInt.toNat = (420 + 6 * r4.toInt).toNat from by omega) (h_vin (by omega) (by omega)) (mP_free (by unfold mFree; omega))) trivial wd_X11_puts wV_X11_puts wL_X11_43 (hM.o rfl) rfl rfl hl.1 rfl (Nat.le_of_ble_eq_true rfl) dX11_isGot_129 ⟨Nat.le_of_ble_eq_true rfl, Nat.le_of_ble_eq_true rfl⟩ ⟨Nat.zero_le _, Nat.zero_le _⟩ (fun H13 locs hp13 hT13 hS13 hk13 => ?_)
    have hp13 : h_apu H11 H13 (o + 1) (420 + 6 * r4.toInt).toNat (.int r1) := hp13.2
    have z50 : ∀ j : Nat, mK j → h_ai H13 (o + 1) j = h_ai H0 (o + 1) j := fun j hj => (h_apn hp13 (by unfold mK at hj; omega)).trans (z37 j hj)
    have m51 : h_ai H13 (o + 1) 3 = r1 := (h_apn hp13 (by omega)).trans m38
    have m52 : h_ai H13 (o + 1) 15 = r2 := (h_apn hp13 (by omega)).trans m39
    have m53 : h_ai H13 (o + 1) 31 = r4 := (h_apn hp13 (by omega)).trans m40
    have m54 : h_ai H13 (o + 1) 14 = r9 := (h_apn hp13 (by omega)).trans m41
    have m55 : h_ai H13 (o + 1) (416 + 6 * r4.toInt).toNat = r9 := (h_apn hp13 (by omega)).trans m42
    have m56 : h_ai H13 (o + 1) (417 + 6 * r4.toInt).toNat = u1 := (h_apn hp13 (by omega)).trans m43
    have m57 : h_ai H13 (o + 1) 11 = r25 := (h_apn hp13 (by omega)).trans m44
    have m58 : h_ai H13 (o + 1) (418 + 6 * r4.toInt).toNat = r25 := (h_apn hp13 (by omega)).trans m45
    have m59 : h_ai H13 (o + 1) 12 = r36 := (h_apn hp13 (by omega)).trans m46
    have m60 : h_ai H13 (o + 1) (419 + 6 * r4.toInt).toNat = r36 := (h_apn hp13 (by omega)).trans m47
    have m61 : h_ai H13 (o + 1) (420 + 6 * r4.toInt).toNat = r1 := h_aps hp13
    refine lv_aload_n hx hb dX11_isGot_132 rfl (lv_at hl 2 rfl) ?_
    refine lv_iload_n hx hb dX11_isGot_133 rfl (lv_at hl 0 rfl) ?_
    refine lv_iconst (v := 5) hx hb dX11_isGot_134 (by decide) ?_
    refine lv_iadd hx hb dX11_isGot_135 ?_
    obtain ⟨x62, qx62, ix62⟩ := h_addX x8 5 x8.toInt (5 : Int) rfl rfl (by omega) (by omega)
    refine h_top (v := x62) qx62 ?_
    refine lv_iload_n hx hb dX11_isGot_136 rfl (lv_at hl 1 rfl) ?_
    refine h_callVv (T := TX11) (rest := []) (As := [.int x62, .int x3]) hx hb hml hown hts hK hT13 hZ (fun _ h => h) hS13 (c_puts l G Y P (o) hM x62 x3 (421 + 6 * r4.toInt).toNat (show x62.toInt.toNat = (421 + 6 * r4.toInt).toNat from by omega) (h_vin (by omega) (by omega)) (mP_free (by unfold mFree; omega))) trivial wd_X11_puts wV_X11_puts wL_X11_43 (hM.o rfl) rfl rfl hl.1 rfl (Nat.le_of_ble_eq_true rfl) dX11_isGot_137 ⟨Nat.le_of_ble_eq_true rfl, Nat.le_of_ble_eq_true rfl⟩ ⟨Nat.zero_le _, Nat.zero_le _⟩ (fun H14 locs hp14 hT14 hS14 hk14 => ?_)
    have hp14 : h_apu H13 H14 (o + 1) (421 + 6 * r4.toInt).toNat (.int x3) := hp14.2
    have z63 : ∀ j : Nat, mK j → h_ai H14 (o + 1) j = h_ai H0 (o + 1) j := fun j hj => (h_apn hp14 (by unfold mK at hj; omega)).trans (z50 j hj)
    have m64 : h_ai H14 (o + 1) 3 = r1 := (h_apn hp14 (by omega)).trans m51
    have m65 : h_ai H14 (o + 1) 15 = r2 := (h_apn hp14 (by omega)).trans m52
    have m66 : h_ai H14 (o + 1) 31 = r4 := (h_apn hp14 (by omega)).trans m53
    have m67 : h_ai H14 (o + 1) 14 = r9 := (h_apn hp14 (by omega)).trans m54
    have m68 : h_ai H14 (o + 1) (416 + 6 * r4.toInt).toNat = r9 := (h_apn hp14 (by omega)).trans m55
    have m69 : h_ai H14 (o + 1) (417 + 6 * r4.toInt).toNat = u1 := (h_apn hp14 (by omega)).trans m56
    have m70 : h_ai H14 (o + 1) 11 = r25 := (h_apn hp14 (by omega)).trans m57
    have m71 : h_ai H14 (o + 1) (418 + 6 * r4.toInt).toNat = r25 := (h_apn hp14 (by omega)).trans m58
    have m72 : h_ai H14 (o + 1) 12 = r36 := (h_apn hp14 (by omega)).trans m59
    have m73 : h_ai H14 (o + 1) (419 + 6 * r4.toInt).toNat = r36 := (h_apn hp14 (by omega)).trans m60
    have m74 : h_ai H14 (o + 1) (420 + 6 * r4.toInt).toNat = r1 := (h_apn hp14 (by omega)).trans m61
    have m75 : h_ai H14 (o + 1) (421 + 6 * r4.toInt).toNat = x3 := h_aps hp14
    refine lv_aload_n hx hb dX11_isGot_140 rfl (lv_at hl 2 rfl) ?_
    refine lv_bipush (v := 31) hx hb dX11_isGot_141 (by decide) ?_
    refine lv_iconst (v := 1) hx hb dX11_isGot_143 (by decide) ?_
    obtain ⟨x76, qx76, ix76⟩ := h_addX r4 1 r4.toInt (1 : Int) rfl rfl (by omega) (by omega)
    refine h_callVv (T := TX11) (rest := []) (As := [.int 31, .int 1]) hx hb hml hown hts hK hT14 hZ (fun _ h => h) hS14 (c_adds l G Y P (o) hM 31 1 31 (by decide) (h_inc (by decide))) (show mP 31 (h_ai H14 (o + 1) 31 + 1) from (by rw [m66, qx76]; exact (mP_of16 (by omega) (show 0 ≤ x76.toInt from by omega) (show x76.toInt ≤ 16 from by omega)))) wd_X11_adds wV_X11_adds wL_X11_69 (hM.o rfl) rfl rfl hl.1 rfl (Nat.le_of_ble_eq_true rfl) dX11_isGot_144 ⟨Nat.le_of_ble_eq_true rfl, Nat.le_of_ble_eq_true rfl⟩ ⟨Nat.zero_le _, Nat.zero_le _⟩ (fun H15 locs hp15 hT15 hS15 hk15 => ?_)
    have hp15 : h_apu H14 H15 (o + 1) 31 (.int (h_ai H14 (o + 1) 31 + 1)) := hp15.2
    rw [show h_ai H14 (o + 1) 31 + 1 = x76 from (by rw [m66]; exact qx76)] at hp15
    have hp15 : h_apu H14 H15 (o + 1) 31 (.int x76) := hp15
    have z77 : ∀ j : Nat, mK j → h_ai H15 (o + 1) j = h_ai H0 (o + 1) j := fun j hj => (h_apn hp15 (by unfold mK at hj; omega)).trans (z63 j hj)
    have m78 : h_ai H15 (o + 1) 3 = r1 := (h_apn hp15 (by omega)).trans m64
    have m79 : h_ai H15 (o + 1) 15 = r2 := (h_apn hp15 (by omega)).trans m65
    have m80 : h_ai H15 (o + 1) 14 = r9 := (h_apn hp15 (by omega)).trans m67
    have m81 : h_ai H15 (o + 1) (416 + 6 * r4.toInt).toNat = r9 := (h_apn hp15 (by omega)).trans m68
    have m82 : h_ai H15 (o + 1) (417 + 6 * r4.toInt).toNat = u1 := (h_apn hp15 (by omega)).trans m69
    have m83 : h_ai H15 (o + 1) 11 = r25 := (h_apn hp15 (by omega)).trans m70
    have m84 : h_ai H15 (o + 1) (418 + 6 * r4.toInt).toNat = r25 := (h_apn hp15 (by omega)).trans m71
    have m85 : h_ai H15 (o + 1) 12 = r36 := (h_apn hp15 (by omega)).trans m72
    have m86 : h_ai H15 (o + 1) (419 + 6 * r4.toInt).toNat = r36 := (h_apn hp15 (by omega)).trans m73
    have m87 : h_ai H15 (o + 1) (420 + 6 * r4.toInt).toNat = r1 := (h_apn hp15 (by omega)).trans m74
    have m88 : h_ai H15 (o + 1) (421 + 6 * r4.toInt).toNat = x3 := (h_apn hp15 (by omega)).trans m75
    have m89 : h_ai H15 (o + 1) 31 = x76 := h_aps hp15
    refine lv_aload_n hx hb dX11_isGot_147 rfl (lv_at hl 2 rfl) ?_
    refine lv_bipush (v := 64) hx hb dX11_isGot_148 (by decide) ?_
    refine lv_iload_n hx hb dX11_isGot_150 rfl (lv_at hl 3 rfl) ?_
    refine lv_iadd hx hb dX11_isGot_151 ?_
    obtain ⟨x90, qx90, ix90⟩ := h_addX 64 u1 (64 : Int) u1.toInt rfl rfl (by omega) (by omega)
    refine h_top (v := x90) qx90 ?_
    refine lv_iconst (v := 1) hx hb dX11_isGot_152 (by decide) ?_
    refine h_callVv (T := TX11) (rest := []) (As := [.int x90, .int 1]) hx hb hml hown hts hK hT15 hZ (fun _ h => h) hS15 (c_adds l G Y P (o) hM x90 1 (64 + u1.toInt).toNat (show x90.toInt.toNat = (64 + u1.toInt).toNat from by omega) (h_vin (by omega) (by omega))) (show mP (64 + u1.toInt).toNat (h_ai H15 (o + 1) (64 + u1.toInt).toNat + 1) from (mP_free (by unfold mFree; omega))) wd_X11_adds wV_X11_adds wL_X11_69 (hM.o rfl) rfl rfl hl.1 rfl (Nat.le_of_ble_eq_true rfl) dX11_isGot_153 ⟨Nat.le_of_ble_eq_true rfl, Nat.le_of_ble_eq_true rfl⟩ ⟨Nat.zero_le _, Nat.zero_le _⟩ (fun H16 locs hp16 hT16 hS16 hk16 => ?_)
    have hp16 : h_apu H15 H16 (o + 1) (64 + u1.toInt).toNat (.int (h_ai H15 (o + 1) (64 + u1.toInt).toNat + 1)) := hp16.2
    have z91 : ∀ j : Nat, mK j → h_ai H16 (o + 1) j = h_ai H0 (o + 1) j := fun j hj => (h_apn hp16 (by unfold mK at hj; omega)).trans (z77 j hj)
    have m92 : h_ai H16 (o + 1) 3 = r1 := (h_apn hp16 (by omega)).trans m78
    have m93 : h_ai H16 (o + 1) 15 = r2 := (h_apn hp16 (by omega)).trans m79
    have m94 : h_ai H16 (o + 1) 14 = r9 := (h_apn hp16 (by omega)).trans m80
    have m95 : h_ai H16 (o + 1) (416 + 6 * r4.toInt).toNat = r9 := (h_apn hp16 (by omega)).trans m81
    have m96 : h_ai H16 (o + 1) (417 + 6 * r4.toInt).toNat = u1 := (h_apn hp16 (by omega)).trans m82
    have m97 : h_ai H16 (o + 1) 11 = r25 := (h_apn hp16 (by omega)).trans m83
    have m98 : h_ai H16 (o + 1) (418 + 6 * r4.toInt).toNat = r25 := (h_apn hp16 (by omega)).trans m84
    have m99 : h_ai H16 (o + 1) 12 = r36 := (h_apn hp16 (by omega)).trans m85
    have m100 : h_ai H16 (o + 1) (419 + 6 * r4.toInt).toNat = r36 := (h_apn hp16 (by omega)).trans m86
    have m101 : h_ai H16 (o + 1) (420 + 6 * r4.toInt).toNat = r1 := (h_apn hp16 (by omega)).trans m87
    have m102 : h_ai H16 (o + 1) (421 + 6 * r4.toInt).toNat = x3 := (h_apn hp16 (by omega)).trans m88
    have m103 : h_ai H16 (o + 1) 31 = x76 := (h_apn hp16 (by omega)).trans m89
    refine lv_aload_n hx hb dX11_isGot_156 rfl (lv_at hl 2 rfl) ?_
    refine lv_bipush (v := 72) hx hb dX11_isGot_157 (by decide) ?_
    refine lv_aload_n hx hb dX11_isGot_159 rfl (lv_at hl 2 rfl) ?_
    refine lv_bipush (v := 11) hx hb dX11_isGot_160 (by decide) ?_
    refine h_callVi (T := TX11) (rest := [.int 72, .ref (o)]) (As := [.int 11]) hx hb hml hown hts hK hT16 hZ (fun _ h => h) hS16 (c_of l G Y P (o) hM 11 11 (by decide) (h_inc (by decide))) trivial wd_X11_of wV_X11_of wL_X11_47 (hM.o rfl) rfl rfl hl.1 rfl (Nat.le_of_ble_eq_true rfl) dX11_isGot_162 ⟨Nat.le_of_ble_eq_true rfl, Nat.le_of_ble_eq_true rfl⟩ ⟨Nat.zero_le _, Nat.zero_le _⟩ (fun r104 H17 locs hp17 hT17 hS17 hk17 => ?_)
    obtain ⟨hp17, he⟩ := hp17
    have he := he.symm
    subst he
    have hp17 : r25 = r104 := (hp17.1.trans m97).symm
    subst hp17
    refine lv_iadd hx hb dX11_isGot_165 ?_
    obtain ⟨x105, qx105, ix105⟩ := h_addX 72 r25 (72 : Int) r25.toInt rfl rfl (by omega) (by omega)
    refine h_top (v := x105) qx105 ?_
    refine lv_iconst (v := 1) hx hb dX11_isGot_166 (by decide) ?_
    refine h_callVv (T := TX11) (rest := []) (As := [.int x105, .int 1]) hx hb hml hown hts hK hT16 hZ (fun _ h => h) hS17 (c_adds l G Y P (o) hM x105 1 (72 + r25.toInt).toNat (show x105.toInt.toNat = (72 + r25.toInt).toNat from by omega) (h_vin (by omega) (by omega))) (show mP (72 + r25.toInt).toNat (h_ai H16 (o + 1) (72 + r25.toInt).toNat + 1) from (mP_free (by unfold mFree; omega))) wd_X11_adds wV_X11_adds wL_X11_69 (hM.o rfl) rfl rfl hl.1 rfl (Nat.le_of_ble_eq_true rfl) dX11_isGot_167 ⟨Nat.le_of_ble_eq_true rfl, Nat.le_of_ble_eq_true rfl⟩ ⟨Nat.zero_le _, Nat.zero_le _⟩ (fun H18 locs hp18 hT18 hS18 hk18 => ?_)
    have hp18 : h_apu H16 H18 (o + 1) (72 + r25.toInt).toNat (.int (h_ai H16 (o + 1) (72 + r25.toInt).toNat + 1)) := hp18.2
    have z106 : ∀ j : Nat, mK j → h_ai H18 (o + 1) j = h_ai H0 (o + 1) j := fun j hj => (h_apn hp18 (by unfold mK at hj; omega)).trans (z91 j hj)
    have m107 : h_ai H18 (o + 1) 3 = r1 := (h_apn hp18 (by omega)).trans m92
    have m108 : h_ai H18 (o + 1) 15 = r2 := (h_apn hp18 (by omega)).trans m93
    have m109 : h_ai H18 (o + 1) 14 = r9 := (h_apn hp18 (by omega)).trans m94
    have m110 : h_ai H18 (o + 1) (416 + 6 * r4.toInt).toNat = r9 := (h_apn hp18 (by omega)).trans m95
    have m111 : h_ai H18 (o + 1) (417 + 6 * r4.toInt).toNat = u1 := (h_apn hp18 (by omega)).trans m96
    have m112 : h_ai H18 (o + 1) 11 = r25 := (h_apn hp18 (by omega)).trans m97
    have m113 : h_ai H18 (o + 1) (418 + 6 * r4.toInt).toNat = r25 := (h_apn hp18 (by omega)).trans m98
    have m114 : h_ai H18 (o + 1) 12 = r36 := (h_apn hp18 (by omega)).trans m99
    have m115 : h_ai H18 (o + 1) (419 + 6 * r4.toInt).toNat = r36 := (h_apn hp18 (by omega)).trans m100
    have m116 : h_ai H18 (o + 1) (420 + 6 * r4.toInt).toNat = r1 := (h_apn hp18 (by omega)).trans m101
    have m117 : h_ai H18 (o + 1) (421 + 6 * r4.toInt).toNat = x3 := (h_apn hp18 (by omega)).trans m102
    have m118 : h_ai H18 (o + 1) 31 = x76 := (h_apn hp18 (by omega)).trans m103
    refine lv_aload_n hx hb dX11_isGot_170 rfl (lv_at hl 2 rfl) ?_
    refine lv_sipush (v := 584) hx hb dX11_isGot_171 (by decide) ?_
    refine lv_aload_n hx hb dX11_isGot_174 rfl (lv_at hl 2 rfl) ?_
    refine lv_bipush (v := 12) hx hb dX11_isGot_175 (by decide) ?_
    refine h_callVi (T := TX11) (rest := [.int 584, .ref (o)]) (As := [.int 12]) hx hb hml hown hts hK hT18 hZ (fun _ h => h) hS18 (c_of l G Y P (o) hM 12 12 (by decide) (h_inc (by decide))) trivial wd_X11_of wV_X11_of wL_X11_47 (hM.o rfl) rfl rfl hl.1 rfl (Nat.le_of_ble_eq_true rfl) dX11_isGot_177 ⟨Nat.le_of_ble_eq_true rfl, Nat.le_of_ble_eq_true rfl⟩ ⟨Nat.zero_le _, Nat.zero_le _⟩ (fun r119 H19 locs hp19 hT19 hS19 hk19 => ?_)
    obtain ⟨hp19, he⟩ := hp19
    have he := he.symm
    subst he
    have hp19 : r36 = r119 := (hp19.1.trans m114).symm
    subst hp19
    refine lv_iadd hx hb dX11_isGot_180 ?_
    obtain ⟨x120, qx120, ix120⟩ := h_addX 584 r36 (584 : Int) r36.toInt rfl rfl (by omega) (by omega)
    refine h_top (v := x120) qx120 ?_
    refine lv_iconst (v := 1) hx hb dX11_isGot_181 (by decide) ?_
    refine h_callVv (T := TX11) (rest := []) (As := [.int x120, .int 1]) hx hb hml hown hts hK hT18 hZ (fun _ h => h) hS19 (c_adds l G Y P (o) hM x120 1 (584 + r36.toInt).toNat (show x120.toInt.toNat = (584 + r36.toInt).toNat from by omega) (h_vin (by omega) (by omega))) (show mP (584 + r36.toInt).toNat (h_ai H18 (o + 1) (584 + r36.toInt).toNat + 1) from (mP_free (by unfold mFree; omega))) wd_X11_adds wV_X11_adds wL_X11_69 (hM.o rfl) rfl rfl hl.1 rfl (Nat.le_of_ble_eq_true rfl) dX11_isGot_182 ⟨Nat.le_of_ble_eq_true rfl, Nat.le_of_ble_eq_true rfl⟩ ⟨Nat.zero_le _, Nat.zero_le _⟩ (fun H20 locs hp20 hT20 hS20 hk20 => ?_)
    have hp20 : h_apu H18 H20 (o + 1) (584 + r36.toInt).toNat (.int (h_ai H18 (o + 1) (584 + r36.toInt).toNat + 1)) := hp20.2
    have z121 : ∀ j : Nat, mK j → h_ai H20 (o + 1) j = h_ai H0 (o + 1) j := fun j hj => (h_apn hp20 (by unfold mK at hj; omega)).trans (z106 j hj)
    have m122 : h_ai H20 (o + 1) 3 = r1 := (h_apn hp20 (by omega)).trans m107
    have m123 : h_ai H20 (o + 1) 15 = r2 := (h_apn hp20 (by omega)).trans m108
    have m124 : h_ai H20 (o + 1) 14 = r9 := (h_apn hp20 (by omega)).trans m109
    have m125 : h_ai H20 (o + 1) (416 + 6 * r4.toInt).toNat = r9 := (h_apn hp20 (by omega)).trans m110
    have m126 : h_ai H20 (o + 1) (417 + 6 * r4.toInt).toNat = u1 := (h_apn hp20 (by omega)).trans m111
    have m127 : h_ai H20 (o + 1) 11 = r25 := (h_apn hp20 (by omega)).trans m112
    have m128 : h_ai H20 (o + 1) (418 + 6 * r4.toInt).toNat = r25 := (h_apn hp20 (by omega)).trans m113
    have m129 : h_ai H20 (o + 1) 12 = r36 := (h_apn hp20 (by omega)).trans m114
    have m130 : h_ai H20 (o + 1) (419 + 6 * r4.toInt).toNat = r36 := (h_apn hp20 (by omega)).trans m115
    have m131 : h_ai H20 (o + 1) (420 + 6 * r4.toInt).toNat = r1 := (h_apn hp20 (by omega)).trans m116
    have m132 : h_ai H20 (o + 1) (421 + 6 * r4.toInt).toNat = x3 := (h_apn hp20 (by omega)).trans m117
    have m133 : h_ai H20 (o + 1) 31 = x76 := (h_apn hp20 (by omega)).trans m118
    refine lv_aload_n hx hb dX11_isGot_185 rfl (lv_at hl 2 rfl) ?_
    refine lv_sipush (v := 592) hx hb dX11_isGot_186 (by decide) ?_
    refine lv_aload_n hx hb dX11_isGot_189 rfl (lv_at hl 2 rfl) ?_
    refine lv_bipush (v := 12) hx hb dX11_isGot_190 (by decide) ?_
    refine h_callVi (T := TX11) (rest := [.int 592, .ref (o)]) (As := [.int 12]) hx hb hml hown hts hK hT20 hZ (fun _ h => h) hS20 (c_of l G Y P (o) hM 12 12 (by decide) (h_inc (by decide))) trivial wd_X11_of wV_X11_of wL_X11_47 (hM.o rfl) rfl rfl hl.1 rfl (Nat.le_of_ble_eq_true rfl) dX11_isGot_192 ⟨Nat.le_of_ble_eq_true rfl, Nat.le_of_ble_eq_true rfl⟩ ⟨Nat.zero_le _, Nat.zero_le _⟩ (fun r134 H21 locs hp21 hT21 hS21 hk21 => ?_)
    obtain ⟨hp21, he⟩ := hp21
    have he := he.symm
    subst he
    have hp21 : r36 = r134 := (hp21.1.trans m129).symm
    subst hp21
    refine lv_iadd hx hb dX11_isGot_195 ?_
    obtain ⟨x135, qx135, ix135⟩ := h_addX 592 r36 (592 : Int) r36.toInt rfl rfl (by omega) (by omega)
    refine h_top (v := x135) qx135 ?_
    refine lv_iload_n hx hb dX11_isGot_196 rfl (lv_at hl 1 rfl) ?_
    refine h_callVv (T := TX11) (rest := []) (As := [.int x135, .int x3]) hx hb hml hown hts hK hT20 hZ (fun _ h => h) hS21 (c_adds l G Y P (o) hM x135 x3 (592 + r36.toInt).toNat (show x135.toInt.toNat = (592 + r36.toInt).toNat from by omega) (h_vin (by omega) (by omega))) (show mP (592 + r36.toInt).toNat (h_ai H20 (o + 1) (592 + r36.toInt).toNat + x3) from (mP_free (by unfold mFree; omega))) wd_X11_adds wV_X11_adds wL_X11_69 (hM.o rfl) rfl rfl hl.1 rfl (Nat.le_of_ble_eq_true rfl) dX11_isGot_197 ⟨Nat.le_of_ble_eq_true rfl, Nat.le_of_ble_eq_true rfl⟩ ⟨Nat.zero_le _, Nat.zero_le _⟩ (fun H22 locs hp22 hT22 hS22 hk22 => ?_)
    have hp22 : h_apu H20 H22 (o + 1) (592 + r36.toInt).toNat (.int (h_ai H20 (o + 1) (592 + r36.toInt).toNat + x3)) := hp22.2
    have z136 : ∀ j : Nat, mK j → h_ai H22 (o + 1) j = h_ai H0 (o + 1) j := fun j hj => (h_apn hp22 (by unfold mK at hj; omega)).trans (z121 j hj)
    have m137 : h_ai H22 (o + 1) 3 = r1 := (h_apn hp22 (by omega)).trans m122
    have m138 : h_ai H22 (o + 1) 15 = r2 := (h_apn hp22 (by omega)).trans m123
    have m139 : h_ai H22 (o + 1) 14 = r9 := (h_apn hp22 (by omega)).trans m124
    have m140 : h_ai H22 (o + 1) (416 + 6 * r4.toInt).toNat = r9 := (h_apn hp22 (by omega)).trans m125
    have m141 : h_ai H22 (o + 1) (417 + 6 * r4.toInt).toNat = u1 := (h_apn hp22 (by omega)).trans m126
    have m142 : h_ai H22 (o + 1) 11 = r25 := (h_apn hp22 (by omega)).trans m127
    have m143 : h_ai H22 (o + 1) (418 + 6 * r4.toInt).toNat = r25 := (h_apn hp22 (by omega)).trans m128
    have m144 : h_ai H22 (o + 1) 12 = r36 := (h_apn hp22 (by omega)).trans m129
    have m145 : h_ai H22 (o + 1) (419 + 6 * r4.toInt).toNat = r36 := (h_apn hp22 (by omega)).trans m130
    have m146 : h_ai H22 (o + 1) (420 + 6 * r4.toInt).toNat = r1 := (h_apn hp22 (by omega)).trans m131
    have m147 : h_ai H22 (o + 1) (421 + 6 * r4.toInt).toNat = x3 := (h_apn hp22 (by omega)).trans m132
    have m148 : h_ai H22 (o + 1) 31 = x76 := (h_apn hp22 (by omega)).trans m133
    refine lv_aload_n hx hb dX11_isGot_200 rfl (lv_at hl 2 rfl) ?_
    refine lv_bipush (v := 29) hx hb dX11_isGot_201 (by decide) ?_
    refine lv_iload_n hx hb dX11_isGot_203 rfl (lv_at hl 1 rfl) ?_
    refine h_callVv (T := TX11) (rest := []) (As := [.int 29, .int x3]) hx hb hml hown hts hK hT22 hZ (fun _ h => h) hS22 (c_adds l G Y P (o) hM 29 x3 29 (by decide) (h_inc (by decide))) (show mP 29 (h_ai H22 (o + 1) 29 + x3) from (mP_free (by unfold mFree; omega))) wd_X11_adds wV_X11_adds wL_X11_69 (hM.o rfl) rfl rfl hl.1 rfl (Nat.le_of_ble_eq_true rfl) dX11_isGot_204 ⟨Nat.le_of_ble_eq_true rfl, Nat.le_of_ble_eq_true rfl⟩ ⟨Nat.zero_le _, Nat.zero_le _⟩ (fun H23 locs hp23 hT23 hS23 hk23 => ?_)
    have hp23 : h_apu H22 H23 (o + 1) 29 (.int (h_ai H22 (o + 1) 29 + x3)) := hp23.2
    have z149 : ∀ j : Nat, mK j → h_ai H23 (o + 1) j = h_ai H0 (o + 1) j := fun j hj => (h_apn hp23 (by unfold mK at hj; omega)).trans (z136 j hj)
    have m150 : h_ai H23 (o + 1) 3 = r1 := (h_apn hp23 (by omega)).trans m137
    have m151 : h_ai H23 (o + 1) 15 = r2 := (h_apn hp23 (by omega)).trans m138
    have m152 : h_ai H23 (o + 1) 14 = r9 := (h_apn hp23 (by omega)).trans m139
    have m153 : h_ai H23 (o + 1) (416 + 6 * r4.toInt).toNat = r9 := (h_apn hp23 (by omega)).trans m140
    have m154 : h_ai H23 (o + 1) (417 + 6 * r4.toInt).toNat = u1 := (h_apn hp23 (by omega)).trans m141
    have m155 : h_ai H23 (o + 1) 11 = r25 := (h_apn hp23 (by omega)).trans m142
    have m156 : h_ai H23 (o + 1) (418 + 6 * r4.toInt).toNat = r25 := (h_apn hp23 (by omega)).trans m143
    have m157 : h_ai H23 (o + 1) 12 = r36 := (h_apn hp23 (by omega)).trans m144
    have m158 : h_ai H23 (o + 1) (419 + 6 * r4.toInt).toNat = r36 := (h_apn hp23 (by omega)).trans m145
    have m159 : h_ai H23 (o + 1) (420 + 6 * r4.toInt).toNat = r1 := (h_apn hp23 (by omega)).trans m146
    have m160 : h_ai H23 (o + 1) (421 + 6 * r4.toInt).toNat = x3 := (h_apn hp23 (by omega)).trans m147
    have m161 : h_ai H23 (o + 1) 31 = x76 := (h_apn hp23 (by omega)).trans m148
    refine lv_aload_n hx hb dX11_isGot_207 rfl (lv_at hl 2 rfl) ?_
    refine lv_bipush (v := 30) hx hb dX11_isGot_208 (by decide) ?_
    refine lv_aload_n hx hb dX11_isGot_210 rfl (lv_at hl 2 rfl) ?_
    refine lv_bipush (v := 30) hx hb dX11_isGot_211 (by decide) ?_
    refine h_callVi (T := TX11) (rest := [.int 30, .ref (o)]) (As := [.int 30]) hx hb hml hown hts hK hT23 hZ (fun _ h => h) hS23 (c_of l G Y P (o) hM 30 30 (by decide) (h_inc (by decide))) trivial wd_X11_of wV_X11_of wL_X11_47 (hM.o rfl) rfl rfl hl.1 rfl (Nat.le_of_ble_eq_true rfl) dX11_isGot_213 ⟨Nat.le_of_ble_eq_true rfl, Nat.le_of_ble_eq_true rfl⟩ ⟨Nat.zero_le _, Nat.zero_le _⟩ (fun r162 H24 locs hp24 hT24 hS24 hk24 => ?_)
    obtain ⟨hp24, he⟩ := hp24
    have he := he.symm
    subst he
    have mr162 : h_ai H23 (o + 1) 30 = r162 := hp24.1.symm
    refine lv_iload_n hx hb dX11_isGot_216 rfl (lv_at hl 1 rfl) ?_
    refine h_callSi (rest := [.int 30, .ref (o)]) (As := [.int r162, .int x3]) hx hb hml hown hts hK hT23 hZ (fun _ h => h) hS24 (c_J_max l G Y r162 x3) trivial wd_J9_max_7cf53 wS_J9_max_7cf53 wL_X11_86 rfl hl.1 rfl (Nat.le_of_ble_eq_true rfl) dX11_isGot_217 ⟨Nat.le_of_ble_eq_true rfl, Nat.le_of_ble_eq_true rfl⟩ ⟨Nat.zero_le _, Nat.zero_le _⟩ (fun r163 H25 locs hp25 hT25 hS25 hk25 => ?_)
    obtain ⟨hp25, he⟩ := hp25
    have he := he.symm
    subst he
    have f164 : ((r163.toInt = r162.toInt ∨ r163.toInt = x3.toInt) ∧ r162.toInt ≤ r163.toInt ∧ x3.toInt ≤ r163.toInt) := by have q := hp25; exact q
    refine h_callVv (T := TX11) (rest := []) (As := [.int 30, .int r163]) hx hb hml hown hts hK hT23 hZ (fun _ h => h) hS25 (c_puts l G Y P (o) hM 30 r163 30 (by decide) (h_inc (by decide)) (mP_free (by unfold mFree; omega))) trivial wd_X11_puts wV_X11_puts wL_X11_43 (hM.o rfl) rfl rfl hl.1 rfl (Nat.le_of_ble_eq_true rfl) dX11_isGot_220 ⟨Nat.le_of_ble_eq_true rfl, Nat.le_of_ble_eq_true rfl⟩ ⟨Nat.zero_le _, Nat.zero_le _⟩ (fun H26 locs hp26 hT26 hS26 hk26 => ?_)
    have hp26 : h_apu H23 H26 (o + 1) 30 (.int r163) := hp26.2
    have z165 : ∀ j : Nat, mK j → h_ai H26 (o + 1) j = h_ai H0 (o + 1) j := fun j hj => (h_apn hp26 (by unfold mK at hj; omega)).trans (z149 j hj)
    have m166 : h_ai H26 (o + 1) 3 = r1 := (h_apn hp26 (by omega)).trans m150
    have m167 : h_ai H26 (o + 1) 15 = r2 := (h_apn hp26 (by omega)).trans m151
    have m168 : h_ai H26 (o + 1) 14 = r9 := (h_apn hp26 (by omega)).trans m152
    have m169 : h_ai H26 (o + 1) (416 + 6 * r4.toInt).toNat = r9 := (h_apn hp26 (by omega)).trans m153
    have m170 : h_ai H26 (o + 1) (417 + 6 * r4.toInt).toNat = u1 := (h_apn hp26 (by omega)).trans m154
    have m171 : h_ai H26 (o + 1) 11 = r25 := (h_apn hp26 (by omega)).trans m155
    have m172 : h_ai H26 (o + 1) (418 + 6 * r4.toInt).toNat = r25 := (h_apn hp26 (by omega)).trans m156
    have m173 : h_ai H26 (o + 1) 12 = r36 := (h_apn hp26 (by omega)).trans m157
    have m174 : h_ai H26 (o + 1) (419 + 6 * r4.toInt).toNat = r36 := (h_apn hp26 (by omega)).trans m158
    have m175 : h_ai H26 (o + 1) (420 + 6 * r4.toInt).toNat = r1 := (h_apn hp26 (by omega)).trans m159
    have m176 : h_ai H26 (o + 1) (421 + 6 * r4.toInt).toNat = x3 := (h_apn hp26 (by omega)).trans m160
    have m177 : h_ai H26 (o + 1) 31 = x76 := (h_apn hp26 (by omega)).trans m161
    have m178 : h_ai H26 (o + 1) 30 = r163 := h_aps hp26
    refine lv_aload_n hx hb dX11_isGot_223 rfl (lv_at hl 2 rfl) ?_
    refine lv_aload_n hx hb dX11_isGot_224 rfl (lv_at hl 2 rfl) ?_
    refine lv_bipush (v := 14) hx hb dX11_isGot_225 (by decide) ?_
    refine h_callVi (T := TX11) (rest := [.ref (o)]) (As := [.int 14]) hx hb hml hown hts hK hT26 hZ (fun _ h => h) hS26 (c_of l G Y P (o) hM 14 14 (by decide) (h_inc (by decide))) trivial wd_X11_of wV_X11_of wL_X11_47 (hM.o rfl) rfl rfl hl.1 rfl (Nat.le_of_ble_eq_true rfl) dX11_isGot_227 ⟨Nat.le_of_ble_eq_true rfl, Nat.le_of_ble_eq_true rfl⟩ ⟨Nat.zero_le _, Nat.zero_le _⟩ (fun r179 H27 locs hp27 hT27 hS27 hk27 => ?_)
    obtain ⟨hp27, he⟩ := hp27
    have he := he.symm
    subst he
    have hp27 : r9 = r179 := (hp27.1.trans m168).symm
    subst hp27
    refine h_puti (C := RX11) (T := TX11) (N := 23) hx hb hts inX11 tyX11 tyX11_ok nmX11 hown hK hT26 (fun _ h => h) hS27 (hM.o rfl) rfl 3 rfl wF_X11_112 rfl rfl trivial rfl rfl dX11_isGot_230 (fun H28 locs hT28 hS28 hu28 => ?_)
    have z180 : ∀ j : Nat, mK j → h_ai H28 (o + 1) j = h_ai H0 (o + 1) j := fun j hj => (h_ai_same (hu28.2.1 (o + 1) (by omega))).trans (z165 j hj)
    have m181 : h_ai H28 (o + 1) 3 = r1 := (h_ai_same (hu28.2.1 (o + 1) (by omega))).trans m166
    have m182 : h_ai H28 (o + 1) 15 = r2 := (h_ai_same (hu28.2.1 (o + 1) (by omega))).trans m167
    have m183 : h_ai H28 (o + 1) 14 = r9 := (h_ai_same (hu28.2.1 (o + 1) (by omega))).trans m168
    have m184 : h_ai H28 (o + 1) (416 + 6 * r4.toInt).toNat = r9 := (h_ai_same (hu28.2.1 (o + 1) (by omega))).trans m169
    have m185 : h_ai H28 (o + 1) (417 + 6 * r4.toInt).toNat = u1 := (h_ai_same (hu28.2.1 (o + 1) (by omega))).trans m170
    have m186 : h_ai H28 (o + 1) 11 = r25 := (h_ai_same (hu28.2.1 (o + 1) (by omega))).trans m171
    have m187 : h_ai H28 (o + 1) (418 + 6 * r4.toInt).toNat = r25 := (h_ai_same (hu28.2.1 (o + 1) (by omega))).trans m172
    have m188 : h_ai H28 (o + 1) 12 = r36 := (h_ai_same (hu28.2.1 (o + 1) (by omega))).trans m173
    have m189 : h_ai H28 (o + 1) (419 + 6 * r4.toInt).toNat = r36 := (h_ai_same (hu28.2.1 (o + 1) (by omega))).trans m174
    have m190 : h_ai H28 (o + 1) (420 + 6 * r4.toInt).toNat = r1 := (h_ai_same (hu28.2.1 (o + 1) (by omega))).trans m175
    have m191 : h_ai H28 (o + 1) (421 + 6 * r4.toInt).toNat = x3 := (h_ai_same (hu28.2.1 (o + 1) (by omega))).trans m176
    have m192 : h_ai H28 (o + 1) 31 = x76 := (h_ai_same (hu28.2.1 (o + 1) (by omega))).trans m177
    have m193 : h_ai H28 (o + 1) 30 = r163 := (h_ai_same (hu28.2.1 (o + 1) (by omega))).trans m178
    exact hret _ _ _ _ hT28 hS28 ⟨trivial, z180⟩ dX11_isGot_233
  · skip
    have c5 : r4.toInt = (16 : Int) := congrArg Int32.toInt c5
    refine lv_sipush (v := 416) hx hb dX11_isGot_24 (by decide) ?_
    refine lv_istore_n (lv' := [(3, .int 416), (2, .int x3), (0, .ref (o)), (1, .int u1)]) hx hb dX11_isGot_27 rfl hl (by decide) rfl (fun ls hl => ?_)
    have LP1 : ∀ (n1 : Nat) (w1_3 : Int32) (H29 : Heap), (2147483647 - w1_3.toInt < (n1 : Int)) → (416 ≤ w1_3.toInt) → (hT G Y H29) → (∀ j : Nat, mK j → h_ai H29 (o + 1) j = h_ai H0 (o + 1) j) → (h_ai H29 (o + 1) 31 = r4) → ∀ (locs : List Loc) (ls : Array Slot), va_S (h_A Y) s.heap H29 locs → lv_has ls 4 [(3, .int w1_3), (2, .int x3), (0, .ref (o)), (1, .int u1)] → W p l e (h_rm 1 22) s m args below meth c H29 locs 0 0 Q (F0 m 28 ls []) := by
      intro n1
      induction n1 with
      | zero =>
        intro w1_3 H29 hm hlo1_3
        intros
        exfalso
        have := Int32.toInt_lt w1_3; have := Int32.le_toInt w1_3
        omega
      | succ n1 ih1 =>
        intro w1_3 H29 hm hlo1_3 hT29 z194 m195 locs ls hS29 hl
        refine lv_iload_n hx hb dX11_isGot_28 rfl (lv_at hl 0 rfl) ?_
        refine lv_sipush (v := 506) hx hb dX11_isGot_29 (by decide) ?_
        refine lv_icmp_ge (tgt := 54) hx hb dX11_isGot_32 (by decide) (fun c196 => ?_) (fun c196 => ?_)
        · skip
          have c196 : (506 : Int) ≤ w1_3.toInt := Int32.le_iff_toInt_le.mp c196
          refine lv_aload_n hx hb dX11_isGot_54 rfl (lv_at hl 2 rfl) ?_
          refine lv_bipush (v := 31) hx hb dX11_isGot_55 (by decide) ?_
          refine lv_iconst (v := (-1)) hx hb dX11_isGot_57 (by decide) ?_
          obtain ⟨x197, qx197, ix197⟩ := h_addX r4 (-1) r4.toInt (-1 : Int) rfl rfl (by omega) (by omega)
          refine h_callVv (T := TX11) (rest := []) (As := [.int 31, .int (-1)]) hx hb hml hown hts hK hT29 hZ (fun _ h => h) hS29 (c_adds l G Y P (o) hM 31 (-1) 31 (by decide) (h_inc (by decide))) (show mP 31 (h_ai H29 (o + 1) 31 + (-1)) from (by rw [m195, qx197]; exact (mP_of16 (by omega) (show 0 ≤ x197.toInt from by omega) (show x197.toInt ≤ 16 from by omega)))) wd_X11_adds wV_X11_adds wL_X11_69 (hM.o rfl) rfl rfl hl.1 rfl (Nat.le_of_ble_eq_true rfl) dX11_isGot_58 ⟨Nat.le_of_ble_eq_true rfl, Nat.le_of_ble_eq_true rfl⟩ ⟨Nat.zero_le _, Nat.zero_le _⟩ (fun H31 locs hp31 hT31 hS31 hk31 => ?_)
          have hp31 : h_apu H29 H31 (o + 1) 31 (.int (h_ai H29 (o + 1) 31 + (-1))) := hp31.2
          rw [show h_ai H29 (o + 1) 31 + (-1) = x197 from (by rw [m195]; exact qx197)] at hp31
          have hp31 : h_apu H29 H31 (o + 1) 31 (.int x197) := hp31
          have z198 : ∀ j : Nat, mK j → h_ai H31 (o + 1) j = h_ai H0 (o + 1) j := fun j hj => (h_apn hp31 (by unfold mK at hj; omega)).trans (z194 j hj)
          have m199 : h_ai H31 (o + 1) 31 = x197 := h_aps hp31
          refine lv_sipush (v := 416) hx hb dX11_isGot_61 (by decide) ?_
          refine lv_bipush (v := 6) hx hb dX11_isGot_64 (by decide) ?_
          refine lv_aload_n hx hb dX11_isGot_66 rfl (lv_at hl 2 rfl) ?_
          refine lv_bipush (v := 31) hx hb dX11_isGot_67 (by decide) ?_
          refine h_callVi (T := TX11) (rest := [.int 6, .int 416]) (As := [.int 31]) hx hb hml hown hts hK hT31 hZ (fun _ h => h) hS31 (c_of l G Y P (o) hM 31 31 (by decide) (h_inc (by decide))) trivial wd_X11_of wV_X11_of wL_X11_47 (hM.o rfl) rfl rfl hl.1 rfl (Nat.le_of_ble_eq_true rfl) dX11_isGot_69 ⟨Nat.le_of_ble_eq_true rfl, Nat.le_of_ble_eq_true rfl⟩ ⟨Nat.zero_le _, Nat.zero_le _⟩ (fun r200 H32 locs hp32 hT32 hS32 hk32 => ?_)
          obtain ⟨hp32, he⟩ := hp32
          have he := he.symm
          subst he
          have hp32 : x197 = r200 := (hp32.1.trans m199).symm
          subst hp32
          refine lv_imul hx hb dX11_isGot_72 ?_
          obtain ⟨x201, qx201, ix201⟩ := h_mulX 6 x197 (6 : Int) x197.toInt rfl rfl (by omega) (by omega)
          refine h_top (v := x201) qx201 ?_
          refine lv_iadd hx hb dX11_isGot_73 ?_
          obtain ⟨x202, qx202, ix202⟩ := h_addX 416 x201 (416 : Int) x201.toInt rfl rfl (by omega) (by omega)
          refine h_top (v := x202) qx202 ?_
          refine lv_istore_n (lv' := [(3, .int x202), (2, .int x3), (0, .ref (o)), (1, .int u1)]) hx hb dX11_isGot_74 rfl hl (by decide) rfl (fun ls hl => ?_)
          refine lv_aload_n hx hb dX11_isGot_75 rfl (lv_at hl 2 rfl) ?_
          refine lv_iload_n hx hb dX11_isGot_76 rfl (lv_at hl 0 rfl) ?_
          refine lv_aload_n hx hb dX11_isGot_77 rfl (lv_at hl 2 rfl) ?_
          refine lv_bipush (v := 14) hx hb dX11_isGot_78 (by decide) ?_
          refine h_callVi (T := TX11) (rest := [.int x202, .ref (o)]) (As := [.int 14]) hx hb hml hown hts hK hT31 hZ (fun _ h => h) hS32 (c_of l G Y P (o) hM 14 14 (by decide) (h_inc (by decide))) trivial wd_X11_of wV_X11_of wL_X11_47 (hM.o rfl) rfl rfl hl.1 rfl (Nat.le_of_ble_eq_true rfl) dX11_isGot_80 ⟨Nat.le_of_ble_eq_true rfl, Nat.le_of_ble_eq_true rfl⟩ ⟨Nat.zero_le _, Nat.zero_le _⟩ (fun r203 H33 locs hp33 hT33 hS33 hk33 => ?_)
          obtain ⟨hp33, he⟩ := hp33
          have he := he.symm
          subst he
          have mr203 : h_ai H31 (o + 1) 14 = r203 := hp33.1.symm
          refine h_callVv (T := TX11) (rest := []) (As := [.int x202, .int r203]) hx hb hml hown hts hK hT31 hZ (fun _ h => h) hS33 (c_puts l G Y P (o) hM x202 r203 (410 + 6 * r4.toInt).toNat (show x202.toInt.toNat = (410 + 6 * r4.toInt).toNat from by omega) (h_vin (by omega) (by omega)) (mP_free (by unfold mFree; omega))) trivial wd_X11_puts wV_X11_puts wL_X11_43 (hM.o rfl) rfl rfl hl.1 rfl (Nat.le_of_ble_eq_true rfl) dX11_isGot_83 ⟨Nat.le_of_ble_eq_true rfl, Nat.le_of_ble_eq_true rfl⟩ ⟨Nat.zero_le _, Nat.zero_le _⟩ (fun H34 locs hp34 hT34 hS34 hk34 => ?_)
          have hp34 : h_apu H31 H34 (o + 1) (410 + 6 * r4.toInt).toNat (.int r203) := hp34.2
          have z204 : ∀ j : Nat, mK j → h_ai H34 (o + 1) j = h_ai H0 (o + 1) j := fun j hj => (h_apn hp34 (by unfold mK at hj; omega)).trans (z198 j hj)
          have m205 : h_ai H34 (o + 1) 31 = x197 := (h_apn hp34 (by omega)).trans m199
          have m206 : h_ai H34 (o + 1) 14 = r203 := (h_apn hp34 (by omega)).trans mr203
          have m207 : h_ai H34 (o + 1) (410 + 6 * r4.toInt).toNat = r203 := h_aps hp34
          refine lv_aload_n hx hb dX11_isGot_86 rfl (lv_at hl 2 rfl) ?_
          refine lv_iload_n hx hb dX11_isGot_87 rfl (lv_at hl 0 rfl) ?_
          refine lv_iconst (v := 1) hx hb dX11_isGot_88 (by decide) ?_
          refine lv_iadd hx hb dX11_isGot_89 ?_
          obtain ⟨x208, qx208, ix208⟩ := h_addX x202 1 x202.toInt (1 : Int) rfl rfl (by omega) (by omega)
          refine h_top (v := x208) qx208 ?_
          refine lv_iload_n hx hb dX11_isGot_90 rfl (lv_at hl 3 rfl) ?_
          refine h_callVv (T := TX11) (rest := []) (As := [.int x208, .int u1]) hx hb hml hown hts hK hT34 hZ (fun _ h => h) hS34 (c_puts l G Y P (o) hM x208 u1 (411 + 6 * r4.toInt).toNat (show x208.toInt.toNat = (411 + 6 * r4.toInt).toNat from by omega) (h_vin (by omega) (by omega)) (mP_free (by unfold mFree; omega))) trivial wd_X11_puts wV_X11_puts wL_X11_43 (hM.o rfl) rfl rfl hl.1 rfl (Nat.le_of_ble_eq_true rfl) dX11_isGot_91 ⟨Nat.le_of_ble_eq_true rfl, Nat.le_of_ble_eq_true rfl⟩ ⟨Nat.zero_le _, Nat.zero_le _⟩ (fun H35 locs hp35 hT35 hS35 hk35 => ?_)
          have hp35 : h_apu H34 H35 (o + 1) (411 + 6 * r4.toInt).toNat (.int u1) := hp35.2
          have z209 : ∀ j : Nat, mK j → h_ai H35 (o + 1) j = h_ai H0 (o + 1) j := fun j hj => (h_apn hp35 (by unfold mK at hj; omega)).trans (z204 j hj)
          have m210 : h_ai H35 (o + 1) 31 = x197 := (h_apn hp35 (by omega)).trans m205
          have m211 : h_ai H35 (o + 1) 14 = r203 := (h_apn hp35 (by omega)).trans m206
          have m212 : h_ai H35 (o + 1) (410 + 6 * r4.toInt).toNat = r203 := (h_apn hp35 (by omega)).trans m207
          have m213 : h_ai H35 (o + 1) (411 + 6 * r4.toInt).toNat = u1 := h_aps hp35
          refine lv_aload_n hx hb dX11_isGot_94 rfl (lv_at hl 2 rfl) ?_
          refine lv_iload_n hx hb dX11_isGot_95 rfl (lv_at hl 0 rfl) ?_
          refine lv_iconst (v := 2) hx hb dX11_isGot_96 (by decide) ?_
          refine lv_iadd hx hb dX11_isGot_97 ?_
          obtain ⟨x214, qx214, ix214⟩ := h_addX x202 2 x202.toInt (2 : Int) rfl rfl (by omega) (by omega)
          refine h_top (v := x214) qx214 ?_
          refine lv_aload_n hx hb dX11_isGot_98 rfl (lv_at hl 2 rfl) ?_
          refine lv_bipush (v := 11) hx hb dX11_isGot_99 (by decide) ?_
          refine h_callVi (T := TX11) (rest := [.int x214, .ref (o)]) (As := [.int 11]) hx hb hml hown hts hK hT35 hZ (fun _ h => h) hS35 (c_of l G Y P (o) hM 11 11 (by decide) (h_inc (by decide))) trivial wd_X11_of wV_X11_of wL_X11_47 (hM.o rfl) rfl rfl hl.1 rfl (Nat.le_of_ble_eq_true rfl) dX11_isGot_101 ⟨Nat.le_of_ble_eq_true rfl, Nat.le_of_ble_eq_true rfl⟩ ⟨Nat.zero_le _, Nat.zero_le _⟩ (fun r215 H36 locs hp36 hT36 hS36 hk36 => ?_)
          obtain ⟨hp36, he⟩ := hp36
          have he := he.symm
          subst he
          have mr215 : h_ai H35 (o + 1) 11 = r215 := hp36.1.symm
          have br215 := mP_l hp36.2 (by omega)
          refine h_callVv (T := TX11) (rest := []) (As := [.int x214, .int r215]) hx hb hml hown hts hK hT35 hZ (fun _ h => h) hS36 (c_puts l G Y P (o) hM x214 r215 (412 + 6 * r4.toInt).toNat (show x214.toInt.toNat = (412 + 6 * r4.toInt).toNat from by omega) (h_vin (by omega) (by omega)) (mP_free (by unfold mFree; omega))) trivial wd_X11_puts wV_X11_puts wL_X11_43 (hM.o rfl) rfl rfl hl.1 rfl (Nat.le_of_ble_eq_true rfl) dX11_isGot_104 ⟨Nat.le_of_ble_eq_true rfl, Nat.le_of_ble_eq_true rfl⟩ ⟨Nat.zero_le _, Nat.zero_le _⟩ (fun H37 locs hp37 hT37 hS37 hk37 => ?_)
          have hp37 : h_apu H35 H37 (o + 1) (412 + 6 * r4.toInt).toNat (.int r215) := hp37.2
          have z216 : ∀ j : Nat, mK j → h_ai H37 (o + 1) j = h_ai H0 (o + 1) j := fun j hj => (h_apn hp37 (by unfold mK at hj; omega)).trans (z209 j hj)
          have m217 : h_ai H37 (o + 1) 31 = x197 := (h_apn hp37 (by omega)).trans m210
          have m218 : h_ai H37 (o + 1) 14 = r203 := (h_apn hp37 (by omega)).trans m211
          have m219 : h_ai H37 (o + 1) (410 + 6 * r4.toInt).toNat = r203 := (h_apn hp37 (by omega)).trans m212
          have m220 : h_ai H37 (o + 1) (411 + 6 * r4.toInt).toNat = u1 := (h_apn hp37 (by omega)).trans m213
          have m221 : h_ai H37 (o + 1) 11 = r215 := (h_apn hp37 (by omega)).trans mr215
          have m222 : h_ai H37 (o + 1) (412 + 6 * r4.toInt).toNat = r215 := h_aps hp37
          refine lv_aload_n hx hb dX11_isGot_107 rfl (lv_at hl 2 rfl) ?_
          refine lv_iload_n hx hb dX11_isGot_108 rfl (lv_at hl 0 rfl) ?_
          refine lv_iconst (v := 3) hx hb dX11_isGot_109 (by decide) ?_
          refine lv_iadd hx hb dX11_isGot_110 ?_
          obtain ⟨x223, qx223, ix223⟩ := h_addX x202 3 x202.toInt (3 : Int) rfl rfl (by omega) (by omega)
          refine h_top (v := x223) qx223 ?_
          refine lv_aload_n hx hb dX11_isGot_111 rfl (lv_at hl 2 rfl) ?_
          refine lv_bipush (v := 12) hx hb dX11_isGot_112 (by decide) ?_
          refine h_callVi (T := TX11) (rest := [.int x223, .ref (o)]) (As := [.int 12]) hx hb hml hown hts hK hT37 hZ (fun _ h => h) hS37 (c_of l G Y P (o) hM 12 12 (by decide) (h_inc (by decide))) trivial wd_X11_of wV_X11_of wL_X11_47 (hM.o rfl) rfl rfl hl.1 rfl (Nat.le_of_ble_eq_true rfl) dX11_isGot_114 ⟨Nat.le_of_ble_eq_true rfl, Nat.le_of_ble_eq_true rfl⟩ ⟨Nat.zero_le _, Nat.zero_le _⟩ (fun r224 H38 locs hp38 hT38 hS38 hk38 => ?_)
          obtain ⟨hp38, he⟩ := hp38
          have he := he.symm
          subst he
          have mr224 : h_ai H37 (o + 1) 12 = r224 := hp38.1.symm
          have br224 := mP_l hp38.2 (by omega)
          refine h_callVv (T := TX11) (rest := []) (As := [.int x223, .int r224]) hx hb hml hown hts hK hT37 hZ (fun _ h => h) hS38 (c_puts l G Y P (o) hM x223 r224 (413 + 6 * r4.toInt).toNat (show x223.toInt.toNat = (413 + 6 * r4.toInt).toNat from by omega) (h_vin (by omega) (by omega)) (mP_free (by unfold mFree; omega))) trivial wd_X11_puts wV_X11_puts wL_X11_43 (hM.o rfl) rfl rfl hl.1 rfl (Nat.le_of_ble_eq_true rfl) dX11_isGot_117 ⟨Nat.le_of_ble_eq_true rfl, Nat.le_of_ble_eq_true rfl⟩ ⟨Nat.zero_le _, Nat.zero_le _⟩ (fun H39 locs hp39 hT39 hS39 hk39 => ?_)
          have hp39 : h_apu H37 H39 (o + 1) (413 + 6 * r4.toInt).toNat (.int r224) := hp39.2
          have z225 : ∀ j : Nat, mK j → h_ai H39 (o + 1) j = h_ai H0 (o + 1) j := fun j hj => (h_apn hp39 (by unfold mK at hj; omega)).trans (z216 j hj)
          have m226 : h_ai H39 (o + 1) 31 = x197 := (h_apn hp39 (by omega)).trans m217
          have m227 : h_ai H39 (o + 1) 14 = r203 := (h_apn hp39 (by omega)).trans m218
          have m228 : h_ai H39 (o + 1) (410 + 6 * r4.toInt).toNat = r203 := (h_apn hp39 (by omega)).trans m219
          have m229 : h_ai H39 (o + 1) (411 + 6 * r4.toInt).toNat = u1 := (h_apn hp39 (by omega)).trans m220
          have m230 : h_ai H39 (o + 1) 11 = r215 := (h_apn hp39 (by omega)).trans m221
          have m231 : h_ai H39 (o + 1) (412 + 6 * r4.toInt).toNat = r215 := (h_apn hp39 (by omega)).trans m222
          have m232 : h_ai H39 (o + 1) 12 = r224 := (h_apn hp39 (by omega)).trans mr224
          have m233 : h_ai H39 (o + 1) (413 + 6 * r4.toInt).toNat = r224 := h_aps hp39
          refine lv_aload_n hx hb dX11_isGot_120 rfl (lv_at hl 2 rfl) ?_
          refine lv_iload_n hx hb dX11_isGot_121 rfl (lv_at hl 0 rfl) ?_
          refine lv_iconst (v := 4) hx hb dX11_isGot_122 (by decide) ?_
          refine lv_iadd hx hb dX11_isGot_123 ?_
          obtain ⟨x234, qx234, ix234⟩ := h_addX x202 4 x202.toInt (4 : Int) rfl rfl (by omega) (by omega)
          refine h_top (v := x234) qx234 ?_
          refine lv_aload_n hx hb dX11_isGot_124 rfl (lv_at hl 2 rfl) ?_
          refine lv_iconst (v := 3) hx hb dX11_isGot_125 (by decide) ?_
          refine h_callVi (T := TX11) (rest := [.int x234, .ref (o)]) (As := [.int 3]) hx hb hml hown hts hK hT39 hZ (fun _ h => h) hS39 (c_of l G Y P (o) hM 3 3 (by decide) (h_inc (by decide))) trivial wd_X11_of wV_X11_of wL_X11_47 (hM.o rfl) rfl rfl hl.1 rfl (Nat.le_of_ble_eq_true rfl) dX11_isGot_126 ⟨Nat.le_of_ble_eq_true rfl, Nat.le_of_ble_eq_true rfl⟩ ⟨Nat.zero_le _, Nat.zero_le _⟩ (fun r235 H40 locs hp40 hT40 hS40 hk40 => ?_)
          obtain ⟨hp40, he⟩ := hp40
          have he := he.symm
          subst he
          have mr235 : h_ai H39 (o + 1) 3 = r235 := hp40.1.symm
          refine h_callVv (T := TX11) (rest := []) (As := [.int x234, .int r235]) hx hb hml hown hts hK hT39 hZ (fun _ h => h) hS40 (c_puts l G Y P (o) hM x234 r235 (414 + 6 * r4.toInt).toNat (show x234.toInt.toNat = (414 + 6 * r4.toInt).toNat from by omega) (h_vin (by omega) (by omega)) (mP_free (by unfold mFree; omega))) trivial wd_X11_puts wV_X11_puts wL_X11_43 (hM.o rfl) rfl rfl hl.1 rfl (Nat.le_of_ble_eq_true rfl) dX11_isGot_129 ⟨Nat.le_of_ble_eq_true rfl, Nat.le_of_ble_eq_true rfl⟩ ⟨Nat.zero_le _, Nat.zero_le _⟩ (fun H41 locs hp41 hT41 hS41 hk41 => ?_)
          have hp41 : h_apu H39 H41 (o + 1) (414 + 6 * r4.toInt).toNat (.int r235) := hp41.2
          have z236 : ∀ j : Nat, mK j → h_ai H41 (o + 1) j = h_ai H0 (o + 1) j := fun j hj => (h_apn hp41 (by unfold mK at hj; omega)).trans (z225 j hj)
          have m237 : h_ai H41 (o + 1) 31 = x197 := (h_apn hp41 (by omega)).trans m226
          have m238 : h_ai H41 (o + 1) 14 = r203 := (h_apn hp41 (by omega)).trans m227
          have m239 : h_ai H41 (o + 1) (410 + 6 * r4.toInt).toNat = r203 := (h_apn hp41 (by omega)).trans m228
          have m240 : h_ai H41 (o + 1) (411 + 6 * r4.toInt).toNat = u1 := (h_apn hp41 (by omega)).trans m229
          have m241 : h_ai H41 (o + 1) 11 = r215 := (h_apn hp41 (by omega)).trans m230
          have m242 : h_ai H41 (o + 1) (412 + 6 * r4.toInt).toNat = r215 := (h_apn hp41 (by omega)).trans m231
          have m243 : h_ai H41 (o + 1) 12 = r224 := (h_apn hp41 (by omega)).trans m232
          have m244 : h_ai H41 (o + 1) (413 + 6 * r4.toInt).toNat = r224 := (h_apn hp41 (by omega)).trans m233
          have m245 : h_ai H41 (o + 1) 3 = r235 := (h_apn hp41 (by omega)).trans mr235
          have m246 : h_ai H41 (o + 1) (414 + 6 * r4.toInt).toNat = r235 := h_aps hp41
          refine lv_aload_n hx hb dX11_isGot_132 rfl (lv_at hl 2 rfl) ?_
          refine lv_iload_n hx hb dX11_isGot_133 rfl (lv_at hl 0 rfl) ?_
          refine lv_iconst (v := 5) hx hb dX11_isGot_134 (by decide) ?_
          refine lv_iadd hx hb dX11_isGot_135 ?_
          obtain ⟨x247, qx247, ix247⟩ := h_addX x202 5 x202.toInt (5 : Int) rfl rfl (by omega) (by omega)
          refine h_top (v := x247) qx247 ?_
          refine lv_iload_n hx hb dX11_isGot_136 rfl (lv_at hl 1 rfl) ?_
          refine h_callVv (T := TX11) (rest := []) (As := [.int x247, .int x3]) hx hb hml hown hts hK hT41 hZ (fun _ h => h) hS41 (c_puts l G Y P (o) hM x247 x3 (415 + 6 * r4.toInt).toNat (show x247.toInt.toNat = (415 + 6 * r4.toInt).toNat from by omega) (h_vin (by omega) (by omega)) (mP_free (by unfold mFree; omega))) trivial wd_X11_puts wV_X11_puts wL_X11_43 (hM.o rfl) rfl rfl hl.1 rfl (Nat.le_of_ble_eq_true rfl) dX11_isGot_137 ⟨Nat.le_of_ble_eq_true rfl, Nat.le_of_ble_eq_true rfl⟩ ⟨Nat.zero_le _, Nat.zero_le _⟩ (fun H42 locs hp42 hT42 hS42 hk42 => ?_)
          have hp42 : h_apu H41 H42 (o + 1) (415 + 6 * r4.toInt).toNat (.int x3) := hp42.2
          have z248 : ∀ j : Nat, mK j → h_ai H42 (o + 1) j = h_ai H0 (o + 1) j := fun j hj => (h_apn hp42 (by unfold mK at hj; omega)).trans (z236 j hj)
          have m249 : h_ai H42 (o + 1) 31 = x197 := (h_apn hp42 (by omega)).trans m237
          have m250 : h_ai H42 (o + 1) 14 = r203 := (h_apn hp42 (by omega)).trans m238
          have m251 : h_ai H42 (o + 1) (410 + 6 * r4.toInt).toNat = r203 := (h_apn hp42 (by omega)).trans m239
          have m252 : h_ai H42 (o + 1) (411 + 6 * r4.toInt).toNat = u1 := (h_apn hp42 (by omega)).trans m240
          have m253 : h_ai H42 (o + 1) 11 = r215 := (h_apn hp42 (by omega)).trans m241
          have m254 : h_ai H42 (o + 1) (412 + 6 * r4.toInt).toNat = r215 := (h_apn hp42 (by omega)).trans m242
          have m255 : h_ai H42 (o + 1) 12 = r224 := (h_apn hp42 (by omega)).trans m243
          have m256 : h_ai H42 (o + 1) (413 + 6 * r4.toInt).toNat = r224 := (h_apn hp42 (by omega)).trans m244
          have m257 : h_ai H42 (o + 1) 3 = r235 := (h_apn hp42 (by omega)).trans m245
          have m258 : h_ai H42 (o + 1) (414 + 6 * r4.toInt).toNat = r235 := (h_apn hp42 (by omega)).trans m246
          have m259 : h_ai H42 (o + 1) (415 + 6 * r4.toInt).toNat = x3 := h_aps hp42
          refine lv_aload_n hx hb dX11_isGot_140 rfl (lv_at hl 2 rfl) ?_
          refine lv_bipush (v := 31) hx hb dX11_isGot_141 (by decide) ?_
          refine lv_iconst (v := 1) hx hb dX11_isGot_143 (by decide) ?_
          refine h_callVv (T := TX11) (rest := []) (As := [.int 31, .int 1]) hx hb hml hown hts hK hT42 hZ (fun _ h => h) hS42 (c_adds l G Y P (o) hM 31 1 31 (by decide) (h_inc (by decide))) (show mP 31 (h_ai H42 (o + 1) 31 + 1) from (by rw [m249, (h_addE x197 1 r4 x197.toInt (1 : Int) rfl rfl (by omega) (by omega) (by omega))]; exact (mP_of16 (by omega) (show 0 ≤ r4.toInt from by omega) (show r4.toInt ≤ 16 from by omega)))) wd_X11_adds wV_X11_adds wL_X11_69 (hM.o rfl) rfl rfl hl.1 rfl (Nat.le_of_ble_eq_true rfl) dX11_isGot_144 ⟨Nat.le_of_ble_eq_true rfl, Nat.le_of_ble_eq_true rfl⟩ ⟨Nat.zero_le _, Nat.zero_le _⟩ (fun H43 locs hp43 hT43 hS43 hk43 => ?_)
          have hp43 : h_apu H42 H43 (o + 1) 31 (.int (h_ai H42 (o + 1) 31 + 1)) := hp43.2
          rw [show h_ai H42 (o + 1) 31 + 1 = r4 from (by rw [m249]; exact (h_addE x197 1 r4 x197.toInt (1 : Int) rfl rfl (by omega) (by omega) (by omega)))] at hp43
          have hp43 : h_apu H42 H43 (o + 1) 31 (.int r4) := hp43
          have z260 : ∀ j : Nat, mK j → h_ai H43 (o + 1) j = h_ai H0 (o + 1) j := fun j hj => (h_apn hp43 (by unfold mK at hj; omega)).trans (z248 j hj)
          have m261 : h_ai H43 (o + 1) 14 = r203 := (h_apn hp43 (by omega)).trans m250
          have m262 : h_ai H43 (o + 1) (410 + 6 * r4.toInt).toNat = r203 := (h_apn hp43 (by omega)).trans m251
          have m263 : h_ai H43 (o + 1) (411 + 6 * r4.toInt).toNat = u1 := (h_apn hp43 (by omega)).trans m252
          have m264 : h_ai H43 (o + 1) 11 = r215 := (h_apn hp43 (by omega)).trans m253
          have m265 : h_ai H43 (o + 1) (412 + 6 * r4.toInt).toNat = r215 := (h_apn hp43 (by omega)).trans m254
          have m266 : h_ai H43 (o + 1) 12 = r224 := (h_apn hp43 (by omega)).trans m255
          have m267 : h_ai H43 (o + 1) (413 + 6 * r4.toInt).toNat = r224 := (h_apn hp43 (by omega)).trans m256
          have m268 : h_ai H43 (o + 1) 3 = r235 := (h_apn hp43 (by omega)).trans m257
          have m269 : h_ai H43 (o + 1) (414 + 6 * r4.toInt).toNat = r235 := (h_apn hp43 (by omega)).trans m258
          have m270 : h_ai H43 (o + 1) (415 + 6 * r4.toInt).toNat = x3 := (h_apn hp43 (by omega)).trans m259
          have m271 : h_ai H43 (o + 1) 31 = r4 := h_aps hp43
          refine lv_aload_n hx hb dX11_isGot_147 rfl (lv_at hl 2 rfl) ?_
          refine lv_bipush (v := 64) hx hb dX11_isGot_148 (by decide) ?_
          refine lv_iload_n hx hb dX11_isGot_150 rfl (lv_at hl 3 rfl) ?_
          refine lv_iadd hx hb dX11_isGot_151 ?_
          obtain ⟨x272, qx272, ix272⟩ := h_addX 64 u1 (64 : Int) u1.toInt rfl rfl (by omega) (by omega)
          refine h_top (v := x272) qx272 ?_
          refine lv_iconst (v := 1) hx hb dX11_isGot_152 (by decide) ?_
          refine h_callVv (T := TX11) (rest := []) (As := [.int x272, .int 1]) hx hb hml hown hts hK hT43 hZ (fun _ h => h) hS43 (c_adds l G Y P (o) hM x272 1 (64 + u1.toInt).toNat (show x272.toInt.toNat = (64 + u1.toInt).toNat from by omega) (h_vin (by omega) (by omega))) (show mP (64 + u1.toInt).toNat (h_ai H43 (o + 1) (64 + u1.toInt).toNat + 1) from (mP_free (by unfold mFree; omega))) wd_X11_adds wV_X11_adds wL_X11_69 (hM.o rfl) rfl rfl hl.1 rfl (Nat.le_of_ble_eq_true rfl) dX11_isGot_153 ⟨Nat.le_of_ble_eq_true rfl, Nat.le_of_ble_eq_true rfl⟩ ⟨Nat.zero_le _, Nat.zero_le _⟩ (fun H44 locs hp44 hT44 hS44 hk44 => ?_)
          have hp44 : h_apu H43 H44 (o + 1) (64 + u1.toInt).toNat (.int (h_ai H43 (o + 1) (64 + u1.toInt).toNat + 1)) := hp44.2
          have z273 : ∀ j : Nat, mK j → h_ai H44 (o + 1) j = h_ai H0 (o + 1) j := fun j hj => (h_apn hp44 (by unfold mK at hj; omega)).trans (z260 j hj)
          have m274 : h_ai H44 (o + 1) 14 = r203 := (h_apn hp44 (by omega)).trans m261
          have m275 : h_ai H44 (o + 1) (410 + 6 * r4.toInt).toNat = r203 := (h_apn hp44 (by omega)).trans m262
          have m276 : h_ai H44 (o + 1) (411 + 6 * r4.toInt).toNat = u1 := (h_apn hp44 (by omega)).trans m263
          have m277 : h_ai H44 (o + 1) 11 = r215 := (h_apn hp44 (by omega)).trans m264
          have m278 : h_ai H44 (o + 1) (412 + 6 * r4.toInt).toNat = r215 := (h_apn hp44 (by omega)).trans m265
          have m279 : h_ai H44 (o + 1) 12 = r224 := (h_apn hp44 (by omega)).trans m266
          have m280 : h_ai H44 (o + 1) (413 + 6 * r4.toInt).toNat = r224 := (h_apn hp44 (by omega)).trans m267
          have m281 : h_ai H44 (o + 1) 3 = r235 := (h_apn hp44 (by omega)).trans m268
          have m282 : h_ai H44 (o + 1) (414 + 6 * r4.toInt).toNat = r235 := (h_apn hp44 (by omega)).trans m269
          have m283 : h_ai H44 (o + 1) (415 + 6 * r4.toInt).toNat = x3 := (h_apn hp44 (by omega)).trans m270
          have m284 : h_ai H44 (o + 1) 31 = r4 := (h_apn hp44 (by omega)).trans m271
          refine lv_aload_n hx hb dX11_isGot_156 rfl (lv_at hl 2 rfl) ?_
          refine lv_bipush (v := 72) hx hb dX11_isGot_157 (by decide) ?_
          refine lv_aload_n hx hb dX11_isGot_159 rfl (lv_at hl 2 rfl) ?_
          refine lv_bipush (v := 11) hx hb dX11_isGot_160 (by decide) ?_
          refine h_callVi (T := TX11) (rest := [.int 72, .ref (o)]) (As := [.int 11]) hx hb hml hown hts hK hT44 hZ (fun _ h => h) hS44 (c_of l G Y P (o) hM 11 11 (by decide) (h_inc (by decide))) trivial wd_X11_of wV_X11_of wL_X11_47 (hM.o rfl) rfl rfl hl.1 rfl (Nat.le_of_ble_eq_true rfl) dX11_isGot_162 ⟨Nat.le_of_ble_eq_true rfl, Nat.le_of_ble_eq_true rfl⟩ ⟨Nat.zero_le _, Nat.zero_le _⟩ (fun r285 H45 locs hp45 hT45 hS45 hk45 => ?_)
          obtain ⟨hp45, he⟩ := hp45
          have he := he.symm
          subst he
          have hp45 : r215 = r285 := (hp45.1.trans m277).symm
          subst hp45
          refine lv_iadd hx hb dX11_isGot_165 ?_
          obtain ⟨x286, qx286, ix286⟩ := h_addX 72 r215 (72 : Int) r215.toInt rfl rfl (by omega) (by omega)
          refine h_top (v := x286) qx286 ?_
          refine lv_iconst (v := 1) hx hb dX11_isGot_166 (by decide) ?_
          refine h_callVv (T := TX11) (rest := []) (As := [.int x286, .int 1]) hx hb hml hown hts hK hT44 hZ (fun _ h => h) hS45 (c_adds l G Y P (o) hM x286 1 (72 + r215.toInt).toNat (show x286.toInt.toNat = (72 + r215.toInt).toNat from by omega) (h_vin (by omega) (by omega))) (show mP (72 + r215.toInt).toNat (h_ai H44 (o + 1) (72 + r215.toInt).toNat + 1) from (mP_free (by unfold mFree; omega))) wd_X11_adds wV_X11_adds wL_X11_69 (hM.o rfl) rfl rfl hl.1 rfl (Nat.le_of_ble_eq_true rfl) dX11_isGot_167 ⟨Nat.le_of_ble_eq_true rfl, Nat.le_of_ble_eq_true rfl⟩ ⟨Nat.zero_le _, Nat.zero_le _⟩ (fun H46 locs hp46 hT46 hS46 hk46 => ?_)
          have hp46 : h_apu H44 H46 (o + 1) (72 + r215.toInt).toNat (.int (h_ai H44 (o + 1) (72 + r215.toInt).toNat + 1)) := hp46.2
          have z287 : ∀ j : Nat, mK j → h_ai H46 (o + 1) j = h_ai H0 (o + 1) j := fun j hj => (h_apn hp46 (by unfold mK at hj; omega)).trans (z273 j hj)
          have m288 : h_ai H46 (o + 1) 14 = r203 := (h_apn hp46 (by omega)).trans m274
          have m289 : h_ai H46 (o + 1) (410 + 6 * r4.toInt).toNat = r203 := (h_apn hp46 (by omega)).trans m275
          have m290 : h_ai H46 (o + 1) (411 + 6 * r4.toInt).toNat = u1 := (h_apn hp46 (by omega)).trans m276
          have m291 : h_ai H46 (o + 1) 11 = r215 := (h_apn hp46 (by omega)).trans m277
          have m292 : h_ai H46 (o + 1) (412 + 6 * r4.toInt).toNat = r215 := (h_apn hp46 (by omega)).trans m278
          have m293 : h_ai H46 (o + 1) 12 = r224 := (h_apn hp46 (by omega)).trans m279
          have m294 : h_ai H46 (o + 1) (413 + 6 * r4.toInt).toNat = r224 := (h_apn hp46 (by omega)).trans m280
          have m295 : h_ai H46 (o + 1) 3 = r235 := (h_apn hp46 (by omega)).trans m281
          have m296 : h_ai H46 (o + 1) (414 + 6 * r4.toInt).toNat = r235 := (h_apn hp46 (by omega)).trans m282
          have m297 : h_ai H46 (o + 1) (415 + 6 * r4.toInt).toNat = x3 := (h_apn hp46 (by omega)).trans m283
          have m298 : h_ai H46 (o + 1) 31 = r4 := (h_apn hp46 (by omega)).trans m284
          refine lv_aload_n hx hb dX11_isGot_170 rfl (lv_at hl 2 rfl) ?_
          refine lv_sipush (v := 584) hx hb dX11_isGot_171 (by decide) ?_
          refine lv_aload_n hx hb dX11_isGot_174 rfl (lv_at hl 2 rfl) ?_
          refine lv_bipush (v := 12) hx hb dX11_isGot_175 (by decide) ?_
          refine h_callVi (T := TX11) (rest := [.int 584, .ref (o)]) (As := [.int 12]) hx hb hml hown hts hK hT46 hZ (fun _ h => h) hS46 (c_of l G Y P (o) hM 12 12 (by decide) (h_inc (by decide))) trivial wd_X11_of wV_X11_of wL_X11_47 (hM.o rfl) rfl rfl hl.1 rfl (Nat.le_of_ble_eq_true rfl) dX11_isGot_177 ⟨Nat.le_of_ble_eq_true rfl, Nat.le_of_ble_eq_true rfl⟩ ⟨Nat.zero_le _, Nat.zero_le _⟩ (fun r299 H47 locs hp47 hT47 hS47 hk47 => ?_)
          obtain ⟨hp47, he⟩ := hp47
          have he := he.symm
          subst he
          have hp47 : r224 = r299 := (hp47.1.trans m293).symm
          subst hp47
          refine lv_iadd hx hb dX11_isGot_180 ?_
          obtain ⟨x300, qx300, ix300⟩ := h_addX 584 r224 (584 : Int) r224.toInt rfl rfl (by omega) (by omega)
          refine h_top (v := x300) qx300 ?_
          refine lv_iconst (v := 1) hx hb dX11_isGot_181 (by decide) ?_
          refine h_callVv (T := TX11) (rest := []) (As := [.int x300, .int 1]) hx hb hml hown hts hK hT46 hZ (fun _ h => h) hS47 (c_adds l G Y P (o) hM x300 1 (584 + r224.toInt).toNat (show x300.toInt.toNat = (584 + r224.toInt).toNat from by omega) (h_vin (by omega) (by omega))) (show mP (584 + r224.toInt).toNat (h_ai H46 (o + 1) (584 + r224.toInt).toNat + 1) from (mP_free (by unfold mFree; omega))) wd_X11_adds wV_X11_adds wL_X11_69 (hM.o rfl) rfl rfl hl.1 rfl (Nat.le_of_ble_eq_true rfl) dX11_isGot_182 ⟨Nat.le_of_ble_eq_true rfl, Nat.le_of_ble_eq_true rfl⟩ ⟨Nat.zero_le _, Nat.zero_le _⟩ (fun H48 locs hp48 hT48 hS48 hk48 => ?_)
          have hp48 : h_apu H46 H48 (o + 1) (584 + r224.toInt).toNat (.int (h_ai H46 (o + 1) (584 + r224.toInt).toNat + 1)) := hp48.2
          have z301 : ∀ j : Nat, mK j → h_ai H48 (o + 1) j = h_ai H0 (o + 1) j := fun j hj => (h_apn hp48 (by unfold mK at hj; omega)).trans (z287 j hj)
          have m302 : h_ai H48 (o + 1) 14 = r203 := (h_apn hp48 (by omega)).trans m288
          have m303 : h_ai H48 (o + 1) (410 + 6 * r4.toInt).toNat = r203 := (h_apn hp48 (by omega)).trans m289
          have m304 : h_ai H48 (o + 1) (411 + 6 * r4.toInt).toNat = u1 := (h_apn hp48 (by omega)).trans m290
          have m305 : h_ai H48 (o + 1) 11 = r215 := (h_apn hp48 (by omega)).trans m291
          have m306 : h_ai H48 (o + 1) (412 + 6 * r4.toInt).toNat = r215 := (h_apn hp48 (by omega)).trans m292
          have m307 : h_ai H48 (o + 1) 12 = r224 := (h_apn hp48 (by omega)).trans m293
          have m308 : h_ai H48 (o + 1) (413 + 6 * r4.toInt).toNat = r224 := (h_apn hp48 (by omega)).trans m294
          have m309 : h_ai H48 (o + 1) 3 = r235 := (h_apn hp48 (by omega)).trans m295
          have m310 : h_ai H48 (o + 1) (414 + 6 * r4.toInt).toNat = r235 := (h_apn hp48 (by omega)).trans m296
          have m311 : h_ai H48 (o + 1) (415 + 6 * r4.toInt).toNat = x3 := (h_apn hp48 (by omega)).trans m297
          have m312 : h_ai H48 (o + 1) 31 = r4 := (h_apn hp48 (by omega)).trans m298
          refine lv_aload_n hx hb dX11_isGot_185 rfl (lv_at hl 2 rfl) ?_
          refine lv_sipush (v := 592) hx hb dX11_isGot_186 (by decide) ?_
          refine lv_aload_n hx hb dX11_isGot_189 rfl (lv_at hl 2 rfl) ?_
          refine lv_bipush (v := 12) hx hb dX11_isGot_190 (by decide) ?_
          refine h_callVi (T := TX11) (rest := [.int 592, .ref (o)]) (As := [.int 12]) hx hb hml hown hts hK hT48 hZ (fun _ h => h) hS48 (c_of l G Y P (o) hM 12 12 (by decide) (h_inc (by decide))) trivial wd_X11_of wV_X11_of wL_X11_47 (hM.o rfl) rfl rfl hl.1 rfl (Nat.le_of_ble_eq_true rfl) dX11_isGot_192 ⟨Nat.le_of_ble_eq_true rfl, Nat.le_of_ble_eq_true rfl⟩ ⟨Nat.zero_le _, Nat.zero_le _⟩ (fun r313 H49 locs hp49 hT49 hS49 hk49 => ?_)
          obtain ⟨hp49, he⟩ := hp49
          have he := he.symm
          subst he
          have hp49 : r224 = r313 := (hp49.1.trans m307).symm
          subst hp49
          refine lv_iadd hx hb dX11_isGot_195 ?_
          obtain ⟨x314, qx314, ix314⟩ := h_addX 592 r224 (592 : Int) r224.toInt rfl rfl (by omega) (by omega)
          refine h_top (v := x314) qx314 ?_
          refine lv_iload_n hx hb dX11_isGot_196 rfl (lv_at hl 1 rfl) ?_
          refine h_callVv (T := TX11) (rest := []) (As := [.int x314, .int x3]) hx hb hml hown hts hK hT48 hZ (fun _ h => h) hS49 (c_adds l G Y P (o) hM x314 x3 (592 + r224.toInt).toNat (show x314.toInt.toNat = (592 + r224.toInt).toNat from by omega) (h_vin (by omega) (by omega))) (show mP (592 + r224.toInt).toNat (h_ai H48 (o + 1) (592 + r224.toInt).toNat + x3) from (mP_free (by unfold mFree; omega))) wd_X11_adds wV_X11_adds wL_X11_69 (hM.o rfl) rfl rfl hl.1 rfl (Nat.le_of_ble_eq_true rfl) dX11_isGot_197 ⟨Nat.le_of_ble_eq_true rfl, Nat.le_of_ble_eq_true rfl⟩ ⟨Nat.zero_le _, Nat.zero_le _⟩ (fun H50 locs hp50 hT50 hS50 hk50 => ?_)
          have hp50 : h_apu H48 H50 (o + 1) (592 + r224.toInt).toNat (.int (h_ai H48 (o + 1) (592 + r224.toInt).toNat + x3)) := hp50.2
          have z315 : ∀ j : Nat, mK j → h_ai H50 (o + 1) j = h_ai H0 (o + 1) j := fun j hj => (h_apn hp50 (by unfold mK at hj; omega)).trans (z301 j hj)
          have m316 : h_ai H50 (o + 1) 14 = r203 := (h_apn hp50 (by omega)).trans m302
          have m317 : h_ai H50 (o + 1) (410 + 6 * r4.toInt).toNat = r203 := (h_apn hp50 (by omega)).trans m303
          have m318 : h_ai H50 (o + 1) (411 + 6 * r4.toInt).toNat = u1 := (h_apn hp50 (by omega)).trans m304
          have m319 : h_ai H50 (o + 1) 11 = r215 := (h_apn hp50 (by omega)).trans m305
          have m320 : h_ai H50 (o + 1) (412 + 6 * r4.toInt).toNat = r215 := (h_apn hp50 (by omega)).trans m306
          have m321 : h_ai H50 (o + 1) 12 = r224 := (h_apn hp50 (by omega)).trans m307
          have m322 : h_ai H50 (o + 1) (413 + 6 * r4.toInt).toNat = r224 := (h_apn hp50 (by omega)).trans m308
          have m323 : h_ai H50 (o + 1) 3 = r235 := (h_apn hp50 (by omega)).trans m309
          have m324 : h_ai H50 (o + 1) (414 + 6 * r4.toInt).toNat = r235 := (h_apn hp50 (by omega)).trans m310
          have m325 : h_ai H50 (o + 1) (415 + 6 * r4.toInt).toNat = x3 := (h_apn hp50 (by omega)).trans m311
          have m326 : h_ai H50 (o + 1) 31 = r4 := (h_apn hp50 (by omega)).trans m312
          refine lv_aload_n hx hb dX11_isGot_200 rfl (lv_at hl 2 rfl) ?_
          refine lv_bipush (v := 29) hx hb dX11_isGot_201 (by decide) ?_
          refine lv_iload_n hx hb dX11_isGot_203 rfl (lv_at hl 1 rfl) ?_
          refine h_callVv (T := TX11) (rest := []) (As := [.int 29, .int x3]) hx hb hml hown hts hK hT50 hZ (fun _ h => h) hS50 (c_adds l G Y P (o) hM 29 x3 29 (by decide) (h_inc (by decide))) (show mP 29 (h_ai H50 (o + 1) 29 + x3) from (mP_free (by unfold mFree; omega))) wd_X11_adds wV_X11_adds wL_X11_69 (hM.o rfl) rfl rfl hl.1 rfl (Nat.le_of_ble_eq_true rfl) dX11_isGot_204 ⟨Nat.le_of_ble_eq_true rfl, Nat.le_of_ble_eq_true rfl⟩ ⟨Nat.zero_le _, Nat.zero_le _⟩ (fun H51 locs hp51 hT51 hS51 hk51 => ?_)
          have hp51 : h_apu H50 H51 (o + 1) 29 (.int (h_ai H50 (o + 1) 29 + x3)) := hp51.2
          have z327 : ∀ j : Nat, mK j → h_ai H51 (o + 1) j = h_ai H0 (o + 1) j := fun j hj => (h_apn hp51 (by unfold mK at hj; omega)).trans (z315 j hj)
          have m328 : h_ai H51 (o + 1) 14 = r203 := (h_apn hp51 (by omega)).trans m316
          have m329 : h_ai H51 (o + 1) (410 + 6 * r4.toInt).toNat = r203 := (h_apn hp51 (by omega)).trans m317
          have m330 : h_ai H51 (o + 1) (411 + 6 * r4.toInt).toNat = u1 := (h_apn hp51 (by omega)).trans m318
          have m331 : h_ai H51 (o + 1) 11 = r215 := (h_apn hp51 (by omega)).trans m319
          have m332 : h_ai H51 (o + 1) (412 + 6 * r4.toInt).toNat = r215 := (h_apn hp51 (by omega)).trans m320
          have m333 : h_ai H51 (o + 1) 12 = r224 := (h_apn hp51 (by omega)).trans m321
          have m334 : h_ai H51 (o + 1) (413 + 6 * r4.toInt).toNat = r224 := (h_apn hp51 (by omega)).trans m322
          have m335 : h_ai H51 (o + 1) 3 = r235 := (h_apn hp51 (by omega)).trans m323
          have m336 : h_ai H51 (o + 1) (414 + 6 * r4.toInt).toNat = r235 := (h_apn hp51 (by omega)).trans m324
          have m337 : h_ai H51 (o + 1) (415 + 6 * r4.toInt).toNat = x3 := (h_apn hp51 (by omega)).trans m325
          have m338 : h_ai H51 (o + 1) 31 = r4 := (h_apn hp51 (by omega)).trans m326
          refine lv_aload_n hx hb dX11_isGot_207 rfl (lv_at hl 2 rfl) ?_
          refine lv_bipush (v := 30) hx hb dX11_isGot_208 (by decide) ?_
          refine lv_aload_n hx hb dX11_isGot_210 rfl (lv_at hl 2 rfl) ?_
          refine lv_bipush (v := 30) hx hb dX11_isGot_211 (by decide) ?_
          refine h_callVi (T := TX11) (rest := [.int 30, .ref (o)]) (As := [.int 30]) hx hb hml hown hts hK hT51 hZ (fun _ h => h) hS51 (c_of l G Y P (o) hM 30 30 (by decide) (h_inc (by decide))) trivial wd_X11_of wV_X11_of wL_X11_47 (hM.o rfl) rfl rfl hl.1 rfl (Nat.le_of_ble_eq_true rfl) dX11_isGot_213 ⟨Nat.le_of_ble_eq_true rfl, Nat.le_of_ble_eq_true rfl⟩ ⟨Nat.zero_le _, Nat.zero_le _⟩ (fun r339 H52 locs hp52 hT52 hS52 hk52 => ?_)
          obtain ⟨hp52, he⟩ := hp52
          have he := he.symm
          subst he
          have mr339 : h_ai H51 (o + 1) 30 = r339 := hp52.1.symm
          refine lv_iload_n hx hb dX11_isGot_216 rfl (lv_at hl 1 rfl) ?_
          refine h_callSi (rest := [.int 30, .ref (o)]) (As := [.int r339, .int x3]) hx hb hml hown hts hK hT51 hZ (fun _ h => h) hS52 (c_J_max l G Y r339 x3) trivial wd_J9_max_7cf53 wS_J9_max_7cf53 wL_X11_86 rfl hl.1 rfl (Nat.le_of_ble_eq_true rfl) dX11_isGot_217 ⟨Nat.le_of_ble_eq_true rfl, Nat.le_of_ble_eq_true rfl⟩ ⟨Nat.zero_le _, Nat.zero_le _⟩ (fun r340 H53 locs hp53 hT53 hS53 hk53 => ?_)
          obtain ⟨hp53, he⟩ := hp53
          have he := he.symm
          subst he
          have f341 : ((r340.toInt = r339.toInt ∨ r340.toInt = x3.toInt) ∧ r339.toInt ≤ r340.toInt ∧ x3.toInt ≤ r340.toInt) := by have q := hp53; exact q
          refine h_callVv (T := TX11) (rest := []) (As := [.int 30, .int r340]) hx hb hml hown hts hK hT51 hZ (fun _ h => h) hS53 (c_puts l G Y P (o) hM 30 r340 30 (by decide) (h_inc (by decide)) (mP_free (by unfold mFree; omega))) trivial wd_X11_puts wV_X11_puts wL_X11_43 (hM.o rfl) rfl rfl hl.1 rfl (Nat.le_of_ble_eq_true rfl) dX11_isGot_220 ⟨Nat.le_of_ble_eq_true rfl, Nat.le_of_ble_eq_true rfl⟩ ⟨Nat.zero_le _, Nat.zero_le _⟩ (fun H54 locs hp54 hT54 hS54 hk54 => ?_)
          have hp54 : h_apu H51 H54 (o + 1) 30 (.int r340) := hp54.2
          have z342 : ∀ j : Nat, mK j → h_ai H54 (o + 1) j = h_ai H0 (o + 1) j := fun j hj => (h_apn hp54 (by unfold mK at hj; omega)).trans (z327 j hj)
          have m343 : h_ai H54 (o + 1) 14 = r203 := (h_apn hp54 (by omega)).trans m328
          have m344 : h_ai H54 (o + 1) (410 + 6 * r4.toInt).toNat = r203 := (h_apn hp54 (by omega)).trans m329
          have m345 : h_ai H54 (o + 1) (411 + 6 * r4.toInt).toNat = u1 := (h_apn hp54 (by omega)).trans m330
          have m346 : h_ai H54 (o + 1) 11 = r215 := (h_apn hp54 (by omega)).trans m331
          have m347 : h_ai H54 (o + 1) (412 + 6 * r4.toInt).toNat = r215 := (h_apn hp54 (by omega)).trans m332
          have m348 : h_ai H54 (o + 1) 12 = r224 := (h_apn hp54 (by omega)).trans m333
          have m349 : h_ai H54 (o + 1) (413 + 6 * r4.toInt).toNat = r224 := (h_apn hp54 (by omega)).trans m334
          have m350 : h_ai H54 (o + 1) 3 = r235 := (h_apn hp54 (by omega)).trans m335
          have m351 : h_ai H54 (o + 1) (414 + 6 * r4.toInt).toNat = r235 := (h_apn hp54 (by omega)).trans m336
          have m352 : h_ai H54 (o + 1) (415 + 6 * r4.toInt).toNat = x3 := (h_apn hp54 (by omega)).trans m337
          have m353 : h_ai H54 (o + 1) 31 = r4 := (h_apn hp54 (by omega)).trans m338
          have m354 : h_ai H54 (o + 1) 30 = r340 := h_aps hp54
          refine lv_aload_n hx hb dX11_isGot_223 rfl (lv_at hl 2 rfl) ?_
          refine lv_aload_n hx hb dX11_isGot_224 rfl (lv_at hl 2 rfl) ?_
          refine lv_bipush (v := 14) hx hb dX11_isGot_225 (by decide) ?_
          refine h_callVi (T := TX11) (rest := [.ref (o)]) (As := [.int 14]) hx hb hml hown hts hK hT54 hZ (fun _ h => h) hS54 (c_of l G Y P (o) hM 14 14 (by decide) (h_inc (by decide))) trivial wd_X11_of wV_X11_of wL_X11_47 (hM.o rfl) rfl rfl hl.1 rfl (Nat.le_of_ble_eq_true rfl) dX11_isGot_227 ⟨Nat.le_of_ble_eq_true rfl, Nat.le_of_ble_eq_true rfl⟩ ⟨Nat.zero_le _, Nat.zero_le _⟩ (fun r355 H55 locs hp55 hT55 hS55 hk55 => ?_)
          obtain ⟨hp55, he⟩ := hp55
          have he := he.symm
          subst he
          have hp55 : r203 = r355 := (hp55.1.trans m343).symm
          subst hp55
          refine h_puti (C := RX11) (T := TX11) (N := 23) hx hb hts inX11 tyX11 tyX11_ok nmX11 hown hK hT54 (fun _ h => h) hS55 (hM.o rfl) rfl 3 rfl wF_X11_112 rfl rfl trivial rfl rfl dX11_isGot_230 (fun H56 locs hT56 hS56 hu56 => ?_)
          have z356 : ∀ j : Nat, mK j → h_ai H56 (o + 1) j = h_ai H0 (o + 1) j := fun j hj => (h_ai_same (hu56.2.1 (o + 1) (by omega))).trans (z342 j hj)
          have m357 : h_ai H56 (o + 1) 14 = r203 := (h_ai_same (hu56.2.1 (o + 1) (by omega))).trans m343
          have m358 : h_ai H56 (o + 1) (410 + 6 * r4.toInt).toNat = r203 := (h_ai_same (hu56.2.1 (o + 1) (by omega))).trans m344
          have m359 : h_ai H56 (o + 1) (411 + 6 * r4.toInt).toNat = u1 := (h_ai_same (hu56.2.1 (o + 1) (by omega))).trans m345
          have m360 : h_ai H56 (o + 1) 11 = r215 := (h_ai_same (hu56.2.1 (o + 1) (by omega))).trans m346
          have m361 : h_ai H56 (o + 1) (412 + 6 * r4.toInt).toNat = r215 := (h_ai_same (hu56.2.1 (o + 1) (by omega))).trans m347
          have m362 : h_ai H56 (o + 1) 12 = r224 := (h_ai_same (hu56.2.1 (o + 1) (by omega))).trans m348
          have m363 : h_ai H56 (o + 1) (413 + 6 * r4.toInt).toNat = r224 := (h_ai_same (hu56.2.1 (o + 1) (by omega))).trans m349
          have m364 : h_ai H56 (o + 1) 3 = r235 := (h_ai_same (hu56.2.1 (o + 1) (by omega))).trans m350
          have m365 : h_ai H56 (o + 1) (414 + 6 * r4.toInt).toNat = r235 := (h_ai_same (hu56.2.1 (o + 1) (by omega))).trans m351
          have m366 : h_ai H56 (o + 1) (415 + 6 * r4.toInt).toNat = x3 := (h_ai_same (hu56.2.1 (o + 1) (by omega))).trans m352
          have m367 : h_ai H56 (o + 1) 31 = r4 := (h_ai_same (hu56.2.1 (o + 1) (by omega))).trans m353
          have m368 : h_ai H56 (o + 1) 30 = r340 := (h_ai_same (hu56.2.1 (o + 1) (by omega))).trans m354
          exact hret _ _ _ _ hT56 hS56 ⟨trivial, z356⟩ dX11_isGot_233
        · skip
          have c196 : ¬ (506 : Int) ≤ w1_3.toInt := h_nleI c196
          refine lv_aload_n hx hb dX11_isGot_35 rfl (lv_at hl 2 rfl) ?_
          refine lv_iload_n hx hb dX11_isGot_36 rfl (lv_at hl 0 rfl) ?_
          refine lv_aload_n hx hb dX11_isGot_37 rfl (lv_at hl 2 rfl) ?_
          refine lv_iload_n hx hb dX11_isGot_38 rfl (lv_at hl 0 rfl) ?_
          refine lv_bipush (v := 6) hx hb dX11_isGot_39 (by decide) ?_
          refine lv_iadd hx hb dX11_isGot_41 ?_
          obtain ⟨x369, qx369, ix369⟩ := h_addX w1_3 6 w1_3.toInt (6 : Int) rfl rfl (by omega) (by omega)
          refine h_top (v := x369) qx369 ?_
          refine h_callVi (T := TX11) (rest := [.int w1_3, .ref (o)]) (As := [.int x369]) hx hb hml hown hts hK hT29 hZ (fun _ h => h) hS29 (c_of l G Y P (o) hM x369 (6 + w1_3.toInt).toNat (show x369.toInt.toNat = (6 + w1_3.toInt).toNat from by omega) (h_vin (by omega) (by omega))) trivial wd_X11_of wV_X11_of wL_X11_47 (hM.o rfl) rfl rfl hl.1 rfl (Nat.le_of_ble_eq_true rfl) dX11_isGot_42 ⟨Nat.le_of_ble_eq_true rfl, Nat.le_of_ble_eq_true rfl⟩ ⟨Nat.zero_le _, Nat.zero_le _⟩ (fun r370 H57 locs hp57 hT57 hS57 hk57 => ?_)
          obtain ⟨hp57, he⟩ := hp57
          have he := he.symm
          subst he
          have mr370 : h_ai H29 (o + 1) (6 + w1_3.toInt).toNat = r370 := hp57.1.symm
          refine h_callVv (T := TX11) (rest := []) (As := [.int w1_3, .int r370]) hx hb hml hown hts hK hT29 hZ (fun _ h => h) hS57 (c_puts l G Y P (o) hM w1_3 r370 (w1_3.toInt).toNat (show w1_3.toInt.toNat = (w1_3.toInt).toNat from by omega) (h_vin (by omega) (by omega)) (mP_free (by unfold mFree; omega))) trivial wd_X11_puts wV_X11_puts wL_X11_43 (hM.o rfl) rfl rfl hl.1 rfl (Nat.le_of_ble_eq_true rfl) dX11_isGot_45 ⟨Nat.le_of_ble_eq_true rfl, Nat.le_of_ble_eq_true rfl⟩ ⟨Nat.zero_le _, Nat.zero_le _⟩ (fun H58 locs hp58 hT58 hS58 hk58 => ?_)
          have hp58 : h_apu H29 H58 (o + 1) (w1_3.toInt).toNat (.int r370) := hp58.2
          have z371 : ∀ j : Nat, mK j → h_ai H58 (o + 1) j = h_ai H0 (o + 1) j := fun j hj => (h_apn hp58 (by unfold mK at hj; omega)).trans (z194 j hj)
          have m372 : h_ai H58 (o + 1) 31 = r4 := (h_apn hp58 (by omega)).trans m195
          have m373 : h_ai H58 (o + 1) (6 + w1_3.toInt).toNat = r370 := (h_apn hp58 (by omega)).trans mr370
          have m374 : h_ai H58 (o + 1) (w1_3.toInt).toNat = r370 := h_aps hp58
          obtain ⟨x375, qx375, ix375⟩ := h_addX w1_3 1 w1_3.toInt (1 : Int) rfl rfl (by omega) (by omega)
          refine lv_iinc (v := x375) (lv' := [(3, .int x375), (2, .int x3), (0, .ref (o)), (1, .int u1)]) hx hb dX11_isGot_48 hl (k := 0) rfl qx375 (by decide) rfl (fun ls hl => ?_)
          refine lv_goto (tgt := 28) hx hb dX11_isGot_51 (by decide) ?_
          exact ih1 x375 _ (show 2147483647 - x375.toInt < (n1 : Int) from by omega) (show 416 ≤ x375.toInt from by omega) hT58 z371 m372 _ _ hS58 (lv_sub hl [0, 1, 2, 3] rfl)
    exact LP1 4294967296 416 _ (show 2147483647 - (416 : Int) < ((4294967296 : Nat) : Int) from by omega) (show 416 ≤ (416 : Int) from by omega) hT0 (fun _ _ => rfl) mr4 _ _ hS3 (lv_sub hl [0, 1, 2, 3] rfl)
set_option maxHeartbeats 4000000 in
set_option maxRecDepth 100000 in
theorem c_X11_beacons (l : Launch) (G : hG) (Y : hW) (P : Int32 → Prop) (o : Nat) (hM : h_On Y o (modE (tM P) o)) : hMv l yX11_beacons cX11_beacons 1 none 4 87 G Y [.ref (o)] (fun H => True) (fun H H1 => (True) ∧ (mE o H H1)) := by
  refine h_ofv (by decide +kernel) (Nat.le_of_ble_eq_true rfl) ?_
  intro p e s m args below meth c H0 ls Q hx hb hts hown hml hK hZ hT0 hpr hS0 hl hret
  have hl : lv_has ls 1 [(0, .ref (o))] := hl
  refine lv_aload_n hx hb dX11_beacons_0 rfl (lv_at hl 0 rfl) ?_
  refine lv_bipush (v := 18) hx hb dX11_beacons_1 (by decide) ?_
  refine lv_iconst (v := 2) hx hb dX11_beacons_3 (by decide) ?_
  refine h_callVv (T := TX11) (rest := []) (As := [.int 18, .int 2]) hx hb hml hown hts hK hT0 hZ (fun _ h => h) hS0 (c_puts l G Y P (o) hM 18 2 18 (by decide) (h_inc (by decide)) (mP_free (by unfold mFree; omega))) trivial wd_X11_puts wV_X11_puts wL_X11_43 (hM.o rfl) rfl rfl hl.1 rfl (Nat.le_of_ble_eq_true rfl) dX11_beacons_4 ⟨Nat.le_of_ble_eq_true rfl, Nat.le_of_ble_eq_true rfl⟩ ⟨Nat.zero_le _, Nat.zero_le _⟩ (fun H1 locs hp1 hT1 hS1 hk1 => ?_)
  have hp1 : h_apu H0 H1 (o + 1) 18 (.int 2) := hp1.2
  have z1 : ∀ j : Nat, mK j → h_ai H1 (o + 1) j = h_ai H0 (o + 1) j := fun j hj => (h_apn hp1 (by unfold mK at hj; omega))
  have m2 : h_ai H1 (o + 1) 18 = 2 := h_aps hp1
  refine lv_aload_n hx hb dX11_beacons_7 rfl (lv_at hl 0 rfl) ?_
  refine lv_bipush (v := 19) hx hb dX11_beacons_8 (by decide) ?_
  refine lv_aload_n hx hb dX11_beacons_10 rfl (lv_at hl 0 rfl) ?_
  refine lv_aload_n hx hb dX11_beacons_11 rfl (lv_at hl 0 rfl) ?_
  refine lv_bipush (v := 16) hx hb dX11_beacons_12 (by decide) ?_
  refine h_callVi (T := TX11) (rest := [.ref (o), .int 19, .ref (o)]) (As := [.int 16]) hx hb hml hown hts hK hT1 hZ (fun _ h => h) hS1 (c_of l G Y P (o) hM 16 16 (by decide) (h_inc (by decide))) trivial wd_X11_of wV_X11_of wL_X11_47 (hM.o rfl) rfl rfl hl.1 rfl (Nat.le_of_ble_eq_true rfl) dX11_beacons_14 ⟨Nat.le_of_ble_eq_true rfl, Nat.le_of_ble_eq_true rfl⟩ ⟨Nat.zero_le _, Nat.zero_le _⟩ (fun r3 H2 locs hp2 hT2 hS2 hk2 => ?_)
  obtain ⟨hp2, he⟩ := hp2
  have he := he.symm
  subst he
  have mr3 : h_ai H1 (o + 1) 16 = r3 := hp2.1.symm
  have br3 := mP_m1 hp2.2 (by omega)
  obtain ⟨v4, mv4⟩ : ∃ x, h_ai H1 (o + 1) 0 = x := ⟨_, rfl⟩
  have bv4 := mP_N (mP_cell hM hT1 (j := 0) (by omega)) (by omega)
  rw [mv4] at bv4
  refine h_callVi (T := TX11) (rest := [.int 19, .ref (o)]) (As := [.int r3]) hx hb hml hown hts hK hT1 hZ (fun _ h => h) hS2 (c_X11_isOn l G Y P (o) hM r3) trivial wd_X11_isOn wV_X11_isOn wL_X11_55 (hM.o rfl) rfl rfl hl.1 rfl (Nat.le_of_ble_eq_true rfl) dX11_beacons_17 ⟨Nat.le_of_ble_eq_true rfl, Nat.le_of_ble_eq_true rfl⟩ ⟨Nat.zero_le _, Nat.zero_le _⟩ (fun r5 H3 locs hp3 hT3 hS3 hk3 => ?_)
  obtain ⟨hp3, he⟩ := hp3
  have he := he.symm
  subst he
  have f6 : r5.toInt = 0 ∨ (0 ≤ r3.toInt ∧ r3.toInt < v4.toInt) := by have q := hp3.2; rw [mv4] at q; exact q
  refine lv_if_eq (tgt := 32) hx hb dX11_beacons_20 (by decide) (fun c7 => ?_) (fun c7 => ?_)
  · skip
    have c7 : r5.toInt = (0 : Int) := congrArg Int32.toInt c7
    refine lv_aload_n hx hb dX11_beacons_32 rfl (lv_at hl 0 rfl) ?_
    refine lv_aload_n hx hb dX11_beacons_33 rfl (lv_at hl 0 rfl) ?_
    refine lv_bipush (v := 16) hx hb dX11_beacons_34 (by decide) ?_
    refine h_callVi (T := TX11) (rest := [.ref (o), .int 19, .ref (o)]) (As := [.int 16]) hx hb hml hown hts hK hT1 hZ (fun _ h => h) hS3 (c_of l G Y P (o) hM 16 16 (by decide) (h_inc (by decide))) trivial wd_X11_of wV_X11_of wL_X11_47 (hM.o rfl) rfl rfl hl.1 rfl (Nat.le_of_ble_eq_true rfl) dX11_beacons_36 ⟨Nat.le_of_ble_eq_true rfl, Nat.le_of_ble_eq_true rfl⟩ ⟨Nat.zero_le _, Nat.zero_le _⟩ (fun r8 H4 locs hp4 hT4 hS4 hk4 => ?_)
    obtain ⟨hp4, he⟩ := hp4
    have he := he.symm
    subst he
    have hp4 : r3 = r8 := (hp4.1.trans mr3).symm
    subst hp4
    refine lv_iconst (v := (-1)) hx hb dX11_beacons_39 (by decide) ?_
    refine h_callVi (T := TX11) (rest := [.int 19, .ref (o)]) (As := [.int r3, .int (-1)]) hx hb hml hown hts hK hT1 hZ (fun _ h => h) hS4 (c_X11_nextOn l G Y P (o) hM r3 (-1)) trivial wd_X11_nextOn wV_X11_nextOn wL_X11_121 (hM.o rfl) rfl rfl hl.1 rfl (Nat.le_of_ble_eq_true rfl) dX11_beacons_40 ⟨Nat.le_of_ble_eq_true rfl, Nat.le_of_ble_eq_true rfl⟩ ⟨Nat.zero_le _, Nat.zero_le _⟩ (fun r9 H5 locs hp5 hT5 hS5 hk5 => ?_)
    obtain ⟨hp5, he⟩ := hp5
    have he := he.symm
    subst he
    have f10 : r9.toInt = -1 ∨ (0 ≤ r9.toInt ∧ r9.toInt < v4.toInt) := by have q := hp5; rw [mv4] at q; exact q
    refine h_callVv (T := TX11) (rest := []) (As := [.int 19, .int r9]) hx hb hml hown hts hK hT1 hZ (fun _ h => h) hS5 (c_puts l G Y P (o) hM 19 r9 19 (by decide) (h_inc (by decide)) (mP_of1 (by omega) (show -1 ≤ r9.toInt from by omega) (show r9.toInt ≤ 7 from by omega))) trivial wd_X11_puts wV_X11_puts wL_X11_43 (hM.o rfl) rfl rfl hl.1 rfl (Nat.le_of_ble_eq_true rfl) dX11_beacons_43 ⟨Nat.le_of_ble_eq_true rfl, Nat.le_of_ble_eq_true rfl⟩ ⟨Nat.zero_le _, Nat.zero_le _⟩ (fun H6 locs hp6 hT6 hS6 hk6 => ?_)
    have hp6 : h_apu H1 H6 (o + 1) 19 (.int r9) := hp6.2
    have z11 : ∀ j : Nat, mK j → h_ai H6 (o + 1) j = h_ai H0 (o + 1) j := fun j hj => (h_apn hp6 (by unfold mK at hj; omega)).trans (z1 j hj)
    have m12 : h_ai H6 (o + 1) 18 = 2 := (h_apn hp6 (by omega)).trans m2
    have m13 : h_ai H6 (o + 1) 16 = r3 := (h_apn hp6 (by omega)).trans mr3
    have m14 : h_ai H6 (o + 1) 0 = v4 := (h_apn hp6 (by omega)).trans mv4
    have m15 : h_ai H6 (o + 1) 19 = r9 := h_aps hp6
    refine lv_aload_n hx hb dX11_beacons_46 rfl (lv_at hl 0 rfl) ?_
    refine lv_bipush (v := 20) hx hb dX11_beacons_47 (by decide) ?_
    refine lv_aload_n hx hb dX11_beacons_49 rfl (lv_at hl 0 rfl) ?_
    refine lv_aload_n hx hb dX11_beacons_50 rfl (lv_at hl 0 rfl) ?_
    refine lv_bipush (v := 16) hx hb dX11_beacons_51 (by decide) ?_
    refine h_callVi (T := TX11) (rest := [.ref (o), .int 20, .ref (o)]) (As := [.int 16]) hx hb hml hown hts hK hT6 hZ (fun _ h => h) hS6 (c_of l G Y P (o) hM 16 16 (by decide) (h_inc (by decide))) trivial wd_X11_of wV_X11_of wL_X11_47 (hM.o rfl) rfl rfl hl.1 rfl (Nat.le_of_ble_eq_true rfl) dX11_beacons_53 ⟨Nat.le_of_ble_eq_true rfl, Nat.le_of_ble_eq_true rfl⟩ ⟨Nat.zero_le _, Nat.zero_le _⟩ (fun r16 H7 locs hp7 hT7 hS7 hk7 => ?_)
    obtain ⟨hp7, he⟩ := hp7
    have he := he.symm
    subst he
    have hp7 : r3 = r16 := (hp7.1.trans m13).symm
    subst hp7
    refine lv_iconst (v := 1) hx hb dX11_beacons_56 (by decide) ?_
    refine h_callVi (T := TX11) (rest := [.int 20, .ref (o)]) (As := [.int r3, .int 1]) hx hb hml hown hts hK hT6 hZ (fun _ h => h) hS7 (c_X11_nextOn l G Y P (o) hM r3 1) trivial wd_X11_nextOn wV_X11_nextOn wL_X11_121 (hM.o rfl) rfl rfl hl.1 rfl (Nat.le_of_ble_eq_true rfl) dX11_beacons_57 ⟨Nat.le_of_ble_eq_true rfl, Nat.le_of_ble_eq_true rfl⟩ ⟨Nat.zero_le _, Nat.zero_le _⟩ (fun r17 H8 locs hp8 hT8 hS8 hk8 => ?_)
    obtain ⟨hp8, he⟩ := hp8
    have he := he.symm
    subst he
    have f18 : r17.toInt = -1 ∨ (0 ≤ r17.toInt ∧ r17.toInt < v4.toInt) := by have q := hp8; rw [m14] at q; exact q
    refine h_callVv (T := TX11) (rest := []) (As := [.int 20, .int r17]) hx hb hml hown hts hK hT6 hZ (fun _ h => h) hS8 (c_puts l G Y P (o) hM 20 r17 20 (by decide) (h_inc (by decide)) (mP_of1 (by omega) (show -1 ≤ r17.toInt from by omega) (show r17.toInt ≤ 7 from by omega))) trivial wd_X11_puts wV_X11_puts wL_X11_43 (hM.o rfl) rfl rfl hl.1 rfl (Nat.le_of_ble_eq_true rfl) dX11_beacons_60 ⟨Nat.le_of_ble_eq_true rfl, Nat.le_of_ble_eq_true rfl⟩ ⟨Nat.zero_le _, Nat.zero_le _⟩ (fun H9 locs hp9 hT9 hS9 hk9 => ?_)
    have hp9 : h_apu H6 H9 (o + 1) 20 (.int r17) := hp9.2
    have z19 : ∀ j : Nat, mK j → h_ai H9 (o + 1) j = h_ai H0 (o + 1) j := fun j hj => (h_apn hp9 (by unfold mK at hj; omega)).trans (z11 j hj)
    have m20 : h_ai H9 (o + 1) 18 = 2 := (h_apn hp9 (by omega)).trans m12
    have m21 : h_ai H9 (o + 1) 16 = r3 := (h_apn hp9 (by omega)).trans m13
    have m22 : h_ai H9 (o + 1) 0 = v4 := (h_apn hp9 (by omega)).trans m14
    have m23 : h_ai H9 (o + 1) 19 = r9 := (h_apn hp9 (by omega)).trans m15
    have m24 : h_ai H9 (o + 1) 20 = r17 := h_aps hp9
    refine lv_aload_n hx hb dX11_beacons_63 rfl (lv_at hl 0 rfl) ?_
    refine lv_bipush (v := 26) hx hb dX11_beacons_64 (by decide) ?_
    refine lv_iconst (v := 1) hx hb dX11_beacons_66 (by decide) ?_
    refine h_callVv (T := TX11) (rest := []) (As := [.int 26, .int 1]) hx hb hml hown hts hK hT9 hZ (fun _ h => h) hS9 (c_adds l G Y P (o) hM 26 1 26 (by decide) (h_inc (by decide))) (show mP 26 (h_ai H9 (o + 1) 26 + 1) from (mP_free (by unfold mFree; omega))) wd_X11_adds wV_X11_adds wL_X11_69 (hM.o rfl) rfl rfl hl.1 rfl (Nat.le_of_ble_eq_true rfl) dX11_beacons_67 ⟨Nat.le_of_ble_eq_true rfl, Nat.le_of_ble_eq_true rfl⟩ ⟨Nat.zero_le _, Nat.zero_le _⟩ (fun H10 locs hp10 hT10 hS10 hk10 => ?_)
    have hp10 : h_apu H9 H10 (o + 1) 26 (.int (h_ai H9 (o + 1) 26 + 1)) := hp10.2
    have z25 : ∀ j : Nat, mK j → h_ai H10 (o + 1) j = h_ai H0 (o + 1) j := fun j hj => (h_apn hp10 (by unfold mK at hj; omega)).trans (z19 j hj)
    have m26 : h_ai H10 (o + 1) 18 = 2 := (h_apn hp10 (by omega)).trans m20
    have m27 : h_ai H10 (o + 1) 16 = r3 := (h_apn hp10 (by omega)).trans m21
    have m28 : h_ai H10 (o + 1) 0 = v4 := (h_apn hp10 (by omega)).trans m22
    have m29 : h_ai H10 (o + 1) 19 = r9 := (h_apn hp10 (by omega)).trans m23
    have m30 : h_ai H10 (o + 1) 20 = r17 := (h_apn hp10 (by omega)).trans m24
    refine lv_aload_n hx hb dX11_beacons_70 rfl (lv_at hl 0 rfl) ?_
    refine lv_iconst (v := 5) hx hb dX11_beacons_71 (by decide) ?_
    refine lv_aload_n hx hb dX11_beacons_72 rfl (lv_at hl 0 rfl) ?_
    refine lv_bipush (v := 19) hx hb dX11_beacons_73 (by decide) ?_
    refine h_callVi (T := TX11) (rest := [.int 5, .ref (o)]) (As := [.int 19]) hx hb hml hown hts hK hT10 hZ (fun _ h => h) hS10 (c_of l G Y P (o) hM 19 19 (by decide) (h_inc (by decide))) trivial wd_X11_of wV_X11_of wL_X11_47 (hM.o rfl) rfl rfl hl.1 rfl (Nat.le_of_ble_eq_true rfl) dX11_beacons_75 ⟨Nat.le_of_ble_eq_true rfl, Nat.le_of_ble_eq_true rfl⟩ ⟨Nat.zero_le _, Nat.zero_le _⟩ (fun r31 H11 locs hp11 hT11 hS11 hk11 => ?_)
    obtain ⟨hp11, he⟩ := hp11
    have he := he.symm
    subst he
    have hp11 : r9 = r31 := (hp11.1.trans m29).symm
    subst hp11
    refine h_callVv (T := TX11) (rest := []) (As := [.int 5, .int r9]) hx hb hml hown hts hK hT10 hZ (fun _ h => h) hS11 (c_X11_happens l G Y P (o) hM 5 r9) trivial wd_X11_happens wV_X11_happens wL_X11_72 (hM.o rfl) rfl rfl hl.1 rfl (Nat.le_of_ble_eq_true rfl) dX11_beacons_78 ⟨Nat.le_of_ble_eq_true rfl, Nat.le_of_ble_eq_true rfl⟩ ⟨Nat.zero_le _, Nat.zero_le _⟩ (fun H12 locs hp12 hT12 hS12 hk12 => ?_)
    obtain ⟨hp12, hB12⟩ := hp12
    have z32 : ∀ j : Nat, mK j → h_ai H12 (o + 1) j = h_ai H0 (o + 1) j := fun j hj => (hB12 j hj).trans (z25 j hj)
    have m33 : h_ai H12 (o + 1) 16 = r3 := (hB12 _ (by unfold mK; omega)).trans m27
    have m34 : h_ai H12 (o + 1) 0 = v4 := (hB12 _ (by unfold mK; omega)).trans m28
    exact hret _ _ _ _ hT12 hS12 ⟨trivial, z32⟩ dX11_beacons_81
  · skip
    have c7 : ¬ r5.toInt = (0 : Int) := h_neI c7
    refine lv_aload_n hx hb dX11_beacons_23 rfl (lv_at hl 0 rfl) ?_
    refine lv_bipush (v := 16) hx hb dX11_beacons_24 (by decide) ?_
    refine h_callVi (T := TX11) (rest := [.int 19, .ref (o)]) (As := [.int 16]) hx hb hml hown hts hK hT1 hZ (fun _ h => h) hS3 (c_of l G Y P (o) hM 16 16 (by decide) (h_inc (by decide))) trivial wd_X11_of wV_X11_of wL_X11_47 (hM.o rfl) rfl rfl hl.1 rfl (Nat.le_of_ble_eq_true rfl) dX11_beacons_26 ⟨Nat.le_of_ble_eq_true rfl, Nat.le_of_ble_eq_true rfl⟩ ⟨Nat.zero_le _, Nat.zero_le _⟩ (fun r35 H13 locs hp13 hT13 hS13 hk13 => ?_)
    obtain ⟨hp13, he⟩ := hp13
    have he := he.symm
    subst he
    have hp13 : r3 = r35 := (hp13.1.trans mr3).symm
    subst hp13
    refine lv_goto (tgt := 43) hx hb dX11_beacons_29 (by decide) ?_
    refine h_callVv (T := TX11) (rest := []) (As := [.int 19, .int r3]) hx hb hml hown hts hK hT1 hZ (fun _ h => h) hS13 (c_puts l G Y P (o) hM 19 r3 19 (by decide) (h_inc (by decide)) (mP_of1 (by omega) (show -1 ≤ r3.toInt from by omega) (show r3.toInt ≤ 7 from by omega))) trivial wd_X11_puts wV_X11_puts wL_X11_43 (hM.o rfl) rfl rfl hl.1 rfl (Nat.le_of_ble_eq_true rfl) dX11_beacons_43 ⟨Nat.le_of_ble_eq_true rfl, Nat.le_of_ble_eq_true rfl⟩ ⟨Nat.zero_le _, Nat.zero_le _⟩ (fun H14 locs hp14 hT14 hS14 hk14 => ?_)
    have hp14 : h_apu H1 H14 (o + 1) 19 (.int r3) := hp14.2
    have z36 : ∀ j : Nat, mK j → h_ai H14 (o + 1) j = h_ai H0 (o + 1) j := fun j hj => (h_apn hp14 (by unfold mK at hj; omega)).trans (z1 j hj)
    have m37 : h_ai H14 (o + 1) 18 = 2 := (h_apn hp14 (by omega)).trans m2
    have m38 : h_ai H14 (o + 1) 16 = r3 := (h_apn hp14 (by omega)).trans mr3
    have m39 : h_ai H14 (o + 1) 0 = v4 := (h_apn hp14 (by omega)).trans mv4
    have m40 : h_ai H14 (o + 1) 19 = r3 := h_aps hp14
    refine lv_aload_n hx hb dX11_beacons_46 rfl (lv_at hl 0 rfl) ?_
    refine lv_bipush (v := 20) hx hb dX11_beacons_47 (by decide) ?_
    refine lv_aload_n hx hb dX11_beacons_49 rfl (lv_at hl 0 rfl) ?_
    refine lv_aload_n hx hb dX11_beacons_50 rfl (lv_at hl 0 rfl) ?_
    refine lv_bipush (v := 16) hx hb dX11_beacons_51 (by decide) ?_
    refine h_callVi (T := TX11) (rest := [.ref (o), .int 20, .ref (o)]) (As := [.int 16]) hx hb hml hown hts hK hT14 hZ (fun _ h => h) hS14 (c_of l G Y P (o) hM 16 16 (by decide) (h_inc (by decide))) trivial wd_X11_of wV_X11_of wL_X11_47 (hM.o rfl) rfl rfl hl.1 rfl (Nat.le_of_ble_eq_true rfl) dX11_beacons_53 ⟨Nat.le_of_ble_eq_true rfl, Nat.le_of_ble_eq_true rfl⟩ ⟨Nat.zero_le _, Nat.zero_le _⟩ (fun r41 H15 locs hp15 hT15 hS15 hk15 => ?_)
    obtain ⟨hp15, he⟩ := hp15
    have he := he.symm
    subst he
    have hp15 : r3 = r41 := (hp15.1.trans m38).symm
    subst hp15
    refine lv_iconst (v := 1) hx hb dX11_beacons_56 (by decide) ?_
    refine h_callVi (T := TX11) (rest := [.int 20, .ref (o)]) (As := [.int r3, .int 1]) hx hb hml hown hts hK hT14 hZ (fun _ h => h) hS15 (c_X11_nextOn l G Y P (o) hM r3 1) trivial wd_X11_nextOn wV_X11_nextOn wL_X11_121 (hM.o rfl) rfl rfl hl.1 rfl (Nat.le_of_ble_eq_true rfl) dX11_beacons_57 ⟨Nat.le_of_ble_eq_true rfl, Nat.le_of_ble_eq_true rfl⟩ ⟨Nat.zero_le _, Nat.zero_le _⟩ (fun r42 H16 locs hp16 hT16 hS16 hk16 => ?_)
    obtain ⟨hp16, he⟩ := hp16
    have he := he.symm
    subst he
    have f43 : r42.toInt = -1 ∨ (0 ≤ r42.toInt ∧ r42.toInt < v4.toInt) := by have q := hp16; rw [m39] at q; exact q
    refine h_callVv (T := TX11) (rest := []) (As := [.int 20, .int r42]) hx hb hml hown hts hK hT14 hZ (fun _ h => h) hS16 (c_puts l G Y P (o) hM 20 r42 20 (by decide) (h_inc (by decide)) (mP_of1 (by omega) (show -1 ≤ r42.toInt from by omega) (show r42.toInt ≤ 7 from by omega))) trivial wd_X11_puts wV_X11_puts wL_X11_43 (hM.o rfl) rfl rfl hl.1 rfl (Nat.le_of_ble_eq_true rfl) dX11_beacons_60 ⟨Nat.le_of_ble_eq_true rfl, Nat.le_of_ble_eq_true rfl⟩ ⟨Nat.zero_le _, Nat.zero_le _⟩ (fun H17 locs hp17 hT17 hS17 hk17 => ?_)
    have hp17 : h_apu H14 H17 (o + 1) 20 (.int r42) := hp17.2
    have z44 : ∀ j : Nat, mK j → h_ai H17 (o + 1) j = h_ai H0 (o + 1) j := fun j hj => (h_apn hp17 (by unfold mK at hj; omega)).trans (z36 j hj)
    have m45 : h_ai H17 (o + 1) 18 = 2 := (h_apn hp17 (by omega)).trans m37
    have m46 : h_ai H17 (o + 1) 16 = r3 := (h_apn hp17 (by omega)).trans m38
    have m47 : h_ai H17 (o + 1) 0 = v4 := (h_apn hp17 (by omega)).trans m39
    have m48 : h_ai H17 (o + 1) 19 = r3 := (h_apn hp17 (by omega)).trans m40
    have m49 : h_ai H17 (o + 1) 20 = r42 := h_aps hp17
    refine lv_aload_n hx hb dX11_beacons_63 rfl (lv_at hl 0 rfl) ?_
    refine lv_bipush (v := 26) hx hb dX11_beacons_64 (by decide) ?_
    refine lv_iconst (v := 1) hx hb dX11_beacons_66 (by decide) ?_
    refine h_callVv (T := TX11) (rest := []) (As := [.int 26, .int 1]) hx hb hml hown hts hK hT17 hZ (fun _ h => h) hS17 (c_adds l G Y P (o) hM 26 1 26 (by decide) (h_inc (by decide))) (show mP 26 (h_ai H17 (o + 1) 26 + 1) from (mP_free (by unfold mFree; omega))) wd_X11_adds wV_X11_adds wL_X11_69 (hM.o rfl) rfl rfl hl.1 rfl (Nat.le_of_ble_eq_true rfl) dX11_beacons_67 ⟨Nat.le_of_ble_eq_true rfl, Nat.le_of_ble_eq_true rfl⟩ ⟨Nat.zero_le _, Nat.zero_le _⟩ (fun H18 locs hp18 hT18 hS18 hk18 => ?_)
    have hp18 : h_apu H17 H18 (o + 1) 26 (.int (h_ai H17 (o + 1) 26 + 1)) := hp18.2
    have z50 : ∀ j : Nat, mK j → h_ai H18 (o + 1) j = h_ai H0 (o + 1) j := fun j hj => (h_apn hp18 (by unfold mK at hj; omega)).trans (z44 j hj)
    have m51 : h_ai H18 (o + 1) 18 = 2 := (h_apn hp18 (by omega)).trans m45
    have m52 : h_ai H18 (o + 1) 16 = r3 := (h_apn hp18 (by omega)).trans m46
    have m53 : h_ai H18 (o + 1) 0 = v4 := (h_apn hp18 (by omega)).trans m47
    have m54 : h_ai H18 (o + 1) 19 = r3 := (h_apn hp18 (by omega)).trans m48
    have m55 : h_ai H18 (o + 1) 20 = r42 := (h_apn hp18 (by omega)).trans m49
    refine lv_aload_n hx hb dX11_beacons_70 rfl (lv_at hl 0 rfl) ?_
    refine lv_iconst (v := 5) hx hb dX11_beacons_71 (by decide) ?_
    refine lv_aload_n hx hb dX11_beacons_72 rfl (lv_at hl 0 rfl) ?_
    refine lv_bipush (v := 19) hx hb dX11_beacons_73 (by decide) ?_
    refine h_callVi (T := TX11) (rest := [.int 5, .ref (o)]) (As := [.int 19]) hx hb hml hown hts hK hT18 hZ (fun _ h => h) hS18 (c_of l G Y P (o) hM 19 19 (by decide) (h_inc (by decide))) trivial wd_X11_of wV_X11_of wL_X11_47 (hM.o rfl) rfl rfl hl.1 rfl (Nat.le_of_ble_eq_true rfl) dX11_beacons_75 ⟨Nat.le_of_ble_eq_true rfl, Nat.le_of_ble_eq_true rfl⟩ ⟨Nat.zero_le _, Nat.zero_le _⟩ (fun r56 H19 locs hp19 hT19 hS19 hk19 => ?_)
    obtain ⟨hp19, he⟩ := hp19
    have he := he.symm
    subst he
    have hp19 : r3 = r56 := (hp19.1.trans m54).symm
    subst hp19
    refine h_callVv (T := TX11) (rest := []) (As := [.int 5, .int r3]) hx hb hml hown hts hK hT18 hZ (fun _ h => h) hS19 (c_X11_happens l G Y P (o) hM 5 r3) trivial wd_X11_happens wV_X11_happens wL_X11_72 (hM.o rfl) rfl rfl hl.1 rfl (Nat.le_of_ble_eq_true rfl) dX11_beacons_78 ⟨Nat.le_of_ble_eq_true rfl, Nat.le_of_ble_eq_true rfl⟩ ⟨Nat.zero_le _, Nat.zero_le _⟩ (fun H20 locs hp20 hT20 hS20 hk20 => ?_)
    obtain ⟨hp20, hB20⟩ := hp20
    have z57 : ∀ j : Nat, mK j → h_ai H20 (o + 1) j = h_ai H0 (o + 1) j := fun j hj => (hB20 j hj).trans (z50 j hj)
    have m58 : h_ai H20 (o + 1) 16 = r3 := (hB20 _ (by unfold mK; omega)).trans m52
    have m59 : h_ai H20 (o + 1) 0 = v4 := (hB20 _ (by unfold mK; omega)).trans m53
    exact hret _ _ _ _ hT20 hS20 ⟨trivial, z57⟩ dX11_beacons_81
set_option maxHeartbeats 4000000 in
set_option maxRecDepth 100000 in
theorem c_X11_claims (l : Launch) (G : hG) (Y : hW) (P : Int32 → Prop) (o : Nat) (hM : h_On Y o (modE (tM P) o)) : hMv l yX11_claims cX11_claims 1 none 4 85 G Y [.ref (o)] (fun H => True) (fun H H1 => (True) ∧ (mE o H H1)) := by
  refine h_ofv (by decide +kernel) (Nat.le_of_ble_eq_true rfl) ?_
  intro p e s m args below meth c H0 ls Q hx hb hts hown hml hK hZ hT0 hpr hS0 hl hret
  have hl : lv_has ls 1 [(0, .ref (o))] := hl
  refine lv_aload_n hx hb dX11_claims_0 rfl (lv_at hl 0 rfl) ?_
  refine lv_bipush (v := 18) hx hb dX11_claims_1 (by decide) ?_
  refine lv_iconst (v := 1) hx hb dX11_claims_3 (by decide) ?_
  refine h_callVv (T := TX11) (rest := []) (As := [.int 18, .int 1]) hx hb hml hown hts hK hT0 hZ (fun _ h => h) hS0 (c_puts l G Y P (o) hM 18 1 18 (by decide) (h_inc (by decide)) (mP_free (by unfold mFree; omega))) trivial wd_X11_puts wV_X11_puts wL_X11_43 (hM.o rfl) rfl rfl hl.1 rfl (Nat.le_of_ble_eq_true rfl) dX11_claims_4 ⟨Nat.le_of_ble_eq_true rfl, Nat.le_of_ble_eq_true rfl⟩ ⟨Nat.zero_le _, Nat.zero_le _⟩ (fun H1 locs hp1 hT1 hS1 hk1 => ?_)
  have hp1 : h_apu H0 H1 (o + 1) 18 (.int 1) := hp1.2
  have z1 : ∀ j : Nat, mK j → h_ai H1 (o + 1) j = h_ai H0 (o + 1) j := fun j hj => (h_apn hp1 (by unfold mK at hj; omega))
  have m2 : h_ai H1 (o + 1) 18 = 1 := h_aps hp1
  refine lv_aload_n hx hb dX11_claims_7 rfl (lv_at hl 0 rfl) ?_
  refine lv_bipush (v := 25) hx hb dX11_claims_8 (by decide) ?_
  refine lv_iconst (v := 1) hx hb dX11_claims_10 (by decide) ?_
  refine h_callVv (T := TX11) (rest := []) (As := [.int 25, .int 1]) hx hb hml hown hts hK hT1 hZ (fun _ h => h) hS1 (c_adds l G Y P (o) hM 25 1 25 (by decide) (h_inc (by decide))) (show mP 25 (h_ai H1 (o + 1) 25 + 1) from (mP_free (by unfold mFree; omega))) wd_X11_adds wV_X11_adds wL_X11_69 (hM.o rfl) rfl rfl hl.1 rfl (Nat.le_of_ble_eq_true rfl) dX11_claims_11 ⟨Nat.le_of_ble_eq_true rfl, Nat.le_of_ble_eq_true rfl⟩ ⟨Nat.zero_le _, Nat.zero_le _⟩ (fun H2 locs hp2 hT2 hS2 hk2 => ?_)
  have hp2 : h_apu H1 H2 (o + 1) 25 (.int (h_ai H1 (o + 1) 25 + 1)) := hp2.2
  have z3 : ∀ j : Nat, mK j → h_ai H2 (o + 1) j = h_ai H0 (o + 1) j := fun j hj => (h_apn hp2 (by unfold mK at hj; omega)).trans (z1 j hj)
  have m4 : h_ai H2 (o + 1) 18 = 1 := (h_apn hp2 (by omega)).trans m2
  refine lv_aload_n hx hb dX11_claims_14 rfl (lv_at hl 0 rfl) ?_
  refine lv_iconst (v := 4) hx hb dX11_claims_15 (by decide) ?_
  refine lv_aload_n hx hb dX11_claims_16 rfl (lv_at hl 0 rfl) ?_
  obtain ⟨v5, mv5⟩ : ∃ x, h_ai H2 (o + 1) 0 = x := ⟨_, rfl⟩
  have bv5 := mP_N (mP_cell hM hT2 (j := 0) (by omega)) (by omega)
  rw [mv5] at bv5
  refine h_callVi (T := TX11) (rest := [.int 4, .ref (o)]) (As := []) hx hb hml hown hts hK hT2 hZ (fun _ h => h) hS2 (c_X11_heirNow l G Y P (o) hM) trivial wd_X11_heirNow wV_X11_heirNow wL_X11_146 (hM.o rfl) rfl rfl hl.1 rfl (Nat.le_of_ble_eq_true rfl) dX11_claims_17 ⟨Nat.le_of_ble_eq_true rfl, Nat.le_of_ble_eq_true rfl⟩ ⟨Nat.zero_le _, Nat.zero_le _⟩ (fun r6 H3 locs hp3 hT3 hS3 hk3 => ?_)
  obtain ⟨hp3, he⟩ := hp3
  have he := he.symm
  subst he
  have f7 : r6.toInt = -1 ∨ (0 ≤ r6.toInt ∧ r6.toInt < v5.toInt) := by have q := hp3; rw [mv5] at q; exact q
  refine h_callVv (T := TX11) (rest := []) (As := [.int 4, .int r6]) hx hb hml hown hts hK hT2 hZ (fun _ h => h) hS3 (c_X11_happens l G Y P (o) hM 4 r6) trivial wd_X11_happens wV_X11_happens wL_X11_72 (hM.o rfl) rfl rfl hl.1 rfl (Nat.le_of_ble_eq_true rfl) dX11_claims_20 ⟨Nat.le_of_ble_eq_true rfl, Nat.le_of_ble_eq_true rfl⟩ ⟨Nat.zero_le _, Nat.zero_le _⟩ (fun H4 locs hp4 hT4 hS4 hk4 => ?_)
  obtain ⟨hp4, hB4⟩ := hp4
  have z8 : ∀ j : Nat, mK j → h_ai H4 (o + 1) j = h_ai H0 (o + 1) j := fun j hj => (hB4 j hj).trans (z3 j hj)
  have m9 : h_ai H4 (o + 1) 0 = v5 := (hB4 _ (by unfold mK; omega)).trans mv5
  exact hret _ _ _ _ hT4 hS4 ⟨trivial, z8⟩ dX11_claims_23
