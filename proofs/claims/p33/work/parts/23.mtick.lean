set_option maxHeartbeats 4000000 in
set_option maxRecDepth 100000 in
theorem c_X11_purges (l : Launch) (G : hG) (Y : hW) (P : Int32 → Prop) (o : Nat) (hM : h_On Y o (modE (tM P) o)) : hMv l yX11_purges cX11_purges 2 none 3 65 G Y [.ref (o)] (fun H => mR o H) (fun H H1 => (True) ∧ (mR o H1 ∧ mU o H H1)) := by
  refine h_ofv (by decide +kernel) (Nat.le_of_ble_eq_true rfl) ?_
  intro p e s m args below meth c H0 ls Q hx hb hts hown hml hK hZ hT0 hpr hS0 hl hret
  have hl : lv_has ls 2 [(0, .ref (o))] := hl
  refine lv_iconst (v := 0) hx hb dX11_purges_0 (by decide) ?_
  refine lv_istore_n (lv' := [(1, .int 0), (0, .ref (o))]) hx hb dX11_purges_1 rfl hl (by decide) rfl (fun ls hl => ?_)
  obtain ⟨v1, mv1⟩ : ∃ x, h_ai H0 (o + 1) 0 = x := ⟨_, rfl⟩
  have bv1 := mP_N (mP_cell hM hT0 (j := 0) (by omega)) (by omega)
  rw [mv1] at bv1
  have LP1 : ∀ (n1 : Nat) (w1_1 : Int32) (H1 : Heap), (2147483647 - w1_1.toInt < (n1 : Int)) → (0 ≤ w1_1.toInt) → (hT G Y H1) → (∀ j : Nat, (j = 0 ∨ 600 ≤ j) → h_ai H1 (o + 1) j = h_ai H0 (o + 1) j) → (mR o H1) → (h_ai H1 (o + 1) 0 = v1) → (∀ j : Nat, (j : Int) < w1_1.toInt → h_ai H1 (o + 1) (88 + j) = 0) → ∀ (locs : List Loc) (ls : Array Slot), va_S (h_A Y) s.heap H1 locs → lv_has ls 2 [(1, .int w1_1), (0, .ref (o))] → W p l e (h_rm 3 65) s m args below meth c H1 locs 0 0 Q (F0 m 2 ls []) := by
    intro n1
    induction n1 with
    | zero =>
      intro w1_1 H1 hm hlo1_1
      intros
      exfalso
      have := Int32.toInt_lt w1_1; have := Int32.le_toInt w1_1
      omega
    | succ n1 ih1 =>
      intro w1_1 H1 hm hlo1_1 hT1 z2 R3 m4 hh1_0 locs ls hS1 hl
      refine lv_iload_n hx hb dX11_purges_2 rfl (lv_at hl 0 rfl) ?_
      refine lv_aload_n hx hb dX11_purges_3 rfl (lv_at hl 1 rfl) ?_
      refine lv_iconst (v := 0) hx hb dX11_purges_4 (by decide) ?_
      refine h_callVi (T := TX11) (rest := [.int w1_1]) (As := [.int 0]) hx hb hml hown hts hK hT1 hZ (fun _ h => h) hS1 (c_of l G Y P (o) hM 0 0 (by decide) (h_inc (by decide))) trivial wd_X11_of wV_X11_of wL_X11_47 (hM.o rfl) rfl rfl hl.1 rfl (Nat.le_of_ble_eq_true rfl) dX11_purges_5 ⟨Nat.le_of_ble_eq_true rfl, Nat.le_of_ble_eq_true rfl⟩ ⟨Nat.zero_le _, Nat.zero_le _⟩ (fun r5 H3 locs hp3 hT3 hS3 hk3 => ?_)
      obtain ⟨hp3, he⟩ := hp3
      have he := he.symm
      subst he
      have hp3 : v1 = r5 := (hp3.1.trans m4).symm
      subst hp3
      refine lv_icmp_ge (tgt := 22) hx hb dX11_purges_8 (by decide) (fun c6 => ?_) (fun c6 => ?_)
      · skip
        have c6 : v1.toInt ≤ w1_1.toInt := Int32.le_iff_toInt_le.mp c6
        have nr7 : ∀ s : Nat, s < 8 → (h_ai H1 (o + 1) (88 + s)).toInt ≤ 0 := fun s hs => if q : (s : Int) < w1_1.toInt then (by rw [hh1_0 s q]; decide) else mR_none R3 s hs (by rw [m4]; omega)
        refine lv_aload_n hx hb dX11_purges_22 rfl (lv_at hl 1 rfl) ?_
        refine lv_iconst (v := 5) hx hb dX11_purges_23 (by decide) ?_
        refine h_callVi (T := TX11) (rest := []) (As := [.int 5]) hx hb hml hown hts hK hT1 hZ (fun _ h => h) hS3 (c_of l G Y P (o) hM 5 5 (by decide) (h_inc (by decide))) trivial wd_X11_of wV_X11_of wL_X11_47 (hM.o rfl) rfl rfl hl.1 rfl (Nat.le_of_ble_eq_true rfl) dX11_purges_24 ⟨Nat.le_of_ble_eq_true rfl, Nat.le_of_ble_eq_true rfl⟩ ⟨Nat.zero_le _, Nat.zero_le _⟩ (fun r8 H4 locs hp4 hT4 hS4 hk4 => ?_)
        obtain ⟨hp4, he⟩ := hp4
        have he := he.symm
        subst he
        have mr8 : h_ai H1 (o + 1) 5 = r8 := hp4.1.symm
        refine lv_iconst (v := 2) hx hb dX11_purges_27 (by decide) ?_
        refine lv_icmp_ne (tgt := 35) hx hb dX11_purges_28 (by decide) (fun c9 => ?_) (fun c9 => ?_)
        · skip
          have c9 : ¬ r8.toInt = (2 : Int) := h_neI c9
          refine lv_aload_n hx hb dX11_purges_35 rfl (lv_at hl 1 rfl) ?_
          refine lv_iconst (v := 5) hx hb dX11_purges_36 (by decide) ?_
          refine lv_iconst (v := 1) hx hb dX11_purges_37 (by decide) ?_
          refine h_callVv (T := TX11) (rest := []) (As := [.int 5, .int 1]) hx hb hml hown hts hK hT1 hZ (fun _ h => h) hS4 (c_puts l G Y P (o) hM 5 1 5 (by decide) (h_inc (by decide)) (mP_free (by unfold mFree; omega))) trivial wd_X11_puts wV_X11_puts wL_X11_43 (hM.o rfl) rfl rfl hl.1 rfl (Nat.le_of_ble_eq_true rfl) dX11_purges_38 ⟨Nat.le_of_ble_eq_true rfl, Nat.le_of_ble_eq_true rfl⟩ ⟨Nat.zero_le _, Nat.zero_le _⟩ (fun H5 locs hp5 hT5 hS5 hk5 => ?_)
          have hp5 : h_apu H1 H5 (o + 1) 5 (.int 1) := hp5.2
          have z10 : ∀ j : Nat, (j = 0 ∨ 600 ≤ j) → h_ai H5 (o + 1) j = h_ai H0 (o + 1) j := fun j hj => (h_apn hp5 (by omega)).trans (z2 j hj)
          have m11 : h_ai H5 (o + 1) 0 = v1 := (h_apn hp5 (by omega)).trans m4
          have R12 : mR o H5 := R3.keep (fun j hj => h_apn hp5 (by unfold mK at hj; omega))
          have nr13 : ∀ s : Nat, s < 8 → (h_ai H5 (o + 1) (88 + s)).toInt ≤ 0 := fun s hs => by rw [h_apn hp5 (by omega)]; exact nr7 s hs
          have m14 : h_ai H5 (o + 1) 5 = 1 := h_aps hp5
          refine lv_aload_n hx hb dX11_purges_41 rfl (lv_at hl 1 rfl) ?_
          refine lv_bipush (v := 6) hx hb dX11_purges_42 (by decide) ?_
          refine lv_aload_n hx hb dX11_purges_44 rfl (lv_at hl 1 rfl) ?_
          refine lv_iconst (v := 1) hx hb dX11_purges_45 (by decide) ?_
          refine h_callVi (T := TX11) (rest := [.int 6, .ref (o)]) (As := [.int 1]) hx hb hml hown hts hK hT5 hZ (fun _ h => h) hS5 (c_of l G Y P (o) hM 1 1 (by decide) (h_inc (by decide))) trivial wd_X11_of wV_X11_of wL_X11_47 (hM.o rfl) rfl rfl hl.1 rfl (Nat.le_of_ble_eq_true rfl) dX11_purges_46 ⟨Nat.le_of_ble_eq_true rfl, Nat.le_of_ble_eq_true rfl⟩ ⟨Nat.zero_le _, Nat.zero_le _⟩ (fun r15 H6 locs hp6 hT6 hS6 hk6 => ?_)
          obtain ⟨hp6, he⟩ := hp6
          have he := he.symm
          subst he
          have mr15 : h_ai H5 (o + 1) 1 = r15 := hp6.1.symm
          have br15 := mP_m1 hp6.2 (by omega)
          refine h_callVv (T := TX11) (rest := []) (As := [.int 6, .int r15]) hx hb hml hown hts hK hT5 hZ (fun _ h => h) hS6 (c_puts l G Y P (o) hM 6 r15 6 (by decide) (h_inc (by decide)) (mP_of1 (by omega) (show -1 ≤ r15.toInt from by omega) (show r15.toInt ≤ 7 from by omega))) trivial wd_X11_puts wV_X11_puts wL_X11_43 (hM.o rfl) rfl rfl hl.1 rfl (Nat.le_of_ble_eq_true rfl) dX11_purges_49 ⟨Nat.le_of_ble_eq_true rfl, Nat.le_of_ble_eq_true rfl⟩ ⟨Nat.zero_le _, Nat.zero_le _⟩ (fun H7 locs hp7 hT7 hS7 hk7 => ?_)
          have hp7 : h_apu H5 H7 (o + 1) 6 (.int r15) := hp7.2
          have z16 : ∀ j : Nat, (j = 0 ∨ 600 ≤ j) → h_ai H7 (o + 1) j = h_ai H0 (o + 1) j := fun j hj => (h_apn hp7 (by omega)).trans (z10 j hj)
          have m17 : h_ai H7 (o + 1) 0 = v1 := (h_apn hp7 (by omega)).trans m11
          have m18 : h_ai H7 (o + 1) 5 = 1 := (h_apn hp7 (by omega)).trans m14
          have m19 : h_ai H7 (o + 1) 1 = r15 := (h_apn hp7 (by omega)).trans mr15
          have R20 : mR o H7 := R12.keep (fun j hj => h_apn hp7 (by unfold mK at hj; omega))
          have nr21 : ∀ s : Nat, s < 8 → (h_ai H7 (o + 1) (88 + s)).toInt ≤ 0 := fun s hs => by rw [h_apn hp7 (by omega)]; exact nr13 s hs
          have m22 : h_ai H7 (o + 1) 6 = r15 := h_aps hp7
          refine lv_aload_n hx hb dX11_purges_52 rfl (lv_at hl 1 rfl) ?_
          refine lv_bipush (v := 7) hx hb dX11_purges_53 (by decide) ?_
          refine lv_iconst (v := 0) hx hb dX11_purges_55 (by decide) ?_
          refine h_callVv (T := TX11) (rest := []) (As := [.int 7, .int 0]) hx hb hml hown hts hK hT7 hZ (fun _ h => h) hS7 (c_puts l G Y P (o) hM 7 0 7 (by decide) (h_inc (by decide)) mP_zero) trivial wd_X11_puts wV_X11_puts wL_X11_43 (hM.o rfl) rfl rfl hl.1 rfl (Nat.le_of_ble_eq_true rfl) dX11_purges_56 ⟨Nat.le_of_ble_eq_true rfl, Nat.le_of_ble_eq_true rfl⟩ ⟨Nat.zero_le _, Nat.zero_le _⟩ (fun H8 locs hp8 hT8 hS8 hk8 => ?_)
          have hp8 : h_apu H7 H8 (o + 1) 7 (.int 0) := hp8.2
          have z23 : ∀ j : Nat, (j = 0 ∨ 600 ≤ j) → h_ai H8 (o + 1) j = h_ai H0 (o + 1) j := fun j hj => (h_apn hp8 (by omega)).trans (z16 j hj)
          have m24 : h_ai H8 (o + 1) 0 = v1 := (h_apn hp8 (by omega)).trans m17
          have m25 : h_ai H8 (o + 1) 5 = 1 := (h_apn hp8 (by omega)).trans m18
          have m26 : h_ai H8 (o + 1) 1 = r15 := (h_apn hp8 (by omega)).trans m19
          have m27 : h_ai H8 (o + 1) 6 = r15 := (h_apn hp8 (by omega)).trans m22
          have R28 : mR o H8 := mR_zero R20 nr21 hp8
          have nr29 : ∀ s : Nat, s < 8 → (h_ai H8 (o + 1) (88 + s)).toInt ≤ 0 := fun s hs => by rw [h_apn hp8 (by omega)]; exact nr21 s hs
          have m30 : h_ai H8 (o + 1) 7 = 0 := h_aps hp8
          refine lv_aload_n hx hb dX11_purges_59 rfl (lv_at hl 1 rfl) ?_
          refine lv_bipush (v := 8) hx hb dX11_purges_60 (by decide) ?_
          refine lv_iconst (v := 0) hx hb dX11_purges_62 (by decide) ?_
          refine h_callVv (T := TX11) (rest := []) (As := [.int 8, .int 0]) hx hb hml hown hts hK hT8 hZ (fun _ h => h) hS8 (c_puts l G Y P (o) hM 8 0 8 (by decide) (h_inc (by decide)) mP_zero) trivial wd_X11_puts wV_X11_puts wL_X11_43 (hM.o rfl) rfl rfl hl.1 rfl (Nat.le_of_ble_eq_true rfl) dX11_purges_63 ⟨Nat.le_of_ble_eq_true rfl, Nat.le_of_ble_eq_true rfl⟩ ⟨Nat.zero_le _, Nat.zero_le _⟩ (fun H9 locs hp9 hT9 hS9 hk9 => ?_)
          have hp9 : h_apu H8 H9 (o + 1) 8 (.int 0) := hp9.2
          have z31 : ∀ j : Nat, (j = 0 ∨ 600 ≤ j) → h_ai H9 (o + 1) j = h_ai H0 (o + 1) j := fun j hj => (h_apn hp9 (by omega)).trans (z23 j hj)
          have m32 : h_ai H9 (o + 1) 0 = v1 := (h_apn hp9 (by omega)).trans m24
          have m33 : h_ai H9 (o + 1) 5 = 1 := (h_apn hp9 (by omega)).trans m25
          have m34 : h_ai H9 (o + 1) 1 = r15 := (h_apn hp9 (by omega)).trans m26
          have m35 : h_ai H9 (o + 1) 6 = r15 := (h_apn hp9 (by omega)).trans m27
          have m36 : h_ai H9 (o + 1) 7 = 0 := (h_apn hp9 (by omega)).trans m30
          have R37 : mR o H9 := R28.keep (fun j hj => h_apn hp9 (by unfold mK at hj; omega))
          have nr38 : ∀ s : Nat, s < 8 → (h_ai H9 (o + 1) (88 + s)).toInt ≤ 0 := fun s hs => by rw [h_apn hp9 (by omega)]; exact nr29 s hs
          have m39 : h_ai H9 (o + 1) 8 = 0 := h_aps hp9
          refine lv_aload_n hx hb dX11_purges_66 rfl (lv_at hl 1 rfl) ?_
          refine lv_bipush (v := 9) hx hb dX11_purges_67 (by decide) ?_
          refine lv_iconst (v := 0) hx hb dX11_purges_69 (by decide) ?_
          refine h_callVv (T := TX11) (rest := []) (As := [.int 9, .int 0]) hx hb hml hown hts hK hT9 hZ (fun _ h => h) hS9 (c_puts l G Y P (o) hM 9 0 9 (by decide) (h_inc (by decide)) mP_zero) trivial wd_X11_puts wV_X11_puts wL_X11_43 (hM.o rfl) rfl rfl hl.1 rfl (Nat.le_of_ble_eq_true rfl) dX11_purges_70 ⟨Nat.le_of_ble_eq_true rfl, Nat.le_of_ble_eq_true rfl⟩ ⟨Nat.zero_le _, Nat.zero_le _⟩ (fun H10 locs hp10 hT10 hS10 hk10 => ?_)
          have hp10 : h_apu H9 H10 (o + 1) 9 (.int 0) := hp10.2
          have z40 : ∀ j : Nat, (j = 0 ∨ 600 ≤ j) → h_ai H10 (o + 1) j = h_ai H0 (o + 1) j := fun j hj => (h_apn hp10 (by omega)).trans (z31 j hj)
          have m41 : h_ai H10 (o + 1) 0 = v1 := (h_apn hp10 (by omega)).trans m32
          have m42 : h_ai H10 (o + 1) 5 = 1 := (h_apn hp10 (by omega)).trans m33
          have m43 : h_ai H10 (o + 1) 1 = r15 := (h_apn hp10 (by omega)).trans m34
          have m44 : h_ai H10 (o + 1) 6 = r15 := (h_apn hp10 (by omega)).trans m35
          have m45 : h_ai H10 (o + 1) 7 = 0 := (h_apn hp10 (by omega)).trans m36
          have m46 : h_ai H10 (o + 1) 8 = 0 := (h_apn hp10 (by omega)).trans m39
          have R47 : mR o H10 := R37.keep (fun j hj => h_apn hp10 (by unfold mK at hj; omega))
          have nr48 : ∀ s : Nat, s < 8 → (h_ai H10 (o + 1) (88 + s)).toInt ≤ 0 := fun s hs => by rw [h_apn hp10 (by omega)]; exact nr38 s hs
          have m49 : h_ai H10 (o + 1) 9 = 0 := h_aps hp10
          refine lv_aload_n hx hb dX11_purges_73 rfl (lv_at hl 1 rfl) ?_
          refine lv_bipush (v := 18) hx hb dX11_purges_74 (by decide) ?_
          refine lv_iconst (v := 0) hx hb dX11_purges_76 (by decide) ?_
          refine h_callVv (T := TX11) (rest := []) (As := [.int 18, .int 0]) hx hb hml hown hts hK hT10 hZ (fun _ h => h) hS10 (c_puts l G Y P (o) hM 18 0 18 (by decide) (h_inc (by decide)) mP_zero) trivial wd_X11_puts wV_X11_puts wL_X11_43 (hM.o rfl) rfl rfl hl.1 rfl (Nat.le_of_ble_eq_true rfl) dX11_purges_77 ⟨Nat.le_of_ble_eq_true rfl, Nat.le_of_ble_eq_true rfl⟩ ⟨Nat.zero_le _, Nat.zero_le _⟩ (fun H11 locs hp11 hT11 hS11 hk11 => ?_)
          have hp11 : h_apu H10 H11 (o + 1) 18 (.int 0) := hp11.2
          have z50 : ∀ j : Nat, (j = 0 ∨ 600 ≤ j) → h_ai H11 (o + 1) j = h_ai H0 (o + 1) j := fun j hj => (h_apn hp11 (by omega)).trans (z40 j hj)
          have m51 : h_ai H11 (o + 1) 0 = v1 := (h_apn hp11 (by omega)).trans m41
          have m52 : h_ai H11 (o + 1) 5 = 1 := (h_apn hp11 (by omega)).trans m42
          have m53 : h_ai H11 (o + 1) 1 = r15 := (h_apn hp11 (by omega)).trans m43
          have m54 : h_ai H11 (o + 1) 6 = r15 := (h_apn hp11 (by omega)).trans m44
          have m55 : h_ai H11 (o + 1) 7 = 0 := (h_apn hp11 (by omega)).trans m45
          have m56 : h_ai H11 (o + 1) 8 = 0 := (h_apn hp11 (by omega)).trans m46
          have m57 : h_ai H11 (o + 1) 9 = 0 := (h_apn hp11 (by omega)).trans m49
          have R58 : mR o H11 := R47.keep (fun j hj => h_apn hp11 (by unfold mK at hj; omega))
          have nr59 : ∀ s : Nat, s < 8 → (h_ai H11 (o + 1) (88 + s)).toInt ≤ 0 := fun s hs => by rw [h_apn hp11 (by omega)]; exact nr48 s hs
          have m60 : h_ai H11 (o + 1) 18 = 0 := h_aps hp11
          refine lv_aload_n hx hb dX11_purges_80 rfl (lv_at hl 1 rfl) ?_
          refine lv_bipush (v := 24) hx hb dX11_purges_81 (by decide) ?_
          refine lv_iconst (v := 1) hx hb dX11_purges_83 (by decide) ?_
          refine h_callVv (T := TX11) (rest := []) (As := [.int 24, .int 1]) hx hb hml hown hts hK hT11 hZ (fun _ h => h) hS11 (c_adds l G Y P (o) hM 24 1 24 (by decide) (h_inc (by decide))) (show mP 24 (h_ai H11 (o + 1) 24 + 1) from (mP_free (by unfold mFree; omega))) wd_X11_adds wV_X11_adds wL_X11_69 (hM.o rfl) rfl rfl hl.1 rfl (Nat.le_of_ble_eq_true rfl) dX11_purges_84 ⟨Nat.le_of_ble_eq_true rfl, Nat.le_of_ble_eq_true rfl⟩ ⟨Nat.zero_le _, Nat.zero_le _⟩ (fun H12 locs hp12 hT12 hS12 hk12 => ?_)
          have hp12 : h_apu H11 H12 (o + 1) 24 (.int (h_ai H11 (o + 1) 24 + 1)) := hp12.2
          have z61 : ∀ j : Nat, (j = 0 ∨ 600 ≤ j) → h_ai H12 (o + 1) j = h_ai H0 (o + 1) j := fun j hj => (h_apn hp12 (by omega)).trans (z50 j hj)
          have m62 : h_ai H12 (o + 1) 0 = v1 := (h_apn hp12 (by omega)).trans m51
          have m63 : h_ai H12 (o + 1) 5 = 1 := (h_apn hp12 (by omega)).trans m52
          have m64 : h_ai H12 (o + 1) 1 = r15 := (h_apn hp12 (by omega)).trans m53
          have m65 : h_ai H12 (o + 1) 6 = r15 := (h_apn hp12 (by omega)).trans m54
          have m66 : h_ai H12 (o + 1) 7 = 0 := (h_apn hp12 (by omega)).trans m55
          have m67 : h_ai H12 (o + 1) 8 = 0 := (h_apn hp12 (by omega)).trans m56
          have m68 : h_ai H12 (o + 1) 9 = 0 := (h_apn hp12 (by omega)).trans m57
          have m69 : h_ai H12 (o + 1) 18 = 0 := (h_apn hp12 (by omega)).trans m60
          have R70 : mR o H12 := R58.keep (fun j hj => h_apn hp12 (by unfold mK at hj; omega))
          have nr71 : ∀ s : Nat, s < 8 → (h_ai H12 (o + 1) (88 + s)).toInt ≤ 0 := fun s hs => by rw [h_apn hp12 (by omega)]; exact nr59 s hs
          refine lv_aload_n hx hb dX11_purges_87 rfl (lv_at hl 1 rfl) ?_
          refine lv_iconst (v := 3) hx hb dX11_purges_88 (by decide) ?_
          refine lv_aload_n hx hb dX11_purges_89 rfl (lv_at hl 1 rfl) ?_
          refine lv_iconst (v := 1) hx hb dX11_purges_90 (by decide) ?_
          refine h_callVi (T := TX11) (rest := [.int 3, .ref (o)]) (As := [.int 1]) hx hb hml hown hts hK hT12 hZ (fun _ h => h) hS12 (c_of l G Y P (o) hM 1 1 (by decide) (h_inc (by decide))) trivial wd_X11_of wV_X11_of wL_X11_47 (hM.o rfl) rfl rfl hl.1 rfl (Nat.le_of_ble_eq_true rfl) dX11_purges_91 ⟨Nat.le_of_ble_eq_true rfl, Nat.le_of_ble_eq_true rfl⟩ ⟨Nat.zero_le _, Nat.zero_le _⟩ (fun r72 H13 locs hp13 hT13 hS13 hk13 => ?_)
          obtain ⟨hp13, he⟩ := hp13
          have he := he.symm
          subst he
          have hp13 : r15 = r72 := (hp13.1.trans m64).symm
          subst hp13
          refine h_callVv (T := TX11) (rest := []) (As := [.int 3, .int r15]) hx hb hml hown hts hK hT12 hZ (fun _ h => h) hS13 (c_X11_happens l G Y P (o) hM 3 r15) trivial wd_X11_happens wV_X11_happens wL_X11_72 (hM.o rfl) rfl rfl hl.1 rfl (Nat.le_of_ble_eq_true rfl) dX11_purges_94 ⟨Nat.le_of_ble_eq_true rfl, Nat.le_of_ble_eq_true rfl⟩ ⟨Nat.zero_le _, Nat.zero_le _⟩ (fun H14 locs hp14 hT14 hS14 hk14 => ?_)
          obtain ⟨hp14, hB14⟩ := hp14
          have z73 : ∀ j : Nat, (j = 0 ∨ 600 ≤ j) → h_ai H14 (o + 1) j = h_ai H0 (o + 1) j := fun j hj => (hB14 j (by unfold mK; omega)).trans (z61 j hj)
          have m74 : h_ai H14 (o + 1) 0 = v1 := (hB14 _ (by unfold mK; omega)).trans m62
          have m75 : h_ai H14 (o + 1) 7 = 0 := (hB14 _ (by unfold mK; omega)).trans m66
          have R76 : mR o H14 := R70.keep hB14
          have nr77 : ∀ s : Nat, s < 8 → (h_ai H14 (o + 1) (88 + s)).toInt ≤ 0 := fun s hs => by rw [hB14 _ (by unfold mK; omega)]; exact nr71 s hs
          refine lv_aload_n hx hb dX11_purges_97 rfl (lv_at hl 1 rfl) ?_
          refine lv_iconst (v := 1) hx hb dX11_purges_98 (by decide) ?_
          refine h_puti (C := RX11) (T := TX11) (N := 23) hx hb hts inX11 tyX11 tyX11_ok nmX11 hown hK hT14 (fun _ h => h) hS14 (hM.o rfl) rfl 5 rfl wF_X11_82 rfl rfl (Or.inr rfl) rfl rfl dX11_purges_99 (fun H15 locs hT15 hS15 hu15 => ?_)
          have z78 : ∀ j : Nat, (j = 0 ∨ 600 ≤ j) → h_ai H15 (o + 1) j = h_ai H0 (o + 1) j := fun j hj => (h_ai_same (hu15.2.1 (o + 1) (by omega))).trans (z73 j hj)
          have m79 : h_ai H15 (o + 1) 0 = v1 := (h_ai_same (hu15.2.1 (o + 1) (by omega))).trans m74
          have m80 : h_ai H15 (o + 1) 7 = 0 := (h_ai_same (hu15.2.1 (o + 1) (by omega))).trans m75
          have R81 : mR o H15 := R76.same (hu15.2.1 (o + 1) (by omega))
          have nr82 : ∀ s : Nat, s < 8 → (h_ai H15 (o + 1) (88 + s)).toInt ≤ 0 := fun s hs => by rw [h_ai_same (hu15.2.1 (o + 1) (by omega))]; exact nr77 s hs
          exact hret _ _ _ _ hT15 hS15 ⟨trivial, ⟨R81, z78⟩⟩ dX11_purges_102
        · skip
          have c9 : r8.toInt = (2 : Int) := congrArg Int32.toInt c9
          refine lv_aload_n hx hb dX11_purges_31 rfl (lv_at hl 1 rfl) ?_
          refine h_callVv (T := TX11) (rest := []) (As := []) hx hb hml hown hts hK hT1 hZ (fun _ h => h) hS4 (c_X11_isLost l G Y P (o) hM) trivial wd_X11_isLost wV_X11_isLost wL_X11_79 (hM.o rfl) rfl rfl hl.1 rfl (Nat.le_of_ble_eq_true rfl) dX11_purges_32 ⟨Nat.le_of_ble_eq_true rfl, Nat.le_of_ble_eq_true rfl⟩ ⟨Nat.zero_le _, Nat.zero_le _⟩ (fun H16 locs hp16 hT16 hS16 hk16 => ?_)
          obtain ⟨hp16, hB16⟩ := hp16
          have z83 : ∀ j : Nat, (j = 0 ∨ 600 ≤ j) → h_ai H16 (o + 1) j = h_ai H0 (o + 1) j := fun j hj => (hB16 j (by unfold mK; omega)).trans (z2 j hj)
          have m84 : h_ai H16 (o + 1) 0 = v1 := (hB16 _ (by unfold mK; omega)).trans m4
          have R85 : mR o H16 := R3.keep hB16
          have nr86 : ∀ s : Nat, s < 8 → (h_ai H16 (o + 1) (88 + s)).toInt ≤ 0 := fun s hs => by rw [hB16 _ (by unfold mK; omega)]; exact nr7 s hs
          refine lv_aload_n hx hb dX11_purges_35 rfl (lv_at hl 1 rfl) ?_
          refine lv_iconst (v := 5) hx hb dX11_purges_36 (by decide) ?_
          refine lv_iconst (v := 1) hx hb dX11_purges_37 (by decide) ?_
          refine h_callVv (T := TX11) (rest := []) (As := [.int 5, .int 1]) hx hb hml hown hts hK hT16 hZ (fun _ h => h) hS16 (c_puts l G Y P (o) hM 5 1 5 (by decide) (h_inc (by decide)) (mP_free (by unfold mFree; omega))) trivial wd_X11_puts wV_X11_puts wL_X11_43 (hM.o rfl) rfl rfl hl.1 rfl (Nat.le_of_ble_eq_true rfl) dX11_purges_38 ⟨Nat.le_of_ble_eq_true rfl, Nat.le_of_ble_eq_true rfl⟩ ⟨Nat.zero_le _, Nat.zero_le _⟩ (fun H17 locs hp17 hT17 hS17 hk17 => ?_)
          have hp17 : h_apu H16 H17 (o + 1) 5 (.int 1) := hp17.2
          have z87 : ∀ j : Nat, (j = 0 ∨ 600 ≤ j) → h_ai H17 (o + 1) j = h_ai H0 (o + 1) j := fun j hj => (h_apn hp17 (by omega)).trans (z83 j hj)
          have m88 : h_ai H17 (o + 1) 0 = v1 := (h_apn hp17 (by omega)).trans m84
          have R89 : mR o H17 := R85.keep (fun j hj => h_apn hp17 (by unfold mK at hj; omega))
          have nr90 : ∀ s : Nat, s < 8 → (h_ai H17 (o + 1) (88 + s)).toInt ≤ 0 := fun s hs => by rw [h_apn hp17 (by omega)]; exact nr86 s hs
          have m91 : h_ai H17 (o + 1) 5 = 1 := h_aps hp17
          refine lv_aload_n hx hb dX11_purges_41 rfl (lv_at hl 1 rfl) ?_
          refine lv_bipush (v := 6) hx hb dX11_purges_42 (by decide) ?_
          refine lv_aload_n hx hb dX11_purges_44 rfl (lv_at hl 1 rfl) ?_
          refine lv_iconst (v := 1) hx hb dX11_purges_45 (by decide) ?_
          refine h_callVi (T := TX11) (rest := [.int 6, .ref (o)]) (As := [.int 1]) hx hb hml hown hts hK hT17 hZ (fun _ h => h) hS17 (c_of l G Y P (o) hM 1 1 (by decide) (h_inc (by decide))) trivial wd_X11_of wV_X11_of wL_X11_47 (hM.o rfl) rfl rfl hl.1 rfl (Nat.le_of_ble_eq_true rfl) dX11_purges_46 ⟨Nat.le_of_ble_eq_true rfl, Nat.le_of_ble_eq_true rfl⟩ ⟨Nat.zero_le _, Nat.zero_le _⟩ (fun r92 H18 locs hp18 hT18 hS18 hk18 => ?_)
          obtain ⟨hp18, he⟩ := hp18
          have he := he.symm
          subst he
          have mr92 : h_ai H17 (o + 1) 1 = r92 := hp18.1.symm
          have br92 := mP_m1 hp18.2 (by omega)
          refine h_callVv (T := TX11) (rest := []) (As := [.int 6, .int r92]) hx hb hml hown hts hK hT17 hZ (fun _ h => h) hS18 (c_puts l G Y P (o) hM 6 r92 6 (by decide) (h_inc (by decide)) (mP_of1 (by omega) (show -1 ≤ r92.toInt from by omega) (show r92.toInt ≤ 7 from by omega))) trivial wd_X11_puts wV_X11_puts wL_X11_43 (hM.o rfl) rfl rfl hl.1 rfl (Nat.le_of_ble_eq_true rfl) dX11_purges_49 ⟨Nat.le_of_ble_eq_true rfl, Nat.le_of_ble_eq_true rfl⟩ ⟨Nat.zero_le _, Nat.zero_le _⟩ (fun H19 locs hp19 hT19 hS19 hk19 => ?_)
          have hp19 : h_apu H17 H19 (o + 1) 6 (.int r92) := hp19.2
          have z93 : ∀ j : Nat, (j = 0 ∨ 600 ≤ j) → h_ai H19 (o + 1) j = h_ai H0 (o + 1) j := fun j hj => (h_apn hp19 (by omega)).trans (z87 j hj)
          have m94 : h_ai H19 (o + 1) 0 = v1 := (h_apn hp19 (by omega)).trans m88
          have m95 : h_ai H19 (o + 1) 5 = 1 := (h_apn hp19 (by omega)).trans m91
          have m96 : h_ai H19 (o + 1) 1 = r92 := (h_apn hp19 (by omega)).trans mr92
          have R97 : mR o H19 := R89.keep (fun j hj => h_apn hp19 (by unfold mK at hj; omega))
          have nr98 : ∀ s : Nat, s < 8 → (h_ai H19 (o + 1) (88 + s)).toInt ≤ 0 := fun s hs => by rw [h_apn hp19 (by omega)]; exact nr90 s hs
          have m99 : h_ai H19 (o + 1) 6 = r92 := h_aps hp19
          refine lv_aload_n hx hb dX11_purges_52 rfl (lv_at hl 1 rfl) ?_
          refine lv_bipush (v := 7) hx hb dX11_purges_53 (by decide) ?_
          refine lv_iconst (v := 0) hx hb dX11_purges_55 (by decide) ?_
          refine h_callVv (T := TX11) (rest := []) (As := [.int 7, .int 0]) hx hb hml hown hts hK hT19 hZ (fun _ h => h) hS19 (c_puts l G Y P (o) hM 7 0 7 (by decide) (h_inc (by decide)) mP_zero) trivial wd_X11_puts wV_X11_puts wL_X11_43 (hM.o rfl) rfl rfl hl.1 rfl (Nat.le_of_ble_eq_true rfl) dX11_purges_56 ⟨Nat.le_of_ble_eq_true rfl, Nat.le_of_ble_eq_true rfl⟩ ⟨Nat.zero_le _, Nat.zero_le _⟩ (fun H20 locs hp20 hT20 hS20 hk20 => ?_)
          have hp20 : h_apu H19 H20 (o + 1) 7 (.int 0) := hp20.2
          have z100 : ∀ j : Nat, (j = 0 ∨ 600 ≤ j) → h_ai H20 (o + 1) j = h_ai H0 (o + 1) j := fun j hj => (h_apn hp20 (by omega)).trans (z93 j hj)
          have m101 : h_ai H20 (o + 1) 0 = v1 := (h_apn hp20 (by omega)).trans m94
          have m102 : h_ai H20 (o + 1) 5 = 1 := (h_apn hp20 (by omega)).trans m95
          have m103 : h_ai H20 (o + 1) 1 = r92 := (h_apn hp20 (by omega)).trans m96
          have m104 : h_ai H20 (o + 1) 6 = r92 := (h_apn hp20 (by omega)).trans m99
          have R105 : mR o H20 := mR_zero R97 nr98 hp20
          have nr106 : ∀ s : Nat, s < 8 → (h_ai H20 (o + 1) (88 + s)).toInt ≤ 0 := fun s hs => by rw [h_apn hp20 (by omega)]; exact nr98 s hs
          have m107 : h_ai H20 (o + 1) 7 = 0 := h_aps hp20
          refine lv_aload_n hx hb dX11_purges_59 rfl (lv_at hl 1 rfl) ?_
          refine lv_bipush (v := 8) hx hb dX11_purges_60 (by decide) ?_
          refine lv_iconst (v := 0) hx hb dX11_purges_62 (by decide) ?_
          refine h_callVv (T := TX11) (rest := []) (As := [.int 8, .int 0]) hx hb hml hown hts hK hT20 hZ (fun _ h => h) hS20 (c_puts l G Y P (o) hM 8 0 8 (by decide) (h_inc (by decide)) mP_zero) trivial wd_X11_puts wV_X11_puts wL_X11_43 (hM.o rfl) rfl rfl hl.1 rfl (Nat.le_of_ble_eq_true rfl) dX11_purges_63 ⟨Nat.le_of_ble_eq_true rfl, Nat.le_of_ble_eq_true rfl⟩ ⟨Nat.zero_le _, Nat.zero_le _⟩ (fun H21 locs hp21 hT21 hS21 hk21 => ?_)
          have hp21 : h_apu H20 H21 (o + 1) 8 (.int 0) := hp21.2
          have z108 : ∀ j : Nat, (j = 0 ∨ 600 ≤ j) → h_ai H21 (o + 1) j = h_ai H0 (o + 1) j := fun j hj => (h_apn hp21 (by omega)).trans (z100 j hj)
          have m109 : h_ai H21 (o + 1) 0 = v1 := (h_apn hp21 (by omega)).trans m101
          have m110 : h_ai H21 (o + 1) 5 = 1 := (h_apn hp21 (by omega)).trans m102
          have m111 : h_ai H21 (o + 1) 1 = r92 := (h_apn hp21 (by omega)).trans m103
          have m112 : h_ai H21 (o + 1) 6 = r92 := (h_apn hp21 (by omega)).trans m104
          have m113 : h_ai H21 (o + 1) 7 = 0 := (h_apn hp21 (by omega)).trans m107
          have R114 : mR o H21 := R105.keep (fun j hj => h_apn hp21 (by unfold mK at hj; omega))
          have nr115 : ∀ s : Nat, s < 8 → (h_ai H21 (o + 1) (88 + s)).toInt ≤ 0 := fun s hs => by rw [h_apn hp21 (by omega)]; exact nr106 s hs
          have m116 : h_ai H21 (o + 1) 8 = 0 := h_aps hp21
          refine lv_aload_n hx hb dX11_purges_66 rfl (lv_at hl 1 rfl) ?_
          refine lv_bipush (v := 9) hx hb dX11_purges_67 (by decide) ?_
          refine lv_iconst (v := 0) hx hb dX11_purges_69 (by decide) ?_
          refine h_callVv (T := TX11) (rest := []) (As := [.int 9, .int 0]) hx hb hml hown hts hK hT21 hZ (fun _ h => h) hS21 (c_puts l G Y P (o) hM 9 0 9 (by decide) (h_inc (by decide)) mP_zero) trivial wd_X11_puts wV_X11_puts wL_X11_43 (hM.o rfl) rfl rfl hl.1 rfl (Nat.le_of_ble_eq_true rfl) dX11_purges_70 ⟨Nat.le_of_ble_eq_true rfl, Nat.le_of_ble_eq_true rfl⟩ ⟨Nat.zero_le _, Nat.zero_le _⟩ (fun H22 locs hp22 hT22 hS22 hk22 => ?_)
          have hp22 : h_apu H21 H22 (o + 1) 9 (.int 0) := hp22.2
          have z117 : ∀ j : Nat, (j = 0 ∨ 600 ≤ j) → h_ai H22 (o + 1) j = h_ai H0 (o + 1) j := fun j hj => (h_apn hp22 (by omega)).trans (z108 j hj)
          have m118 : h_ai H22 (o + 1) 0 = v1 := (h_apn hp22 (by omega)).trans m109
          have m119 : h_ai H22 (o + 1) 5 = 1 := (h_apn hp22 (by omega)).trans m110
          have m120 : h_ai H22 (o + 1) 1 = r92 := (h_apn hp22 (by omega)).trans m111
          have m121 : h_ai H22 (o + 1) 6 = r92 := (h_apn hp22 (by omega)).trans m112
          have m122 : h_ai H22 (o + 1) 7 = 0 := (h_apn hp22 (by omega)).trans m113
          have m123 : h_ai H22 (o + 1) 8 = 0 := (h_apn hp22 (by omega)).trans m116
          have R124 : mR o H22 := R114.keep (fun j hj => h_apn hp22 (by unfold mK at hj; omega))
          have nr125 : ∀ s : Nat, s < 8 → (h_ai H22 (o + 1) (88 + s)).toInt ≤ 0 := fun s hs => by rw [h_apn hp22 (by omega)]; exact nr115 s hs
          have m126 : h_ai H22 (o + 1) 9 = 0 := h_aps hp22
          refine lv_aload_n hx hb dX11_purges_73 rfl (lv_at hl 1 rfl) ?_
          refine lv_bipush (v := 18) hx hb dX11_purges_74 (by decide) ?_
          refine lv_iconst (v := 0) hx hb dX11_purges_76 (by decide) ?_
          refine h_callVv (T := TX11) (rest := []) (As := [.int 18, .int 0]) hx hb hml hown hts hK hT22 hZ (fun _ h => h) hS22 (c_puts l G Y P (o) hM 18 0 18 (by decide) (h_inc (by decide)) mP_zero) trivial wd_X11_puts wV_X11_puts wL_X11_43 (hM.o rfl) rfl rfl hl.1 rfl (Nat.le_of_ble_eq_true rfl) dX11_purges_77 ⟨Nat.le_of_ble_eq_true rfl, Nat.le_of_ble_eq_true rfl⟩ ⟨Nat.zero_le _, Nat.zero_le _⟩ (fun H23 locs hp23 hT23 hS23 hk23 => ?_)
          have hp23 : h_apu H22 H23 (o + 1) 18 (.int 0) := hp23.2
          have z127 : ∀ j : Nat, (j = 0 ∨ 600 ≤ j) → h_ai H23 (o + 1) j = h_ai H0 (o + 1) j := fun j hj => (h_apn hp23 (by omega)).trans (z117 j hj)
          have m128 : h_ai H23 (o + 1) 0 = v1 := (h_apn hp23 (by omega)).trans m118
          have m129 : h_ai H23 (o + 1) 5 = 1 := (h_apn hp23 (by omega)).trans m119
          have m130 : h_ai H23 (o + 1) 1 = r92 := (h_apn hp23 (by omega)).trans m120
          have m131 : h_ai H23 (o + 1) 6 = r92 := (h_apn hp23 (by omega)).trans m121
          have m132 : h_ai H23 (o + 1) 7 = 0 := (h_apn hp23 (by omega)).trans m122
          have m133 : h_ai H23 (o + 1) 8 = 0 := (h_apn hp23 (by omega)).trans m123
          have m134 : h_ai H23 (o + 1) 9 = 0 := (h_apn hp23 (by omega)).trans m126
          have R135 : mR o H23 := R124.keep (fun j hj => h_apn hp23 (by unfold mK at hj; omega))
          have nr136 : ∀ s : Nat, s < 8 → (h_ai H23 (o + 1) (88 + s)).toInt ≤ 0 := fun s hs => by rw [h_apn hp23 (by omega)]; exact nr125 s hs
          have m137 : h_ai H23 (o + 1) 18 = 0 := h_aps hp23
          refine lv_aload_n hx hb dX11_purges_80 rfl (lv_at hl 1 rfl) ?_
          refine lv_bipush (v := 24) hx hb dX11_purges_81 (by decide) ?_
          refine lv_iconst (v := 1) hx hb dX11_purges_83 (by decide) ?_
          refine h_callVv (T := TX11) (rest := []) (As := [.int 24, .int 1]) hx hb hml hown hts hK hT23 hZ (fun _ h => h) hS23 (c_adds l G Y P (o) hM 24 1 24 (by decide) (h_inc (by decide))) (show mP 24 (h_ai H23 (o + 1) 24 + 1) from (mP_free (by unfold mFree; omega))) wd_X11_adds wV_X11_adds wL_X11_69 (hM.o rfl) rfl rfl hl.1 rfl (Nat.le_of_ble_eq_true rfl) dX11_purges_84 ⟨Nat.le_of_ble_eq_true rfl, Nat.le_of_ble_eq_true rfl⟩ ⟨Nat.zero_le _, Nat.zero_le _⟩ (fun H24 locs hp24 hT24 hS24 hk24 => ?_)
          have hp24 : h_apu H23 H24 (o + 1) 24 (.int (h_ai H23 (o + 1) 24 + 1)) := hp24.2
          have z138 : ∀ j : Nat, (j = 0 ∨ 600 ≤ j) → h_ai H24 (o + 1) j = h_ai H0 (o + 1) j := fun j hj => (h_apn hp24 (by omega)).trans (z127 j hj)
          have m139 : h_ai H24 (o + 1) 0 = v1 := (h_apn hp24 (by omega)).trans m128
          have m140 : h_ai H24 (o + 1) 5 = 1 := (h_apn hp24 (by omega)).trans m129
          have m141 : h_ai H24 (o + 1) 1 = r92 := (h_apn hp24 (by omega)).trans m130
          have m142 : h_ai H24 (o + 1) 6 = r92 := (h_apn hp24 (by omega)).trans m131
          have m143 : h_ai H24 (o + 1) 7 = 0 := (h_apn hp24 (by omega)).trans m132
          have m144 : h_ai H24 (o + 1) 8 = 0 := (h_apn hp24 (by omega)).trans m133
          have m145 : h_ai H24 (o + 1) 9 = 0 := (h_apn hp24 (by omega)).trans m134
          have m146 : h_ai H24 (o + 1) 18 = 0 := (h_apn hp24 (by omega)).trans m137
          have R147 : mR o H24 := R135.keep (fun j hj => h_apn hp24 (by unfold mK at hj; omega))
          have nr148 : ∀ s : Nat, s < 8 → (h_ai H24 (o + 1) (88 + s)).toInt ≤ 0 := fun s hs => by rw [h_apn hp24 (by omega)]; exact nr136 s hs
          refine lv_aload_n hx hb dX11_purges_87 rfl (lv_at hl 1 rfl) ?_
          refine lv_iconst (v := 3) hx hb dX11_purges_88 (by decide) ?_
          refine lv_aload_n hx hb dX11_purges_89 rfl (lv_at hl 1 rfl) ?_
          refine lv_iconst (v := 1) hx hb dX11_purges_90 (by decide) ?_
          refine h_callVi (T := TX11) (rest := [.int 3, .ref (o)]) (As := [.int 1]) hx hb hml hown hts hK hT24 hZ (fun _ h => h) hS24 (c_of l G Y P (o) hM 1 1 (by decide) (h_inc (by decide))) trivial wd_X11_of wV_X11_of wL_X11_47 (hM.o rfl) rfl rfl hl.1 rfl (Nat.le_of_ble_eq_true rfl) dX11_purges_91 ⟨Nat.le_of_ble_eq_true rfl, Nat.le_of_ble_eq_true rfl⟩ ⟨Nat.zero_le _, Nat.zero_le _⟩ (fun r149 H25 locs hp25 hT25 hS25 hk25 => ?_)
          obtain ⟨hp25, he⟩ := hp25
          have he := he.symm
          subst he
          have hp25 : r92 = r149 := (hp25.1.trans m141).symm
          subst hp25
          refine h_callVv (T := TX11) (rest := []) (As := [.int 3, .int r92]) hx hb hml hown hts hK hT24 hZ (fun _ h => h) hS25 (c_X11_happens l G Y P (o) hM 3 r92) trivial wd_X11_happens wV_X11_happens wL_X11_72 (hM.o rfl) rfl rfl hl.1 rfl (Nat.le_of_ble_eq_true rfl) dX11_purges_94 ⟨Nat.le_of_ble_eq_true rfl, Nat.le_of_ble_eq_true rfl⟩ ⟨Nat.zero_le _, Nat.zero_le _⟩ (fun H26 locs hp26 hT26 hS26 hk26 => ?_)
          obtain ⟨hp26, hB26⟩ := hp26
          have z150 : ∀ j : Nat, (j = 0 ∨ 600 ≤ j) → h_ai H26 (o + 1) j = h_ai H0 (o + 1) j := fun j hj => (hB26 j (by unfold mK; omega)).trans (z138 j hj)
          have m151 : h_ai H26 (o + 1) 0 = v1 := (hB26 _ (by unfold mK; omega)).trans m139
          have m152 : h_ai H26 (o + 1) 7 = 0 := (hB26 _ (by unfold mK; omega)).trans m143
          have R153 : mR o H26 := R147.keep hB26
          have nr154 : ∀ s : Nat, s < 8 → (h_ai H26 (o + 1) (88 + s)).toInt ≤ 0 := fun s hs => by rw [hB26 _ (by unfold mK; omega)]; exact nr148 s hs
          refine lv_aload_n hx hb dX11_purges_97 rfl (lv_at hl 1 rfl) ?_
          refine lv_iconst (v := 1) hx hb dX11_purges_98 (by decide) ?_
          refine h_puti (C := RX11) (T := TX11) (N := 23) hx hb hts inX11 tyX11 tyX11_ok nmX11 hown hK hT26 (fun _ h => h) hS26 (hM.o rfl) rfl 5 rfl wF_X11_82 rfl rfl (Or.inr rfl) rfl rfl dX11_purges_99 (fun H27 locs hT27 hS27 hu27 => ?_)
          have z155 : ∀ j : Nat, (j = 0 ∨ 600 ≤ j) → h_ai H27 (o + 1) j = h_ai H0 (o + 1) j := fun j hj => (h_ai_same (hu27.2.1 (o + 1) (by omega))).trans (z150 j hj)
          have m156 : h_ai H27 (o + 1) 0 = v1 := (h_ai_same (hu27.2.1 (o + 1) (by omega))).trans m151
          have m157 : h_ai H27 (o + 1) 7 = 0 := (h_ai_same (hu27.2.1 (o + 1) (by omega))).trans m152
          have R158 : mR o H27 := R153.same (hu27.2.1 (o + 1) (by omega))
          have nr159 : ∀ s : Nat, s < 8 → (h_ai H27 (o + 1) (88 + s)).toInt ≤ 0 := fun s hs => by rw [h_ai_same (hu27.2.1 (o + 1) (by omega))]; exact nr154 s hs
          exact hret _ _ _ _ hT27 hS27 ⟨trivial, ⟨R158, z155⟩⟩ dX11_purges_102
      · skip
        have c6 : ¬ v1.toInt ≤ w1_1.toInt := h_nleI c6
        refine lv_aload_n hx hb dX11_purges_11 rfl (lv_at hl 1 rfl) ?_
        refine lv_iload_n hx hb dX11_purges_12 rfl (lv_at hl 0 rfl) ?_
        refine h_callVv (T := TX11) (rest := []) (As := [.int w1_1]) hx hb hml hown hts hK hT1 hZ (fun _ h => h) hS3 (c_X11_dropsRaises l G Y P (o) hM w1_1 (show (-1) ≤ w1_1.toInt ∧ w1_1.toInt ≤ 7 from by omega)) trivial wd_X11_dropsRaises wV_X11_dropsRaises wL_X11_75 (hM.o rfl) rfl rfl hl.1 rfl (Nat.le_of_ble_eq_true rfl) dX11_purges_13 ⟨Nat.le_of_ble_eq_true rfl, Nat.le_of_ble_eq_true rfl⟩ ⟨Nat.zero_le _, Nat.zero_le _⟩ (fun H28 locs hp28 hT28 hS28 hk28 => ?_)
        obtain ⟨hp28, hB28⟩ := hp28
        have hp28 : h_apu H1 H28 (o + 1) (88 + w1_1.toInt).toNat (.int 0) := hB28
        have z160 : ∀ j : Nat, (j = 0 ∨ 600 ≤ j) → h_ai H28 (o + 1) j = h_ai H0 (o + 1) j := fun j hj => (h_apn hp28 (by omega)).trans (z2 j hj)
        have m161 : h_ai H28 (o + 1) 0 = v1 := (h_apn hp28 (by omega)).trans m4
        have R162 : mR o H28 := mR_drop (by omega) hp28 R3
        obtain ⟨x163, qx163, ix163⟩ := h_addX w1_1 1 w1_1.toInt (1 : Int) rfl rfl (by omega) (by omega)
        refine lv_iinc (v := x163) (lv' := [(1, .int x163), (0, .ref (o))]) hx hb dX11_purges_16 hl (k := 0) rfl qx163 (by decide) rfl (fun ls hl => ?_)
        refine lv_goto (tgt := 2) hx hb dX11_purges_19 (by decide) ?_
        exact ih1 x163 _ (show 2147483647 - x163.toInt < (n1 : Int) from by omega) (show 0 ≤ x163.toInt from by omega) hT28 z160 R162 m161 (fun j hj => if q : 88 + j = (88 + w1_1.toInt).toNat then (by rw [q]; exact h_aps hp28) else (h_apn hp28 q).trans (hh1_0 j (by have hj : (j : Int) < x163.toInt := hj; omega))) _ _ hS28 (lv_sub hl [0, 1] rfl)
  exact LP1 4294967296 0 _ (show 2147483647 - (0 : Int) < ((4294967296 : Nat) : Int) from by omega) (show 0 ≤ (0 : Int) from by omega) hT0 (fun _ _ => rfl) hpr mv1 (fun j hj => absurd hj (show ¬ (j : Int) < 0 from by omega)) _ _ hS0 (lv_sub hl [0, 1] rfl)
set_option maxHeartbeats 4000000 in
set_option maxRecDepth 100000 in
theorem c_X11_turnsOff (l : Launch) (G : hG) (Y : hW) (P : Int32 → Prop) (o : Nat) (hM : h_On Y o (modE (tM P) o)) (u1 : Int32) (hu1 : (-1) ≤ u1.toInt ∧ u1.toInt ≤ 7) : hMv l yX11_turnsOff cX11_turnsOff 2 none 2 43 G Y [.ref (o), .int u1] (fun H => mR o H) (fun H H1 => (True) ∧ (mR o H1 ∧ mU o H H1)) := by
  refine h_ofv (by decide +kernel) (Nat.le_of_ble_eq_true rfl) ?_
  intro p e s m args below meth c H0 ls Q hx hb hts hown hml hK hZ hT0 hpr hS0 hl hret
  have hl : lv_has ls 2 [(0, .ref (o)), (1, .int u1)] := hl
  refine lv_aload_n hx hb dX11_turnsOff_0 rfl (lv_at hl 0 rfl) ?_
  refine lv_bipush (v := 48) hx hb dX11_turnsOff_1 (by decide) ?_
  refine lv_iload_n hx hb dX11_turnsOff_3 rfl (lv_at hl 1 rfl) ?_
  refine lv_iadd hx hb dX11_turnsOff_4 ?_
  obtain ⟨x1, qx1, ix1⟩ := h_addX 48 u1 (48 : Int) u1.toInt rfl rfl (by omega) (by omega)
  refine h_top (v := x1) qx1 ?_
  refine lv_iconst (v := 0) hx hb dX11_turnsOff_5 (by decide) ?_
  refine h_callVv (T := TX11) (rest := []) (As := [.int x1, .int 0]) hx hb hml hown hts hK hT0 hZ (fun _ h => h) hS0 (c_puts l G Y P (o) hM x1 0 (48 + u1.toInt).toNat (show x1.toInt.toNat = (48 + u1.toInt).toNat from by omega) (h_vin (by omega) (by omega)) mP_zero) trivial wd_X11_puts wV_X11_puts wL_X11_43 (hM.o rfl) rfl rfl hl.1 rfl (Nat.le_of_ble_eq_true rfl) dX11_turnsOff_6 ⟨Nat.le_of_ble_eq_true rfl, Nat.le_of_ble_eq_true rfl⟩ ⟨Nat.zero_le _, Nat.zero_le _⟩ (fun H1 locs hp1 hT1 hS1 hk1 => ?_)
  have hp1 : h_apu H0 H1 (o + 1) (48 + u1.toInt).toNat (.int 0) := hp1.2
  have z2 : ∀ j : Nat, (j = 0 ∨ 600 ≤ j) → h_ai H1 (o + 1) j = h_ai H0 (o + 1) j := fun j hj => (h_apn hp1 (by omega))
  have R3 : mR o H1 := hpr.keep (fun j hj => h_apn hp1 (by unfold mK at hj; omega))
  have m4 : h_ai H1 (o + 1) (48 + u1.toInt).toNat = 0 := h_aps hp1
  refine lv_aload_n hx hb dX11_turnsOff_9 rfl (lv_at hl 0 rfl) ?_
  refine lv_iload_n hx hb dX11_turnsOff_10 rfl (lv_at hl 1 rfl) ?_
  refine h_callVv (T := TX11) (rest := []) (As := [.int u1]) hx hb hml hown hts hK hT1 hZ (fun _ h => h) hS1 (c_X11_dropsRaises l G Y P (o) hM u1 (show (-1) ≤ u1.toInt ∧ u1.toInt ≤ 7 from by omega)) trivial wd_X11_dropsRaises wV_X11_dropsRaises wL_X11_75 (hM.o rfl) rfl rfl hl.1 rfl (Nat.le_of_ble_eq_true rfl) dX11_turnsOff_11 ⟨Nat.le_of_ble_eq_true rfl, Nat.le_of_ble_eq_true rfl⟩ ⟨Nat.zero_le _, Nat.zero_le _⟩ (fun H2 locs hp2 hT2 hS2 hk2 => ?_)
  obtain ⟨hp2, hB2⟩ := hp2
  have hp2 : h_apu H1 H2 (o + 1) (88 + u1.toInt).toNat (.int 0) := hB2
  have z5 : ∀ j : Nat, (j = 0 ∨ 600 ≤ j) → h_ai H2 (o + 1) j = h_ai H0 (o + 1) j := fun j hj => (h_apn hp2 (by omega)).trans (z2 j hj)
  have m6 : h_ai H2 (o + 1) (48 + u1.toInt).toNat = 0 := (h_apn hp2 (by omega)).trans m4
  have R7 : mR o H2 := mR_drop (by omega) hp2 R3
  exact hret _ _ _ _ hT2 hS2 ⟨trivial, ⟨R7, z5⟩⟩ dX11_turnsOff_14
set_option maxHeartbeats 4000000 in
set_option maxRecDepth 100000 in
theorem c_X11_isBlamed (l : Launch) (G : hG) (Y : hW) (P : Int32 → Prop) (o : Nat) (hM : h_On Y o (modE (tM P) o)) (u1 : Int32) (hu1 : (-1) ≤ u1.toInt ∧ u1.toInt ≤ 7) : hMv l yX11_isBlamed cX11_isBlamed 3 none 4 84 G Y [.ref (o), .int u1] (fun H => mR o H) (fun H H1 => (True) ∧ (mR o H1 ∧ mU o H H1)) := by
  refine h_ofv (by decide +kernel) (Nat.le_of_ble_eq_true rfl) ?_
  intro p e s m args below meth c H0 ls Q hx hb hts hown hml hK hZ hT0 hpr hS0 hl hret
  have hl : lv_has ls 3 [(0, .ref (o)), (1, .int u1)] := hl
  refine lv_aload_n hx hb dX11_isBlamed_0 rfl (lv_at hl 0 rfl) ?_
  refine lv_bipush (v := 48) hx hb dX11_isBlamed_1 (by decide) ?_
  refine lv_iload_n hx hb dX11_isBlamed_3 rfl (lv_at hl 1 rfl) ?_
  refine lv_iadd hx hb dX11_isBlamed_4 ?_
  obtain ⟨x1, qx1, ix1⟩ := h_addX 48 u1 (48 : Int) u1.toInt rfl rfl (by omega) (by omega)
  refine h_top (v := x1) qx1 ?_
  refine lv_iconst (v := 0) hx hb dX11_isBlamed_5 (by decide) ?_
  refine h_callVv (T := TX11) (rest := []) (As := [.int x1, .int 0]) hx hb hml hown hts hK hT0 hZ (fun _ h => h) hS0 (c_puts l G Y P (o) hM x1 0 (48 + u1.toInt).toNat (show x1.toInt.toNat = (48 + u1.toInt).toNat from by omega) (h_vin (by omega) (by omega)) mP_zero) trivial wd_X11_puts wV_X11_puts wL_X11_43 (hM.o rfl) rfl rfl hl.1 rfl (Nat.le_of_ble_eq_true rfl) dX11_isBlamed_6 ⟨Nat.le_of_ble_eq_true rfl, Nat.le_of_ble_eq_true rfl⟩ ⟨Nat.zero_le _, Nat.zero_le _⟩ (fun H1 locs hp1 hT1 hS1 hk1 => ?_)
  have hp1 : h_apu H0 H1 (o + 1) (48 + u1.toInt).toNat (.int 0) := hp1.2
  have z2 : ∀ j : Nat, (j = 0 ∨ 600 ≤ j) → h_ai H1 (o + 1) j = h_ai H0 (o + 1) j := fun j hj => (h_apn hp1 (by omega))
  have R3 : mR o H1 := hpr.keep (fun j hj => h_apn hp1 (by unfold mK at hj; omega))
  have m4 : h_ai H1 (o + 1) (48 + u1.toInt).toNat = 0 := h_aps hp1
  refine lv_aload_n hx hb dX11_isBlamed_9 rfl (lv_at hl 0 rfl) ?_
  refine h_callVi (T := TX11) (rest := []) (As := []) hx hb hml hown hts hK hT1 hZ (fun _ h => h) hS1 (c_X11_doesCount l G Y P (o) hM) R3 wd_X11_doesCount wV_X11_doesCount wL_X11_58 (hM.o rfl) rfl rfl hl.1 rfl (Nat.le_of_ble_eq_true rfl) dX11_isBlamed_10 ⟨Nat.le_of_ble_eq_true rfl, Nat.le_of_ble_eq_true rfl⟩ ⟨Nat.zero_le _, Nat.zero_le _⟩ (fun r5 H2 locs hp2 hT2 hS2 hk2 => ?_)
  obtain ⟨hp2, he⟩ := hp2
  have he := he.symm
  subst he
  refine lv_istore_n (lv' := [(2, .int r5), (0, .ref (o)), (1, .int u1)]) hx hb dX11_isBlamed_13 rfl hl (by decide) rfl (fun ls hl => ?_)
  refine lv_aload_n hx hb dX11_isBlamed_14 rfl (lv_at hl 1 rfl) ?_
  refine lv_bipush (v := 48) hx hb dX11_isBlamed_15 (by decide) ?_
  refine lv_iload_n hx hb dX11_isBlamed_17 rfl (lv_at hl 2 rfl) ?_
  refine lv_iadd hx hb dX11_isBlamed_18 ?_
  refine h_top (v := x1) (h_addE 48 u1 x1 (48 : Int) u1.toInt rfl rfl (by omega) (by omega) (by omega)) ?_
  refine lv_iconst (v := 1) hx hb dX11_isBlamed_19 (by decide) ?_
  refine h_callVv (T := TX11) (rest := []) (As := [.int x1, .int 1]) hx hb hml hown hts hK hT1 hZ (fun _ h => h) hS2 (c_puts l G Y P (o) hM x1 1 (48 + u1.toInt).toNat (show x1.toInt.toNat = (48 + u1.toInt).toNat from by omega) (h_vin (by omega) (by omega)) (mP_free (by unfold mFree; omega))) trivial wd_X11_puts wV_X11_puts wL_X11_43 (hM.o rfl) rfl rfl hl.1 rfl (Nat.le_of_ble_eq_true rfl) dX11_isBlamed_20 ⟨Nat.le_of_ble_eq_true rfl, Nat.le_of_ble_eq_true rfl⟩ ⟨Nat.zero_le _, Nat.zero_le _⟩ (fun H3 locs hp3 hT3 hS3 hk3 => ?_)
  have hp3 : h_apu H1 H3 (o + 1) (48 + u1.toInt).toNat (.int 1) := hp3.2
  have z6 : ∀ j : Nat, (j = 0 ∨ 600 ≤ j) → h_ai H3 (o + 1) j = h_ai H0 (o + 1) j := fun j hj => (h_apn hp3 (by omega)).trans (z2 j hj)
  have R7 : mR o H3 := R3.keep (fun j hj => h_apn hp3 (by unfold mK at hj; omega))
  have m8 : h_ai H3 (o + 1) (48 + u1.toInt).toNat = 1 := h_aps hp3
  refine lv_iload_n hx hb dX11_isBlamed_23 rfl (lv_at hl 0 rfl) ?_
  refine lv_if_eq (tgt := 28) hx hb dX11_isBlamed_24 (by decide) (fun c9 => ?_) (fun c9 => ?_)
  · skip
    have c9 : r5.toInt = (0 : Int) := congrArg Int32.toInt c9
    refine lv_aload_n hx hb dX11_isBlamed_28 rfl (lv_at hl 1 rfl) ?_
    refine lv_iload_n hx hb dX11_isBlamed_29 rfl (lv_at hl 2 rfl) ?_
    refine h_callVv (T := TX11) (rest := []) (As := [.int u1]) hx hb hml hown hts hK hT3 hZ (fun _ h => h) hS3 (c_X11_turnsOff l G Y P (o) hM u1 (show (-1) ≤ u1.toInt ∧ u1.toInt ≤ 7 from by omega)) R7 wd_X11_turnsOff wV_X11_turnsOff wL_X11_140 (hM.o rfl) rfl rfl hl.1 rfl (Nat.le_of_ble_eq_true rfl) dX11_isBlamed_30 ⟨Nat.le_of_ble_eq_true rfl, Nat.le_of_ble_eq_true rfl⟩ ⟨Nat.zero_le _, Nat.zero_le _⟩ (fun H4 locs hp4 hT4 hS4 hk4 => ?_)
    obtain ⟨hp4, hB4⟩ := hp4
    have z10 : ∀ j : Nat, (j = 0 ∨ 600 ≤ j) → h_ai H4 (o + 1) j = h_ai H0 (o + 1) j := fun j hj => (hB4.2 j hj).trans (z6 j hj)
    have R11 : mR o H4 := hB4.1
    refine lv_aload_n hx hb dX11_isBlamed_33 rfl (lv_at hl 1 rfl) ?_
    refine lv_bipush (v := 6) hx hb dX11_isBlamed_34 (by decide) ?_
    refine lv_iload_n hx hb dX11_isBlamed_36 rfl (lv_at hl 2 rfl) ?_
    refine h_callVv (T := TX11) (rest := []) (As := [.int 6, .int u1]) hx hb hml hown hts hK hT4 hZ (fun _ h => h) hS4 (c_X11_happens l G Y P (o) hM 6 u1) trivial wd_X11_happens wV_X11_happens wL_X11_72 (hM.o rfl) rfl rfl hl.1 rfl (Nat.le_of_ble_eq_true rfl) dX11_isBlamed_37 ⟨Nat.le_of_ble_eq_true rfl, Nat.le_of_ble_eq_true rfl⟩ ⟨Nat.zero_le _, Nat.zero_le _⟩ (fun H5 locs hp5 hT5 hS5 hk5 => ?_)
    obtain ⟨hp5, hB5⟩ := hp5
    have z12 : ∀ j : Nat, (j = 0 ∨ 600 ≤ j) → h_ai H5 (o + 1) j = h_ai H0 (o + 1) j := fun j hj => (hB5 j (by unfold mK; omega)).trans (z10 j hj)
    have R13 : mR o H5 := R11.keep hB5
    refine lv_aload_n hx hb dX11_isBlamed_40 rfl (lv_at hl 1 rfl) ?_
    refine lv_iload_n hx hb dX11_isBlamed_41 rfl (lv_at hl 2 rfl) ?_
    refine h_puti (C := RX11) (T := TX11) (N := 23) hx hb hts inX11 tyX11 tyX11_ok nmX11 hown hK hT5 (fun _ h => h) hS5 (hM.o rfl) rfl 4 rfl wF_X11_143 rfl rfl trivial rfl rfl dX11_isBlamed_42 (fun H6 locs hT6 hS6 hu6 => ?_)
    have z14 : ∀ j : Nat, (j = 0 ∨ 600 ≤ j) → h_ai H6 (o + 1) j = h_ai H0 (o + 1) j := fun j hj => (h_ai_same (hu6.2.1 (o + 1) (by omega))).trans (z12 j hj)
    have R15 : mR o H6 := R13.same (hu6.2.1 (o + 1) (by omega))
    refine lv_aload_n hx hb dX11_isBlamed_45 rfl (lv_at hl 1 rfl) ?_
    refine h_callVv (T := TX11) (rest := []) (As := []) hx hb hml hown hts hK hT6 hZ (fun _ h => h) hS6 (c_X11_isSilent l G Y P (o) hM) trivial wd_X11_isSilent wV_X11_isSilent wL_X11_128 (hM.o rfl) rfl rfl hl.1 rfl (Nat.le_of_ble_eq_true rfl) dX11_isBlamed_46 ⟨Nat.le_of_ble_eq_true rfl, Nat.le_of_ble_eq_true rfl⟩ ⟨Nat.zero_le _, Nat.zero_le _⟩ (fun H7 locs hp7 hT7 hS7 hk7 => ?_)
    obtain ⟨hp7, hB7⟩ := hp7
    have z16 : ∀ j : Nat, (j = 0 ∨ 600 ≤ j) → h_ai H7 (o + 1) j = h_ai H0 (o + 1) j := fun j hj => (hB7 j (by unfold mK; omega)).trans (z14 j hj)
    have R17 : mR o H7 := R15.keep hB7
    exact hret _ _ _ _ hT7 hS7 ⟨trivial, ⟨R17, z16⟩⟩ dX11_isBlamed_49
  · skip
    have c9 : ¬ r5.toInt = (0 : Int) := h_neI c9
    exact hret _ _ _ _ hT3 hS3 ⟨trivial, ⟨R7, z6⟩⟩ dX11_isBlamed_27
set_option maxHeartbeats 4000000 in
set_option maxRecDepth 100000 in
theorem c_X11_tokenAt (l : Launch) (G : hG) (Y : hW) (P : Int32 → Prop) (o : Nat) (hM : h_On Y o (modE (tM P) o)) (u1 : Int32) (hu1 : 0 ≤ u1.toInt ∧ u1.toInt ≤ 7) : hMv l yX11_tokenAt cX11_tokenAt 5 none 4 86 G Y [.ref (o), .int u1] (fun H => mR o H) (fun H H1 => (True) ∧ (mR o H1 ∧ mU o H H1)) := by
  refine h_ofv (by decide +kernel) (Nat.le_of_ble_eq_true rfl) ?_
  intro p e s m args below meth c H0 ls Q hx hb hts hown hml hK hZ hT0 hpr hS0 hl hret
  have hl : lv_has ls 5 [(0, .ref (o)), (1, .int u1)] := hl
  refine lv_aload_n hx hb dX11_tokenAt_0 rfl (lv_at hl 0 rfl) ?_
  refine lv_iload_n hx hb dX11_tokenAt_1 rfl (lv_at hl 1 rfl) ?_
  obtain ⟨v1, mv1⟩ : ∃ x, h_ai H0 (o + 1) 7 = x := ⟨_, rfl⟩
  have bv1 := mP_l (mP_cell hM hT0 (j := 7) (by omega)) (by omega)
  rw [mv1] at bv1
  obtain ⟨v2, mv2⟩ : ∃ x, h_ai H0 (o + 1) (88 + u1.toInt).toNat = x := ⟨_, rfl⟩
  have bv2 := mP_rm (mP_cell hM hT0 (j := (88 + u1.toInt).toNat) (by omega)) (by omega)
  rw [mv2] at bv2
  refine h_callVi (T := TX11) (rest := []) (As := [.int u1]) hx hb hml hown hts hK hT0 hZ (fun _ h => h) hS0 (c_X11_topRaise l G Y P (o) hM u1 (show 0 ≤ u1.toInt ∧ u1.toInt ≤ 7 from by omega)) trivial wd_X11_topRaise wV_X11_topRaise wL_X11_100 (hM.o rfl) rfl rfl hl.1 rfl (Nat.le_of_ble_eq_true rfl) dX11_tokenAt_2 ⟨Nat.le_of_ble_eq_true rfl, Nat.le_of_ble_eq_true rfl⟩ ⟨Nat.zero_le _, Nat.zero_le _⟩ (fun r3 H1 locs hp1 hT1 hS1 hk1 => ?_)
  obtain ⟨hp1, he⟩ := hp1
  have he := he.symm
  subst he
  have f4 : r3.toInt = -1 ∨ (r3.toInt = 286 + 16 * u1.toInt + 2 * v2.toInt ∧ 1 ≤ v2.toInt ∧ (h_ai H0 (o + 1) (1 + r3.toInt).toNat).toInt = v1.toInt) := by have q := hp1; rw [mv1] at q; rw [mv2] at q; exact q
  have t5 := mR_top u1.toInt.toNat (k8 := (88 + u1.toInt).toNat) (by omega) (by omega) hpr (by rw [mv2]; omega) (by rw [mv2]; omega)
  rw [mv2, mv1] at t5
  refine lv_istore_n (lv' := [(2, .int r3), (0, .ref (o)), (1, .int u1)]) hx hb dX11_tokenAt_5 rfl hl (by decide) rfl (fun ls hl => ?_)
  refine lv_iload_n hx hb dX11_tokenAt_6 rfl (lv_at hl 0 rfl) ?_
  refine lv_iconst (v := (-1)) hx hb dX11_tokenAt_7 (by decide) ?_
  refine lv_icmp_eq (tgt := 83) hx hb dX11_tokenAt_8 (by decide) (fun c6 => ?_) (fun c6 => ?_)
  · skip
    have c6 : r3.toInt = (-1 : Int) := congrArg Int32.toInt c6
    refine lv_aload_n hx hb dX11_tokenAt_83 rfl (lv_at hl 1 rfl) ?_
    refine lv_iload_n hx hb dX11_tokenAt_84 rfl (lv_at hl 2 rfl) ?_
    obtain ⟨v7, mv7⟩ : ∃ x, h_ai H0 (o + 1) (80 + u1.toInt).toNat = x := ⟨_, rfl⟩
    have bv7 := mP_wm (mP_cell hM hT0 (j := (80 + u1.toInt).toNat) (by omega)) (by omega)
    rw [mv7] at bv7
    refine h_callVi (T := TX11) (rest := []) (As := [.int u1]) hx hb hml hown hts hK hT0 hZ (fun _ h => h) hS1 (c_X11_firstOf l G Y P (o) hM u1 (show 0 ≤ u1.toInt ∧ u1.toInt ≤ 7 from by omega)) trivial wd_X11_firstOf wV_X11_firstOf wL_X11_66 (hM.o rfl) rfl rfl hl.1 rfl (Nat.le_of_ble_eq_true rfl) dX11_tokenAt_85 ⟨Nat.le_of_ble_eq_true rfl, Nat.le_of_ble_eq_true rfl⟩ ⟨Nat.zero_le _, Nat.zero_le _⟩ (fun r8 H2 locs hp2 hT2 hS2 hk2 => ?_)
    obtain ⟨hp2, he⟩ := hp2
    have he := he.symm
    subst he
    have f9 : (r8.toInt = -1 ∧ v7.toInt ≤ 0) ∨ (0 ≤ r8.toInt ∧ r8.toInt < v7.toInt) := by have q := hp2; rw [mv7] at q; exact q
    refine lv_iconst (v := (-1)) hx hb dX11_tokenAt_88 (by decide) ?_
    refine lv_icmp_eq (tgt := 106) hx hb dX11_tokenAt_89 (by decide) (fun c10 => ?_) (fun c10 => ?_)
    · skip
      have c10 : r8.toInt = (-1 : Int) := congrArg Int32.toInt c10
      refine lv_aload_n hx hb dX11_tokenAt_106 rfl (lv_at hl 1 rfl) ?_
      refine lv_iload_n hx hb dX11_tokenAt_107 rfl (lv_at hl 2 rfl) ?_
      refine h_callVv (T := TX11) (rest := []) (As := [.int u1]) hx hb hml hown hts hK hT0 hZ (fun _ h => h) hS2 (c_X11_wishes l G Y P (o) hM u1 (show 0 ≤ u1.toInt ∧ u1.toInt ≤ 7 from by omega)) trivial wd_X11_wishes wV_X11_wishes wL_X11_106 (hM.o rfl) rfl rfl hl.1 rfl (Nat.le_of_ble_eq_true rfl) dX11_tokenAt_108 ⟨Nat.le_of_ble_eq_true rfl, Nat.le_of_ble_eq_true rfl⟩ ⟨Nat.zero_le _, Nat.zero_le _⟩ (fun H3 locs hp3 hT3 hS3 hk3 => ?_)
      obtain ⟨hp3, hB3⟩ := hp3
      have z11 : ∀ j : Nat, (j = 0 ∨ 600 ≤ j) → h_ai H3 (o + 1) j = h_ai H0 (o + 1) j := fun j hj => (hB3 j (by unfold mK; omega))
      have z12 : ∀ j : Nat, mK j → h_ai H3 (o + 1) j = h_ai H0 (o + 1) j := fun j hj => (hB3 j hj)
      have m13 : h_ai H3 (o + 1) 7 = v1 := (hB3 _ (by unfold mK; omega)).trans mv1
      have m14 : h_ai H3 (o + 1) (88 + u1.toInt).toNat = v2 := (hB3 _ (by unfold mK; omega)).trans mv2
      have R15 : mR o H3 := hpr.keep hB3
      exact hret _ _ _ _ hT3 hS3 ⟨trivial, ⟨R15, z11⟩⟩ dX11_tokenAt_111
    · skip
      have c10 : ¬ r8.toInt = (-1 : Int) := h_neI c10
      refine lv_aload_n hx hb dX11_tokenAt_92 rfl (lv_at hl 1 rfl) ?_
      refine lv_iload_n hx hb dX11_tokenAt_93 rfl (lv_at hl 2 rfl) ?_
      refine h_callVi (T := TX11) (rest := []) (As := [.int u1]) hx hb hml hown hts hK hT0 hZ (fun _ h => h) hS2 (c_X11_firstRank l G Y P (o) hM u1 (show 0 ≤ u1.toInt ∧ u1.toInt ≤ 7 from by omega)) trivial wd_X11_firstRank wV_X11_firstRank wL_X11_97 (hM.o rfl) rfl rfl hl.1 rfl (Nat.le_of_ble_eq_true rfl) dX11_tokenAt_94 ⟨Nat.le_of_ble_eq_true rfl, Nat.le_of_ble_eq_true rfl⟩ ⟨Nat.zero_le _, Nat.zero_le _⟩ (fun r16 H4 locs hp4 hT4 hS4 hk4 => ?_)
      obtain ⟨hp4, he⟩ := hp4
      have he := he.symm
      subst he
      have f17 : (r16.toInt = -1 ∧ v7.toInt ≤ 0) ∨ (0 ≤ r16.toInt ∧ r16.toInt ≤ 7 ∧ 1 ≤ v7.toInt) := by have q := hp4; rw [mv7] at q; exact q
      refine lv_aload_n hx hb dX11_tokenAt_97 rfl (lv_at hl 1 rfl) ?_
      refine lv_bipush (v := 7) hx hb dX11_tokenAt_98 (by decide) ?_
      refine h_callVi (T := TX11) (rest := [.int r16]) (As := [.int 7]) hx hb hml hown hts hK hT0 hZ (fun _ h => h) hS4 (c_of l G Y P (o) hM 7 7 (by decide) (h_inc (by decide))) trivial wd_X11_of wV_X11_of wL_X11_47 (hM.o rfl) rfl rfl hl.1 rfl (Nat.le_of_ble_eq_true rfl) dX11_tokenAt_100 ⟨Nat.le_of_ble_eq_true rfl, Nat.le_of_ble_eq_true rfl⟩ ⟨Nat.zero_le _, Nat.zero_le _⟩ (fun r18 H5 locs hp5 hT5 hS5 hk5 => ?_)
      obtain ⟨hp5, he⟩ := hp5
      have he := he.symm
      subst he
      have hp5 : v1 = r18 := (hp5.1.trans mv1).symm
      subst hp5
      refine lv_icmp_ge (tgt := 112) hx hb dX11_tokenAt_103 (by decide) (fun c19 => ?_) (fun c19 => ?_)
      · skip
        have c19 : v1.toInt ≤ r16.toInt := Int32.le_iff_toInt_le.mp c19
        refine lv_aload_n hx hb dX11_tokenAt_112 rfl (lv_at hl 1 rfl) ?_
        refine lv_iload_n hx hb dX11_tokenAt_113 rfl (lv_at hl 2 rfl) ?_
        refine h_callVi (T := TX11) (rest := []) (As := [.int u1]) hx hb hml hown hts hK hT0 hZ (fun _ h => h) hS5 (c_X11_firstOf l G Y P (o) hM u1 (show 0 ≤ u1.toInt ∧ u1.toInt ≤ 7 from by omega)) trivial wd_X11_firstOf wV_X11_firstOf wL_X11_66 (hM.o rfl) rfl rfl hl.1 rfl (Nat.le_of_ble_eq_true rfl) dX11_tokenAt_114 ⟨Nat.le_of_ble_eq_true rfl, Nat.le_of_ble_eq_true rfl⟩ ⟨Nat.zero_le _, Nat.zero_le _⟩ (fun r20 H6 locs hp6 hT6 hS6 hk6 => ?_)
        obtain ⟨hp6, he⟩ := hp6
        have he := he.symm
        subst he
        have f21 : (r20.toInt = -1 ∧ v7.toInt ≤ 0) ∨ (0 ≤ r20.toInt ∧ r20.toInt < v7.toInt) := by have q := hp6; rw [mv7] at q; exact q
        refine lv_istore_n (lv' := [(3, .int r20), (2, .int r3), (0, .ref (o)), (1, .int u1)]) hx hb dX11_tokenAt_117 rfl hl (by decide) rfl (fun ls hl => ?_)
        refine lv_aload_n hx hb dX11_tokenAt_118 rfl (lv_at hl 2 rfl) ?_
        refine lv_iconst (v := 5) hx hb dX11_tokenAt_119 (by decide) ?_
        refine lv_iconst (v := 2) hx hb dX11_tokenAt_120 (by decide) ?_
        refine h_callVv (T := TX11) (rest := []) (As := [.int 5, .int 2]) hx hb hml hown hts hK hT0 hZ (fun _ h => h) hS6 (c_puts l G Y P (o) hM 5 2 5 (by decide) (h_inc (by decide)) (mP_free (by unfold mFree; omega))) trivial wd_X11_puts wV_X11_puts wL_X11_43 (hM.o rfl) rfl rfl hl.1 rfl (Nat.le_of_ble_eq_true rfl) dX11_tokenAt_121 ⟨Nat.le_of_ble_eq_true rfl, Nat.le_of_ble_eq_true rfl⟩ ⟨Nat.zero_le _, Nat.zero_le _⟩ (fun H7 locs hp7 hT7 hS7 hk7 => ?_)
        have hp7 : h_apu H0 H7 (o + 1) 5 (.int 2) := hp7.2
        have z22 : ∀ j : Nat, (j = 0 ∨ 600 ≤ j) → h_ai H7 (o + 1) j = h_ai H0 (o + 1) j := fun j hj => (h_apn hp7 (by omega))
        have z23 : ∀ j : Nat, mK j → h_ai H7 (o + 1) j = h_ai H0 (o + 1) j := fun j hj => (h_apn hp7 (by unfold mK at hj; omega))
        have m24 : h_ai H7 (o + 1) 7 = v1 := (h_apn hp7 (by omega)).trans mv1
        have m25 : h_ai H7 (o + 1) (88 + u1.toInt).toNat = v2 := (h_apn hp7 (by omega)).trans mv2
        have m26 : h_ai H7 (o + 1) (80 + u1.toInt).toNat = v7 := (h_apn hp7 (by omega)).trans mv7
        have R27 : mR o H7 := hpr.keep (fun j hj => h_apn hp7 (by unfold mK at hj; omega))
        have m28 : h_ai H7 (o + 1) 5 = 2 := h_aps hp7
        refine lv_aload_n hx hb dX11_tokenAt_124 rfl (lv_at hl 2 rfl) ?_
        refine lv_bipush (v := 10) hx hb dX11_tokenAt_125 (by decide) ?_
        refine lv_iload_n hx hb dX11_tokenAt_127 rfl (lv_at hl 3 rfl) ?_
        refine h_callVv (T := TX11) (rest := []) (As := [.int 10, .int u1]) hx hb hml hown hts hK hT7 hZ (fun _ h => h) hS7 (c_puts l G Y P (o) hM 10 u1 10 (by decide) (h_inc (by decide)) (mP_free (by unfold mFree; omega))) trivial wd_X11_puts wV_X11_puts wL_X11_43 (hM.o rfl) rfl rfl hl.1 rfl (Nat.le_of_ble_eq_true rfl) dX11_tokenAt_128 ⟨Nat.le_of_ble_eq_true rfl, Nat.le_of_ble_eq_true rfl⟩ ⟨Nat.zero_le _, Nat.zero_le _⟩ (fun H8 locs hp8 hT8 hS8 hk8 => ?_)
        have hp8 : h_apu H7 H8 (o + 1) 10 (.int u1) := hp8.2
        have z29 : ∀ j : Nat, (j = 0 ∨ 600 ≤ j) → h_ai H8 (o + 1) j = h_ai H0 (o + 1) j := fun j hj => (h_apn hp8 (by omega)).trans (z22 j hj)
        have z30 : ∀ j : Nat, mK j → h_ai H8 (o + 1) j = h_ai H0 (o + 1) j := fun j hj => (h_apn hp8 (by unfold mK at hj; omega)).trans (z23 j hj)
        have m31 : h_ai H8 (o + 1) 7 = v1 := (h_apn hp8 (by omega)).trans m24
        have m32 : h_ai H8 (o + 1) (88 + u1.toInt).toNat = v2 := (h_apn hp8 (by omega)).trans m25
        have m33 : h_ai H8 (o + 1) (80 + u1.toInt).toNat = v7 := (h_apn hp8 (by omega)).trans m26
        have m34 : h_ai H8 (o + 1) 5 = 2 := (h_apn hp8 (by omega)).trans m28
        have R35 : mR o H8 := R27.keep (fun j hj => h_apn hp8 (by unfold mK at hj; omega))
        have m36 : h_ai H8 (o + 1) 10 = u1 := h_aps hp8
        refine lv_iconst (v := 0) hx hb dX11_tokenAt_131 (by decide) ?_
        refine lv_istore (lv' := [(4, .int 0), (3, .int r20), (2, .int r3), (0, .ref (o)), (1, .int u1)]) hx hb dX11_tokenAt_132 hl (by decide) rfl (fun ls hl => ?_)
        refine lv_iload hx hb dX11_tokenAt_134 (lv_at hl 0 rfl) ?_
        refine lv_iconst (v := 4) hx hb dX11_tokenAt_136 (by decide) ?_
        refine lv_icmp_ge (tgt := 196) hx hb dX11_tokenAt_137 (by decide) (fun h => absurd h (by decide)) (fun _ => ?_)
        refine lv_aload_n hx hb dX11_tokenAt_140 rfl (lv_at hl 3 rfl) ?_
        refine lv_iload hx hb dX11_tokenAt_141 (lv_at hl 0 rfl) ?_
        refine lv_if_ne (tgt := 151) hx hb dX11_tokenAt_143 (by decide) (fun h => absurd (by decide) h) (fun _ => ?_)
        refine lv_bipush (v := 14) hx hb dX11_tokenAt_146 (by decide) ?_
        refine lv_goto (tgt := 175) hx hb dX11_tokenAt_148 (by decide) ?_
        refine lv_aload_n hx hb dX11_tokenAt_175 rfl (lv_at hl 3 rfl) ?_
        refine lv_iload_n hx hb dX11_tokenAt_176 rfl (lv_at hl 4 rfl) ?_
        refine lv_iload_n hx hb dX11_tokenAt_177 rfl (lv_at hl 1 rfl) ?_
        refine h_callSi (rest := [.ref (o), .int 14, .ref (o)]) (As := [.int u1, .int r20]) hx hb hml hown hts hK hT8 hZ (fun _ h => h) hS8 (c_X11_waitAt l G Y u1 r20 (show 0 ≤ u1.toInt ∧ u1.toInt ≤ 7 from by omega) (show 0 ≤ r20.toInt ∧ r20.toInt ≤ 6 from by omega)) trivial wd_X11_waitAt wS_X11_waitAt wL_X11_62 rfl hl.1 rfl (Nat.le_of_ble_eq_true rfl) dX11_tokenAt_178 ⟨Nat.le_of_ble_eq_true rfl, Nat.le_of_ble_eq_true rfl⟩ ⟨Nat.zero_le _, Nat.zero_le _⟩ (fun r39 H9 locs hp9 hT9 hS9 hk9 => ?_)
        obtain ⟨hp9, he⟩ := hp9
        have he := he.symm
        subst he
        have f40 : r39.toInt = 96 + 24 * u1.toInt + 4 * r20.toInt := by have q := hp9; exact q
        refine lv_iload hx hb dX11_tokenAt_181 (lv_at hl 0 rfl) ?_
        refine lv_iadd hx hb dX11_tokenAt_183 ?_
        obtain ⟨x41, qx41, ix41⟩ := h_addX r39 0 r39.toInt (0 : Int) rfl rfl (by omega) (by omega)
        refine h_top (v := x41) qx41 ?_
        refine h_callVi (T := TX11) (rest := [.int 14, .ref (o)]) (As := [.int x41]) hx hb hml hown hts hK hT8 hZ (fun _ h => h) hS9 (c_of l G Y P (o) hM x41 (96 + 4 * r20.toInt + 24 * u1.toInt).toNat (show x41.toInt.toNat = (96 + 4 * r20.toInt + 24 * u1.toInt).toNat from by omega) (h_vin (by omega) (by omega))) trivial wd_X11_of wV_X11_of wL_X11_47 (hM.o rfl) rfl rfl hl.1 rfl (Nat.le_of_ble_eq_true rfl) dX11_tokenAt_184 ⟨Nat.le_of_ble_eq_true rfl, Nat.le_of_ble_eq_true rfl⟩ ⟨Nat.zero_le _, Nat.zero_le _⟩ (fun r42 H10 locs hp10 hT10 hS10 hk10 => ?_)
        obtain ⟨hp10, he⟩ := hp10
        have he := he.symm
        subst he
        have mr42 : h_ai H8 (o + 1) (96 + 4 * r20.toInt + 24 * u1.toInt).toNat = r42 := hp10.1.symm
        refine h_callVv (T := TX11) (rest := []) (As := [.int 14, .int r42]) hx hb hml hown hts hK hT8 hZ (fun _ h => h) hS10 (c_puts l G Y P (o) hM 14 r42 14 (by decide) (h_inc (by decide)) (mP_free (by unfold mFree; omega))) trivial wd_X11_puts wV_X11_puts wL_X11_43 (hM.o rfl) rfl rfl hl.1 rfl (Nat.le_of_ble_eq_true rfl) dX11_tokenAt_187 ⟨Nat.le_of_ble_eq_true rfl, Nat.le_of_ble_eq_true rfl⟩ ⟨Nat.zero_le _, Nat.zero_le _⟩ (fun H11 locs hp11 hT11 hS11 hk11 => ?_)
        have hp11 : h_apu H8 H11 (o + 1) 14 (.int r42) := hp11.2
        have z43 : ∀ j : Nat, (j = 0 ∨ 600 ≤ j) → h_ai H11 (o + 1) j = h_ai H0 (o + 1) j := fun j hj => (h_apn hp11 (by omega)).trans (z29 j hj)
        have z44 : ∀ j : Nat, mK j → h_ai H11 (o + 1) j = h_ai H0 (o + 1) j := fun j hj => (h_apn hp11 (by unfold mK at hj; omega)).trans (z30 j hj)
        have m45 : h_ai H11 (o + 1) 7 = v1 := (h_apn hp11 (by omega)).trans m31
        have m46 : h_ai H11 (o + 1) (88 + u1.toInt).toNat = v2 := (h_apn hp11 (by omega)).trans m32
        have m47 : h_ai H11 (o + 1) (80 + u1.toInt).toNat = v7 := (h_apn hp11 (by omega)).trans m33
        have m48 : h_ai H11 (o + 1) 5 = 2 := (h_apn hp11 (by omega)).trans m34
        have m49 : h_ai H11 (o + 1) 10 = u1 := (h_apn hp11 (by omega)).trans m36
        have m50 : h_ai H11 (o + 1) (96 + 4 * r20.toInt + 24 * u1.toInt).toNat = r42 := (h_apn hp11 (by omega)).trans mr42
        have R51 : mR o H11 := R35.keep (fun j hj => h_apn hp11 (by unfold mK at hj; omega))
        have m52 : h_ai H11 (o + 1) 14 = r42 := h_aps hp11
        refine lv_iinc (v := 1) (lv' := [(4, .int 1), (3, .int r20), (2, .int r3), (0, .ref (o)), (1, .int u1)]) hx hb dX11_tokenAt_190 hl (k := 0) rfl (by decide) (by decide) rfl (fun ls hl => ?_)
        refine lv_goto (tgt := 134) hx hb dX11_tokenAt_193 (by decide) ?_
        refine lv_iload hx hb dX11_tokenAt_134 (lv_at hl 0 rfl) ?_
        refine lv_iconst (v := 4) hx hb dX11_tokenAt_136 (by decide) ?_
        refine lv_icmp_ge (tgt := 196) hx hb dX11_tokenAt_137 (by decide) (fun h => absurd h (by decide)) (fun _ => ?_)
        refine lv_aload_n hx hb dX11_tokenAt_140 rfl (lv_at hl 3 rfl) ?_
        refine lv_iload hx hb dX11_tokenAt_141 (lv_at hl 0 rfl) ?_
        refine lv_if_ne (tgt := 151) hx hb dX11_tokenAt_143 (by decide) (fun _ => ?_) (fun h => absurd h (by decide))
        refine lv_iload hx hb dX11_tokenAt_151 (lv_at hl 0 rfl) ?_
        refine lv_iconst (v := 1) hx hb dX11_tokenAt_153 (by decide) ?_
        refine lv_icmp_ne (tgt := 162) hx hb dX11_tokenAt_154 (by decide) (fun h => absurd (by decide) h) (fun _ => ?_)
        refine lv_bipush (v := 11) hx hb dX11_tokenAt_157 (by decide) ?_
        refine lv_goto (tgt := 175) hx hb dX11_tokenAt_159 (by decide) ?_
        refine lv_aload_n hx hb dX11_tokenAt_175 rfl (lv_at hl 3 rfl) ?_
        refine lv_iload_n hx hb dX11_tokenAt_176 rfl (lv_at hl 4 rfl) ?_
        refine lv_iload_n hx hb dX11_tokenAt_177 rfl (lv_at hl 1 rfl) ?_
        refine h_callSi (rest := [.ref (o), .int 11, .ref (o)]) (As := [.int u1, .int r20]) hx hb hml hown hts hK hT11 hZ (fun _ h => h) hS11 (c_X11_waitAt l G Y u1 r20 (show 0 ≤ u1.toInt ∧ u1.toInt ≤ 7 from by omega) (show 0 ≤ r20.toInt ∧ r20.toInt ≤ 6 from by omega)) trivial wd_X11_waitAt wS_X11_waitAt wL_X11_62 rfl hl.1 rfl (Nat.le_of_ble_eq_true rfl) dX11_tokenAt_178 ⟨Nat.le_of_ble_eq_true rfl, Nat.le_of_ble_eq_true rfl⟩ ⟨Nat.zero_le _, Nat.zero_le _⟩ (fun r56 H12 locs hp12 hT12 hS12 hk12 => ?_)
        obtain ⟨hp12, he⟩ := hp12
        have he := he.symm
        subst he
        have f57 : r56.toInt = 96 + 24 * u1.toInt + 4 * r20.toInt := by have q := hp12; exact q
        refine lv_iload hx hb dX11_tokenAt_181 (lv_at hl 0 rfl) ?_
        refine lv_iadd hx hb dX11_tokenAt_183 ?_
        obtain ⟨x58, qx58, ix58⟩ := h_addX r56 1 r56.toInt (1 : Int) rfl rfl (by omega) (by omega)
        refine h_top (v := x58) qx58 ?_
        refine h_callVi (T := TX11) (rest := [.int 11, .ref (o)]) (As := [.int x58]) hx hb hml hown hts hK hT11 hZ (fun _ h => h) hS12 (c_of l G Y P (o) hM x58 (97 + 4 * r20.toInt + 24 * u1.toInt).toNat (show x58.toInt.toNat = (97 + 4 * r20.toInt + 24 * u1.toInt).toNat from by omega) (h_vin (by omega) (by omega))) trivial wd_X11_of wV_X11_of wL_X11_47 (hM.o rfl) rfl rfl hl.1 rfl (Nat.le_of_ble_eq_true rfl) dX11_tokenAt_184 ⟨Nat.le_of_ble_eq_true rfl, Nat.le_of_ble_eq_true rfl⟩ ⟨Nat.zero_le _, Nat.zero_le _⟩ (fun r59 H13 locs hp13 hT13 hS13 hk13 => ?_)
        obtain ⟨hp13, he⟩ := hp13
        have he := he.symm
        subst he
        have mr59 : h_ai H11 (o + 1) (97 + 4 * r20.toInt + 24 * u1.toInt).toNat = r59 := hp13.1.symm
        have br59 := mP_w hp13.2 (by omega)
        refine h_callVv (T := TX11) (rest := []) (As := [.int 11, .int r59]) hx hb hml hown hts hK hT11 hZ (fun _ h => h) hS13 (c_puts l G Y P (o) hM 11 r59 11 (by decide) (h_inc (by decide)) (mP_of7 (by omega) (show 0 ≤ r59.toInt from by omega) (show r59.toInt ≤ 7 from by omega))) trivial wd_X11_puts wV_X11_puts wL_X11_43 (hM.o rfl) rfl rfl hl.1 rfl (Nat.le_of_ble_eq_true rfl) dX11_tokenAt_187 ⟨Nat.le_of_ble_eq_true rfl, Nat.le_of_ble_eq_true rfl⟩ ⟨Nat.zero_le _, Nat.zero_le _⟩ (fun H14 locs hp14 hT14 hS14 hk14 => ?_)
        have hp14 : h_apu H11 H14 (o + 1) 11 (.int r59) := hp14.2
        have z60 : ∀ j : Nat, (j = 0 ∨ 600 ≤ j) → h_ai H14 (o + 1) j = h_ai H0 (o + 1) j := fun j hj => (h_apn hp14 (by omega)).trans (z43 j hj)
        have z61 : ∀ j : Nat, mK j → h_ai H14 (o + 1) j = h_ai H0 (o + 1) j := fun j hj => (h_apn hp14 (by unfold mK at hj; omega)).trans (z44 j hj)
        have m62 : h_ai H14 (o + 1) 7 = v1 := (h_apn hp14 (by omega)).trans m45
        have m63 : h_ai H14 (o + 1) (88 + u1.toInt).toNat = v2 := (h_apn hp14 (by omega)).trans m46
        have m64 : h_ai H14 (o + 1) (80 + u1.toInt).toNat = v7 := (h_apn hp14 (by omega)).trans m47
        have m65 : h_ai H14 (o + 1) 5 = 2 := (h_apn hp14 (by omega)).trans m48
        have m66 : h_ai H14 (o + 1) 10 = u1 := (h_apn hp14 (by omega)).trans m49
        have m67 : h_ai H14 (o + 1) (96 + 4 * r20.toInt + 24 * u1.toInt).toNat = r42 := (h_apn hp14 (by omega)).trans m50
        have m68 : h_ai H14 (o + 1) 14 = r42 := (h_apn hp14 (by omega)).trans m52
        have m69 : h_ai H14 (o + 1) (97 + 4 * r20.toInt + 24 * u1.toInt).toNat = r59 := (h_apn hp14 (by omega)).trans mr59
        have R70 : mR o H14 := R51.keep (fun j hj => h_apn hp14 (by unfold mK at hj; omega))
        have m71 : h_ai H14 (o + 1) 11 = r59 := h_aps hp14
        refine lv_iinc (v := 2) (lv' := [(4, .int 2), (3, .int r20), (2, .int r3), (0, .ref (o)), (1, .int u1)]) hx hb dX11_tokenAt_190 hl (k := 0) rfl (by decide) (by decide) rfl (fun ls hl => ?_)
        refine lv_goto (tgt := 134) hx hb dX11_tokenAt_193 (by decide) ?_
        refine lv_iload hx hb dX11_tokenAt_134 (lv_at hl 0 rfl) ?_
        refine lv_iconst (v := 4) hx hb dX11_tokenAt_136 (by decide) ?_
        refine lv_icmp_ge (tgt := 196) hx hb dX11_tokenAt_137 (by decide) (fun h => absurd h (by decide)) (fun _ => ?_)
        refine lv_aload_n hx hb dX11_tokenAt_140 rfl (lv_at hl 3 rfl) ?_
        refine lv_iload hx hb dX11_tokenAt_141 (lv_at hl 0 rfl) ?_
        refine lv_if_ne (tgt := 151) hx hb dX11_tokenAt_143 (by decide) (fun _ => ?_) (fun h => absurd h (by decide))
        refine lv_iload hx hb dX11_tokenAt_151 (lv_at hl 0 rfl) ?_
        refine lv_iconst (v := 1) hx hb dX11_tokenAt_153 (by decide) ?_
        refine lv_icmp_ne (tgt := 162) hx hb dX11_tokenAt_154 (by decide) (fun _ => ?_) (fun h => absurd h (by decide))
        refine lv_iload hx hb dX11_tokenAt_162 (lv_at hl 0 rfl) ?_
        refine lv_iconst (v := 2) hx hb dX11_tokenAt_164 (by decide) ?_
        refine lv_icmp_ne (tgt := 173) hx hb dX11_tokenAt_165 (by decide) (fun h => absurd (by decide) h) (fun _ => ?_)
        refine lv_bipush (v := 12) hx hb dX11_tokenAt_168 (by decide) ?_
        refine lv_goto (tgt := 175) hx hb dX11_tokenAt_170 (by decide) ?_
        refine lv_aload_n hx hb dX11_tokenAt_175 rfl (lv_at hl 3 rfl) ?_
        refine lv_iload_n hx hb dX11_tokenAt_176 rfl (lv_at hl 4 rfl) ?_
        refine lv_iload_n hx hb dX11_tokenAt_177 rfl (lv_at hl 1 rfl) ?_
        refine h_callSi (rest := [.ref (o), .int 12, .ref (o)]) (As := [.int u1, .int r20]) hx hb hml hown hts hK hT14 hZ (fun _ h => h) hS14 (c_X11_waitAt l G Y u1 r20 (show 0 ≤ u1.toInt ∧ u1.toInt ≤ 7 from by omega) (show 0 ≤ r20.toInt ∧ r20.toInt ≤ 6 from by omega)) trivial wd_X11_waitAt wS_X11_waitAt wL_X11_62 rfl hl.1 rfl (Nat.le_of_ble_eq_true rfl) dX11_tokenAt_178 ⟨Nat.le_of_ble_eq_true rfl, Nat.le_of_ble_eq_true rfl⟩ ⟨Nat.zero_le _, Nat.zero_le _⟩ (fun r76 H15 locs hp15 hT15 hS15 hk15 => ?_)
        obtain ⟨hp15, he⟩ := hp15
        have he := he.symm
        subst he
        have f77 : r76.toInt = 96 + 24 * u1.toInt + 4 * r20.toInt := by have q := hp15; exact q
        refine lv_iload hx hb dX11_tokenAt_181 (lv_at hl 0 rfl) ?_
        refine lv_iadd hx hb dX11_tokenAt_183 ?_
        obtain ⟨x78, qx78, ix78⟩ := h_addX r76 2 r76.toInt (2 : Int) rfl rfl (by omega) (by omega)
        refine h_top (v := x78) qx78 ?_
        refine h_callVi (T := TX11) (rest := [.int 12, .ref (o)]) (As := [.int x78]) hx hb hml hown hts hK hT14 hZ (fun _ h => h) hS15 (c_of l G Y P (o) hM x78 (98 + 4 * r20.toInt + 24 * u1.toInt).toNat (show x78.toInt.toNat = (98 + 4 * r20.toInt + 24 * u1.toInt).toNat from by omega) (h_vin (by omega) (by omega))) trivial wd_X11_of wV_X11_of wL_X11_47 (hM.o rfl) rfl rfl hl.1 rfl (Nat.le_of_ble_eq_true rfl) dX11_tokenAt_184 ⟨Nat.le_of_ble_eq_true rfl, Nat.le_of_ble_eq_true rfl⟩ ⟨Nat.zero_le _, Nat.zero_le _⟩ (fun r79 H16 locs hp16 hT16 hS16 hk16 => ?_)
        obtain ⟨hp16, he⟩ := hp16
        have he := he.symm
        subst he
        have mr79 : h_ai H14 (o + 1) (98 + 4 * r20.toInt + 24 * u1.toInt).toNat = r79 := hp16.1.symm
        have br79 := mP_w hp16.2 (by omega)
        refine h_callVv (T := TX11) (rest := []) (As := [.int 12, .int r79]) hx hb hml hown hts hK hT14 hZ (fun _ h => h) hS16 (c_puts l G Y P (o) hM 12 r79 12 (by decide) (h_inc (by decide)) (mP_of7 (by omega) (show 0 ≤ r79.toInt from by omega) (show r79.toInt ≤ 7 from by omega))) trivial wd_X11_puts wV_X11_puts wL_X11_43 (hM.o rfl) rfl rfl hl.1 rfl (Nat.le_of_ble_eq_true rfl) dX11_tokenAt_187 ⟨Nat.le_of_ble_eq_true rfl, Nat.le_of_ble_eq_true rfl⟩ ⟨Nat.zero_le _, Nat.zero_le _⟩ (fun H17 locs hp17 hT17 hS17 hk17 => ?_)
        have hp17 : h_apu H14 H17 (o + 1) 12 (.int r79) := hp17.2
        have z80 : ∀ j : Nat, (j = 0 ∨ 600 ≤ j) → h_ai H17 (o + 1) j = h_ai H0 (o + 1) j := fun j hj => (h_apn hp17 (by omega)).trans (z60 j hj)
        have z81 : ∀ j : Nat, mK j → h_ai H17 (o + 1) j = h_ai H0 (o + 1) j := fun j hj => (h_apn hp17 (by unfold mK at hj; omega)).trans (z61 j hj)
        have m82 : h_ai H17 (o + 1) 7 = v1 := (h_apn hp17 (by omega)).trans m62
        have m83 : h_ai H17 (o + 1) (88 + u1.toInt).toNat = v2 := (h_apn hp17 (by omega)).trans m63
        have m84 : h_ai H17 (o + 1) (80 + u1.toInt).toNat = v7 := (h_apn hp17 (by omega)).trans m64
        have m85 : h_ai H17 (o + 1) 5 = 2 := (h_apn hp17 (by omega)).trans m65
        have m86 : h_ai H17 (o + 1) 10 = u1 := (h_apn hp17 (by omega)).trans m66
        have m87 : h_ai H17 (o + 1) (96 + 4 * r20.toInt + 24 * u1.toInt).toNat = r42 := (h_apn hp17 (by omega)).trans m67
        have m88 : h_ai H17 (o + 1) 14 = r42 := (h_apn hp17 (by omega)).trans m68
        have m89 : h_ai H17 (o + 1) (97 + 4 * r20.toInt + 24 * u1.toInt).toNat = r59 := (h_apn hp17 (by omega)).trans m69
        have m90 : h_ai H17 (o + 1) 11 = r59 := (h_apn hp17 (by omega)).trans m71
        have m91 : h_ai H17 (o + 1) (98 + 4 * r20.toInt + 24 * u1.toInt).toNat = r79 := (h_apn hp17 (by omega)).trans mr79
        have R92 : mR o H17 := R70.keep (fun j hj => h_apn hp17 (by unfold mK at hj; omega))
        have m93 : h_ai H17 (o + 1) 12 = r79 := h_aps hp17
        refine lv_iinc (v := 3) (lv' := [(4, .int 3), (3, .int r20), (2, .int r3), (0, .ref (o)), (1, .int u1)]) hx hb dX11_tokenAt_190 hl (k := 0) rfl (by decide) (by decide) rfl (fun ls hl => ?_)
        refine lv_goto (tgt := 134) hx hb dX11_tokenAt_193 (by decide) ?_
        refine lv_iload hx hb dX11_tokenAt_134 (lv_at hl 0 rfl) ?_
        refine lv_iconst (v := 4) hx hb dX11_tokenAt_136 (by decide) ?_
        refine lv_icmp_ge (tgt := 196) hx hb dX11_tokenAt_137 (by decide) (fun h => absurd h (by decide)) (fun _ => ?_)
        refine lv_aload_n hx hb dX11_tokenAt_140 rfl (lv_at hl 3 rfl) ?_
        refine lv_iload hx hb dX11_tokenAt_141 (lv_at hl 0 rfl) ?_
        refine lv_if_ne (tgt := 151) hx hb dX11_tokenAt_143 (by decide) (fun _ => ?_) (fun h => absurd h (by decide))
        refine lv_iload hx hb dX11_tokenAt_151 (lv_at hl 0 rfl) ?_
        refine lv_iconst (v := 1) hx hb dX11_tokenAt_153 (by decide) ?_
        refine lv_icmp_ne (tgt := 162) hx hb dX11_tokenAt_154 (by decide) (fun _ => ?_) (fun h => absurd h (by decide))
        refine lv_iload hx hb dX11_tokenAt_162 (lv_at hl 0 rfl) ?_
        refine lv_iconst (v := 2) hx hb dX11_tokenAt_164 (by decide) ?_
        refine lv_icmp_ne (tgt := 173) hx hb dX11_tokenAt_165 (by decide) (fun _ => ?_) (fun h => absurd h (by decide))
        refine lv_bipush (v := 15) hx hb dX11_tokenAt_173 (by decide) ?_
        refine lv_aload_n hx hb dX11_tokenAt_175 rfl (lv_at hl 3 rfl) ?_
        refine lv_iload_n hx hb dX11_tokenAt_176 rfl (lv_at hl 4 rfl) ?_
        refine lv_iload_n hx hb dX11_tokenAt_177 rfl (lv_at hl 1 rfl) ?_
        refine h_callSi (rest := [.ref (o), .int 15, .ref (o)]) (As := [.int u1, .int r20]) hx hb hml hown hts hK hT17 hZ (fun _ h => h) hS17 (c_X11_waitAt l G Y u1 r20 (show 0 ≤ u1.toInt ∧ u1.toInt ≤ 7 from by omega) (show 0 ≤ r20.toInt ∧ r20.toInt ≤ 6 from by omega)) trivial wd_X11_waitAt wS_X11_waitAt wL_X11_62 rfl hl.1 rfl (Nat.le_of_ble_eq_true rfl) dX11_tokenAt_178 ⟨Nat.le_of_ble_eq_true rfl, Nat.le_of_ble_eq_true rfl⟩ ⟨Nat.zero_le _, Nat.zero_le _⟩ (fun r98 H18 locs hp18 hT18 hS18 hk18 => ?_)
        obtain ⟨hp18, he⟩ := hp18
        have he := he.symm
        subst he
        have f99 : r98.toInt = 96 + 24 * u1.toInt + 4 * r20.toInt := by have q := hp18; exact q
        refine lv_iload hx hb dX11_tokenAt_181 (lv_at hl 0 rfl) ?_
        refine lv_iadd hx hb dX11_tokenAt_183 ?_
        obtain ⟨x100, qx100, ix100⟩ := h_addX r98 3 r98.toInt (3 : Int) rfl rfl (by omega) (by omega)
        refine h_top (v := x100) qx100 ?_
        refine h_callVi (T := TX11) (rest := [.int 15, .ref (o)]) (As := [.int x100]) hx hb hml hown hts hK hT17 hZ (fun _ h => h) hS18 (c_of l G Y P (o) hM x100 (99 + 4 * r20.toInt + 24 * u1.toInt).toNat (show x100.toInt.toNat = (99 + 4 * r20.toInt + 24 * u1.toInt).toNat from by omega) (h_vin (by omega) (by omega))) trivial wd_X11_of wV_X11_of wL_X11_47 (hM.o rfl) rfl rfl hl.1 rfl (Nat.le_of_ble_eq_true rfl) dX11_tokenAt_184 ⟨Nat.le_of_ble_eq_true rfl, Nat.le_of_ble_eq_true rfl⟩ ⟨Nat.zero_le _, Nat.zero_le _⟩ (fun r101 H19 locs hp19 hT19 hS19 hk19 => ?_)
        obtain ⟨hp19, he⟩ := hp19
        have he := he.symm
        subst he
        have mr101 : h_ai H17 (o + 1) (99 + 4 * r20.toInt + 24 * u1.toInt).toNat = r101 := hp19.1.symm
        refine h_callVv (T := TX11) (rest := []) (As := [.int 15, .int r101]) hx hb hml hown hts hK hT17 hZ (fun _ h => h) hS19 (c_puts l G Y P (o) hM 15 r101 15 (by decide) (h_inc (by decide)) (mP_free (by unfold mFree; omega))) trivial wd_X11_puts wV_X11_puts wL_X11_43 (hM.o rfl) rfl rfl hl.1 rfl (Nat.le_of_ble_eq_true rfl) dX11_tokenAt_187 ⟨Nat.le_of_ble_eq_true rfl, Nat.le_of_ble_eq_true rfl⟩ ⟨Nat.zero_le _, Nat.zero_le _⟩ (fun H20 locs hp20 hT20 hS20 hk20 => ?_)
        have hp20 : h_apu H17 H20 (o + 1) 15 (.int r101) := hp20.2
        have z102 : ∀ j : Nat, (j = 0 ∨ 600 ≤ j) → h_ai H20 (o + 1) j = h_ai H0 (o + 1) j := fun j hj => (h_apn hp20 (by omega)).trans (z80 j hj)
        have z103 : ∀ j : Nat, mK j → h_ai H20 (o + 1) j = h_ai H0 (o + 1) j := fun j hj => (h_apn hp20 (by unfold mK at hj; omega)).trans (z81 j hj)
        have m104 : h_ai H20 (o + 1) 7 = v1 := (h_apn hp20 (by omega)).trans m82
        have m105 : h_ai H20 (o + 1) (88 + u1.toInt).toNat = v2 := (h_apn hp20 (by omega)).trans m83
        have m106 : h_ai H20 (o + 1) (80 + u1.toInt).toNat = v7 := (h_apn hp20 (by omega)).trans m84
        have m107 : h_ai H20 (o + 1) 5 = 2 := (h_apn hp20 (by omega)).trans m85
        have m108 : h_ai H20 (o + 1) 10 = u1 := (h_apn hp20 (by omega)).trans m86
        have m109 : h_ai H20 (o + 1) (96 + 4 * r20.toInt + 24 * u1.toInt).toNat = r42 := (h_apn hp20 (by omega)).trans m87
        have m110 : h_ai H20 (o + 1) 14 = r42 := (h_apn hp20 (by omega)).trans m88
        have m111 : h_ai H20 (o + 1) (97 + 4 * r20.toInt + 24 * u1.toInt).toNat = r59 := (h_apn hp20 (by omega)).trans m89
        have m112 : h_ai H20 (o + 1) 11 = r59 := (h_apn hp20 (by omega)).trans m90
        have m113 : h_ai H20 (o + 1) (98 + 4 * r20.toInt + 24 * u1.toInt).toNat = r79 := (h_apn hp20 (by omega)).trans m91
        have m114 : h_ai H20 (o + 1) 12 = r79 := (h_apn hp20 (by omega)).trans m93
        have m115 : h_ai H20 (o + 1) (99 + 4 * r20.toInt + 24 * u1.toInt).toNat = r101 := (h_apn hp20 (by omega)).trans mr101
        have R116 : mR o H20 := R92.keep (fun j hj => h_apn hp20 (by unfold mK at hj; omega))
        have m117 : h_ai H20 (o + 1) 15 = r101 := h_aps hp20
        refine lv_iinc (v := 4) (lv' := [(4, .int 4), (3, .int r20), (2, .int r3), (0, .ref (o)), (1, .int u1)]) hx hb dX11_tokenAt_190 hl (k := 0) rfl (by decide) (by decide) rfl (fun ls hl => ?_)
        refine lv_goto (tgt := 134) hx hb dX11_tokenAt_193 (by decide) ?_
        refine lv_iload hx hb dX11_tokenAt_134 (lv_at hl 0 rfl) ?_
        refine lv_iconst (v := 4) hx hb dX11_tokenAt_136 (by decide) ?_
        refine lv_icmp_ge (tgt := 196) hx hb dX11_tokenAt_137 (by decide) (fun _ => ?_) (fun h => absurd (by decide) h)
        refine lv_aload_n hx hb dX11_tokenAt_196 rfl (lv_at hl 3 rfl) ?_
        refine lv_bipush (v := 13) hx hb dX11_tokenAt_197 (by decide) ?_
        refine lv_iconst (v := 0) hx hb dX11_tokenAt_199 (by decide) ?_
        refine h_callVv (T := TX11) (rest := []) (As := [.int 13, .int 0]) hx hb hml hown hts hK hT20 hZ (fun _ h => h) hS20 (c_puts l G Y P (o) hM 13 0 13 (by decide) (h_inc (by decide)) mP_zero) trivial wd_X11_puts wV_X11_puts wL_X11_43 (hM.o rfl) rfl rfl hl.1 rfl (Nat.le_of_ble_eq_true rfl) dX11_tokenAt_200 ⟨Nat.le_of_ble_eq_true rfl, Nat.le_of_ble_eq_true rfl⟩ ⟨Nat.zero_le _, Nat.zero_le _⟩ (fun H21 locs hp21 hT21 hS21 hk21 => ?_)
        have hp21 : h_apu H20 H21 (o + 1) 13 (.int 0) := hp21.2
        have z119 : ∀ j : Nat, (j = 0 ∨ 600 ≤ j) → h_ai H21 (o + 1) j = h_ai H0 (o + 1) j := fun j hj => (h_apn hp21 (by omega)).trans (z102 j hj)
        have z120 : ∀ j : Nat, mK j → h_ai H21 (o + 1) j = h_ai H0 (o + 1) j := fun j hj => (h_apn hp21 (by unfold mK at hj; omega)).trans (z103 j hj)
        have m121 : h_ai H21 (o + 1) 7 = v1 := (h_apn hp21 (by omega)).trans m104
        have m122 : h_ai H21 (o + 1) (88 + u1.toInt).toNat = v2 := (h_apn hp21 (by omega)).trans m105
        have m123 : h_ai H21 (o + 1) (80 + u1.toInt).toNat = v7 := (h_apn hp21 (by omega)).trans m106
        have m124 : h_ai H21 (o + 1) 5 = 2 := (h_apn hp21 (by omega)).trans m107
        have m125 : h_ai H21 (o + 1) 10 = u1 := (h_apn hp21 (by omega)).trans m108
        have m126 : h_ai H21 (o + 1) (96 + 4 * r20.toInt + 24 * u1.toInt).toNat = r42 := (h_apn hp21 (by omega)).trans m109
        have m127 : h_ai H21 (o + 1) 14 = r42 := (h_apn hp21 (by omega)).trans m110
        have m128 : h_ai H21 (o + 1) (97 + 4 * r20.toInt + 24 * u1.toInt).toNat = r59 := (h_apn hp21 (by omega)).trans m111
        have m129 : h_ai H21 (o + 1) 11 = r59 := (h_apn hp21 (by omega)).trans m112
        have m130 : h_ai H21 (o + 1) (98 + 4 * r20.toInt + 24 * u1.toInt).toNat = r79 := (h_apn hp21 (by omega)).trans m113
        have m131 : h_ai H21 (o + 1) 12 = r79 := (h_apn hp21 (by omega)).trans m114
        have m132 : h_ai H21 (o + 1) (99 + 4 * r20.toInt + 24 * u1.toInt).toNat = r101 := (h_apn hp21 (by omega)).trans m115
        have m133 : h_ai H21 (o + 1) 15 = r101 := (h_apn hp21 (by omega)).trans m117
        have R134 : mR o H21 := R116.keep (fun j hj => h_apn hp21 (by unfold mK at hj; omega))
        have m135 : h_ai H21 (o + 1) 13 = 0 := h_aps hp21
        refine lv_aload_n hx hb dX11_tokenAt_203 rfl (lv_at hl 3 rfl) ?_
        refine lv_bipush (v := 8) hx hb dX11_tokenAt_204 (by decide) ?_
        refine lv_iconst (v := 0) hx hb dX11_tokenAt_206 (by decide) ?_
        refine h_callVv (T := TX11) (rest := []) (As := [.int 8, .int 0]) hx hb hml hown hts hK hT21 hZ (fun _ h => h) hS21 (c_puts l G Y P (o) hM 8 0 8 (by decide) (h_inc (by decide)) mP_zero) trivial wd_X11_puts wV_X11_puts wL_X11_43 (hM.o rfl) rfl rfl hl.1 rfl (Nat.le_of_ble_eq_true rfl) dX11_tokenAt_207 ⟨Nat.le_of_ble_eq_true rfl, Nat.le_of_ble_eq_true rfl⟩ ⟨Nat.zero_le _, Nat.zero_le _⟩ (fun H22 locs hp22 hT22 hS22 hk22 => ?_)
        have hp22 : h_apu H21 H22 (o + 1) 8 (.int 0) := hp22.2
        have z136 : ∀ j : Nat, (j = 0 ∨ 600 ≤ j) → h_ai H22 (o + 1) j = h_ai H0 (o + 1) j := fun j hj => (h_apn hp22 (by omega)).trans (z119 j hj)
        have z137 : ∀ j : Nat, mK j → h_ai H22 (o + 1) j = h_ai H0 (o + 1) j := fun j hj => (h_apn hp22 (by unfold mK at hj; omega)).trans (z120 j hj)
        have m138 : h_ai H22 (o + 1) 7 = v1 := (h_apn hp22 (by omega)).trans m121
        have m139 : h_ai H22 (o + 1) (88 + u1.toInt).toNat = v2 := (h_apn hp22 (by omega)).trans m122
        have m140 : h_ai H22 (o + 1) (80 + u1.toInt).toNat = v7 := (h_apn hp22 (by omega)).trans m123
        have m141 : h_ai H22 (o + 1) 5 = 2 := (h_apn hp22 (by omega)).trans m124
        have m142 : h_ai H22 (o + 1) 10 = u1 := (h_apn hp22 (by omega)).trans m125
        have m143 : h_ai H22 (o + 1) (96 + 4 * r20.toInt + 24 * u1.toInt).toNat = r42 := (h_apn hp22 (by omega)).trans m126
        have m144 : h_ai H22 (o + 1) 14 = r42 := (h_apn hp22 (by omega)).trans m127
        have m145 : h_ai H22 (o + 1) (97 + 4 * r20.toInt + 24 * u1.toInt).toNat = r59 := (h_apn hp22 (by omega)).trans m128
        have m146 : h_ai H22 (o + 1) 11 = r59 := (h_apn hp22 (by omega)).trans m129
        have m147 : h_ai H22 (o + 1) (98 + 4 * r20.toInt + 24 * u1.toInt).toNat = r79 := (h_apn hp22 (by omega)).trans m130
        have m148 : h_ai H22 (o + 1) 12 = r79 := (h_apn hp22 (by omega)).trans m131
        have m149 : h_ai H22 (o + 1) (99 + 4 * r20.toInt + 24 * u1.toInt).toNat = r101 := (h_apn hp22 (by omega)).trans m132
        have m150 : h_ai H22 (o + 1) 15 = r101 := (h_apn hp22 (by omega)).trans m133
        have m151 : h_ai H22 (o + 1) 13 = 0 := (h_apn hp22 (by omega)).trans m135
        have R152 : mR o H22 := R134.keep (fun j hj => h_apn hp22 (by unfold mK at hj; omega))
        have m153 : h_ai H22 (o + 1) 8 = 0 := h_aps hp22
        refine lv_aload_n hx hb dX11_tokenAt_210 rfl (lv_at hl 3 rfl) ?_
        refine lv_bipush (v := 9) hx hb dX11_tokenAt_211 (by decide) ?_
        refine lv_iconst (v := 0) hx hb dX11_tokenAt_213 (by decide) ?_
        refine h_callVv (T := TX11) (rest := []) (As := [.int 9, .int 0]) hx hb hml hown hts hK hT22 hZ (fun _ h => h) hS22 (c_puts l G Y P (o) hM 9 0 9 (by decide) (h_inc (by decide)) mP_zero) trivial wd_X11_puts wV_X11_puts wL_X11_43 (hM.o rfl) rfl rfl hl.1 rfl (Nat.le_of_ble_eq_true rfl) dX11_tokenAt_214 ⟨Nat.le_of_ble_eq_true rfl, Nat.le_of_ble_eq_true rfl⟩ ⟨Nat.zero_le _, Nat.zero_le _⟩ (fun H23 locs hp23 hT23 hS23 hk23 => ?_)
        have hp23 : h_apu H22 H23 (o + 1) 9 (.int 0) := hp23.2
        have z154 : ∀ j : Nat, (j = 0 ∨ 600 ≤ j) → h_ai H23 (o + 1) j = h_ai H0 (o + 1) j := fun j hj => (h_apn hp23 (by omega)).trans (z136 j hj)
        have z155 : ∀ j : Nat, mK j → h_ai H23 (o + 1) j = h_ai H0 (o + 1) j := fun j hj => (h_apn hp23 (by unfold mK at hj; omega)).trans (z137 j hj)
        have m156 : h_ai H23 (o + 1) 7 = v1 := (h_apn hp23 (by omega)).trans m138
        have m157 : h_ai H23 (o + 1) (88 + u1.toInt).toNat = v2 := (h_apn hp23 (by omega)).trans m139
        have m158 : h_ai H23 (o + 1) (80 + u1.toInt).toNat = v7 := (h_apn hp23 (by omega)).trans m140
        have m159 : h_ai H23 (o + 1) 5 = 2 := (h_apn hp23 (by omega)).trans m141
        have m160 : h_ai H23 (o + 1) 10 = u1 := (h_apn hp23 (by omega)).trans m142
        have m161 : h_ai H23 (o + 1) (96 + 4 * r20.toInt + 24 * u1.toInt).toNat = r42 := (h_apn hp23 (by omega)).trans m143
        have m162 : h_ai H23 (o + 1) 14 = r42 := (h_apn hp23 (by omega)).trans m144
        have m163 : h_ai H23 (o + 1) (97 + 4 * r20.toInt + 24 * u1.toInt).toNat = r59 := (h_apn hp23 (by omega)).trans m145
        have m164 : h_ai H23 (o + 1) 11 = r59 := (h_apn hp23 (by omega)).trans m146
        have m165 : h_ai H23 (o + 1) (98 + 4 * r20.toInt + 24 * u1.toInt).toNat = r79 := (h_apn hp23 (by omega)).trans m147
        have m166 : h_ai H23 (o + 1) 12 = r79 := (h_apn hp23 (by omega)).trans m148
        have m167 : h_ai H23 (o + 1) (99 + 4 * r20.toInt + 24 * u1.toInt).toNat = r101 := (h_apn hp23 (by omega)).trans m149
        have m168 : h_ai H23 (o + 1) 15 = r101 := (h_apn hp23 (by omega)).trans m150
        have m169 : h_ai H23 (o + 1) 13 = 0 := (h_apn hp23 (by omega)).trans m151
        have m170 : h_ai H23 (o + 1) 8 = 0 := (h_apn hp23 (by omega)).trans m153
        have R171 : mR o H23 := R152.keep (fun j hj => h_apn hp23 (by unfold mK at hj; omega))
        have m172 : h_ai H23 (o + 1) 9 = 0 := h_aps hp23
        refine lv_aload_n hx hb dX11_tokenAt_217 rfl (lv_at hl 3 rfl) ?_
        refine lv_iload_n hx hb dX11_tokenAt_218 rfl (lv_at hl 4 rfl) ?_
        refine lv_iload_n hx hb dX11_tokenAt_219 rfl (lv_at hl 1 rfl) ?_
        refine h_callVv (T := TX11) (rest := []) (As := [.int u1, .int r20]) hx hb hml hown hts hK hT23 hZ (fun _ h => h) hS23 (c_X11_takes l G Y P (o) hM u1 r20 (show 0 ≤ u1.toInt ∧ u1.toInt ≤ 7 from by omega) (show 0 ≤ r20.toInt ∧ r20.toInt ≤ 5 from by omega)) (show r20.toInt < (h_ai H23 (o + 1) (80 + u1.toInt).toNat).toInt from by rw [m158]; exact (show r20.toInt < v7.toInt from by omega)) wd_X11_takes wV_X11_takes wL_X11_109 (hM.o rfl) rfl rfl hl.1 rfl (Nat.le_of_ble_eq_true rfl) dX11_tokenAt_220 ⟨Nat.le_of_ble_eq_true rfl, Nat.le_of_ble_eq_true rfl⟩ ⟨Nat.zero_le _, Nat.zero_le _⟩ (fun H24 locs hp24 hT24 hS24 hk24 => ?_)
        obtain ⟨hp24, hB24⟩ := hp24
        have z173 : ∀ j : Nat, (j = 0 ∨ 600 ≤ j) → h_ai H24 (o + 1) j = h_ai H0 (o + 1) j := fun j hj => (hB24 j (by unfold mK; omega)).trans (z154 j hj)
        have z174 : ∀ j : Nat, mK j → h_ai H24 (o + 1) j = h_ai H0 (o + 1) j := fun j hj => (hB24 j hj).trans (z155 j hj)
        have m175 : h_ai H24 (o + 1) 7 = v1 := (hB24 _ (by unfold mK; omega)).trans m156
        have m176 : h_ai H24 (o + 1) (88 + u1.toInt).toNat = v2 := (hB24 _ (by unfold mK; omega)).trans m157
        have R177 : mR o H24 := R171.keep hB24
        obtain ⟨v178, mv178⟩ : ∃ x, h_ai H24 (o + 1) (80 + u1.toInt).toNat = x := ⟨_, rfl⟩
        have bv178 := mP_wm (mP_cell hM hT24 (j := (80 + u1.toInt).toNat) (by omega)) (by omega)
        rw [mv178] at bv178
        have f179 : v178.toInt = v7.toInt - 1 := by have q := hp24; rw [mv178, m158] at q; exact q
        exact hret _ _ _ _ hT24 hS24 ⟨trivial, ⟨R177, z173⟩⟩ dX11_tokenAt_223
      · skip
        have c19 : ¬ v1.toInt ≤ r16.toInt := h_nleI c19
        refine lv_aload_n hx hb dX11_tokenAt_106 rfl (lv_at hl 1 rfl) ?_
        refine lv_iload_n hx hb dX11_tokenAt_107 rfl (lv_at hl 2 rfl) ?_
        refine h_callVv (T := TX11) (rest := []) (As := [.int u1]) hx hb hml hown hts hK hT0 hZ (fun _ h => h) hS5 (c_X11_wishes l G Y P (o) hM u1 (show 0 ≤ u1.toInt ∧ u1.toInt ≤ 7 from by omega)) trivial wd_X11_wishes wV_X11_wishes wL_X11_106 (hM.o rfl) rfl rfl hl.1 rfl (Nat.le_of_ble_eq_true rfl) dX11_tokenAt_108 ⟨Nat.le_of_ble_eq_true rfl, Nat.le_of_ble_eq_true rfl⟩ ⟨Nat.zero_le _, Nat.zero_le _⟩ (fun H25 locs hp25 hT25 hS25 hk25 => ?_)
        obtain ⟨hp25, hB25⟩ := hp25
        have z180 : ∀ j : Nat, (j = 0 ∨ 600 ≤ j) → h_ai H25 (o + 1) j = h_ai H0 (o + 1) j := fun j hj => (hB25 j (by unfold mK; omega))
        have z181 : ∀ j : Nat, mK j → h_ai H25 (o + 1) j = h_ai H0 (o + 1) j := fun j hj => (hB25 j hj)
        have m182 : h_ai H25 (o + 1) 7 = v1 := (hB25 _ (by unfold mK; omega)).trans mv1
        have m183 : h_ai H25 (o + 1) (88 + u1.toInt).toNat = v2 := (hB25 _ (by unfold mK; omega)).trans mv2
        have R184 : mR o H25 := hpr.keep hB25
        exact hret _ _ _ _ hT25 hS25 ⟨trivial, ⟨R184, z180⟩⟩ dX11_tokenAt_111
  · skip
    have c6 : ¬ r3.toInt = (-1 : Int) := h_neI c6
    refine lv_aload_n hx hb dX11_tokenAt_11 rfl (lv_at hl 1 rfl) ?_
    refine lv_bipush (v := 8) hx hb dX11_tokenAt_12 (by decide) ?_
    refine h_callVi (T := TX11) (rest := []) (As := [.int 8]) hx hb hml hown hts hK hT0 hZ (fun _ h => h) hS1 (c_of l G Y P (o) hM 8 8 (by decide) (h_inc (by decide))) trivial wd_X11_of wV_X11_of wL_X11_47 (hM.o rfl) rfl rfl hl.1 rfl (Nat.le_of_ble_eq_true rfl) dX11_tokenAt_14 ⟨Nat.le_of_ble_eq_true rfl, Nat.le_of_ble_eq_true rfl⟩ ⟨Nat.zero_le _, Nat.zero_le _⟩ (fun r185 H26 locs hp26 hT26 hS26 hk26 => ?_)
    obtain ⟨hp26, he⟩ := hp26
    have he := he.symm
    subst he
    have mr185 : h_ai H0 (o + 1) 8 = r185 := hp26.1.symm
    have br185 := mP_l hp26.2 (by omega)
    refine lv_aload_n hx hb dX11_tokenAt_17 rfl (lv_at hl 1 rfl) ?_
    refine lv_iload_n hx hb dX11_tokenAt_18 rfl (lv_at hl 0 rfl) ?_
    refine h_callVi (T := TX11) (rest := [.int r185]) (As := [.int r3]) hx hb hml hown hts hK hT0 hZ (fun _ h => h) hS26 (c_of l G Y P (o) hM r3 (r3.toInt).toNat (show r3.toInt.toNat = (r3.toInt).toNat from by omega) (h_vin (by omega) (by omega))) trivial wd_X11_of wV_X11_of wL_X11_47 (hM.o rfl) rfl rfl hl.1 rfl (Nat.le_of_ble_eq_true rfl) dX11_tokenAt_19 ⟨Nat.le_of_ble_eq_true rfl, Nat.le_of_ble_eq_true rfl⟩ ⟨Nat.zero_le _, Nat.zero_le _⟩ (fun r186 H27 locs hp27 hT27 hS27 hk27 => ?_)
    obtain ⟨hp27, he⟩ := hp27
    have he := he.symm
    subst he
    have mr186 : h_ai H0 (o + 1) (r3.toInt).toNat = r186 := hp27.1.symm
    have br186 := mP_ra hp27.2 (by omega)
    refine lv_icmp_le (tgt := 58) hx hb dX11_tokenAt_22 (by decide) (fun c187 => ?_) (fun c187 => ?_)
    · skip
      have c187 : r185.toInt ≤ r186.toInt := Int32.le_iff_toInt_le.mp c187
      refine lv_aload_n hx hb dX11_tokenAt_58 rfl (lv_at hl 1 rfl) ?_
      refine lv_aload_n hx hb dX11_tokenAt_59 rfl (lv_at hl 1 rfl) ?_
      refine lv_iload_n hx hb dX11_tokenAt_60 rfl (lv_at hl 0 rfl) ?_
      refine h_callVi (T := TX11) (rest := [.ref (o)]) (As := [.int r3]) hx hb hml hown hts hK hT0 hZ (fun _ h => h) hS27 (c_of l G Y P (o) hM r3 (r3.toInt).toNat (show r3.toInt.toNat = (r3.toInt).toNat from by omega) (h_vin (by omega) (by omega))) trivial wd_X11_of wV_X11_of wL_X11_47 (hM.o rfl) rfl rfl hl.1 rfl (Nat.le_of_ble_eq_true rfl) dX11_tokenAt_61 ⟨Nat.le_of_ble_eq_true rfl, Nat.le_of_ble_eq_true rfl⟩ ⟨Nat.zero_le _, Nat.zero_le _⟩ (fun r188 H28 locs hp28 hT28 hS28 hk28 => ?_)
      obtain ⟨hp28, he⟩ := hp28
      have he := he.symm
      subst he
      have hp28 : r186 = r188 := (hp28.1.trans mr186).symm
      subst hp28
      refine h_callVv (T := TX11) (rest := []) (As := [.int r186]) hx hb hml hown hts hK hT0 hZ (fun _ h => h) hS28 (c_X11_isLevel l G Y P (o) hM r186 (show 0 ≤ r186.toInt ∧ r186.toInt ≤ 7 from by omega)) trivial wd_X11_isLevel wV_X11_isLevel wL_X11_103 (hM.o rfl) rfl rfl hl.1 rfl (Nat.le_of_ble_eq_true rfl) dX11_tokenAt_64 ⟨Nat.le_of_ble_eq_true rfl, Nat.le_of_ble_eq_true rfl⟩ ⟨Nat.zero_le _, Nat.zero_le _⟩ (fun H29 locs hp29 hT29 hS29 hk29 => ?_)
      obtain ⟨hp29, hB29⟩ := hp29
      obtain ⟨H30, v30, hp30, hq30⟩ := hB29
      have z189 : ∀ j : Nat, (j = 0 ∨ 600 ≤ j) → h_ai H30 (o + 1) j = h_ai H0 (o + 1) j := fun j hj => (h_apn hp30 (by omega))
      have z190 : ∀ j : Nat, mK j → j ≠ 7 → h_ai H30 (o + 1) j = h_ai H0 (o + 1) j := fun j hj k0 => (h_apn hp30 k0)
      have m191 : h_ai H30 (o + 1) (88 + u1.toInt).toNat = v2 := (h_apn hp30 (by omega)).trans mv2
      have m192 : h_ai H30 (o + 1) 8 = r185 := (h_apn hp30 (by omega)).trans mr185
      have m193 : h_ai H30 (o + 1) (r3.toInt).toNat = r186 := (h_apn hp30 (by omega)).trans mr186
      have m194 : h_ai H30 (o + 1) 7 = r186 := h_aps hp30
      have z195 : ∀ j : Nat, (j = 0 ∨ 600 ≤ j) → h_ai H29 (o + 1) j = h_ai H0 (o + 1) j := fun j hj => (h_apn hq30 (by omega)).trans (z189 j hj)
      have z196 : ∀ j : Nat, mK j → j ≠ 7 → h_ai H29 (o + 1) j = h_ai H0 (o + 1) j := fun j hj k0 => (h_apn hq30 (by unfold mK at hj; omega)).trans (z190 j hj k0)
      have m197 : h_ai H29 (o + 1) (88 + u1.toInt).toNat = v2 := (h_apn hq30 (by omega)).trans m191
      have m198 : h_ai H29 (o + 1) 8 = r185 := (h_apn hq30 (by omega)).trans m192
      have m199 : h_ai H29 (o + 1) (r3.toInt).toNat = r186 := (h_apn hq30 (by omega)).trans m193
      have m200 : h_ai H29 (o + 1) 7 = r186 := (h_apn hq30 (by omega)).trans m194
      refine lv_aload_n hx hb dX11_tokenAt_67 rfl (lv_at hl 1 rfl) ?_
      refine lv_bipush (v := 88) hx hb dX11_tokenAt_68 (by decide) ?_
      refine lv_iload_n hx hb dX11_tokenAt_70 rfl (lv_at hl 2 rfl) ?_
      refine lv_iadd hx hb dX11_tokenAt_71 ?_
      obtain ⟨x201, qx201, ix201⟩ := h_addX 88 u1 (88 : Int) u1.toInt rfl rfl (by omega) (by omega)
      refine h_top (v := x201) qx201 ?_
      refine lv_iconst (v := (-1)) hx hb dX11_tokenAt_72 (by decide) ?_
      obtain ⟨x202, qx202, ix202⟩ := h_addX v2 (-1) v2.toInt (-1 : Int) rfl rfl (by omega) (by omega)
      refine h_callVv (T := TX11) (rest := []) (As := [.int x201, .int (-1)]) hx hb hml hown hts hK hT29 hZ (fun _ h => h) hS29 (c_adds l G Y P (o) hM x201 (-1) (88 + u1.toInt).toNat (show x201.toInt.toNat = (88 + u1.toInt).toNat from by omega) (h_vin (by omega) (by omega))) (show mP (88 + u1.toInt).toNat (h_ai H29 (o + 1) (88 + u1.toInt).toNat + (-1)) from (by rw [m197, qx202]; exact (mP_of8 (by omega) (show 0 ≤ x202.toInt from by omega) (show x202.toInt ≤ 8 from by omega)))) wd_X11_adds wV_X11_adds wL_X11_69 (hM.o rfl) rfl rfl hl.1 rfl (Nat.le_of_ble_eq_true rfl) dX11_tokenAt_73 ⟨Nat.le_of_ble_eq_true rfl, Nat.le_of_ble_eq_true rfl⟩ ⟨Nat.zero_le _, Nat.zero_le _⟩ (fun H31 locs hp31 hT31 hS31 hk31 => ?_)
      have hp31 : h_apu H29 H31 (o + 1) (88 + u1.toInt).toNat (.int (h_ai H29 (o + 1) (88 + u1.toInt).toNat + (-1))) := hp31.2
      rw [show h_ai H29 (o + 1) (88 + u1.toInt).toNat + (-1) = x202 from (by rw [m197]; exact qx202)] at hp31
      have hp31 : h_apu H29 H31 (o + 1) (88 + u1.toInt).toNat (.int x202) := hp31
      have z203 : ∀ j : Nat, (j = 0 ∨ 600 ≤ j) → h_ai H31 (o + 1) j = h_ai H0 (o + 1) j := fun j hj => (h_apn hp31 (by omega)).trans (z195 j hj)
      have z204 : ∀ j : Nat, mK j → j ≠ 7 → j ≠ (88 + u1.toInt).toNat → h_ai H31 (o + 1) j = h_ai H0 (o + 1) j := fun j hj k0 k1 => (h_apn hp31 k1).trans (z196 j hj k0)
      have m205 : h_ai H31 (o + 1) 8 = r185 := (h_apn hp31 (by omega)).trans m198
      have m206 : h_ai H31 (o + 1) (r3.toInt).toNat = r186 := (h_apn hp31 (by omega)).trans m199
      have m207 : h_ai H31 (o + 1) 7 = r186 := (h_apn hp31 (by omega)).trans m200
      have m208 : h_ai H31 (o + 1) (88 + u1.toInt).toNat = x202 := h_aps hp31
      refine lv_aload_n hx hb dX11_tokenAt_76 rfl (lv_at hl 1 rfl) ?_
      refine lv_bipush (v := 9) hx hb dX11_tokenAt_77 (by decide) ?_
      refine lv_iconst (v := 0) hx hb dX11_tokenAt_79 (by decide) ?_
      refine h_callVv (T := TX11) (rest := []) (As := [.int 9, .int 0]) hx hb hml hown hts hK hT31 hZ (fun _ h => h) hS31 (c_puts l G Y P (o) hM 9 0 9 (by decide) (h_inc (by decide)) mP_zero) trivial wd_X11_puts wV_X11_puts wL_X11_43 (hM.o rfl) rfl rfl hl.1 rfl (Nat.le_of_ble_eq_true rfl) dX11_tokenAt_80 ⟨Nat.le_of_ble_eq_true rfl, Nat.le_of_ble_eq_true rfl⟩ ⟨Nat.zero_le _, Nat.zero_le _⟩ (fun H32 locs hp32 hT32 hS32 hk32 => ?_)
      have hp32 : h_apu H31 H32 (o + 1) 9 (.int 0) := hp32.2
      have z209 : ∀ j : Nat, (j = 0 ∨ 600 ≤ j) → h_ai H32 (o + 1) j = h_ai H0 (o + 1) j := fun j hj => (h_apn hp32 (by omega)).trans (z203 j hj)
      have z210 : ∀ j : Nat, mK j → j ≠ 7 → j ≠ (88 + u1.toInt).toNat → h_ai H32 (o + 1) j = h_ai H0 (o + 1) j := fun j hj k0 k1 => (h_apn hp32 (by unfold mK at hj; omega)).trans (z204 j hj k0 k1)
      have m211 : h_ai H32 (o + 1) 8 = r185 := (h_apn hp32 (by omega)).trans m205
      have m212 : h_ai H32 (o + 1) (r3.toInt).toNat = r186 := (h_apn hp32 (by omega)).trans m206
      have m213 : h_ai H32 (o + 1) 7 = r186 := (h_apn hp32 (by omega)).trans m207
      have m214 : h_ai H32 (o + 1) (88 + u1.toInt).toNat = x202 := (h_apn hp32 (by omega)).trans m208
      have m215 : h_ai H32 (o + 1) 9 = 0 := h_aps hp32
      have hl217 : (h_ai H0 (o + 1) (1 + r3.toInt).toNat).toInt = (h_ai H0 (o + 1) 7).toInt := by rcases f4 with q | q <;> first | (exfalso; omega) | (rw [mv1]; exact q.2.2)
      have R216 : mR o H32 := mR_low u1.toInt.toNat (v2.toInt - 1).toNat (k8 := (88 + u1.toInt).toNat) (kr := (r3.toInt).toNat) (kn := (1 + r3.toInt).toNat) (by omega) (by omega) (by omega) (by omega) (by omega) hpr (by rw [mv2]; omega) hl217 (by rw [m213, mr186]) (by rw [m214]; omega) (fun j hj k0 k1 => z210 j hj k0 k1)
      refine lv_aload_n hx hb dX11_tokenAt_83 rfl (lv_at hl 1 rfl) ?_
      refine lv_iload_n hx hb dX11_tokenAt_84 rfl (lv_at hl 2 rfl) ?_
      obtain ⟨v218, mv218⟩ : ∃ x, h_ai H32 (o + 1) (80 + u1.toInt).toNat = x := ⟨_, rfl⟩
      have bv218 := mP_wm (mP_cell hM hT32 (j := (80 + u1.toInt).toNat) (by omega)) (by omega)
      rw [mv218] at bv218
      refine h_callVi (T := TX11) (rest := []) (As := [.int u1]) hx hb hml hown hts hK hT32 hZ (fun _ h => h) hS32 (c_X11_firstOf l G Y P (o) hM u1 (show 0 ≤ u1.toInt ∧ u1.toInt ≤ 7 from by omega)) trivial wd_X11_firstOf wV_X11_firstOf wL_X11_66 (hM.o rfl) rfl rfl hl.1 rfl (Nat.le_of_ble_eq_true rfl) dX11_tokenAt_85 ⟨Nat.le_of_ble_eq_true rfl, Nat.le_of_ble_eq_true rfl⟩ ⟨Nat.zero_le _, Nat.zero_le _⟩ (fun r219 H33 locs hp33 hT33 hS33 hk33 => ?_)
      obtain ⟨hp33, he⟩ := hp33
      have he := he.symm
      subst he
      have f220 : (r219.toInt = -1 ∧ v218.toInt ≤ 0) ∨ (0 ≤ r219.toInt ∧ r219.toInt < v218.toInt) := by have q := hp33; rw [mv218] at q; exact q
      refine lv_iconst (v := (-1)) hx hb dX11_tokenAt_88 (by decide) ?_
      refine lv_icmp_eq (tgt := 106) hx hb dX11_tokenAt_89 (by decide) (fun c221 => ?_) (fun c221 => ?_)
      · skip
        have c221 : r219.toInt = (-1 : Int) := congrArg Int32.toInt c221
        refine lv_aload_n hx hb dX11_tokenAt_106 rfl (lv_at hl 1 rfl) ?_
        refine lv_iload_n hx hb dX11_tokenAt_107 rfl (lv_at hl 2 rfl) ?_
        refine h_callVv (T := TX11) (rest := []) (As := [.int u1]) hx hb hml hown hts hK hT32 hZ (fun _ h => h) hS33 (c_X11_wishes l G Y P (o) hM u1 (show 0 ≤ u1.toInt ∧ u1.toInt ≤ 7 from by omega)) trivial wd_X11_wishes wV_X11_wishes wL_X11_106 (hM.o rfl) rfl rfl hl.1 rfl (Nat.le_of_ble_eq_true rfl) dX11_tokenAt_108 ⟨Nat.le_of_ble_eq_true rfl, Nat.le_of_ble_eq_true rfl⟩ ⟨Nat.zero_le _, Nat.zero_le _⟩ (fun H34 locs hp34 hT34 hS34 hk34 => ?_)
        obtain ⟨hp34, hB34⟩ := hp34
        have z222 : ∀ j : Nat, (j = 0 ∨ 600 ≤ j) → h_ai H34 (o + 1) j = h_ai H0 (o + 1) j := fun j hj => (hB34 j (by unfold mK; omega)).trans (z209 j hj)
        have m223 : h_ai H34 (o + 1) (r3.toInt).toNat = r186 := (hB34 _ (by unfold mK; omega)).trans m212
        have m224 : h_ai H34 (o + 1) 7 = r186 := (hB34 _ (by unfold mK; omega)).trans m213
        have m225 : h_ai H34 (o + 1) (88 + u1.toInt).toNat = x202 := (hB34 _ (by unfold mK; omega)).trans m214
        have R226 : mR o H34 := R216.keep hB34
        exact hret _ _ _ _ hT34 hS34 ⟨trivial, ⟨R226, z222⟩⟩ dX11_tokenAt_111
      · skip
        have c221 : ¬ r219.toInt = (-1 : Int) := h_neI c221
        refine lv_aload_n hx hb dX11_tokenAt_92 rfl (lv_at hl 1 rfl) ?_
        refine lv_iload_n hx hb dX11_tokenAt_93 rfl (lv_at hl 2 rfl) ?_
        refine h_callVi (T := TX11) (rest := []) (As := [.int u1]) hx hb hml hown hts hK hT32 hZ (fun _ h => h) hS33 (c_X11_firstRank l G Y P (o) hM u1 (show 0 ≤ u1.toInt ∧ u1.toInt ≤ 7 from by omega)) trivial wd_X11_firstRank wV_X11_firstRank wL_X11_97 (hM.o rfl) rfl rfl hl.1 rfl (Nat.le_of_ble_eq_true rfl) dX11_tokenAt_94 ⟨Nat.le_of_ble_eq_true rfl, Nat.le_of_ble_eq_true rfl⟩ ⟨Nat.zero_le _, Nat.zero_le _⟩ (fun r227 H35 locs hp35 hT35 hS35 hk35 => ?_)
        obtain ⟨hp35, he⟩ := hp35
        have he := he.symm
        subst he
        have f228 : (r227.toInt = -1 ∧ v218.toInt ≤ 0) ∨ (0 ≤ r227.toInt ∧ r227.toInt ≤ 7 ∧ 1 ≤ v218.toInt) := by have q := hp35; rw [mv218] at q; exact q
        refine lv_aload_n hx hb dX11_tokenAt_97 rfl (lv_at hl 1 rfl) ?_
        refine lv_bipush (v := 7) hx hb dX11_tokenAt_98 (by decide) ?_
        refine h_callVi (T := TX11) (rest := [.int r227]) (As := [.int 7]) hx hb hml hown hts hK hT32 hZ (fun _ h => h) hS35 (c_of l G Y P (o) hM 7 7 (by decide) (h_inc (by decide))) trivial wd_X11_of wV_X11_of wL_X11_47 (hM.o rfl) rfl rfl hl.1 rfl (Nat.le_of_ble_eq_true rfl) dX11_tokenAt_100 ⟨Nat.le_of_ble_eq_true rfl, Nat.le_of_ble_eq_true rfl⟩ ⟨Nat.zero_le _, Nat.zero_le _⟩ (fun r229 H36 locs hp36 hT36 hS36 hk36 => ?_)
        obtain ⟨hp36, he⟩ := hp36
        have he := he.symm
        subst he
        have hp36 : r186 = r229 := (hp36.1.trans m213).symm
        subst hp36
        refine lv_icmp_ge (tgt := 112) hx hb dX11_tokenAt_103 (by decide) (fun c230 => ?_) (fun c230 => ?_)
        · skip
          have c230 : r186.toInt ≤ r227.toInt := Int32.le_iff_toInt_le.mp c230
          refine lv_aload_n hx hb dX11_tokenAt_112 rfl (lv_at hl 1 rfl) ?_
          refine lv_iload_n hx hb dX11_tokenAt_113 rfl (lv_at hl 2 rfl) ?_
          refine h_callVi (T := TX11) (rest := []) (As := [.int u1]) hx hb hml hown hts hK hT32 hZ (fun _ h => h) hS36 (c_X11_firstOf l G Y P (o) hM u1 (show 0 ≤ u1.toInt ∧ u1.toInt ≤ 7 from by omega)) trivial wd_X11_firstOf wV_X11_firstOf wL_X11_66 (hM.o rfl) rfl rfl hl.1 rfl (Nat.le_of_ble_eq_true rfl) dX11_tokenAt_114 ⟨Nat.le_of_ble_eq_true rfl, Nat.le_of_ble_eq_true rfl⟩ ⟨Nat.zero_le _, Nat.zero_le _⟩ (fun r231 H37 locs hp37 hT37 hS37 hk37 => ?_)
          obtain ⟨hp37, he⟩ := hp37
          have he := he.symm
          subst he
          have f232 : (r231.toInt = -1 ∧ v218.toInt ≤ 0) ∨ (0 ≤ r231.toInt ∧ r231.toInt < v218.toInt) := by have q := hp37; rw [mv218] at q; exact q
          refine lv_istore_n (lv' := [(3, .int r231), (2, .int r3), (0, .ref (o)), (1, .int u1)]) hx hb dX11_tokenAt_117 rfl hl (by decide) rfl (fun ls hl => ?_)
          refine lv_aload_n hx hb dX11_tokenAt_118 rfl (lv_at hl 2 rfl) ?_
          refine lv_iconst (v := 5) hx hb dX11_tokenAt_119 (by decide) ?_
          refine lv_iconst (v := 2) hx hb dX11_tokenAt_120 (by decide) ?_
          refine h_callVv (T := TX11) (rest := []) (As := [.int 5, .int 2]) hx hb hml hown hts hK hT32 hZ (fun _ h => h) hS37 (c_puts l G Y P (o) hM 5 2 5 (by decide) (h_inc (by decide)) (mP_free (by unfold mFree; omega))) trivial wd_X11_puts wV_X11_puts wL_X11_43 (hM.o rfl) rfl rfl hl.1 rfl (Nat.le_of_ble_eq_true rfl) dX11_tokenAt_121 ⟨Nat.le_of_ble_eq_true rfl, Nat.le_of_ble_eq_true rfl⟩ ⟨Nat.zero_le _, Nat.zero_le _⟩ (fun H38 locs hp38 hT38 hS38 hk38 => ?_)
          have hp38 : h_apu H32 H38 (o + 1) 5 (.int 2) := hp38.2
          have z233 : ∀ j : Nat, (j = 0 ∨ 600 ≤ j) → h_ai H38 (o + 1) j = h_ai H0 (o + 1) j := fun j hj => (h_apn hp38 (by omega)).trans (z209 j hj)
          have m234 : h_ai H38 (o + 1) 8 = r185 := (h_apn hp38 (by omega)).trans m211
          have m235 : h_ai H38 (o + 1) (r3.toInt).toNat = r186 := (h_apn hp38 (by omega)).trans m212
          have m236 : h_ai H38 (o + 1) 7 = r186 := (h_apn hp38 (by omega)).trans m213
          have m237 : h_ai H38 (o + 1) (88 + u1.toInt).toNat = x202 := (h_apn hp38 (by omega)).trans m214
          have m238 : h_ai H38 (o + 1) 9 = 0 := (h_apn hp38 (by omega)).trans m215
          have m239 : h_ai H38 (o + 1) (80 + u1.toInt).toNat = v218 := (h_apn hp38 (by omega)).trans mv218
          have R240 : mR o H38 := R216.keep (fun j hj => h_apn hp38 (by unfold mK at hj; omega))
          have m241 : h_ai H38 (o + 1) 5 = 2 := h_aps hp38
          refine lv_aload_n hx hb dX11_tokenAt_124 rfl (lv_at hl 2 rfl) ?_
          refine lv_bipush (v := 10) hx hb dX11_tokenAt_125 (by decide) ?_
          refine lv_iload_n hx hb dX11_tokenAt_127 rfl (lv_at hl 3 rfl) ?_
          refine h_callVv (T := TX11) (rest := []) (As := [.int 10, .int u1]) hx hb hml hown hts hK hT38 hZ (fun _ h => h) hS38 (c_puts l G Y P (o) hM 10 u1 10 (by decide) (h_inc (by decide)) (mP_free (by unfold mFree; omega))) trivial wd_X11_puts wV_X11_puts wL_X11_43 (hM.o rfl) rfl rfl hl.1 rfl (Nat.le_of_ble_eq_true rfl) dX11_tokenAt_128 ⟨Nat.le_of_ble_eq_true rfl, Nat.le_of_ble_eq_true rfl⟩ ⟨Nat.zero_le _, Nat.zero_le _⟩ (fun H39 locs hp39 hT39 hS39 hk39 => ?_)
          have hp39 : h_apu H38 H39 (o + 1) 10 (.int u1) := hp39.2
          have z242 : ∀ j : Nat, (j = 0 ∨ 600 ≤ j) → h_ai H39 (o + 1) j = h_ai H0 (o + 1) j := fun j hj => (h_apn hp39 (by omega)).trans (z233 j hj)
          have m243 : h_ai H39 (o + 1) 8 = r185 := (h_apn hp39 (by omega)).trans m234
          have m244 : h_ai H39 (o + 1) (r3.toInt).toNat = r186 := (h_apn hp39 (by omega)).trans m235
          have m245 : h_ai H39 (o + 1) 7 = r186 := (h_apn hp39 (by omega)).trans m236
          have m246 : h_ai H39 (o + 1) (88 + u1.toInt).toNat = x202 := (h_apn hp39 (by omega)).trans m237
          have m247 : h_ai H39 (o + 1) 9 = 0 := (h_apn hp39 (by omega)).trans m238
          have m248 : h_ai H39 (o + 1) (80 + u1.toInt).toNat = v218 := (h_apn hp39 (by omega)).trans m239
          have m249 : h_ai H39 (o + 1) 5 = 2 := (h_apn hp39 (by omega)).trans m241
          have R250 : mR o H39 := R240.keep (fun j hj => h_apn hp39 (by unfold mK at hj; omega))
          have m251 : h_ai H39 (o + 1) 10 = u1 := h_aps hp39
          refine lv_iconst (v := 0) hx hb dX11_tokenAt_131 (by decide) ?_
          refine lv_istore (lv' := [(4, .int 0), (3, .int r231), (2, .int r3), (0, .ref (o)), (1, .int u1)]) hx hb dX11_tokenAt_132 hl (by decide) rfl (fun ls hl => ?_)
          refine lv_iload hx hb dX11_tokenAt_134 (lv_at hl 0 rfl) ?_
          refine lv_iconst (v := 4) hx hb dX11_tokenAt_136 (by decide) ?_
          refine lv_icmp_ge (tgt := 196) hx hb dX11_tokenAt_137 (by decide) (fun h => absurd h (by decide)) (fun _ => ?_)
          refine lv_aload_n hx hb dX11_tokenAt_140 rfl (lv_at hl 3 rfl) ?_
          refine lv_iload hx hb dX11_tokenAt_141 (lv_at hl 0 rfl) ?_
          refine lv_if_ne (tgt := 151) hx hb dX11_tokenAt_143 (by decide) (fun h => absurd (by decide) h) (fun _ => ?_)
          refine lv_bipush (v := 14) hx hb dX11_tokenAt_146 (by decide) ?_
          refine lv_goto (tgt := 175) hx hb dX11_tokenAt_148 (by decide) ?_
          refine lv_aload_n hx hb dX11_tokenAt_175 rfl (lv_at hl 3 rfl) ?_
          refine lv_iload_n hx hb dX11_tokenAt_176 rfl (lv_at hl 4 rfl) ?_
          refine lv_iload_n hx hb dX11_tokenAt_177 rfl (lv_at hl 1 rfl) ?_
          refine h_callSi (rest := [.ref (o), .int 14, .ref (o)]) (As := [.int u1, .int r231]) hx hb hml hown hts hK hT39 hZ (fun _ h => h) hS39 (c_X11_waitAt l G Y u1 r231 (show 0 ≤ u1.toInt ∧ u1.toInt ≤ 7 from by omega) (show 0 ≤ r231.toInt ∧ r231.toInt ≤ 6 from by omega)) trivial wd_X11_waitAt wS_X11_waitAt wL_X11_62 rfl hl.1 rfl (Nat.le_of_ble_eq_true rfl) dX11_tokenAt_178 ⟨Nat.le_of_ble_eq_true rfl, Nat.le_of_ble_eq_true rfl⟩ ⟨Nat.zero_le _, Nat.zero_le _⟩ (fun r254 H40 locs hp40 hT40 hS40 hk40 => ?_)
          obtain ⟨hp40, he⟩ := hp40
          have he := he.symm
          subst he
          have f255 : r254.toInt = 96 + 24 * u1.toInt + 4 * r231.toInt := by have q := hp40; exact q
          refine lv_iload hx hb dX11_tokenAt_181 (lv_at hl 0 rfl) ?_
          refine lv_iadd hx hb dX11_tokenAt_183 ?_
          obtain ⟨x256, qx256, ix256⟩ := h_addX r254 0 r254.toInt (0 : Int) rfl rfl (by omega) (by omega)
          refine h_top (v := x256) qx256 ?_
          refine h_callVi (T := TX11) (rest := [.int 14, .ref (o)]) (As := [.int x256]) hx hb hml hown hts hK hT39 hZ (fun _ h => h) hS40 (c_of l G Y P (o) hM x256 (96 + 4 * r231.toInt + 24 * u1.toInt).toNat (show x256.toInt.toNat = (96 + 4 * r231.toInt + 24 * u1.toInt).toNat from by omega) (h_vin (by omega) (by omega))) trivial wd_X11_of wV_X11_of wL_X11_47 (hM.o rfl) rfl rfl hl.1 rfl (Nat.le_of_ble_eq_true rfl) dX11_tokenAt_184 ⟨Nat.le_of_ble_eq_true rfl, Nat.le_of_ble_eq_true rfl⟩ ⟨Nat.zero_le _, Nat.zero_le _⟩ (fun r257 H41 locs hp41 hT41 hS41 hk41 => ?_)
          obtain ⟨hp41, he⟩ := hp41
          have he := he.symm
          subst he
          have mr257 : h_ai H39 (o + 1) (96 + 4 * r231.toInt + 24 * u1.toInt).toNat = r257 := hp41.1.symm
          refine h_callVv (T := TX11) (rest := []) (As := [.int 14, .int r257]) hx hb hml hown hts hK hT39 hZ (fun _ h => h) hS41 (c_puts l G Y P (o) hM 14 r257 14 (by decide) (h_inc (by decide)) (mP_free (by unfold mFree; omega))) trivial wd_X11_puts wV_X11_puts wL_X11_43 (hM.o rfl) rfl rfl hl.1 rfl (Nat.le_of_ble_eq_true rfl) dX11_tokenAt_187 ⟨Nat.le_of_ble_eq_true rfl, Nat.le_of_ble_eq_true rfl⟩ ⟨Nat.zero_le _, Nat.zero_le _⟩ (fun H42 locs hp42 hT42 hS42 hk42 => ?_)
          have hp42 : h_apu H39 H42 (o + 1) 14 (.int r257) := hp42.2
          have z258 : ∀ j : Nat, (j = 0 ∨ 600 ≤ j) → h_ai H42 (o + 1) j = h_ai H0 (o + 1) j := fun j hj => (h_apn hp42 (by omega)).trans (z242 j hj)
          have m259 : h_ai H42 (o + 1) 8 = r185 := (h_apn hp42 (by omega)).trans m243
          have m260 : h_ai H42 (o + 1) (r3.toInt).toNat = r186 := (h_apn hp42 (by omega)).trans m244
          have m261 : h_ai H42 (o + 1) 7 = r186 := (h_apn hp42 (by omega)).trans m245
          have m262 : h_ai H42 (o + 1) (88 + u1.toInt).toNat = x202 := (h_apn hp42 (by omega)).trans m246
          have m263 : h_ai H42 (o + 1) 9 = 0 := (h_apn hp42 (by omega)).trans m247
          have m264 : h_ai H42 (o + 1) (80 + u1.toInt).toNat = v218 := (h_apn hp42 (by omega)).trans m248
          have m265 : h_ai H42 (o + 1) 5 = 2 := (h_apn hp42 (by omega)).trans m249
          have m266 : h_ai H42 (o + 1) 10 = u1 := (h_apn hp42 (by omega)).trans m251
          have m267 : h_ai H42 (o + 1) (96 + 4 * r231.toInt + 24 * u1.toInt).toNat = r257 := (h_apn hp42 (by omega)).trans mr257
          have R268 : mR o H42 := R250.keep (fun j hj => h_apn hp42 (by unfold mK at hj; omega))
          have m269 : h_ai H42 (o + 1) 14 = r257 := h_aps hp42
          refine lv_iinc (v := 1) (lv' := [(4, .int 1), (3, .int r231), (2, .int r3), (0, .ref (o)), (1, .int u1)]) hx hb dX11_tokenAt_190 hl (k := 0) rfl (by decide) (by decide) rfl (fun ls hl => ?_)
          refine lv_goto (tgt := 134) hx hb dX11_tokenAt_193 (by decide) ?_
          refine lv_iload hx hb dX11_tokenAt_134 (lv_at hl 0 rfl) ?_
          refine lv_iconst (v := 4) hx hb dX11_tokenAt_136 (by decide) ?_
          refine lv_icmp_ge (tgt := 196) hx hb dX11_tokenAt_137 (by decide) (fun h => absurd h (by decide)) (fun _ => ?_)
          refine lv_aload_n hx hb dX11_tokenAt_140 rfl (lv_at hl 3 rfl) ?_
          refine lv_iload hx hb dX11_tokenAt_141 (lv_at hl 0 rfl) ?_
          refine lv_if_ne (tgt := 151) hx hb dX11_tokenAt_143 (by decide) (fun _ => ?_) (fun h => absurd h (by decide))
          refine lv_iload hx hb dX11_tokenAt_151 (lv_at hl 0 rfl) ?_
          refine lv_iconst (v := 1) hx hb dX11_tokenAt_153 (by decide) ?_
          refine lv_icmp_ne (tgt := 162) hx hb dX11_tokenAt_154 (by decide) (fun h => absurd (by decide) h) (fun _ => ?_)
          refine lv_bipush (v := 11) hx hb dX11_tokenAt_157 (by decide) ?_
          refine lv_goto (tgt := 175) hx hb dX11_tokenAt_159 (by decide) ?_
          refine lv_aload_n hx hb dX11_tokenAt_175 rfl (lv_at hl 3 rfl) ?_
          refine lv_iload_n hx hb dX11_tokenAt_176 rfl (lv_at hl 4 rfl) ?_
          refine lv_iload_n hx hb dX11_tokenAt_177 rfl (lv_at hl 1 rfl) ?_
          refine h_callSi (rest := [.ref (o), .int 11, .ref (o)]) (As := [.int u1, .int r231]) hx hb hml hown hts hK hT42 hZ (fun _ h => h) hS42 (c_X11_waitAt l G Y u1 r231 (show 0 ≤ u1.toInt ∧ u1.toInt ≤ 7 from by omega) (show 0 ≤ r231.toInt ∧ r231.toInt ≤ 6 from by omega)) trivial wd_X11_waitAt wS_X11_waitAt wL_X11_62 rfl hl.1 rfl (Nat.le_of_ble_eq_true rfl) dX11_tokenAt_178 ⟨Nat.le_of_ble_eq_true rfl, Nat.le_of_ble_eq_true rfl⟩ ⟨Nat.zero_le _, Nat.zero_le _⟩ (fun r273 H43 locs hp43 hT43 hS43 hk43 => ?_)
          obtain ⟨hp43, he⟩ := hp43
          have he := he.symm
          subst he
          have f274 : r273.toInt = 96 + 24 * u1.toInt + 4 * r231.toInt := by have q := hp43; exact q
          refine lv_iload hx hb dX11_tokenAt_181 (lv_at hl 0 rfl) ?_
          refine lv_iadd hx hb dX11_tokenAt_183 ?_
          obtain ⟨x275, qx275, ix275⟩ := h_addX r273 1 r273.toInt (1 : Int) rfl rfl (by omega) (by omega)
          refine h_top (v := x275) qx275 ?_
          refine h_callVi (T := TX11) (rest := [.int 11, .ref (o)]) (As := [.int x275]) hx hb hml hown hts hK hT42 hZ (fun _ h => h) hS43 (c_of l G Y P (o) hM x275 (97 + 4 * r231.toInt + 24 * u1.toInt).toNat (show x275.toInt.toNat = (97 + 4 * r231.toInt + 24 * u1.toInt).toNat from by omega) (h_vin (by omega) (by omega))) trivial wd_X11_of wV_X11_of wL_X11_47 (hM.o rfl) rfl rfl hl.1 rfl (Nat.le_of_ble_eq_true rfl) dX11_tokenAt_184 ⟨Nat.le_of_ble_eq_true rfl, Nat.le_of_ble_eq_true rfl⟩ ⟨Nat.zero_le _, Nat.zero_le _⟩ (fun r276 H44 locs hp44 hT44 hS44 hk44 => ?_)
          obtain ⟨hp44, he⟩ := hp44
          have he := he.symm
          subst he
          have mr276 : h_ai H42 (o + 1) (97 + 4 * r231.toInt + 24 * u1.toInt).toNat = r276 := hp44.1.symm
          have br276 := mP_w hp44.2 (by omega)
          refine h_callVv (T := TX11) (rest := []) (As := [.int 11, .int r276]) hx hb hml hown hts hK hT42 hZ (fun _ h => h) hS44 (c_puts l G Y P (o) hM 11 r276 11 (by decide) (h_inc (by decide)) (mP_of7 (by omega) (show 0 ≤ r276.toInt from by omega) (show r276.toInt ≤ 7 from by omega))) trivial wd_X11_puts wV_X11_puts wL_X11_43 (hM.o rfl) rfl rfl hl.1 rfl (Nat.le_of_ble_eq_true rfl) dX11_tokenAt_187 ⟨Nat.le_of_ble_eq_true rfl, Nat.le_of_ble_eq_true rfl⟩ ⟨Nat.zero_le _, Nat.zero_le _⟩ (fun H45 locs hp45 hT45 hS45 hk45 => ?_)
          have hp45 : h_apu H42 H45 (o + 1) 11 (.int r276) := hp45.2
          have z277 : ∀ j : Nat, (j = 0 ∨ 600 ≤ j) → h_ai H45 (o + 1) j = h_ai H0 (o + 1) j := fun j hj => (h_apn hp45 (by omega)).trans (z258 j hj)
          have m278 : h_ai H45 (o + 1) 8 = r185 := (h_apn hp45 (by omega)).trans m259
          have m279 : h_ai H45 (o + 1) (r3.toInt).toNat = r186 := (h_apn hp45 (by omega)).trans m260
          have m280 : h_ai H45 (o + 1) 7 = r186 := (h_apn hp45 (by omega)).trans m261
          have m281 : h_ai H45 (o + 1) (88 + u1.toInt).toNat = x202 := (h_apn hp45 (by omega)).trans m262
          have m282 : h_ai H45 (o + 1) 9 = 0 := (h_apn hp45 (by omega)).trans m263
          have m283 : h_ai H45 (o + 1) (80 + u1.toInt).toNat = v218 := (h_apn hp45 (by omega)).trans m264
          have m284 : h_ai H45 (o + 1) 5 = 2 := (h_apn hp45 (by omega)).trans m265
          have m285 : h_ai H45 (o + 1) 10 = u1 := (h_apn hp45 (by omega)).trans m266
          have m286 : h_ai H45 (o + 1) (96 + 4 * r231.toInt + 24 * u1.toInt).toNat = r257 := (h_apn hp45 (by omega)).trans m267
          have m287 : h_ai H45 (o + 1) 14 = r257 := (h_apn hp45 (by omega)).trans m269
          have m288 : h_ai H45 (o + 1) (97 + 4 * r231.toInt + 24 * u1.toInt).toNat = r276 := (h_apn hp45 (by omega)).trans mr276
          have R289 : mR o H45 := R268.keep (fun j hj => h_apn hp45 (by unfold mK at hj; omega))
          have m290 : h_ai H45 (o + 1) 11 = r276 := h_aps hp45
          refine lv_iinc (v := 2) (lv' := [(4, .int 2), (3, .int r231), (2, .int r3), (0, .ref (o)), (1, .int u1)]) hx hb dX11_tokenAt_190 hl (k := 0) rfl (by decide) (by decide) rfl (fun ls hl => ?_)
          refine lv_goto (tgt := 134) hx hb dX11_tokenAt_193 (by decide) ?_
          refine lv_iload hx hb dX11_tokenAt_134 (lv_at hl 0 rfl) ?_
          refine lv_iconst (v := 4) hx hb dX11_tokenAt_136 (by decide) ?_
          refine lv_icmp_ge (tgt := 196) hx hb dX11_tokenAt_137 (by decide) (fun h => absurd h (by decide)) (fun _ => ?_)
          refine lv_aload_n hx hb dX11_tokenAt_140 rfl (lv_at hl 3 rfl) ?_
          refine lv_iload hx hb dX11_tokenAt_141 (lv_at hl 0 rfl) ?_
          refine lv_if_ne (tgt := 151) hx hb dX11_tokenAt_143 (by decide) (fun _ => ?_) (fun h => absurd h (by decide))
          refine lv_iload hx hb dX11_tokenAt_151 (lv_at hl 0 rfl) ?_
          refine lv_iconst (v := 1) hx hb dX11_tokenAt_153 (by decide) ?_
          refine lv_icmp_ne (tgt := 162) hx hb dX11_tokenAt_154 (by decide) (fun _ => ?_) (fun h => absurd h (by decide))
          refine lv_iload hx hb dX11_tokenAt_162 (lv_at hl 0 rfl) ?_
          refine lv_iconst (v := 2) hx hb dX11_tokenAt_164 (by decide) ?_
          refine lv_icmp_ne (tgt := 173) hx hb dX11_tokenAt_165 (by decide) (fun h => absurd (by decide) h) (fun _ => ?_)
          refine lv_bipush (v := 12) hx hb dX11_tokenAt_168 (by decide) ?_
          refine lv_goto (tgt := 175) hx hb dX11_tokenAt_170 (by decide) ?_
          refine lv_aload_n hx hb dX11_tokenAt_175 rfl (lv_at hl 3 rfl) ?_
          refine lv_iload_n hx hb dX11_tokenAt_176 rfl (lv_at hl 4 rfl) ?_
          refine lv_iload_n hx hb dX11_tokenAt_177 rfl (lv_at hl 1 rfl) ?_
          refine h_callSi (rest := [.ref (o), .int 12, .ref (o)]) (As := [.int u1, .int r231]) hx hb hml hown hts hK hT45 hZ (fun _ h => h) hS45 (c_X11_waitAt l G Y u1 r231 (show 0 ≤ u1.toInt ∧ u1.toInt ≤ 7 from by omega) (show 0 ≤ r231.toInt ∧ r231.toInt ≤ 6 from by omega)) trivial wd_X11_waitAt wS_X11_waitAt wL_X11_62 rfl hl.1 rfl (Nat.le_of_ble_eq_true rfl) dX11_tokenAt_178 ⟨Nat.le_of_ble_eq_true rfl, Nat.le_of_ble_eq_true rfl⟩ ⟨Nat.zero_le _, Nat.zero_le _⟩ (fun r295 H46 locs hp46 hT46 hS46 hk46 => ?_)
          obtain ⟨hp46, he⟩ := hp46
          have he := he.symm
          subst he
          have f296 : r295.toInt = 96 + 24 * u1.toInt + 4 * r231.toInt := by have q := hp46; exact q
          refine lv_iload hx hb dX11_tokenAt_181 (lv_at hl 0 rfl) ?_
          refine lv_iadd hx hb dX11_tokenAt_183 ?_
          obtain ⟨x297, qx297, ix297⟩ := h_addX r295 2 r295.toInt (2 : Int) rfl rfl (by omega) (by omega)
          refine h_top (v := x297) qx297 ?_
          refine h_callVi (T := TX11) (rest := [.int 12, .ref (o)]) (As := [.int x297]) hx hb hml hown hts hK hT45 hZ (fun _ h => h) hS46 (c_of l G Y P (o) hM x297 (98 + 4 * r231.toInt + 24 * u1.toInt).toNat (show x297.toInt.toNat = (98 + 4 * r231.toInt + 24 * u1.toInt).toNat from by omega) (h_vin (by omega) (by omega))) trivial wd_X11_of wV_X11_of wL_X11_47 (hM.o rfl) rfl rfl hl.1 rfl (Nat.le_of_ble_eq_true rfl) dX11_tokenAt_184 ⟨Nat.le_of_ble_eq_true rfl, Nat.le_of_ble_eq_true rfl⟩ ⟨Nat.zero_le _, Nat.zero_le _⟩ (fun r298 H47 locs hp47 hT47 hS47 hk47 => ?_)
          obtain ⟨hp47, he⟩ := hp47
          have he := he.symm
          subst he
          have mr298 : h_ai H45 (o + 1) (98 + 4 * r231.toInt + 24 * u1.toInt).toNat = r298 := hp47.1.symm
          have br298 := mP_w hp47.2 (by omega)
          refine h_callVv (T := TX11) (rest := []) (As := [.int 12, .int r298]) hx hb hml hown hts hK hT45 hZ (fun _ h => h) hS47 (c_puts l G Y P (o) hM 12 r298 12 (by decide) (h_inc (by decide)) (mP_of7 (by omega) (show 0 ≤ r298.toInt from by omega) (show r298.toInt ≤ 7 from by omega))) trivial wd_X11_puts wV_X11_puts wL_X11_43 (hM.o rfl) rfl rfl hl.1 rfl (Nat.le_of_ble_eq_true rfl) dX11_tokenAt_187 ⟨Nat.le_of_ble_eq_true rfl, Nat.le_of_ble_eq_true rfl⟩ ⟨Nat.zero_le _, Nat.zero_le _⟩ (fun H48 locs hp48 hT48 hS48 hk48 => ?_)
          have hp48 : h_apu H45 H48 (o + 1) 12 (.int r298) := hp48.2
          have z299 : ∀ j : Nat, (j = 0 ∨ 600 ≤ j) → h_ai H48 (o + 1) j = h_ai H0 (o + 1) j := fun j hj => (h_apn hp48 (by omega)).trans (z277 j hj)
          have m300 : h_ai H48 (o + 1) 8 = r185 := (h_apn hp48 (by omega)).trans m278
          have m301 : h_ai H48 (o + 1) (r3.toInt).toNat = r186 := (h_apn hp48 (by omega)).trans m279
          have m302 : h_ai H48 (o + 1) 7 = r186 := (h_apn hp48 (by omega)).trans m280
          have m303 : h_ai H48 (o + 1) (88 + u1.toInt).toNat = x202 := (h_apn hp48 (by omega)).trans m281
          have m304 : h_ai H48 (o + 1) 9 = 0 := (h_apn hp48 (by omega)).trans m282
          have m305 : h_ai H48 (o + 1) (80 + u1.toInt).toNat = v218 := (h_apn hp48 (by omega)).trans m283
          have m306 : h_ai H48 (o + 1) 5 = 2 := (h_apn hp48 (by omega)).trans m284
          have m307 : h_ai H48 (o + 1) 10 = u1 := (h_apn hp48 (by omega)).trans m285
          have m308 : h_ai H48 (o + 1) (96 + 4 * r231.toInt + 24 * u1.toInt).toNat = r257 := (h_apn hp48 (by omega)).trans m286
          have m309 : h_ai H48 (o + 1) 14 = r257 := (h_apn hp48 (by omega)).trans m287
          have m310 : h_ai H48 (o + 1) (97 + 4 * r231.toInt + 24 * u1.toInt).toNat = r276 := (h_apn hp48 (by omega)).trans m288
          have m311 : h_ai H48 (o + 1) 11 = r276 := (h_apn hp48 (by omega)).trans m290
          have m312 : h_ai H48 (o + 1) (98 + 4 * r231.toInt + 24 * u1.toInt).toNat = r298 := (h_apn hp48 (by omega)).trans mr298
          have R313 : mR o H48 := R289.keep (fun j hj => h_apn hp48 (by unfold mK at hj; omega))
          have m314 : h_ai H48 (o + 1) 12 = r298 := h_aps hp48
          refine lv_iinc (v := 3) (lv' := [(4, .int 3), (3, .int r231), (2, .int r3), (0, .ref (o)), (1, .int u1)]) hx hb dX11_tokenAt_190 hl (k := 0) rfl (by decide) (by decide) rfl (fun ls hl => ?_)
          refine lv_goto (tgt := 134) hx hb dX11_tokenAt_193 (by decide) ?_
          refine lv_iload hx hb dX11_tokenAt_134 (lv_at hl 0 rfl) ?_
          refine lv_iconst (v := 4) hx hb dX11_tokenAt_136 (by decide) ?_
          refine lv_icmp_ge (tgt := 196) hx hb dX11_tokenAt_137 (by decide) (fun h => absurd h (by decide)) (fun _ => ?_)
          refine lv_aload_n hx hb dX11_tokenAt_140 rfl (lv_at hl 3 rfl) ?_
          refine lv_iload hx hb dX11_tokenAt_141 (lv_at hl 0 rfl) ?_
          refine lv_if_ne (tgt := 151) hx hb dX11_tokenAt_143 (by decide) (fun _ => ?_) (fun h => absurd h (by decide))
          refine lv_iload hx hb dX11_tokenAt_151 (lv_at hl 0 rfl) ?_
          refine lv_iconst (v := 1) hx hb dX11_tokenAt_153 (by decide) ?_
          refine lv_icmp_ne (tgt := 162) hx hb dX11_tokenAt_154 (by decide) (fun _ => ?_) (fun h => absurd h (by decide))
          refine lv_iload hx hb dX11_tokenAt_162 (lv_at hl 0 rfl) ?_
          refine lv_iconst (v := 2) hx hb dX11_tokenAt_164 (by decide) ?_
          refine lv_icmp_ne (tgt := 173) hx hb dX11_tokenAt_165 (by decide) (fun _ => ?_) (fun h => absurd h (by decide))
          refine lv_bipush (v := 15) hx hb dX11_tokenAt_173 (by decide) ?_
          refine lv_aload_n hx hb dX11_tokenAt_175 rfl (lv_at hl 3 rfl) ?_
          refine lv_iload_n hx hb dX11_tokenAt_176 rfl (lv_at hl 4 rfl) ?_
          refine lv_iload_n hx hb dX11_tokenAt_177 rfl (lv_at hl 1 rfl) ?_
          refine h_callSi (rest := [.ref (o), .int 15, .ref (o)]) (As := [.int u1, .int r231]) hx hb hml hown hts hK hT48 hZ (fun _ h => h) hS48 (c_X11_waitAt l G Y u1 r231 (show 0 ≤ u1.toInt ∧ u1.toInt ≤ 7 from by omega) (show 0 ≤ r231.toInt ∧ r231.toInt ≤ 6 from by omega)) trivial wd_X11_waitAt wS_X11_waitAt wL_X11_62 rfl hl.1 rfl (Nat.le_of_ble_eq_true rfl) dX11_tokenAt_178 ⟨Nat.le_of_ble_eq_true rfl, Nat.le_of_ble_eq_true rfl⟩ ⟨Nat.zero_le _, Nat.zero_le _⟩ (fun r319 H49 locs hp49 hT49 hS49 hk49 => ?_)
          obtain ⟨hp49, he⟩ := hp49
          have he := he.symm
          subst he
          have f320 : r319.toInt = 96 + 24 * u1.toInt + 4 * r231.toInt := by have q := hp49; exact q
          refine lv_iload hx hb dX11_tokenAt_181 (lv_at hl 0 rfl) ?_
          refine lv_iadd hx hb dX11_tokenAt_183 ?_
          obtain ⟨x321, qx321, ix321⟩ := h_addX r319 3 r319.toInt (3 : Int) rfl rfl (by omega) (by omega)
          refine h_top (v := x321) qx321 ?_
          refine h_callVi (T := TX11) (rest := [.int 15, .ref (o)]) (As := [.int x321]) hx hb hml hown hts hK hT48 hZ (fun _ h => h) hS49 (c_of l G Y P (o) hM x321 (99 + 4 * r231.toInt + 24 * u1.toInt).toNat (show x321.toInt.toNat = (99 + 4 * r231.toInt + 24 * u1.toInt).toNat from by omega) (h_vin (by omega) (by omega))) trivial wd_X11_of wV_X11_of wL_X11_47 (hM.o rfl) rfl rfl hl.1 rfl (Nat.le_of_ble_eq_true rfl) dX11_tokenAt_184 ⟨Nat.le_of_ble_eq_true rfl, Nat.le_of_ble_eq_true rfl⟩ ⟨Nat.zero_le _, Nat.zero_le _⟩ (fun r322 H50 locs hp50 hT50 hS50 hk50 => ?_)
          obtain ⟨hp50, he⟩ := hp50
          have he := he.symm
          subst he
          have mr322 : h_ai H48 (o + 1) (99 + 4 * r231.toInt + 24 * u1.toInt).toNat = r322 := hp50.1.symm
          refine h_callVv (T := TX11) (rest := []) (As := [.int 15, .int r322]) hx hb hml hown hts hK hT48 hZ (fun _ h => h) hS50 (c_puts l G Y P (o) hM 15 r322 15 (by decide) (h_inc (by decide)) (mP_free (by unfold mFree; omega))) trivial wd_X11_puts wV_X11_puts wL_X11_43 (hM.o rfl) rfl rfl hl.1 rfl (Nat.le_of_ble_eq_true rfl) dX11_tokenAt_187 ⟨Nat.le_of_ble_eq_true rfl, Nat.le_of_ble_eq_true rfl⟩ ⟨Nat.zero_le _, Nat.zero_le _⟩ (fun H51 locs hp51 hT51 hS51 hk51 => ?_)
          have hp51 : h_apu H48 H51 (o + 1) 15 (.int r322) := hp51.2
          have z323 : ∀ j : Nat, (j = 0 ∨ 600 ≤ j) → h_ai H51 (o + 1) j = h_ai H0 (o + 1) j := fun j hj => (h_apn hp51 (by omega)).trans (z299 j hj)
          have m324 : h_ai H51 (o + 1) 8 = r185 := (h_apn hp51 (by omega)).trans m300
          have m325 : h_ai H51 (o + 1) (r3.toInt).toNat = r186 := (h_apn hp51 (by omega)).trans m301
          have m326 : h_ai H51 (o + 1) 7 = r186 := (h_apn hp51 (by omega)).trans m302
          have m327 : h_ai H51 (o + 1) (88 + u1.toInt).toNat = x202 := (h_apn hp51 (by omega)).trans m303
          have m328 : h_ai H51 (o + 1) 9 = 0 := (h_apn hp51 (by omega)).trans m304
          have m329 : h_ai H51 (o + 1) (80 + u1.toInt).toNat = v218 := (h_apn hp51 (by omega)).trans m305
          have m330 : h_ai H51 (o + 1) 5 = 2 := (h_apn hp51 (by omega)).trans m306
          have m331 : h_ai H51 (o + 1) 10 = u1 := (h_apn hp51 (by omega)).trans m307
          have m332 : h_ai H51 (o + 1) (96 + 4 * r231.toInt + 24 * u1.toInt).toNat = r257 := (h_apn hp51 (by omega)).trans m308
          have m333 : h_ai H51 (o + 1) 14 = r257 := (h_apn hp51 (by omega)).trans m309
          have m334 : h_ai H51 (o + 1) (97 + 4 * r231.toInt + 24 * u1.toInt).toNat = r276 := (h_apn hp51 (by omega)).trans m310
          have m335 : h_ai H51 (o + 1) 11 = r276 := (h_apn hp51 (by omega)).trans m311
          have m336 : h_ai H51 (o + 1) (98 + 4 * r231.toInt + 24 * u1.toInt).toNat = r298 := (h_apn hp51 (by omega)).trans m312
          have m337 : h_ai H51 (o + 1) 12 = r298 := (h_apn hp51 (by omega)).trans m314
          have m338 : h_ai H51 (o + 1) (99 + 4 * r231.toInt + 24 * u1.toInt).toNat = r322 := (h_apn hp51 (by omega)).trans mr322
          have R339 : mR o H51 := R313.keep (fun j hj => h_apn hp51 (by unfold mK at hj; omega))
          have m340 : h_ai H51 (o + 1) 15 = r322 := h_aps hp51
          refine lv_iinc (v := 4) (lv' := [(4, .int 4), (3, .int r231), (2, .int r3), (0, .ref (o)), (1, .int u1)]) hx hb dX11_tokenAt_190 hl (k := 0) rfl (by decide) (by decide) rfl (fun ls hl => ?_)
          refine lv_goto (tgt := 134) hx hb dX11_tokenAt_193 (by decide) ?_
          refine lv_iload hx hb dX11_tokenAt_134 (lv_at hl 0 rfl) ?_
          refine lv_iconst (v := 4) hx hb dX11_tokenAt_136 (by decide) ?_
          refine lv_icmp_ge (tgt := 196) hx hb dX11_tokenAt_137 (by decide) (fun _ => ?_) (fun h => absurd (by decide) h)
          refine lv_aload_n hx hb dX11_tokenAt_196 rfl (lv_at hl 3 rfl) ?_
          refine lv_bipush (v := 13) hx hb dX11_tokenAt_197 (by decide) ?_
          refine lv_iconst (v := 0) hx hb dX11_tokenAt_199 (by decide) ?_
          refine h_callVv (T := TX11) (rest := []) (As := [.int 13, .int 0]) hx hb hml hown hts hK hT51 hZ (fun _ h => h) hS51 (c_puts l G Y P (o) hM 13 0 13 (by decide) (h_inc (by decide)) mP_zero) trivial wd_X11_puts wV_X11_puts wL_X11_43 (hM.o rfl) rfl rfl hl.1 rfl (Nat.le_of_ble_eq_true rfl) dX11_tokenAt_200 ⟨Nat.le_of_ble_eq_true rfl, Nat.le_of_ble_eq_true rfl⟩ ⟨Nat.zero_le _, Nat.zero_le _⟩ (fun H52 locs hp52 hT52 hS52 hk52 => ?_)
          have hp52 : h_apu H51 H52 (o + 1) 13 (.int 0) := hp52.2
          have z342 : ∀ j : Nat, (j = 0 ∨ 600 ≤ j) → h_ai H52 (o + 1) j = h_ai H0 (o + 1) j := fun j hj => (h_apn hp52 (by omega)).trans (z323 j hj)
          have m343 : h_ai H52 (o + 1) 8 = r185 := (h_apn hp52 (by omega)).trans m324
          have m344 : h_ai H52 (o + 1) (r3.toInt).toNat = r186 := (h_apn hp52 (by omega)).trans m325
          have m345 : h_ai H52 (o + 1) 7 = r186 := (h_apn hp52 (by omega)).trans m326
          have m346 : h_ai H52 (o + 1) (88 + u1.toInt).toNat = x202 := (h_apn hp52 (by omega)).trans m327
          have m347 : h_ai H52 (o + 1) 9 = 0 := (h_apn hp52 (by omega)).trans m328
          have m348 : h_ai H52 (o + 1) (80 + u1.toInt).toNat = v218 := (h_apn hp52 (by omega)).trans m329
          have m349 : h_ai H52 (o + 1) 5 = 2 := (h_apn hp52 (by omega)).trans m330
          have m350 : h_ai H52 (o + 1) 10 = u1 := (h_apn hp52 (by omega)).trans m331
          have m351 : h_ai H52 (o + 1) (96 + 4 * r231.toInt + 24 * u1.toInt).toNat = r257 := (h_apn hp52 (by omega)).trans m332
          have m352 : h_ai H52 (o + 1) 14 = r257 := (h_apn hp52 (by omega)).trans m333
          have m353 : h_ai H52 (o + 1) (97 + 4 * r231.toInt + 24 * u1.toInt).toNat = r276 := (h_apn hp52 (by omega)).trans m334
          have m354 : h_ai H52 (o + 1) 11 = r276 := (h_apn hp52 (by omega)).trans m335
          have m355 : h_ai H52 (o + 1) (98 + 4 * r231.toInt + 24 * u1.toInt).toNat = r298 := (h_apn hp52 (by omega)).trans m336
          have m356 : h_ai H52 (o + 1) 12 = r298 := (h_apn hp52 (by omega)).trans m337
          have m357 : h_ai H52 (o + 1) (99 + 4 * r231.toInt + 24 * u1.toInt).toNat = r322 := (h_apn hp52 (by omega)).trans m338
          have m358 : h_ai H52 (o + 1) 15 = r322 := (h_apn hp52 (by omega)).trans m340
          have R359 : mR o H52 := R339.keep (fun j hj => h_apn hp52 (by unfold mK at hj; omega))
          have m360 : h_ai H52 (o + 1) 13 = 0 := h_aps hp52
          refine lv_aload_n hx hb dX11_tokenAt_203 rfl (lv_at hl 3 rfl) ?_
          refine lv_bipush (v := 8) hx hb dX11_tokenAt_204 (by decide) ?_
          refine lv_iconst (v := 0) hx hb dX11_tokenAt_206 (by decide) ?_
          refine h_callVv (T := TX11) (rest := []) (As := [.int 8, .int 0]) hx hb hml hown hts hK hT52 hZ (fun _ h => h) hS52 (c_puts l G Y P (o) hM 8 0 8 (by decide) (h_inc (by decide)) mP_zero) trivial wd_X11_puts wV_X11_puts wL_X11_43 (hM.o rfl) rfl rfl hl.1 rfl (Nat.le_of_ble_eq_true rfl) dX11_tokenAt_207 ⟨Nat.le_of_ble_eq_true rfl, Nat.le_of_ble_eq_true rfl⟩ ⟨Nat.zero_le _, Nat.zero_le _⟩ (fun H53 locs hp53 hT53 hS53 hk53 => ?_)
          have hp53 : h_apu H52 H53 (o + 1) 8 (.int 0) := hp53.2
          have z361 : ∀ j : Nat, (j = 0 ∨ 600 ≤ j) → h_ai H53 (o + 1) j = h_ai H0 (o + 1) j := fun j hj => (h_apn hp53 (by omega)).trans (z342 j hj)
          have m362 : h_ai H53 (o + 1) (r3.toInt).toNat = r186 := (h_apn hp53 (by omega)).trans m344
          have m363 : h_ai H53 (o + 1) 7 = r186 := (h_apn hp53 (by omega)).trans m345
          have m364 : h_ai H53 (o + 1) (88 + u1.toInt).toNat = x202 := (h_apn hp53 (by omega)).trans m346
          have m365 : h_ai H53 (o + 1) 9 = 0 := (h_apn hp53 (by omega)).trans m347
          have m366 : h_ai H53 (o + 1) (80 + u1.toInt).toNat = v218 := (h_apn hp53 (by omega)).trans m348
          have m367 : h_ai H53 (o + 1) 5 = 2 := (h_apn hp53 (by omega)).trans m349
          have m368 : h_ai H53 (o + 1) 10 = u1 := (h_apn hp53 (by omega)).trans m350
          have m369 : h_ai H53 (o + 1) (96 + 4 * r231.toInt + 24 * u1.toInt).toNat = r257 := (h_apn hp53 (by omega)).trans m351
          have m370 : h_ai H53 (o + 1) 14 = r257 := (h_apn hp53 (by omega)).trans m352
          have m371 : h_ai H53 (o + 1) (97 + 4 * r231.toInt + 24 * u1.toInt).toNat = r276 := (h_apn hp53 (by omega)).trans m353
          have m372 : h_ai H53 (o + 1) 11 = r276 := (h_apn hp53 (by omega)).trans m354
          have m373 : h_ai H53 (o + 1) (98 + 4 * r231.toInt + 24 * u1.toInt).toNat = r298 := (h_apn hp53 (by omega)).trans m355
          have m374 : h_ai H53 (o + 1) 12 = r298 := (h_apn hp53 (by omega)).trans m356
          have m375 : h_ai H53 (o + 1) (99 + 4 * r231.toInt + 24 * u1.toInt).toNat = r322 := (h_apn hp53 (by omega)).trans m357
          have m376 : h_ai H53 (o + 1) 15 = r322 := (h_apn hp53 (by omega)).trans m358
          have m377 : h_ai H53 (o + 1) 13 = 0 := (h_apn hp53 (by omega)).trans m360
          have R378 : mR o H53 := R359.keep (fun j hj => h_apn hp53 (by unfold mK at hj; omega))
          have m379 : h_ai H53 (o + 1) 8 = 0 := h_aps hp53
          refine lv_aload_n hx hb dX11_tokenAt_210 rfl (lv_at hl 3 rfl) ?_
          refine lv_bipush (v := 9) hx hb dX11_tokenAt_211 (by decide) ?_
          refine lv_iconst (v := 0) hx hb dX11_tokenAt_213 (by decide) ?_
          refine h_callVv (T := TX11) (rest := []) (As := [.int 9, .int 0]) hx hb hml hown hts hK hT53 hZ (fun _ h => h) hS53 (c_puts l G Y P (o) hM 9 0 9 (by decide) (h_inc (by decide)) mP_zero) trivial wd_X11_puts wV_X11_puts wL_X11_43 (hM.o rfl) rfl rfl hl.1 rfl (Nat.le_of_ble_eq_true rfl) dX11_tokenAt_214 ⟨Nat.le_of_ble_eq_true rfl, Nat.le_of_ble_eq_true rfl⟩ ⟨Nat.zero_le _, Nat.zero_le _⟩ (fun H54 locs hp54 hT54 hS54 hk54 => ?_)
          have hp54 : h_apu H53 H54 (o + 1) 9 (.int 0) := hp54.2
          have z380 : ∀ j : Nat, (j = 0 ∨ 600 ≤ j) → h_ai H54 (o + 1) j = h_ai H0 (o + 1) j := fun j hj => (h_apn hp54 (by omega)).trans (z361 j hj)
          have m381 : h_ai H54 (o + 1) (r3.toInt).toNat = r186 := (h_apn hp54 (by omega)).trans m362
          have m382 : h_ai H54 (o + 1) 7 = r186 := (h_apn hp54 (by omega)).trans m363
          have m383 : h_ai H54 (o + 1) (88 + u1.toInt).toNat = x202 := (h_apn hp54 (by omega)).trans m364
          have m384 : h_ai H54 (o + 1) (80 + u1.toInt).toNat = v218 := (h_apn hp54 (by omega)).trans m366
          have m385 : h_ai H54 (o + 1) 5 = 2 := (h_apn hp54 (by omega)).trans m367
          have m386 : h_ai H54 (o + 1) 10 = u1 := (h_apn hp54 (by omega)).trans m368
          have m387 : h_ai H54 (o + 1) (96 + 4 * r231.toInt + 24 * u1.toInt).toNat = r257 := (h_apn hp54 (by omega)).trans m369
          have m388 : h_ai H54 (o + 1) 14 = r257 := (h_apn hp54 (by omega)).trans m370
          have m389 : h_ai H54 (o + 1) (97 + 4 * r231.toInt + 24 * u1.toInt).toNat = r276 := (h_apn hp54 (by omega)).trans m371
          have m390 : h_ai H54 (o + 1) 11 = r276 := (h_apn hp54 (by omega)).trans m372
          have m391 : h_ai H54 (o + 1) (98 + 4 * r231.toInt + 24 * u1.toInt).toNat = r298 := (h_apn hp54 (by omega)).trans m373
          have m392 : h_ai H54 (o + 1) 12 = r298 := (h_apn hp54 (by omega)).trans m374
          have m393 : h_ai H54 (o + 1) (99 + 4 * r231.toInt + 24 * u1.toInt).toNat = r322 := (h_apn hp54 (by omega)).trans m375
          have m394 : h_ai H54 (o + 1) 15 = r322 := (h_apn hp54 (by omega)).trans m376
          have m395 : h_ai H54 (o + 1) 13 = 0 := (h_apn hp54 (by omega)).trans m377
          have m396 : h_ai H54 (o + 1) 8 = 0 := (h_apn hp54 (by omega)).trans m379
          have R397 : mR o H54 := R378.keep (fun j hj => h_apn hp54 (by unfold mK at hj; omega))
          have m398 : h_ai H54 (o + 1) 9 = 0 := h_aps hp54
          refine lv_aload_n hx hb dX11_tokenAt_217 rfl (lv_at hl 3 rfl) ?_
          refine lv_iload_n hx hb dX11_tokenAt_218 rfl (lv_at hl 4 rfl) ?_
          refine lv_iload_n hx hb dX11_tokenAt_219 rfl (lv_at hl 1 rfl) ?_
          refine h_callVv (T := TX11) (rest := []) (As := [.int u1, .int r231]) hx hb hml hown hts hK hT54 hZ (fun _ h => h) hS54 (c_X11_takes l G Y P (o) hM u1 r231 (show 0 ≤ u1.toInt ∧ u1.toInt ≤ 7 from by omega) (show 0 ≤ r231.toInt ∧ r231.toInt ≤ 5 from by omega)) (show r231.toInt < (h_ai H54 (o + 1) (80 + u1.toInt).toNat).toInt from by rw [m384]; exact (show r231.toInt < v218.toInt from by omega)) wd_X11_takes wV_X11_takes wL_X11_109 (hM.o rfl) rfl rfl hl.1 rfl (Nat.le_of_ble_eq_true rfl) dX11_tokenAt_220 ⟨Nat.le_of_ble_eq_true rfl, Nat.le_of_ble_eq_true rfl⟩ ⟨Nat.zero_le _, Nat.zero_le _⟩ (fun H55 locs hp55 hT55 hS55 hk55 => ?_)
          obtain ⟨hp55, hB55⟩ := hp55
          have z399 : ∀ j : Nat, (j = 0 ∨ 600 ≤ j) → h_ai H55 (o + 1) j = h_ai H0 (o + 1) j := fun j hj => (hB55 j (by unfold mK; omega)).trans (z380 j hj)
          have m400 : h_ai H55 (o + 1) (r3.toInt).toNat = r186 := (hB55 _ (by unfold mK; omega)).trans m381
          have m401 : h_ai H55 (o + 1) 7 = r186 := (hB55 _ (by unfold mK; omega)).trans m382
          have m402 : h_ai H55 (o + 1) (88 + u1.toInt).toNat = x202 := (hB55 _ (by unfold mK; omega)).trans m383
          have R403 : mR o H55 := R397.keep hB55
          obtain ⟨v404, mv404⟩ : ∃ x, h_ai H55 (o + 1) (80 + u1.toInt).toNat = x := ⟨_, rfl⟩
          have bv404 := mP_wm (mP_cell hM hT55 (j := (80 + u1.toInt).toNat) (by omega)) (by omega)
          rw [mv404] at bv404
          have f405 : v404.toInt = v218.toInt - 1 := by have q := hp55; rw [mv404, m384] at q; exact q
          exact hret _ _ _ _ hT55 hS55 ⟨trivial, ⟨R403, z399⟩⟩ dX11_tokenAt_223
        · skip
          have c230 : ¬ r186.toInt ≤ r227.toInt := h_nleI c230
          refine lv_aload_n hx hb dX11_tokenAt_106 rfl (lv_at hl 1 rfl) ?_
          refine lv_iload_n hx hb dX11_tokenAt_107 rfl (lv_at hl 2 rfl) ?_
          refine h_callVv (T := TX11) (rest := []) (As := [.int u1]) hx hb hml hown hts hK hT32 hZ (fun _ h => h) hS36 (c_X11_wishes l G Y P (o) hM u1 (show 0 ≤ u1.toInt ∧ u1.toInt ≤ 7 from by omega)) trivial wd_X11_wishes wV_X11_wishes wL_X11_106 (hM.o rfl) rfl rfl hl.1 rfl (Nat.le_of_ble_eq_true rfl) dX11_tokenAt_108 ⟨Nat.le_of_ble_eq_true rfl, Nat.le_of_ble_eq_true rfl⟩ ⟨Nat.zero_le _, Nat.zero_le _⟩ (fun H56 locs hp56 hT56 hS56 hk56 => ?_)
          obtain ⟨hp56, hB56⟩ := hp56
          have z406 : ∀ j : Nat, (j = 0 ∨ 600 ≤ j) → h_ai H56 (o + 1) j = h_ai H0 (o + 1) j := fun j hj => (hB56 j (by unfold mK; omega)).trans (z209 j hj)
          have m407 : h_ai H56 (o + 1) (r3.toInt).toNat = r186 := (hB56 _ (by unfold mK; omega)).trans m212
          have m408 : h_ai H56 (o + 1) 7 = r186 := (hB56 _ (by unfold mK; omega)).trans m213
          have m409 : h_ai H56 (o + 1) (88 + u1.toInt).toNat = x202 := (hB56 _ (by unfold mK; omega)).trans m214
          have R410 : mR o H56 := R216.keep hB56
          exact hret _ _ _ _ hT56 hS56 ⟨trivial, ⟨R410, z406⟩⟩ dX11_tokenAt_111
    · skip
      have c187 : ¬ r185.toInt ≤ r186.toInt := h_nleI c187
      refine lv_aload_n hx hb dX11_tokenAt_25 rfl (lv_at hl 1 rfl) ?_
      refine lv_aload_n hx hb dX11_tokenAt_26 rfl (lv_at hl 1 rfl) ?_
      refine lv_bipush (v := 8) hx hb dX11_tokenAt_27 (by decide) ?_
      refine h_callVi (T := TX11) (rest := [.ref (o)]) (As := [.int 8]) hx hb hml hown hts hK hT0 hZ (fun _ h => h) hS27 (c_of l G Y P (o) hM 8 8 (by decide) (h_inc (by decide))) trivial wd_X11_of wV_X11_of wL_X11_47 (hM.o rfl) rfl rfl hl.1 rfl (Nat.le_of_ble_eq_true rfl) dX11_tokenAt_29 ⟨Nat.le_of_ble_eq_true rfl, Nat.le_of_ble_eq_true rfl⟩ ⟨Nat.zero_le _, Nat.zero_le _⟩ (fun r411 H57 locs hp57 hT57 hS57 hk57 => ?_)
      obtain ⟨hp57, he⟩ := hp57
      have he := he.symm
      subst he
      have hp57 : r185 = r411 := (hp57.1.trans mr185).symm
      subst hp57
      refine h_callVv (T := TX11) (rest := []) (As := [.int r185]) hx hb hml hown hts hK hT0 hZ (fun _ h => h) hS57 (c_X11_isLevel l G Y P (o) hM r185 (show 0 ≤ r185.toInt ∧ r185.toInt ≤ 7 from by omega)) trivial wd_X11_isLevel wV_X11_isLevel wL_X11_103 (hM.o rfl) rfl rfl hl.1 rfl (Nat.le_of_ble_eq_true rfl) dX11_tokenAt_32 ⟨Nat.le_of_ble_eq_true rfl, Nat.le_of_ble_eq_true rfl⟩ ⟨Nat.zero_le _, Nat.zero_le _⟩ (fun H58 locs hp58 hT58 hS58 hk58 => ?_)
      obtain ⟨hp58, hB58⟩ := hp58
      obtain ⟨H59, v59, hp59, hq59⟩ := hB58
      have z412 : ∀ j : Nat, (j = 0 ∨ 600 ≤ j) → h_ai H59 (o + 1) j = h_ai H0 (o + 1) j := fun j hj => (h_apn hp59 (by omega))
      have z413 : ∀ j : Nat, mK j → j ≠ 7 → h_ai H59 (o + 1) j = h_ai H0 (o + 1) j := fun j hj k0 => (h_apn hp59 k0)
      have m414 : h_ai H59 (o + 1) (88 + u1.toInt).toNat = v2 := (h_apn hp59 (by omega)).trans mv2
      have m415 : h_ai H59 (o + 1) 8 = r185 := (h_apn hp59 (by omega)).trans mr185
      have m416 : h_ai H59 (o + 1) (r3.toInt).toNat = r186 := (h_apn hp59 (by omega)).trans mr186
      have m417 : h_ai H59 (o + 1) 7 = r185 := h_aps hp59
      have z418 : ∀ j : Nat, (j = 0 ∨ 600 ≤ j) → h_ai H58 (o + 1) j = h_ai H0 (o + 1) j := fun j hj => (h_apn hq59 (by omega)).trans (z412 j hj)
      have z419 : ∀ j : Nat, mK j → j ≠ 7 → h_ai H58 (o + 1) j = h_ai H0 (o + 1) j := fun j hj k0 => (h_apn hq59 (by unfold mK at hj; omega)).trans (z413 j hj k0)
      have m420 : h_ai H58 (o + 1) (88 + u1.toInt).toNat = v2 := (h_apn hq59 (by omega)).trans m414
      have m421 : h_ai H58 (o + 1) 8 = r185 := (h_apn hq59 (by omega)).trans m415
      have m422 : h_ai H58 (o + 1) (r3.toInt).toNat = r186 := (h_apn hq59 (by omega)).trans m416
      have m423 : h_ai H58 (o + 1) 7 = r185 := (h_apn hq59 (by omega)).trans m417
      refine lv_aload_n hx hb dX11_tokenAt_35 rfl (lv_at hl 1 rfl) ?_
      refine lv_iload_n hx hb dX11_tokenAt_36 rfl (lv_at hl 0 rfl) ?_
      refine lv_iconst (v := 1) hx hb dX11_tokenAt_37 (by decide) ?_
      refine lv_iadd hx hb dX11_tokenAt_38 ?_
      obtain ⟨x424, qx424, ix424⟩ := h_addX r3 1 r3.toInt (1 : Int) rfl rfl (by omega) (by omega)
      refine h_top (v := x424) qx424 ?_
      refine lv_aload_n hx hb dX11_tokenAt_39 rfl (lv_at hl 1 rfl) ?_
      refine lv_bipush (v := 8) hx hb dX11_tokenAt_40 (by decide) ?_
      refine h_callVi (T := TX11) (rest := [.int x424, .ref (o)]) (As := [.int 8]) hx hb hml hown hts hK hT58 hZ (fun _ h => h) hS58 (c_of l G Y P (o) hM 8 8 (by decide) (h_inc (by decide))) trivial wd_X11_of wV_X11_of wL_X11_47 (hM.o rfl) rfl rfl hl.1 rfl (Nat.le_of_ble_eq_true rfl) dX11_tokenAt_42 ⟨Nat.le_of_ble_eq_true rfl, Nat.le_of_ble_eq_true rfl⟩ ⟨Nat.zero_le _, Nat.zero_le _⟩ (fun r425 H60 locs hp60 hT60 hS60 hk60 => ?_)
      obtain ⟨hp60, he⟩ := hp60
      have he := he.symm
      subst he
      have hp60 : r185 = r425 := (hp60.1.trans m421).symm
      subst hp60
      refine h_callVv (T := TX11) (rest := []) (As := [.int x424, .int r185]) hx hb hml hown hts hK hT58 hZ (fun _ h => h) hS60 (c_puts l G Y P (o) hM x424 r185 (1 + r3.toInt).toNat (show x424.toInt.toNat = (1 + r3.toInt).toNat from by omega) (h_vin (by omega) (by omega)) (mP_of7 (by omega) (show 0 ≤ r185.toInt from by omega) (show r185.toInt ≤ 7 from by omega))) trivial wd_X11_puts wV_X11_puts wL_X11_43 (hM.o rfl) rfl rfl hl.1 rfl (Nat.le_of_ble_eq_true rfl) dX11_tokenAt_45 ⟨Nat.le_of_ble_eq_true rfl, Nat.le_of_ble_eq_true rfl⟩ ⟨Nat.zero_le _, Nat.zero_le _⟩ (fun H61 locs hp61 hT61 hS61 hk61 => ?_)
      have hp61 : h_apu H58 H61 (o + 1) (1 + r3.toInt).toNat (.int r185) := hp61.2
      have z426 : ∀ j : Nat, (j = 0 ∨ 600 ≤ j) → h_ai H61 (o + 1) j = h_ai H0 (o + 1) j := fun j hj => (h_apn hp61 (by omega)).trans (z418 j hj)
      have z427 : ∀ j : Nat, mK j → j ≠ 7 → j ≠ (1 + r3.toInt).toNat → h_ai H61 (o + 1) j = h_ai H0 (o + 1) j := fun j hj k0 k1 => (h_apn hp61 k1).trans (z419 j hj k0)
      have m428 : h_ai H61 (o + 1) (88 + u1.toInt).toNat = v2 := (h_apn hp61 (by omega)).trans m420
      have m429 : h_ai H61 (o + 1) 8 = r185 := (h_apn hp61 (by omega)).trans m421
      have m430 : h_ai H61 (o + 1) (r3.toInt).toNat = r186 := (h_apn hp61 (by omega)).trans m422
      have m431 : h_ai H61 (o + 1) 7 = r185 := (h_apn hp61 (by omega)).trans m423
      have m432 : h_ai H61 (o + 1) (1 + r3.toInt).toNat = r185 := h_aps hp61
      refine lv_aload_n hx hb dX11_tokenAt_48 rfl (lv_at hl 1 rfl) ?_
      refine lv_bipush (v := 8) hx hb dX11_tokenAt_49 (by decide) ?_
      refine lv_iconst (v := 0) hx hb dX11_tokenAt_51 (by decide) ?_
      refine h_callVv (T := TX11) (rest := []) (As := [.int 8, .int 0]) hx hb hml hown hts hK hT61 hZ (fun _ h => h) hS61 (c_puts l G Y P (o) hM 8 0 8 (by decide) (h_inc (by decide)) mP_zero) trivial wd_X11_puts wV_X11_puts wL_X11_43 (hM.o rfl) rfl rfl hl.1 rfl (Nat.le_of_ble_eq_true rfl) dX11_tokenAt_52 ⟨Nat.le_of_ble_eq_true rfl, Nat.le_of_ble_eq_true rfl⟩ ⟨Nat.zero_le _, Nat.zero_le _⟩ (fun H62 locs hp62 hT62 hS62 hk62 => ?_)
      have hp62 : h_apu H61 H62 (o + 1) 8 (.int 0) := hp62.2
      have z433 : ∀ j : Nat, (j = 0 ∨ 600 ≤ j) → h_ai H62 (o + 1) j = h_ai H0 (o + 1) j := fun j hj => (h_apn hp62 (by omega)).trans (z426 j hj)
      have z434 : ∀ j : Nat, mK j → j ≠ 7 → j ≠ (1 + r3.toInt).toNat → h_ai H62 (o + 1) j = h_ai H0 (o + 1) j := fun j hj k0 k1 => (h_apn hp62 (by unfold mK at hj; omega)).trans (z427 j hj k0 k1)
      have m435 : h_ai H62 (o + 1) (88 + u1.toInt).toNat = v2 := (h_apn hp62 (by omega)).trans m428
      have m436 : h_ai H62 (o + 1) (r3.toInt).toNat = r186 := (h_apn hp62 (by omega)).trans m430
      have m437 : h_ai H62 (o + 1) 7 = r185 := (h_apn hp62 (by omega)).trans m431
      have m438 : h_ai H62 (o + 1) (1 + r3.toInt).toNat = r185 := (h_apn hp62 (by omega)).trans m432
      have m439 : h_ai H62 (o + 1) 8 = 0 := h_aps hp62
      refine lv_goto (tgt := 76) hx hb dX11_tokenAt_55 (by decide) ?_
      refine lv_aload_n hx hb dX11_tokenAt_76 rfl (lv_at hl 1 rfl) ?_
      refine lv_bipush (v := 9) hx hb dX11_tokenAt_77 (by decide) ?_
      refine lv_iconst (v := 0) hx hb dX11_tokenAt_79 (by decide) ?_
      refine h_callVv (T := TX11) (rest := []) (As := [.int 9, .int 0]) hx hb hml hown hts hK hT62 hZ (fun _ h => h) hS62 (c_puts l G Y P (o) hM 9 0 9 (by decide) (h_inc (by decide)) mP_zero) trivial wd_X11_puts wV_X11_puts wL_X11_43 (hM.o rfl) rfl rfl hl.1 rfl (Nat.le_of_ble_eq_true rfl) dX11_tokenAt_80 ⟨Nat.le_of_ble_eq_true rfl, Nat.le_of_ble_eq_true rfl⟩ ⟨Nat.zero_le _, Nat.zero_le _⟩ (fun H63 locs hp63 hT63 hS63 hk63 => ?_)
      have hp63 : h_apu H62 H63 (o + 1) 9 (.int 0) := hp63.2
      have z440 : ∀ j : Nat, (j = 0 ∨ 600 ≤ j) → h_ai H63 (o + 1) j = h_ai H0 (o + 1) j := fun j hj => (h_apn hp63 (by omega)).trans (z433 j hj)
      have z441 : ∀ j : Nat, mK j → j ≠ 7 → j ≠ (1 + r3.toInt).toNat → h_ai H63 (o + 1) j = h_ai H0 (o + 1) j := fun j hj k0 k1 => (h_apn hp63 (by unfold mK at hj; omega)).trans (z434 j hj k0 k1)
      have m442 : h_ai H63 (o + 1) (88 + u1.toInt).toNat = v2 := (h_apn hp63 (by omega)).trans m435
      have m443 : h_ai H63 (o + 1) (r3.toInt).toNat = r186 := (h_apn hp63 (by omega)).trans m436
      have m444 : h_ai H63 (o + 1) 7 = r185 := (h_apn hp63 (by omega)).trans m437
      have m445 : h_ai H63 (o + 1) (1 + r3.toInt).toNat = r185 := (h_apn hp63 (by omega)).trans m438
      have m446 : h_ai H63 (o + 1) 8 = 0 := (h_apn hp63 (by omega)).trans m439
      have m447 : h_ai H63 (o + 1) 9 = 0 := h_aps hp63
      have hl449 : (h_ai H0 (o + 1) (1 + r3.toInt).toNat).toInt = (h_ai H0 (o + 1) 7).toInt := by rcases f4 with q | q <;> first | (exfalso; omega) | (rw [mv1]; exact q.2.2)
      have R448 : mR o H63 := mR_set u1.toInt.toNat (v2.toInt - 1).toNat (k8 := (88 + u1.toInt).toNat) (kr := (r3.toInt).toNat) (kn := (1 + r3.toInt).toNat) (by omega) (by omega) (by omega) (by omega) (by omega) hpr (by rw [mv2]; omega) hl449 (by rw [m444, m445]) (by rw [mr186, m444]; omega) (fun j hj k0 k1 => z441 j hj k0 k1)
      refine lv_aload_n hx hb dX11_tokenAt_83 rfl (lv_at hl 1 rfl) ?_
      refine lv_iload_n hx hb dX11_tokenAt_84 rfl (lv_at hl 2 rfl) ?_
      obtain ⟨v450, mv450⟩ : ∃ x, h_ai H63 (o + 1) (80 + u1.toInt).toNat = x := ⟨_, rfl⟩
      have bv450 := mP_wm (mP_cell hM hT63 (j := (80 + u1.toInt).toNat) (by omega)) (by omega)
      rw [mv450] at bv450
      refine h_callVi (T := TX11) (rest := []) (As := [.int u1]) hx hb hml hown hts hK hT63 hZ (fun _ h => h) hS63 (c_X11_firstOf l G Y P (o) hM u1 (show 0 ≤ u1.toInt ∧ u1.toInt ≤ 7 from by omega)) trivial wd_X11_firstOf wV_X11_firstOf wL_X11_66 (hM.o rfl) rfl rfl hl.1 rfl (Nat.le_of_ble_eq_true rfl) dX11_tokenAt_85 ⟨Nat.le_of_ble_eq_true rfl, Nat.le_of_ble_eq_true rfl⟩ ⟨Nat.zero_le _, Nat.zero_le _⟩ (fun r451 H64 locs hp64 hT64 hS64 hk64 => ?_)
      obtain ⟨hp64, he⟩ := hp64
      have he := he.symm
      subst he
      have f452 : (r451.toInt = -1 ∧ v450.toInt ≤ 0) ∨ (0 ≤ r451.toInt ∧ r451.toInt < v450.toInt) := by have q := hp64; rw [mv450] at q; exact q
      refine lv_iconst (v := (-1)) hx hb dX11_tokenAt_88 (by decide) ?_
      refine lv_icmp_eq (tgt := 106) hx hb dX11_tokenAt_89 (by decide) (fun c453 => ?_) (fun c453 => ?_)
      · skip
        have c453 : r451.toInt = (-1 : Int) := congrArg Int32.toInt c453
        refine lv_aload_n hx hb dX11_tokenAt_106 rfl (lv_at hl 1 rfl) ?_
        refine lv_iload_n hx hb dX11_tokenAt_107 rfl (lv_at hl 2 rfl) ?_
        refine h_callVv (T := TX11) (rest := []) (As := [.int u1]) hx hb hml hown hts hK hT63 hZ (fun _ h => h) hS64 (c_X11_wishes l G Y P (o) hM u1 (show 0 ≤ u1.toInt ∧ u1.toInt ≤ 7 from by omega)) trivial wd_X11_wishes wV_X11_wishes wL_X11_106 (hM.o rfl) rfl rfl hl.1 rfl (Nat.le_of_ble_eq_true rfl) dX11_tokenAt_108 ⟨Nat.le_of_ble_eq_true rfl, Nat.le_of_ble_eq_true rfl⟩ ⟨Nat.zero_le _, Nat.zero_le _⟩ (fun H65 locs hp65 hT65 hS65 hk65 => ?_)
        obtain ⟨hp65, hB65⟩ := hp65
        have z454 : ∀ j : Nat, (j = 0 ∨ 600 ≤ j) → h_ai H65 (o + 1) j = h_ai H0 (o + 1) j := fun j hj => (hB65 j (by unfold mK; omega)).trans (z440 j hj)
        have m455 : h_ai H65 (o + 1) (88 + u1.toInt).toNat = v2 := (hB65 _ (by unfold mK; omega)).trans m442
        have m456 : h_ai H65 (o + 1) (r3.toInt).toNat = r186 := (hB65 _ (by unfold mK; omega)).trans m443
        have m457 : h_ai H65 (o + 1) 7 = r185 := (hB65 _ (by unfold mK; omega)).trans m444
        have m458 : h_ai H65 (o + 1) (1 + r3.toInt).toNat = r185 := (hB65 _ (by unfold mK; omega)).trans m445
        have R459 : mR o H65 := R448.keep hB65
        exact hret _ _ _ _ hT65 hS65 ⟨trivial, ⟨R459, z454⟩⟩ dX11_tokenAt_111
      · skip
        have c453 : ¬ r451.toInt = (-1 : Int) := h_neI c453
        refine lv_aload_n hx hb dX11_tokenAt_92 rfl (lv_at hl 1 rfl) ?_
        refine lv_iload_n hx hb dX11_tokenAt_93 rfl (lv_at hl 2 rfl) ?_
        refine h_callVi (T := TX11) (rest := []) (As := [.int u1]) hx hb hml hown hts hK hT63 hZ (fun _ h => h) hS64 (c_X11_firstRank l G Y P (o) hM u1 (show 0 ≤ u1.toInt ∧ u1.toInt ≤ 7 from by omega)) trivial wd_X11_firstRank wV_X11_firstRank wL_X11_97 (hM.o rfl) rfl rfl hl.1 rfl (Nat.le_of_ble_eq_true rfl) dX11_tokenAt_94 ⟨Nat.le_of_ble_eq_true rfl, Nat.le_of_ble_eq_true rfl⟩ ⟨Nat.zero_le _, Nat.zero_le _⟩ (fun r460 H66 locs hp66 hT66 hS66 hk66 => ?_)
        obtain ⟨hp66, he⟩ := hp66
        have he := he.symm
        subst he
        have f461 : (r460.toInt = -1 ∧ v450.toInt ≤ 0) ∨ (0 ≤ r460.toInt ∧ r460.toInt ≤ 7 ∧ 1 ≤ v450.toInt) := by have q := hp66; rw [mv450] at q; exact q
        refine lv_aload_n hx hb dX11_tokenAt_97 rfl (lv_at hl 1 rfl) ?_
        refine lv_bipush (v := 7) hx hb dX11_tokenAt_98 (by decide) ?_
        refine h_callVi (T := TX11) (rest := [.int r460]) (As := [.int 7]) hx hb hml hown hts hK hT63 hZ (fun _ h => h) hS66 (c_of l G Y P (o) hM 7 7 (by decide) (h_inc (by decide))) trivial wd_X11_of wV_X11_of wL_X11_47 (hM.o rfl) rfl rfl hl.1 rfl (Nat.le_of_ble_eq_true rfl) dX11_tokenAt_100 ⟨Nat.le_of_ble_eq_true rfl, Nat.le_of_ble_eq_true rfl⟩ ⟨Nat.zero_le _, Nat.zero_le _⟩ (fun r462 H67 locs hp67 hT67 hS67 hk67 => ?_)
        obtain ⟨hp67, he⟩ := hp67
        have he := he.symm
        subst he
        have hp67 : r185 = r462 := (hp67.1.trans m444).symm
        subst hp67
        refine lv_icmp_ge (tgt := 112) hx hb dX11_tokenAt_103 (by decide) (fun c463 => ?_) (fun c463 => ?_)
        · skip
          have c463 : r185.toInt ≤ r460.toInt := Int32.le_iff_toInt_le.mp c463
          refine lv_aload_n hx hb dX11_tokenAt_112 rfl (lv_at hl 1 rfl) ?_
          refine lv_iload_n hx hb dX11_tokenAt_113 rfl (lv_at hl 2 rfl) ?_
          refine h_callVi (T := TX11) (rest := []) (As := [.int u1]) hx hb hml hown hts hK hT63 hZ (fun _ h => h) hS67 (c_X11_firstOf l G Y P (o) hM u1 (show 0 ≤ u1.toInt ∧ u1.toInt ≤ 7 from by omega)) trivial wd_X11_firstOf wV_X11_firstOf wL_X11_66 (hM.o rfl) rfl rfl hl.1 rfl (Nat.le_of_ble_eq_true rfl) dX11_tokenAt_114 ⟨Nat.le_of_ble_eq_true rfl, Nat.le_of_ble_eq_true rfl⟩ ⟨Nat.zero_le _, Nat.zero_le _⟩ (fun r464 H68 locs hp68 hT68 hS68 hk68 => ?_)
          obtain ⟨hp68, he⟩ := hp68
          have he := he.symm
          subst he
          have f465 : (r464.toInt = -1 ∧ v450.toInt ≤ 0) ∨ (0 ≤ r464.toInt ∧ r464.toInt < v450.toInt) := by have q := hp68; rw [mv450] at q; exact q
          refine lv_istore_n (lv' := [(3, .int r464), (2, .int r3), (0, .ref (o)), (1, .int u1)]) hx hb dX11_tokenAt_117 rfl hl (by decide) rfl (fun ls hl => ?_)
          refine lv_aload_n hx hb dX11_tokenAt_118 rfl (lv_at hl 2 rfl) ?_
          refine lv_iconst (v := 5) hx hb dX11_tokenAt_119 (by decide) ?_
          refine lv_iconst (v := 2) hx hb dX11_tokenAt_120 (by decide) ?_
          refine h_callVv (T := TX11) (rest := []) (As := [.int 5, .int 2]) hx hb hml hown hts hK hT63 hZ (fun _ h => h) hS68 (c_puts l G Y P (o) hM 5 2 5 (by decide) (h_inc (by decide)) (mP_free (by unfold mFree; omega))) trivial wd_X11_puts wV_X11_puts wL_X11_43 (hM.o rfl) rfl rfl hl.1 rfl (Nat.le_of_ble_eq_true rfl) dX11_tokenAt_121 ⟨Nat.le_of_ble_eq_true rfl, Nat.le_of_ble_eq_true rfl⟩ ⟨Nat.zero_le _, Nat.zero_le _⟩ (fun H69 locs hp69 hT69 hS69 hk69 => ?_)
          have hp69 : h_apu H63 H69 (o + 1) 5 (.int 2) := hp69.2
          have z466 : ∀ j : Nat, (j = 0 ∨ 600 ≤ j) → h_ai H69 (o + 1) j = h_ai H0 (o + 1) j := fun j hj => (h_apn hp69 (by omega)).trans (z440 j hj)
          have m467 : h_ai H69 (o + 1) (88 + u1.toInt).toNat = v2 := (h_apn hp69 (by omega)).trans m442
          have m468 : h_ai H69 (o + 1) (r3.toInt).toNat = r186 := (h_apn hp69 (by omega)).trans m443
          have m469 : h_ai H69 (o + 1) 7 = r185 := (h_apn hp69 (by omega)).trans m444
          have m470 : h_ai H69 (o + 1) (1 + r3.toInt).toNat = r185 := (h_apn hp69 (by omega)).trans m445
          have m471 : h_ai H69 (o + 1) 8 = 0 := (h_apn hp69 (by omega)).trans m446
          have m472 : h_ai H69 (o + 1) 9 = 0 := (h_apn hp69 (by omega)).trans m447
          have m473 : h_ai H69 (o + 1) (80 + u1.toInt).toNat = v450 := (h_apn hp69 (by omega)).trans mv450
          have R474 : mR o H69 := R448.keep (fun j hj => h_apn hp69 (by unfold mK at hj; omega))
          have m475 : h_ai H69 (o + 1) 5 = 2 := h_aps hp69
          refine lv_aload_n hx hb dX11_tokenAt_124 rfl (lv_at hl 2 rfl) ?_
          refine lv_bipush (v := 10) hx hb dX11_tokenAt_125 (by decide) ?_
          refine lv_iload_n hx hb dX11_tokenAt_127 rfl (lv_at hl 3 rfl) ?_
          refine h_callVv (T := TX11) (rest := []) (As := [.int 10, .int u1]) hx hb hml hown hts hK hT69 hZ (fun _ h => h) hS69 (c_puts l G Y P (o) hM 10 u1 10 (by decide) (h_inc (by decide)) (mP_free (by unfold mFree; omega))) trivial wd_X11_puts wV_X11_puts wL_X11_43 (hM.o rfl) rfl rfl hl.1 rfl (Nat.le_of_ble_eq_true rfl) dX11_tokenAt_128 ⟨Nat.le_of_ble_eq_true rfl, Nat.le_of_ble_eq_true rfl⟩ ⟨Nat.zero_le _, Nat.zero_le _⟩ (fun H70 locs hp70 hT70 hS70 hk70 => ?_)
          have hp70 : h_apu H69 H70 (o + 1) 10 (.int u1) := hp70.2
          have z476 : ∀ j : Nat, (j = 0 ∨ 600 ≤ j) → h_ai H70 (o + 1) j = h_ai H0 (o + 1) j := fun j hj => (h_apn hp70 (by omega)).trans (z466 j hj)
          have m477 : h_ai H70 (o + 1) (88 + u1.toInt).toNat = v2 := (h_apn hp70 (by omega)).trans m467
          have m478 : h_ai H70 (o + 1) (r3.toInt).toNat = r186 := (h_apn hp70 (by omega)).trans m468
          have m479 : h_ai H70 (o + 1) 7 = r185 := (h_apn hp70 (by omega)).trans m469
          have m480 : h_ai H70 (o + 1) (1 + r3.toInt).toNat = r185 := (h_apn hp70 (by omega)).trans m470
          have m481 : h_ai H70 (o + 1) 8 = 0 := (h_apn hp70 (by omega)).trans m471
          have m482 : h_ai H70 (o + 1) 9 = 0 := (h_apn hp70 (by omega)).trans m472
          have m483 : h_ai H70 (o + 1) (80 + u1.toInt).toNat = v450 := (h_apn hp70 (by omega)).trans m473
          have m484 : h_ai H70 (o + 1) 5 = 2 := (h_apn hp70 (by omega)).trans m475
          have R485 : mR o H70 := R474.keep (fun j hj => h_apn hp70 (by unfold mK at hj; omega))
          have m486 : h_ai H70 (o + 1) 10 = u1 := h_aps hp70
          refine lv_iconst (v := 0) hx hb dX11_tokenAt_131 (by decide) ?_
          refine lv_istore (lv' := [(4, .int 0), (3, .int r464), (2, .int r3), (0, .ref (o)), (1, .int u1)]) hx hb dX11_tokenAt_132 hl (by decide) rfl (fun ls hl => ?_)
          refine lv_iload hx hb dX11_tokenAt_134 (lv_at hl 0 rfl) ?_
          refine lv_iconst (v := 4) hx hb dX11_tokenAt_136 (by decide) ?_
          refine lv_icmp_ge (tgt := 196) hx hb dX11_tokenAt_137 (by decide) (fun h => absurd h (by decide)) (fun _ => ?_)
          refine lv_aload_n hx hb dX11_tokenAt_140 rfl (lv_at hl 3 rfl) ?_
          refine lv_iload hx hb dX11_tokenAt_141 (lv_at hl 0 rfl) ?_
          refine lv_if_ne (tgt := 151) hx hb dX11_tokenAt_143 (by decide) (fun h => absurd (by decide) h) (fun _ => ?_)
          refine lv_bipush (v := 14) hx hb dX11_tokenAt_146 (by decide) ?_
          refine lv_goto (tgt := 175) hx hb dX11_tokenAt_148 (by decide) ?_
          refine lv_aload_n hx hb dX11_tokenAt_175 rfl (lv_at hl 3 rfl) ?_
          refine lv_iload_n hx hb dX11_tokenAt_176 rfl (lv_at hl 4 rfl) ?_
          refine lv_iload_n hx hb dX11_tokenAt_177 rfl (lv_at hl 1 rfl) ?_
          refine h_callSi (rest := [.ref (o), .int 14, .ref (o)]) (As := [.int u1, .int r464]) hx hb hml hown hts hK hT70 hZ (fun _ h => h) hS70 (c_X11_waitAt l G Y u1 r464 (show 0 ≤ u1.toInt ∧ u1.toInt ≤ 7 from by omega) (show 0 ≤ r464.toInt ∧ r464.toInt ≤ 6 from by omega)) trivial wd_X11_waitAt wS_X11_waitAt wL_X11_62 rfl hl.1 rfl (Nat.le_of_ble_eq_true rfl) dX11_tokenAt_178 ⟨Nat.le_of_ble_eq_true rfl, Nat.le_of_ble_eq_true rfl⟩ ⟨Nat.zero_le _, Nat.zero_le _⟩ (fun r489 H71 locs hp71 hT71 hS71 hk71 => ?_)
          obtain ⟨hp71, he⟩ := hp71
          have he := he.symm
          subst he
          have f490 : r489.toInt = 96 + 24 * u1.toInt + 4 * r464.toInt := by have q := hp71; exact q
          refine lv_iload hx hb dX11_tokenAt_181 (lv_at hl 0 rfl) ?_
          refine lv_iadd hx hb dX11_tokenAt_183 ?_
          obtain ⟨x491, qx491, ix491⟩ := h_addX r489 0 r489.toInt (0 : Int) rfl rfl (by omega) (by omega)
          refine h_top (v := x491) qx491 ?_
          refine h_callVi (T := TX11) (rest := [.int 14, .ref (o)]) (As := [.int x491]) hx hb hml hown hts hK hT70 hZ (fun _ h => h) hS71 (c_of l G Y P (o) hM x491 (96 + 4 * r464.toInt + 24 * u1.toInt).toNat (show x491.toInt.toNat = (96 + 4 * r464.toInt + 24 * u1.toInt).toNat from by omega) (h_vin (by omega) (by omega))) trivial wd_X11_of wV_X11_of wL_X11_47 (hM.o rfl) rfl rfl hl.1 rfl (Nat.le_of_ble_eq_true rfl) dX11_tokenAt_184 ⟨Nat.le_of_ble_eq_true rfl, Nat.le_of_ble_eq_true rfl⟩ ⟨Nat.zero_le _, Nat.zero_le _⟩ (fun r492 H72 locs hp72 hT72 hS72 hk72 => ?_)
          obtain ⟨hp72, he⟩ := hp72
          have he := he.symm
          subst he
          have mr492 : h_ai H70 (o + 1) (96 + 4 * r464.toInt + 24 * u1.toInt).toNat = r492 := hp72.1.symm
          refine h_callVv (T := TX11) (rest := []) (As := [.int 14, .int r492]) hx hb hml hown hts hK hT70 hZ (fun _ h => h) hS72 (c_puts l G Y P (o) hM 14 r492 14 (by decide) (h_inc (by decide)) (mP_free (by unfold mFree; omega))) trivial wd_X11_puts wV_X11_puts wL_X11_43 (hM.o rfl) rfl rfl hl.1 rfl (Nat.le_of_ble_eq_true rfl) dX11_tokenAt_187 ⟨Nat.le_of_ble_eq_true rfl, Nat.le_of_ble_eq_true rfl⟩ ⟨Nat.zero_le _, Nat.zero_le _⟩ (fun H73 locs hp73 hT73 hS73 hk73 => ?_)
          have hp73 : h_apu H70 H73 (o + 1) 14 (.int r492) := hp73.2
          have z493 : ∀ j : Nat, (j = 0 ∨ 600 ≤ j) → h_ai H73 (o + 1) j = h_ai H0 (o + 1) j := fun j hj => (h_apn hp73 (by omega)).trans (z476 j hj)
          have m494 : h_ai H73 (o + 1) (88 + u1.toInt).toNat = v2 := (h_apn hp73 (by omega)).trans m477
          have m495 : h_ai H73 (o + 1) (r3.toInt).toNat = r186 := (h_apn hp73 (by omega)).trans m478
          have m496 : h_ai H73 (o + 1) 7 = r185 := (h_apn hp73 (by omega)).trans m479
          have m497 : h_ai H73 (o + 1) (1 + r3.toInt).toNat = r185 := (h_apn hp73 (by omega)).trans m480
          have m498 : h_ai H73 (o + 1) 8 = 0 := (h_apn hp73 (by omega)).trans m481
          have m499 : h_ai H73 (o + 1) 9 = 0 := (h_apn hp73 (by omega)).trans m482
          have m500 : h_ai H73 (o + 1) (80 + u1.toInt).toNat = v450 := (h_apn hp73 (by omega)).trans m483
          have m501 : h_ai H73 (o + 1) 5 = 2 := (h_apn hp73 (by omega)).trans m484
          have m502 : h_ai H73 (o + 1) 10 = u1 := (h_apn hp73 (by omega)).trans m486
          have m503 : h_ai H73 (o + 1) (96 + 4 * r464.toInt + 24 * u1.toInt).toNat = r492 := (h_apn hp73 (by omega)).trans mr492
          have R504 : mR o H73 := R485.keep (fun j hj => h_apn hp73 (by unfold mK at hj; omega))
          have m505 : h_ai H73 (o + 1) 14 = r492 := h_aps hp73
          refine lv_iinc (v := 1) (lv' := [(4, .int 1), (3, .int r464), (2, .int r3), (0, .ref (o)), (1, .int u1)]) hx hb dX11_tokenAt_190 hl (k := 0) rfl (by decide) (by decide) rfl (fun ls hl => ?_)
          refine lv_goto (tgt := 134) hx hb dX11_tokenAt_193 (by decide) ?_
          refine lv_iload hx hb dX11_tokenAt_134 (lv_at hl 0 rfl) ?_
          refine lv_iconst (v := 4) hx hb dX11_tokenAt_136 (by decide) ?_
          refine lv_icmp_ge (tgt := 196) hx hb dX11_tokenAt_137 (by decide) (fun h => absurd h (by decide)) (fun _ => ?_)
          refine lv_aload_n hx hb dX11_tokenAt_140 rfl (lv_at hl 3 rfl) ?_
          refine lv_iload hx hb dX11_tokenAt_141 (lv_at hl 0 rfl) ?_
          refine lv_if_ne (tgt := 151) hx hb dX11_tokenAt_143 (by decide) (fun _ => ?_) (fun h => absurd h (by decide))
          refine lv_iload hx hb dX11_tokenAt_151 (lv_at hl 0 rfl) ?_
          refine lv_iconst (v := 1) hx hb dX11_tokenAt_153 (by decide) ?_
          refine lv_icmp_ne (tgt := 162) hx hb dX11_tokenAt_154 (by decide) (fun h => absurd (by decide) h) (fun _ => ?_)
          refine lv_bipush (v := 11) hx hb dX11_tokenAt_157 (by decide) ?_
          refine lv_goto (tgt := 175) hx hb dX11_tokenAt_159 (by decide) ?_
          refine lv_aload_n hx hb dX11_tokenAt_175 rfl (lv_at hl 3 rfl) ?_
          refine lv_iload_n hx hb dX11_tokenAt_176 rfl (lv_at hl 4 rfl) ?_
          refine lv_iload_n hx hb dX11_tokenAt_177 rfl (lv_at hl 1 rfl) ?_
          refine h_callSi (rest := [.ref (o), .int 11, .ref (o)]) (As := [.int u1, .int r464]) hx hb hml hown hts hK hT73 hZ (fun _ h => h) hS73 (c_X11_waitAt l G Y u1 r464 (show 0 ≤ u1.toInt ∧ u1.toInt ≤ 7 from by omega) (show 0 ≤ r464.toInt ∧ r464.toInt ≤ 6 from by omega)) trivial wd_X11_waitAt wS_X11_waitAt wL_X11_62 rfl hl.1 rfl (Nat.le_of_ble_eq_true rfl) dX11_tokenAt_178 ⟨Nat.le_of_ble_eq_true rfl, Nat.le_of_ble_eq_true rfl⟩ ⟨Nat.zero_le _, Nat.zero_le _⟩ (fun r509 H74 locs hp74 hT74 hS74 hk74 => ?_)
          obtain ⟨hp74, he⟩ := hp74
          have he := he.symm
          subst he
          have f510 : r509.toInt = 96 + 24 * u1.toInt + 4 * r464.toInt := by have q := hp74; exact q
          refine lv_iload hx hb dX11_tokenAt_181 (lv_at hl 0 rfl) ?_
          refine lv_iadd hx hb dX11_tokenAt_183 ?_
          obtain ⟨x511, qx511, ix511⟩ := h_addX r509 1 r509.toInt (1 : Int) rfl rfl (by omega) (by omega)
          refine h_top (v := x511) qx511 ?_
          refine h_callVi (T := TX11) (rest := [.int 11, .ref (o)]) (As := [.int x511]) hx hb hml hown hts hK hT73 hZ (fun _ h => h) hS74 (c_of l G Y P (o) hM x511 (97 + 4 * r464.toInt + 24 * u1.toInt).toNat (show x511.toInt.toNat = (97 + 4 * r464.toInt + 24 * u1.toInt).toNat from by omega) (h_vin (by omega) (by omega))) trivial wd_X11_of wV_X11_of wL_X11_47 (hM.o rfl) rfl rfl hl.1 rfl (Nat.le_of_ble_eq_true rfl) dX11_tokenAt_184 ⟨Nat.le_of_ble_eq_true rfl, Nat.le_of_ble_eq_true rfl⟩ ⟨Nat.zero_le _, Nat.zero_le _⟩ (fun r512 H75 locs hp75 hT75 hS75 hk75 => ?_)
          obtain ⟨hp75, he⟩ := hp75
          have he := he.symm
          subst he
          have mr512 : h_ai H73 (o + 1) (97 + 4 * r464.toInt + 24 * u1.toInt).toNat = r512 := hp75.1.symm
          have br512 := mP_w hp75.2 (by omega)
          refine h_callVv (T := TX11) (rest := []) (As := [.int 11, .int r512]) hx hb hml hown hts hK hT73 hZ (fun _ h => h) hS75 (c_puts l G Y P (o) hM 11 r512 11 (by decide) (h_inc (by decide)) (mP_of7 (by omega) (show 0 ≤ r512.toInt from by omega) (show r512.toInt ≤ 7 from by omega))) trivial wd_X11_puts wV_X11_puts wL_X11_43 (hM.o rfl) rfl rfl hl.1 rfl (Nat.le_of_ble_eq_true rfl) dX11_tokenAt_187 ⟨Nat.le_of_ble_eq_true rfl, Nat.le_of_ble_eq_true rfl⟩ ⟨Nat.zero_le _, Nat.zero_le _⟩ (fun H76 locs hp76 hT76 hS76 hk76 => ?_)
          have hp76 : h_apu H73 H76 (o + 1) 11 (.int r512) := hp76.2
          have z513 : ∀ j : Nat, (j = 0 ∨ 600 ≤ j) → h_ai H76 (o + 1) j = h_ai H0 (o + 1) j := fun j hj => (h_apn hp76 (by omega)).trans (z493 j hj)
          have m514 : h_ai H76 (o + 1) (88 + u1.toInt).toNat = v2 := (h_apn hp76 (by omega)).trans m494
          have m515 : h_ai H76 (o + 1) (r3.toInt).toNat = r186 := (h_apn hp76 (by omega)).trans m495
          have m516 : h_ai H76 (o + 1) 7 = r185 := (h_apn hp76 (by omega)).trans m496
          have m517 : h_ai H76 (o + 1) (1 + r3.toInt).toNat = r185 := (h_apn hp76 (by omega)).trans m497
          have m518 : h_ai H76 (o + 1) 8 = 0 := (h_apn hp76 (by omega)).trans m498
          have m519 : h_ai H76 (o + 1) 9 = 0 := (h_apn hp76 (by omega)).trans m499
          have m520 : h_ai H76 (o + 1) (80 + u1.toInt).toNat = v450 := (h_apn hp76 (by omega)).trans m500
          have m521 : h_ai H76 (o + 1) 5 = 2 := (h_apn hp76 (by omega)).trans m501
          have m522 : h_ai H76 (o + 1) 10 = u1 := (h_apn hp76 (by omega)).trans m502
          have m523 : h_ai H76 (o + 1) (96 + 4 * r464.toInt + 24 * u1.toInt).toNat = r492 := (h_apn hp76 (by omega)).trans m503
          have m524 : h_ai H76 (o + 1) 14 = r492 := (h_apn hp76 (by omega)).trans m505
          have m525 : h_ai H76 (o + 1) (97 + 4 * r464.toInt + 24 * u1.toInt).toNat = r512 := (h_apn hp76 (by omega)).trans mr512
          have R526 : mR o H76 := R504.keep (fun j hj => h_apn hp76 (by unfold mK at hj; omega))
          have m527 : h_ai H76 (o + 1) 11 = r512 := h_aps hp76
          refine lv_iinc (v := 2) (lv' := [(4, .int 2), (3, .int r464), (2, .int r3), (0, .ref (o)), (1, .int u1)]) hx hb dX11_tokenAt_190 hl (k := 0) rfl (by decide) (by decide) rfl (fun ls hl => ?_)
          refine lv_goto (tgt := 134) hx hb dX11_tokenAt_193 (by decide) ?_
          refine lv_iload hx hb dX11_tokenAt_134 (lv_at hl 0 rfl) ?_
          refine lv_iconst (v := 4) hx hb dX11_tokenAt_136 (by decide) ?_
          refine lv_icmp_ge (tgt := 196) hx hb dX11_tokenAt_137 (by decide) (fun h => absurd h (by decide)) (fun _ => ?_)
          refine lv_aload_n hx hb dX11_tokenAt_140 rfl (lv_at hl 3 rfl) ?_
          refine lv_iload hx hb dX11_tokenAt_141 (lv_at hl 0 rfl) ?_
          refine lv_if_ne (tgt := 151) hx hb dX11_tokenAt_143 (by decide) (fun _ => ?_) (fun h => absurd h (by decide))
          refine lv_iload hx hb dX11_tokenAt_151 (lv_at hl 0 rfl) ?_
          refine lv_iconst (v := 1) hx hb dX11_tokenAt_153 (by decide) ?_
          refine lv_icmp_ne (tgt := 162) hx hb dX11_tokenAt_154 (by decide) (fun _ => ?_) (fun h => absurd h (by decide))
          refine lv_iload hx hb dX11_tokenAt_162 (lv_at hl 0 rfl) ?_
          refine lv_iconst (v := 2) hx hb dX11_tokenAt_164 (by decide) ?_
          refine lv_icmp_ne (tgt := 173) hx hb dX11_tokenAt_165 (by decide) (fun h => absurd (by decide) h) (fun _ => ?_)
          refine lv_bipush (v := 12) hx hb dX11_tokenAt_168 (by decide) ?_
          refine lv_goto (tgt := 175) hx hb dX11_tokenAt_170 (by decide) ?_
          refine lv_aload_n hx hb dX11_tokenAt_175 rfl (lv_at hl 3 rfl) ?_
          refine lv_iload_n hx hb dX11_tokenAt_176 rfl (lv_at hl 4 rfl) ?_
          refine lv_iload_n hx hb dX11_tokenAt_177 rfl (lv_at hl 1 rfl) ?_
          refine h_callSi (rest := [.ref (o), .int 12, .ref (o)]) (As := [.int u1, .int r464]) hx hb hml hown hts hK hT76 hZ (fun _ h => h) hS76 (c_X11_waitAt l G Y u1 r464 (show 0 ≤ u1.toInt ∧ u1.toInt ≤ 7 from by omega) (show 0 ≤ r464.toInt ∧ r464.toInt ≤ 6 from by omega)) trivial wd_X11_waitAt wS_X11_waitAt wL_X11_62 rfl hl.1 rfl (Nat.le_of_ble_eq_true rfl) dX11_tokenAt_178 ⟨Nat.le_of_ble_eq_true rfl, Nat.le_of_ble_eq_true rfl⟩ ⟨Nat.zero_le _, Nat.zero_le _⟩ (fun r532 H77 locs hp77 hT77 hS77 hk77 => ?_)
          obtain ⟨hp77, he⟩ := hp77
          have he := he.symm
          subst he
          have f533 : r532.toInt = 96 + 24 * u1.toInt + 4 * r464.toInt := by have q := hp77; exact q
          refine lv_iload hx hb dX11_tokenAt_181 (lv_at hl 0 rfl) ?_
          refine lv_iadd hx hb dX11_tokenAt_183 ?_
          obtain ⟨x534, qx534, ix534⟩ := h_addX r532 2 r532.toInt (2 : Int) rfl rfl (by omega) (by omega)
          refine h_top (v := x534) qx534 ?_
          refine h_callVi (T := TX11) (rest := [.int 12, .ref (o)]) (As := [.int x534]) hx hb hml hown hts hK hT76 hZ (fun _ h => h) hS77 (c_of l G Y P (o) hM x534 (98 + 4 * r464.toInt + 24 * u1.toInt).toNat (show x534.toInt.toNat = (98 + 4 * r464.toInt + 24 * u1.toInt).toNat from by omega) (h_vin (by omega) (by omega))) trivial wd_X11_of wV_X11_of wL_X11_47 (hM.o rfl) rfl rfl hl.1 rfl (Nat.le_of_ble_eq_true rfl) dX11_tokenAt_184 ⟨Nat.le_of_ble_eq_true rfl, Nat.le_of_ble_eq_true rfl⟩ ⟨Nat.zero_le _, Nat.zero_le _⟩ (fun r535 H78 locs hp78 hT78 hS78 hk78 => ?_)
          obtain ⟨hp78, he⟩ := hp78
          have he := he.symm
          subst he
          have mr535 : h_ai H76 (o + 1) (98 + 4 * r464.toInt + 24 * u1.toInt).toNat = r535 := hp78.1.symm
          have br535 := mP_w hp78.2 (by omega)
          refine h_callVv (T := TX11) (rest := []) (As := [.int 12, .int r535]) hx hb hml hown hts hK hT76 hZ (fun _ h => h) hS78 (c_puts l G Y P (o) hM 12 r535 12 (by decide) (h_inc (by decide)) (mP_of7 (by omega) (show 0 ≤ r535.toInt from by omega) (show r535.toInt ≤ 7 from by omega))) trivial wd_X11_puts wV_X11_puts wL_X11_43 (hM.o rfl) rfl rfl hl.1 rfl (Nat.le_of_ble_eq_true rfl) dX11_tokenAt_187 ⟨Nat.le_of_ble_eq_true rfl, Nat.le_of_ble_eq_true rfl⟩ ⟨Nat.zero_le _, Nat.zero_le _⟩ (fun H79 locs hp79 hT79 hS79 hk79 => ?_)
          have hp79 : h_apu H76 H79 (o + 1) 12 (.int r535) := hp79.2
          have z536 : ∀ j : Nat, (j = 0 ∨ 600 ≤ j) → h_ai H79 (o + 1) j = h_ai H0 (o + 1) j := fun j hj => (h_apn hp79 (by omega)).trans (z513 j hj)
          have m537 : h_ai H79 (o + 1) (88 + u1.toInt).toNat = v2 := (h_apn hp79 (by omega)).trans m514
          have m538 : h_ai H79 (o + 1) (r3.toInt).toNat = r186 := (h_apn hp79 (by omega)).trans m515
          have m539 : h_ai H79 (o + 1) 7 = r185 := (h_apn hp79 (by omega)).trans m516
          have m540 : h_ai H79 (o + 1) (1 + r3.toInt).toNat = r185 := (h_apn hp79 (by omega)).trans m517
          have m541 : h_ai H79 (o + 1) 8 = 0 := (h_apn hp79 (by omega)).trans m518
          have m542 : h_ai H79 (o + 1) 9 = 0 := (h_apn hp79 (by omega)).trans m519
          have m543 : h_ai H79 (o + 1) (80 + u1.toInt).toNat = v450 := (h_apn hp79 (by omega)).trans m520
          have m544 : h_ai H79 (o + 1) 5 = 2 := (h_apn hp79 (by omega)).trans m521
          have m545 : h_ai H79 (o + 1) 10 = u1 := (h_apn hp79 (by omega)).trans m522
          have m546 : h_ai H79 (o + 1) (96 + 4 * r464.toInt + 24 * u1.toInt).toNat = r492 := (h_apn hp79 (by omega)).trans m523
          have m547 : h_ai H79 (o + 1) 14 = r492 := (h_apn hp79 (by omega)).trans m524
          have m548 : h_ai H79 (o + 1) (97 + 4 * r464.toInt + 24 * u1.toInt).toNat = r512 := (h_apn hp79 (by omega)).trans m525
          have m549 : h_ai H79 (o + 1) 11 = r512 := (h_apn hp79 (by omega)).trans m527
          have m550 : h_ai H79 (o + 1) (98 + 4 * r464.toInt + 24 * u1.toInt).toNat = r535 := (h_apn hp79 (by omega)).trans mr535
          have R551 : mR o H79 := R526.keep (fun j hj => h_apn hp79 (by unfold mK at hj; omega))
          have m552 : h_ai H79 (o + 1) 12 = r535 := h_aps hp79
          refine lv_iinc (v := 3) (lv' := [(4, .int 3), (3, .int r464), (2, .int r3), (0, .ref (o)), (1, .int u1)]) hx hb dX11_tokenAt_190 hl (k := 0) rfl (by decide) (by decide) rfl (fun ls hl => ?_)
          refine lv_goto (tgt := 134) hx hb dX11_tokenAt_193 (by decide) ?_
          refine lv_iload hx hb dX11_tokenAt_134 (lv_at hl 0 rfl) ?_
          refine lv_iconst (v := 4) hx hb dX11_tokenAt_136 (by decide) ?_
          refine lv_icmp_ge (tgt := 196) hx hb dX11_tokenAt_137 (by decide) (fun h => absurd h (by decide)) (fun _ => ?_)
          refine lv_aload_n hx hb dX11_tokenAt_140 rfl (lv_at hl 3 rfl) ?_
          refine lv_iload hx hb dX11_tokenAt_141 (lv_at hl 0 rfl) ?_
          refine lv_if_ne (tgt := 151) hx hb dX11_tokenAt_143 (by decide) (fun _ => ?_) (fun h => absurd h (by decide))
          refine lv_iload hx hb dX11_tokenAt_151 (lv_at hl 0 rfl) ?_
          refine lv_iconst (v := 1) hx hb dX11_tokenAt_153 (by decide) ?_
          refine lv_icmp_ne (tgt := 162) hx hb dX11_tokenAt_154 (by decide) (fun _ => ?_) (fun h => absurd h (by decide))
          refine lv_iload hx hb dX11_tokenAt_162 (lv_at hl 0 rfl) ?_
          refine lv_iconst (v := 2) hx hb dX11_tokenAt_164 (by decide) ?_
          refine lv_icmp_ne (tgt := 173) hx hb dX11_tokenAt_165 (by decide) (fun _ => ?_) (fun h => absurd h (by decide))
          refine lv_bipush (v := 15) hx hb dX11_tokenAt_173 (by decide) ?_
          refine lv_aload_n hx hb dX11_tokenAt_175 rfl (lv_at hl 3 rfl) ?_
          refine lv_iload_n hx hb dX11_tokenAt_176 rfl (lv_at hl 4 rfl) ?_
          refine lv_iload_n hx hb dX11_tokenAt_177 rfl (lv_at hl 1 rfl) ?_
          refine h_callSi (rest := [.ref (o), .int 15, .ref (o)]) (As := [.int u1, .int r464]) hx hb hml hown hts hK hT79 hZ (fun _ h => h) hS79 (c_X11_waitAt l G Y u1 r464 (show 0 ≤ u1.toInt ∧ u1.toInt ≤ 7 from by omega) (show 0 ≤ r464.toInt ∧ r464.toInt ≤ 6 from by omega)) trivial wd_X11_waitAt wS_X11_waitAt wL_X11_62 rfl hl.1 rfl (Nat.le_of_ble_eq_true rfl) dX11_tokenAt_178 ⟨Nat.le_of_ble_eq_true rfl, Nat.le_of_ble_eq_true rfl⟩ ⟨Nat.zero_le _, Nat.zero_le _⟩ (fun r557 H80 locs hp80 hT80 hS80 hk80 => ?_)
          obtain ⟨hp80, he⟩ := hp80
          have he := he.symm
          subst he
          have f558 : r557.toInt = 96 + 24 * u1.toInt + 4 * r464.toInt := by have q := hp80; exact q
          refine lv_iload hx hb dX11_tokenAt_181 (lv_at hl 0 rfl) ?_
          refine lv_iadd hx hb dX11_tokenAt_183 ?_
          obtain ⟨x559, qx559, ix559⟩ := h_addX r557 3 r557.toInt (3 : Int) rfl rfl (by omega) (by omega)
          refine h_top (v := x559) qx559 ?_
          refine h_callVi (T := TX11) (rest := [.int 15, .ref (o)]) (As := [.int x559]) hx hb hml hown hts hK hT79 hZ (fun _ h => h) hS80 (c_of l G Y P (o) hM x559 (99 + 4 * r464.toInt + 24 * u1.toInt).toNat (show x559.toInt.toNat = (99 + 4 * r464.toInt + 24 * u1.toInt).toNat from by omega) (h_vin (by omega) (by omega))) trivial wd_X11_of wV_X11_of wL_X11_47 (hM.o rfl) rfl rfl hl.1 rfl (Nat.le_of_ble_eq_true rfl) dX11_tokenAt_184 ⟨Nat.le_of_ble_eq_true rfl, Nat.le_of_ble_eq_true rfl⟩ ⟨Nat.zero_le _, Nat.zero_le _⟩ (fun r560 H81 locs hp81 hT81 hS81 hk81 => ?_)
          obtain ⟨hp81, he⟩ := hp81
          have he := he.symm
          subst he
          have mr560 : h_ai H79 (o + 1) (99 + 4 * r464.toInt + 24 * u1.toInt).toNat = r560 := hp81.1.symm
          refine h_callVv (T := TX11) (rest := []) (As := [.int 15, .int r560]) hx hb hml hown hts hK hT79 hZ (fun _ h => h) hS81 (c_puts l G Y P (o) hM 15 r560 15 (by decide) (h_inc (by decide)) (mP_free (by unfold mFree; omega))) trivial wd_X11_puts wV_X11_puts wL_X11_43 (hM.o rfl) rfl rfl hl.1 rfl (Nat.le_of_ble_eq_true rfl) dX11_tokenAt_187 ⟨Nat.le_of_ble_eq_true rfl, Nat.le_of_ble_eq_true rfl⟩ ⟨Nat.zero_le _, Nat.zero_le _⟩ (fun H82 locs hp82 hT82 hS82 hk82 => ?_)
          have hp82 : h_apu H79 H82 (o + 1) 15 (.int r560) := hp82.2
          have z561 : ∀ j : Nat, (j = 0 ∨ 600 ≤ j) → h_ai H82 (o + 1) j = h_ai H0 (o + 1) j := fun j hj => (h_apn hp82 (by omega)).trans (z536 j hj)
          have m562 : h_ai H82 (o + 1) (88 + u1.toInt).toNat = v2 := (h_apn hp82 (by omega)).trans m537
          have m563 : h_ai H82 (o + 1) (r3.toInt).toNat = r186 := (h_apn hp82 (by omega)).trans m538
          have m564 : h_ai H82 (o + 1) 7 = r185 := (h_apn hp82 (by omega)).trans m539
          have m565 : h_ai H82 (o + 1) (1 + r3.toInt).toNat = r185 := (h_apn hp82 (by omega)).trans m540
          have m566 : h_ai H82 (o + 1) 8 = 0 := (h_apn hp82 (by omega)).trans m541
          have m567 : h_ai H82 (o + 1) 9 = 0 := (h_apn hp82 (by omega)).trans m542
          have m568 : h_ai H82 (o + 1) (80 + u1.toInt).toNat = v450 := (h_apn hp82 (by omega)).trans m543
          have m569 : h_ai H82 (o + 1) 5 = 2 := (h_apn hp82 (by omega)).trans m544
          have m570 : h_ai H82 (o + 1) 10 = u1 := (h_apn hp82 (by omega)).trans m545
          have m571 : h_ai H82 (o + 1) (96 + 4 * r464.toInt + 24 * u1.toInt).toNat = r492 := (h_apn hp82 (by omega)).trans m546
          have m572 : h_ai H82 (o + 1) 14 = r492 := (h_apn hp82 (by omega)).trans m547
          have m573 : h_ai H82 (o + 1) (97 + 4 * r464.toInt + 24 * u1.toInt).toNat = r512 := (h_apn hp82 (by omega)).trans m548
          have m574 : h_ai H82 (o + 1) 11 = r512 := (h_apn hp82 (by omega)).trans m549
          have m575 : h_ai H82 (o + 1) (98 + 4 * r464.toInt + 24 * u1.toInt).toNat = r535 := (h_apn hp82 (by omega)).trans m550
          have m576 : h_ai H82 (o + 1) 12 = r535 := (h_apn hp82 (by omega)).trans m552
          have m577 : h_ai H82 (o + 1) (99 + 4 * r464.toInt + 24 * u1.toInt).toNat = r560 := (h_apn hp82 (by omega)).trans mr560
          have R578 : mR o H82 := R551.keep (fun j hj => h_apn hp82 (by unfold mK at hj; omega))
          have m579 : h_ai H82 (o + 1) 15 = r560 := h_aps hp82
          refine lv_iinc (v := 4) (lv' := [(4, .int 4), (3, .int r464), (2, .int r3), (0, .ref (o)), (1, .int u1)]) hx hb dX11_tokenAt_190 hl (k := 0) rfl (by decide) (by decide) rfl (fun ls hl => ?_)
          refine lv_goto (tgt := 134) hx hb dX11_tokenAt_193 (by decide) ?_
          refine lv_iload hx hb dX11_tokenAt_134 (lv_at hl 0 rfl) ?_
          refine lv_iconst (v := 4) hx hb dX11_tokenAt_136 (by decide) ?_
          refine lv_icmp_ge (tgt := 196) hx hb dX11_tokenAt_137 (by decide) (fun _ => ?_) (fun h => absurd (by decide) h)
          refine lv_aload_n hx hb dX11_tokenAt_196 rfl (lv_at hl 3 rfl) ?_
          refine lv_bipush (v := 13) hx hb dX11_tokenAt_197 (by decide) ?_
          refine lv_iconst (v := 0) hx hb dX11_tokenAt_199 (by decide) ?_
          refine h_callVv (T := TX11) (rest := []) (As := [.int 13, .int 0]) hx hb hml hown hts hK hT82 hZ (fun _ h => h) hS82 (c_puts l G Y P (o) hM 13 0 13 (by decide) (h_inc (by decide)) mP_zero) trivial wd_X11_puts wV_X11_puts wL_X11_43 (hM.o rfl) rfl rfl hl.1 rfl (Nat.le_of_ble_eq_true rfl) dX11_tokenAt_200 ⟨Nat.le_of_ble_eq_true rfl, Nat.le_of_ble_eq_true rfl⟩ ⟨Nat.zero_le _, Nat.zero_le _⟩ (fun H83 locs hp83 hT83 hS83 hk83 => ?_)
          have hp83 : h_apu H82 H83 (o + 1) 13 (.int 0) := hp83.2
          have z581 : ∀ j : Nat, (j = 0 ∨ 600 ≤ j) → h_ai H83 (o + 1) j = h_ai H0 (o + 1) j := fun j hj => (h_apn hp83 (by omega)).trans (z561 j hj)
          have m582 : h_ai H83 (o + 1) (88 + u1.toInt).toNat = v2 := (h_apn hp83 (by omega)).trans m562
          have m583 : h_ai H83 (o + 1) (r3.toInt).toNat = r186 := (h_apn hp83 (by omega)).trans m563
          have m584 : h_ai H83 (o + 1) 7 = r185 := (h_apn hp83 (by omega)).trans m564
          have m585 : h_ai H83 (o + 1) (1 + r3.toInt).toNat = r185 := (h_apn hp83 (by omega)).trans m565
          have m586 : h_ai H83 (o + 1) 8 = 0 := (h_apn hp83 (by omega)).trans m566
          have m587 : h_ai H83 (o + 1) 9 = 0 := (h_apn hp83 (by omega)).trans m567
          have m588 : h_ai H83 (o + 1) (80 + u1.toInt).toNat = v450 := (h_apn hp83 (by omega)).trans m568
          have m589 : h_ai H83 (o + 1) 5 = 2 := (h_apn hp83 (by omega)).trans m569
          have m590 : h_ai H83 (o + 1) 10 = u1 := (h_apn hp83 (by omega)).trans m570
          have m591 : h_ai H83 (o + 1) (96 + 4 * r464.toInt + 24 * u1.toInt).toNat = r492 := (h_apn hp83 (by omega)).trans m571
          have m592 : h_ai H83 (o + 1) 14 = r492 := (h_apn hp83 (by omega)).trans m572
          have m593 : h_ai H83 (o + 1) (97 + 4 * r464.toInt + 24 * u1.toInt).toNat = r512 := (h_apn hp83 (by omega)).trans m573
          have m594 : h_ai H83 (o + 1) 11 = r512 := (h_apn hp83 (by omega)).trans m574
          have m595 : h_ai H83 (o + 1) (98 + 4 * r464.toInt + 24 * u1.toInt).toNat = r535 := (h_apn hp83 (by omega)).trans m575
          have m596 : h_ai H83 (o + 1) 12 = r535 := (h_apn hp83 (by omega)).trans m576
          have m597 : h_ai H83 (o + 1) (99 + 4 * r464.toInt + 24 * u1.toInt).toNat = r560 := (h_apn hp83 (by omega)).trans m577
          have m598 : h_ai H83 (o + 1) 15 = r560 := (h_apn hp83 (by omega)).trans m579
          have R599 : mR o H83 := R578.keep (fun j hj => h_apn hp83 (by unfold mK at hj; omega))
          have m600 : h_ai H83 (o + 1) 13 = 0 := h_aps hp83
          refine lv_aload_n hx hb dX11_tokenAt_203 rfl (lv_at hl 3 rfl) ?_
          refine lv_bipush (v := 8) hx hb dX11_tokenAt_204 (by decide) ?_
          refine lv_iconst (v := 0) hx hb dX11_tokenAt_206 (by decide) ?_
          refine h_callVv (T := TX11) (rest := []) (As := [.int 8, .int 0]) hx hb hml hown hts hK hT83 hZ (fun _ h => h) hS83 (c_puts l G Y P (o) hM 8 0 8 (by decide) (h_inc (by decide)) mP_zero) trivial wd_X11_puts wV_X11_puts wL_X11_43 (hM.o rfl) rfl rfl hl.1 rfl (Nat.le_of_ble_eq_true rfl) dX11_tokenAt_207 ⟨Nat.le_of_ble_eq_true rfl, Nat.le_of_ble_eq_true rfl⟩ ⟨Nat.zero_le _, Nat.zero_le _⟩ (fun H84 locs hp84 hT84 hS84 hk84 => ?_)
          have hp84 : h_apu H83 H84 (o + 1) 8 (.int 0) := hp84.2
          have z601 : ∀ j : Nat, (j = 0 ∨ 600 ≤ j) → h_ai H84 (o + 1) j = h_ai H0 (o + 1) j := fun j hj => (h_apn hp84 (by omega)).trans (z581 j hj)
          have m602 : h_ai H84 (o + 1) (88 + u1.toInt).toNat = v2 := (h_apn hp84 (by omega)).trans m582
          have m603 : h_ai H84 (o + 1) (r3.toInt).toNat = r186 := (h_apn hp84 (by omega)).trans m583
          have m604 : h_ai H84 (o + 1) 7 = r185 := (h_apn hp84 (by omega)).trans m584
          have m605 : h_ai H84 (o + 1) (1 + r3.toInt).toNat = r185 := (h_apn hp84 (by omega)).trans m585
          have m606 : h_ai H84 (o + 1) 9 = 0 := (h_apn hp84 (by omega)).trans m587
          have m607 : h_ai H84 (o + 1) (80 + u1.toInt).toNat = v450 := (h_apn hp84 (by omega)).trans m588
          have m608 : h_ai H84 (o + 1) 5 = 2 := (h_apn hp84 (by omega)).trans m589
          have m609 : h_ai H84 (o + 1) 10 = u1 := (h_apn hp84 (by omega)).trans m590
          have m610 : h_ai H84 (o + 1) (96 + 4 * r464.toInt + 24 * u1.toInt).toNat = r492 := (h_apn hp84 (by omega)).trans m591
          have m611 : h_ai H84 (o + 1) 14 = r492 := (h_apn hp84 (by omega)).trans m592
          have m612 : h_ai H84 (o + 1) (97 + 4 * r464.toInt + 24 * u1.toInt).toNat = r512 := (h_apn hp84 (by omega)).trans m593
          have m613 : h_ai H84 (o + 1) 11 = r512 := (h_apn hp84 (by omega)).trans m594
          have m614 : h_ai H84 (o + 1) (98 + 4 * r464.toInt + 24 * u1.toInt).toNat = r535 := (h_apn hp84 (by omega)).trans m595
          have m615 : h_ai H84 (o + 1) 12 = r535 := (h_apn hp84 (by omega)).trans m596
          have m616 : h_ai H84 (o + 1) (99 + 4 * r464.toInt + 24 * u1.toInt).toNat = r560 := (h_apn hp84 (by omega)).trans m597
          have m617 : h_ai H84 (o + 1) 15 = r560 := (h_apn hp84 (by omega)).trans m598
          have m618 : h_ai H84 (o + 1) 13 = 0 := (h_apn hp84 (by omega)).trans m600
          have R619 : mR o H84 := R599.keep (fun j hj => h_apn hp84 (by unfold mK at hj; omega))
          have m620 : h_ai H84 (o + 1) 8 = 0 := h_aps hp84
          refine lv_aload_n hx hb dX11_tokenAt_210 rfl (lv_at hl 3 rfl) ?_
          refine lv_bipush (v := 9) hx hb dX11_tokenAt_211 (by decide) ?_
          refine lv_iconst (v := 0) hx hb dX11_tokenAt_213 (by decide) ?_
          refine h_callVv (T := TX11) (rest := []) (As := [.int 9, .int 0]) hx hb hml hown hts hK hT84 hZ (fun _ h => h) hS84 (c_puts l G Y P (o) hM 9 0 9 (by decide) (h_inc (by decide)) mP_zero) trivial wd_X11_puts wV_X11_puts wL_X11_43 (hM.o rfl) rfl rfl hl.1 rfl (Nat.le_of_ble_eq_true rfl) dX11_tokenAt_214 ⟨Nat.le_of_ble_eq_true rfl, Nat.le_of_ble_eq_true rfl⟩ ⟨Nat.zero_le _, Nat.zero_le _⟩ (fun H85 locs hp85 hT85 hS85 hk85 => ?_)
          have hp85 : h_apu H84 H85 (o + 1) 9 (.int 0) := hp85.2
          have z621 : ∀ j : Nat, (j = 0 ∨ 600 ≤ j) → h_ai H85 (o + 1) j = h_ai H0 (o + 1) j := fun j hj => (h_apn hp85 (by omega)).trans (z601 j hj)
          have m622 : h_ai H85 (o + 1) (88 + u1.toInt).toNat = v2 := (h_apn hp85 (by omega)).trans m602
          have m623 : h_ai H85 (o + 1) (r3.toInt).toNat = r186 := (h_apn hp85 (by omega)).trans m603
          have m624 : h_ai H85 (o + 1) 7 = r185 := (h_apn hp85 (by omega)).trans m604
          have m625 : h_ai H85 (o + 1) (1 + r3.toInt).toNat = r185 := (h_apn hp85 (by omega)).trans m605
          have m626 : h_ai H85 (o + 1) (80 + u1.toInt).toNat = v450 := (h_apn hp85 (by omega)).trans m607
          have m627 : h_ai H85 (o + 1) 5 = 2 := (h_apn hp85 (by omega)).trans m608
          have m628 : h_ai H85 (o + 1) 10 = u1 := (h_apn hp85 (by omega)).trans m609
          have m629 : h_ai H85 (o + 1) (96 + 4 * r464.toInt + 24 * u1.toInt).toNat = r492 := (h_apn hp85 (by omega)).trans m610
          have m630 : h_ai H85 (o + 1) 14 = r492 := (h_apn hp85 (by omega)).trans m611
          have m631 : h_ai H85 (o + 1) (97 + 4 * r464.toInt + 24 * u1.toInt).toNat = r512 := (h_apn hp85 (by omega)).trans m612
          have m632 : h_ai H85 (o + 1) 11 = r512 := (h_apn hp85 (by omega)).trans m613
          have m633 : h_ai H85 (o + 1) (98 + 4 * r464.toInt + 24 * u1.toInt).toNat = r535 := (h_apn hp85 (by omega)).trans m614
          have m634 : h_ai H85 (o + 1) 12 = r535 := (h_apn hp85 (by omega)).trans m615
          have m635 : h_ai H85 (o + 1) (99 + 4 * r464.toInt + 24 * u1.toInt).toNat = r560 := (h_apn hp85 (by omega)).trans m616
          have m636 : h_ai H85 (o + 1) 15 = r560 := (h_apn hp85 (by omega)).trans m617
          have m637 : h_ai H85 (o + 1) 13 = 0 := (h_apn hp85 (by omega)).trans m618
          have m638 : h_ai H85 (o + 1) 8 = 0 := (h_apn hp85 (by omega)).trans m620
          have R639 : mR o H85 := R619.keep (fun j hj => h_apn hp85 (by unfold mK at hj; omega))
          have m640 : h_ai H85 (o + 1) 9 = 0 := h_aps hp85
          refine lv_aload_n hx hb dX11_tokenAt_217 rfl (lv_at hl 3 rfl) ?_
          refine lv_iload_n hx hb dX11_tokenAt_218 rfl (lv_at hl 4 rfl) ?_
          refine lv_iload_n hx hb dX11_tokenAt_219 rfl (lv_at hl 1 rfl) ?_
          refine h_callVv (T := TX11) (rest := []) (As := [.int u1, .int r464]) hx hb hml hown hts hK hT85 hZ (fun _ h => h) hS85 (c_X11_takes l G Y P (o) hM u1 r464 (show 0 ≤ u1.toInt ∧ u1.toInt ≤ 7 from by omega) (show 0 ≤ r464.toInt ∧ r464.toInt ≤ 5 from by omega)) (show r464.toInt < (h_ai H85 (o + 1) (80 + u1.toInt).toNat).toInt from by rw [m626]; exact (show r464.toInt < v450.toInt from by omega)) wd_X11_takes wV_X11_takes wL_X11_109 (hM.o rfl) rfl rfl hl.1 rfl (Nat.le_of_ble_eq_true rfl) dX11_tokenAt_220 ⟨Nat.le_of_ble_eq_true rfl, Nat.le_of_ble_eq_true rfl⟩ ⟨Nat.zero_le _, Nat.zero_le _⟩ (fun H86 locs hp86 hT86 hS86 hk86 => ?_)
          obtain ⟨hp86, hB86⟩ := hp86
          have z641 : ∀ j : Nat, (j = 0 ∨ 600 ≤ j) → h_ai H86 (o + 1) j = h_ai H0 (o + 1) j := fun j hj => (hB86 j (by unfold mK; omega)).trans (z621 j hj)
          have m642 : h_ai H86 (o + 1) (88 + u1.toInt).toNat = v2 := (hB86 _ (by unfold mK; omega)).trans m622
          have m643 : h_ai H86 (o + 1) (r3.toInt).toNat = r186 := (hB86 _ (by unfold mK; omega)).trans m623
          have m644 : h_ai H86 (o + 1) 7 = r185 := (hB86 _ (by unfold mK; omega)).trans m624
          have m645 : h_ai H86 (o + 1) (1 + r3.toInt).toNat = r185 := (hB86 _ (by unfold mK; omega)).trans m625
          have R646 : mR o H86 := R639.keep hB86
          obtain ⟨v647, mv647⟩ : ∃ x, h_ai H86 (o + 1) (80 + u1.toInt).toNat = x := ⟨_, rfl⟩
          have bv647 := mP_wm (mP_cell hM hT86 (j := (80 + u1.toInt).toNat) (by omega)) (by omega)
          rw [mv647] at bv647
          have f648 : v647.toInt = v450.toInt - 1 := by have q := hp86; rw [mv647, m626] at q; exact q
          exact hret _ _ _ _ hT86 hS86 ⟨trivial, ⟨R646, z641⟩⟩ dX11_tokenAt_223
        · skip
          have c463 : ¬ r185.toInt ≤ r460.toInt := h_nleI c463
          refine lv_aload_n hx hb dX11_tokenAt_106 rfl (lv_at hl 1 rfl) ?_
          refine lv_iload_n hx hb dX11_tokenAt_107 rfl (lv_at hl 2 rfl) ?_
          refine h_callVv (T := TX11) (rest := []) (As := [.int u1]) hx hb hml hown hts hK hT63 hZ (fun _ h => h) hS67 (c_X11_wishes l G Y P (o) hM u1 (show 0 ≤ u1.toInt ∧ u1.toInt ≤ 7 from by omega)) trivial wd_X11_wishes wV_X11_wishes wL_X11_106 (hM.o rfl) rfl rfl hl.1 rfl (Nat.le_of_ble_eq_true rfl) dX11_tokenAt_108 ⟨Nat.le_of_ble_eq_true rfl, Nat.le_of_ble_eq_true rfl⟩ ⟨Nat.zero_le _, Nat.zero_le _⟩ (fun H87 locs hp87 hT87 hS87 hk87 => ?_)
          obtain ⟨hp87, hB87⟩ := hp87
          have z649 : ∀ j : Nat, (j = 0 ∨ 600 ≤ j) → h_ai H87 (o + 1) j = h_ai H0 (o + 1) j := fun j hj => (hB87 j (by unfold mK; omega)).trans (z440 j hj)
          have m650 : h_ai H87 (o + 1) (88 + u1.toInt).toNat = v2 := (hB87 _ (by unfold mK; omega)).trans m442
          have m651 : h_ai H87 (o + 1) (r3.toInt).toNat = r186 := (hB87 _ (by unfold mK; omega)).trans m443
          have m652 : h_ai H87 (o + 1) 7 = r185 := (hB87 _ (by unfold mK; omega)).trans m444
          have m653 : h_ai H87 (o + 1) (1 + r3.toInt).toNat = r185 := (hB87 _ (by unfold mK; omega)).trans m445
          have R654 : mR o H87 := R448.keep hB87
          exact hret _ _ _ _ hT87 hS87 ⟨trivial, ⟨R654, z649⟩⟩ dX11_tokenAt_111
set_option maxHeartbeats 4000000 in
set_option maxRecDepth 100000 in
theorem c_X11_comesHome (l : Launch) (G : hG) (Y : hW) (P : Int32 → Prop) (o : Nat) (hM : h_On Y o (modE (tM P) o)) (u1 : Int32) (hu1 : 0 ≤ u1.toInt ∧ u1.toInt ≤ 7) : hMv l yX11_comesHome cX11_comesHome 5 none 3 65 G Y [.ref (o), .int u1] (fun H => (mR o H) ∧ (u1.toInt < (h_ai H (o + 1) 0).toInt)) (fun H H1 => (True) ∧ (mR o H1 ∧ mU o H H1)) := by
  refine h_ofv (by decide +kernel) (Nat.le_of_ble_eq_true rfl) ?_
  intro p e s m args below meth c H0 ls Q hx hb hts hown hml hK hZ hT0 hpr hS0 hl hret
  have hl : lv_has ls 5 [(0, .ref (o)), (1, .int u1)] := hl
  obtain ⟨v1, mv1⟩ : ∃ x, h_ai H0 (o + 1) 0 = x := ⟨_, rfl⟩
  have bv1 := mP_N (mP_cell hM hT0 (j := 0) (by omega)) (by omega)
  rw [mv1] at bv1
  have g2 : u1.toInt < v1.toInt := by have q := hpr.2; rw [mv1] at q; exact q
  refine lv_aload_n hx hb dX11_comesHome_0 rfl (lv_at hl 0 rfl) ?_
  refine lv_bipush (v := 13) hx hb dX11_comesHome_1 (by decide) ?_
  refine h_callVi (T := TX11) (rest := []) (As := [.int 13]) hx hb hml hown hts hK hT0 hZ (fun _ h => h) hS0 (c_of l G Y P (o) hM 13 13 (by decide) (h_inc (by decide))) trivial wd_X11_of wV_X11_of wL_X11_47 (hM.o rfl) rfl rfl hl.1 rfl (Nat.le_of_ble_eq_true rfl) dX11_comesHome_3 ⟨Nat.le_of_ble_eq_true rfl, Nat.le_of_ble_eq_true rfl⟩ ⟨Nat.zero_le _, Nat.zero_le _⟩ (fun r3 H1 locs hp1 hT1 hS1 hk1 => ?_)
  obtain ⟨hp1, he⟩ := hp1
  have he := he.symm
  subst he
  have mr3 : h_ai H0 (o + 1) 13 = r3 := hp1.1.symm
  refine lv_iconst (v := 1) hx hb dX11_comesHome_6 (by decide) ?_
  refine lv_icmp_ne (tgt := 14) hx hb dX11_comesHome_7 (by decide) (fun c4 => ?_) (fun c4 => ?_)
  · skip
    have c4 : ¬ r3.toInt = (1 : Int) := h_neI c4
    refine lv_iconst (v := 0) hx hb dX11_comesHome_14 (by decide) ?_
    refine lv_istore_n (lv' := [(2, .int 0), (0, .ref (o)), (1, .int u1)]) hx hb dX11_comesHome_15 rfl hl (by decide) rfl (fun ls hl => ?_)
    refine lv_iload_n hx hb dX11_comesHome_16 rfl (lv_at hl 0 rfl) ?_
    refine lv_if_eq (tgt := 25) hx hb dX11_comesHome_17 (by decide) (fun _ => ?_) (fun h => absurd (by decide) h)
    refine lv_aload_n hx hb dX11_comesHome_25 rfl (lv_at hl 1 rfl) ?_
    refine lv_bipush (v := 21) hx hb dX11_comesHome_26 (by decide) ?_
    refine lv_iload_n hx hb dX11_comesHome_28 rfl (lv_at hl 0 rfl) ?_
    refine lv_if_eq (tgt := 36) hx hb dX11_comesHome_29 (by decide) (fun _ => ?_) (fun h => absurd (by decide) h)
    refine lv_iconst (v := 1) hx hb dX11_comesHome_36 (by decide) ?_
    refine lv_iadd hx hb dX11_comesHome_37 ?_
    refine h_top (v := 22) (by decide) ?_
    refine lv_iconst (v := 1) hx hb dX11_comesHome_38 (by decide) ?_
    refine h_callVv (T := TX11) (rest := []) (As := [.int 22, .int 1]) hx hb hml hown hts hK hT0 hZ (fun _ h => h) hS1 (c_adds l G Y P (o) hM 22 1 22 (by decide) (h_inc (by decide))) (show mP 22 (h_ai H0 (o + 1) 22 + 1) from (mP_free (by unfold mFree; omega))) wd_X11_adds wV_X11_adds wL_X11_69 (hM.o rfl) rfl rfl hl.1 rfl (Nat.le_of_ble_eq_true rfl) dX11_comesHome_39 ⟨Nat.le_of_ble_eq_true rfl, Nat.le_of_ble_eq_true rfl⟩ ⟨Nat.zero_le _, Nat.zero_le _⟩ (fun H2 locs hp2 hT2 hS2 hk2 => ?_)
    have hp2 : h_apu H0 H2 (o + 1) 22 (.int (h_ai H0 (o + 1) 22 + 1)) := hp2.2
    have z7 : ∀ j : Nat, (j = 0 ∨ 600 ≤ j) → h_ai H2 (o + 1) j = h_ai H0 (o + 1) j := fun j hj => (h_apn hp2 (by omega))
    have m8 : h_ai H2 (o + 1) 0 = v1 := (h_apn hp2 (by omega)).trans mv1
    have m9 : h_ai H2 (o + 1) 13 = r3 := (h_apn hp2 (by omega)).trans mr3
    have R10 : mR o H2 := hpr.1.keep (fun j hj => h_apn hp2 (by unfold mK at hj; omega))
    refine lv_aload_n hx hb dX11_comesHome_42 rfl (lv_at hl 1 rfl) ?_
    refine lv_iload_n hx hb dX11_comesHome_43 rfl (lv_at hl 0 rfl) ?_
    refine lv_if_eq (tgt := 51) hx hb dX11_comesHome_44 (by decide) (fun _ => ?_) (fun h => absurd (by decide) h)
    refine lv_iconst (v := 1) hx hb dX11_comesHome_51 (by decide) ?_
    refine lv_iload_n hx hb dX11_comesHome_52 rfl (lv_at hl 2 rfl) ?_
    refine h_callVv (T := TX11) (rest := []) (As := [.int 1, .int u1]) hx hb hml hown hts hK hT2 hZ (fun _ h => h) hS2 (c_X11_happens l G Y P (o) hM 1 u1) trivial wd_X11_happens wV_X11_happens wL_X11_72 (hM.o rfl) rfl rfl hl.1 rfl (Nat.le_of_ble_eq_true rfl) dX11_comesHome_53 ⟨Nat.le_of_ble_eq_true rfl, Nat.le_of_ble_eq_true rfl⟩ ⟨Nat.zero_le _, Nat.zero_le _⟩ (fun H3 locs hp3 hT3 hS3 hk3 => ?_)
    obtain ⟨hp3, hB3⟩ := hp3
    have z12 : ∀ j : Nat, (j = 0 ∨ 600 ≤ j) → h_ai H3 (o + 1) j = h_ai H0 (o + 1) j := fun j hj => (hB3 j (by unfold mK; omega)).trans (z7 j hj)
    have m13 : h_ai H3 (o + 1) 0 = v1 := (hB3 _ (by unfold mK; omega)).trans m8
    have R14 : mR o H3 := R10.keep hB3
    refine lv_aload_n hx hb dX11_comesHome_56 rfl (lv_at hl 1 rfl) ?_
    refine lv_iconst (v := 5) hx hb dX11_comesHome_57 (by decide) ?_
    refine lv_iconst (v := 1) hx hb dX11_comesHome_58 (by decide) ?_
    refine h_callVv (T := TX11) (rest := []) (As := [.int 5, .int 1]) hx hb hml hown hts hK hT3 hZ (fun _ h => h) hS3 (c_puts l G Y P (o) hM 5 1 5 (by decide) (h_inc (by decide)) (mP_free (by unfold mFree; omega))) trivial wd_X11_puts wV_X11_puts wL_X11_43 (hM.o rfl) rfl rfl hl.1 rfl (Nat.le_of_ble_eq_true rfl) dX11_comesHome_59 ⟨Nat.le_of_ble_eq_true rfl, Nat.le_of_ble_eq_true rfl⟩ ⟨Nat.zero_le _, Nat.zero_le _⟩ (fun H4 locs hp4 hT4 hS4 hk4 => ?_)
    have hp4 : h_apu H3 H4 (o + 1) 5 (.int 1) := hp4.2
    have z15 : ∀ j : Nat, (j = 0 ∨ 600 ≤ j) → h_ai H4 (o + 1) j = h_ai H0 (o + 1) j := fun j hj => (h_apn hp4 (by omega)).trans (z12 j hj)
    have m16 : h_ai H4 (o + 1) 0 = v1 := (h_apn hp4 (by omega)).trans m13
    have R17 : mR o H4 := R14.keep (fun j hj => h_apn hp4 (by unfold mK at hj; omega))
    have m18 : h_ai H4 (o + 1) 5 = 1 := h_aps hp4
    refine lv_aload_n hx hb dX11_comesHome_62 rfl (lv_at hl 1 rfl) ?_
    refine lv_bipush (v := 9) hx hb dX11_comesHome_63 (by decide) ?_
    refine lv_iconst (v := 0) hx hb dX11_comesHome_65 (by decide) ?_
    refine h_callVv (T := TX11) (rest := []) (As := [.int 9, .int 0]) hx hb hml hown hts hK hT4 hZ (fun _ h => h) hS4 (c_puts l G Y P (o) hM 9 0 9 (by decide) (h_inc (by decide)) mP_zero) trivial wd_X11_puts wV_X11_puts wL_X11_43 (hM.o rfl) rfl rfl hl.1 rfl (Nat.le_of_ble_eq_true rfl) dX11_comesHome_66 ⟨Nat.le_of_ble_eq_true rfl, Nat.le_of_ble_eq_true rfl⟩ ⟨Nat.zero_le _, Nat.zero_le _⟩ (fun H5 locs hp5 hT5 hS5 hk5 => ?_)
    have hp5 : h_apu H4 H5 (o + 1) 9 (.int 0) := hp5.2
    have z19 : ∀ j : Nat, (j = 0 ∨ 600 ≤ j) → h_ai H5 (o + 1) j = h_ai H0 (o + 1) j := fun j hj => (h_apn hp5 (by omega)).trans (z15 j hj)
    have m20 : h_ai H5 (o + 1) 0 = v1 := (h_apn hp5 (by omega)).trans m16
    have m21 : h_ai H5 (o + 1) 5 = 1 := (h_apn hp5 (by omega)).trans m18
    have R22 : mR o H5 := R17.keep (fun j hj => h_apn hp5 (by unfold mK at hj; omega))
    have m23 : h_ai H5 (o + 1) 9 = 0 := h_aps hp5
    refine lv_aload_n hx hb dX11_comesHome_69 rfl (lv_at hl 1 rfl) ?_
    refine h_geti (C := RX11) (T := TX11) (N := 23) hx hb hts inX11 hown hK hT5 (hM.o rfl) rfl 6 rfl wF_X11_94 rfl dX11_comesHome_70 (fun p24 => ?_)
    refine lv_topi (fun x25 ex25 => ?_)
    refine lv_if_eq (tgt := 85) hx hb dX11_comesHome_73 (by decide) (fun c26 => ?_) (fun c26 => ?_)
    · skip
      have c26 : x25.toInt = (0 : Int) := congrArg Int32.toInt c26
      refine lv_aload_n hx hb dX11_comesHome_85 rfl (lv_at hl 1 rfl) ?_
      refine lv_bipush (v := 8) hx hb dX11_comesHome_86 (by decide) ?_
      refine h_callVi (T := TX11) (rest := []) (As := [.int 8]) hx hb hml hown hts hK hT5 hZ (fun _ h => h) hS5 (c_of l G Y P (o) hM 8 8 (by decide) (h_inc (by decide))) trivial wd_X11_of wV_X11_of wL_X11_47 (hM.o rfl) rfl rfl hl.1 rfl (Nat.le_of_ble_eq_true rfl) dX11_comesHome_88 ⟨Nat.le_of_ble_eq_true rfl, Nat.le_of_ble_eq_true rfl⟩ ⟨Nat.zero_le _, Nat.zero_le _⟩ (fun r27 H6 locs hp6 hT6 hS6 hk6 => ?_)
      obtain ⟨hp6, he⟩ := hp6
      have he := he.symm
      subst he
      have mr27 : h_ai H5 (o + 1) 8 = r27 := hp6.1.symm
      have br27 := mP_l hp6.2 (by omega)
      refine lv_aload_n hx hb dX11_comesHome_91 rfl (lv_at hl 1 rfl) ?_
      refine lv_iload_n hx hb dX11_comesHome_92 rfl (lv_at hl 2 rfl) ?_
      obtain ⟨v28, mv28⟩ : ∃ x, h_ai H5 (o + 1) (80 + u1.toInt).toNat = x := ⟨_, rfl⟩
      have bv28 := mP_wm (mP_cell hM hT5 (j := (80 + u1.toInt).toNat) (by omega)) (by omega)
      rw [mv28] at bv28
      refine h_callVi (T := TX11) (rest := [.int r27]) (As := [.int u1]) hx hb hml hown hts hK hT5 hZ (fun _ h => h) hS6 (c_X11_firstRank l G Y P (o) hM u1 (show 0 ≤ u1.toInt ∧ u1.toInt ≤ 7 from by omega)) trivial wd_X11_firstRank wV_X11_firstRank wL_X11_97 (hM.o rfl) rfl rfl hl.1 rfl (Nat.le_of_ble_eq_true rfl) dX11_comesHome_93 ⟨Nat.le_of_ble_eq_true rfl, Nat.le_of_ble_eq_true rfl⟩ ⟨Nat.zero_le _, Nat.zero_le _⟩ (fun r29 H7 locs hp7 hT7 hS7 hk7 => ?_)
      obtain ⟨hp7, he⟩ := hp7
      have he := he.symm
      subst he
      have f30 : (r29.toInt = -1 ∧ v28.toInt ≤ 0) ∨ (0 ≤ r29.toInt ∧ r29.toInt ≤ 7 ∧ 1 ≤ v28.toInt) := by have q := hp7; rw [mv28] at q; exact q
      refine h_callSi (rest := []) (As := [.int r27, .int r29]) hx hb hml hown hts hK hT5 hZ (fun _ h => h) hS7 (c_J_max l G Y r27 r29) trivial wd_J9_max_7cf53 wS_J9_max_7cf53 wL_X11_86 rfl hl.1 rfl (Nat.le_of_ble_eq_true rfl) dX11_comesHome_96 ⟨Nat.le_of_ble_eq_true rfl, Nat.le_of_ble_eq_true rfl⟩ ⟨Nat.zero_le _, Nat.zero_le _⟩ (fun r31 H8 locs hp8 hT8 hS8 hk8 => ?_)
      obtain ⟨hp8, he⟩ := hp8
      have he := he.symm
      subst he
      have f32 : ((r31.toInt = r27.toInt ∨ r31.toInt = r29.toInt) ∧ r27.toInt ≤ r31.toInt ∧ r29.toInt ≤ r31.toInt) := by have q := hp8; exact q
      refine lv_istore_n (lv' := [(3, .int r31), (2, .int 0), (0, .ref (o)), (1, .int u1)]) hx hb dX11_comesHome_99 rfl hl (by decide) rfl (fun ls hl => ?_)
      refine lv_aload_n hx hb dX11_comesHome_100 rfl (lv_at hl 2 rfl) ?_
      refine lv_bipush (v := 8) hx hb dX11_comesHome_101 (by decide) ?_
      refine lv_iload_n hx hb dX11_comesHome_103 rfl (lv_at hl 0 rfl) ?_
      refine h_callVv (T := TX11) (rest := []) (As := [.int 8, .int r31]) hx hb hml hown hts hK hT5 hZ (fun _ h => h) hS8 (c_puts l G Y P (o) hM 8 r31 8 (by decide) (h_inc (by decide)) (mP_of7 (by omega) (show 0 ≤ r31.toInt from by omega) (show r31.toInt ≤ 7 from by omega))) trivial wd_X11_puts wV_X11_puts wL_X11_43 (hM.o rfl) rfl rfl hl.1 rfl (Nat.le_of_ble_eq_true rfl) dX11_comesHome_104 ⟨Nat.le_of_ble_eq_true rfl, Nat.le_of_ble_eq_true rfl⟩ ⟨Nat.zero_le _, Nat.zero_le _⟩ (fun H9 locs hp9 hT9 hS9 hk9 => ?_)
      have hp9 : h_apu H5 H9 (o + 1) 8 (.int r31) := hp9.2
      have z33 : ∀ j : Nat, (j = 0 ∨ 600 ≤ j) → h_ai H9 (o + 1) j = h_ai H0 (o + 1) j := fun j hj => (h_apn hp9 (by omega)).trans (z19 j hj)
      have m34 : h_ai H9 (o + 1) 0 = v1 := (h_apn hp9 (by omega)).trans m20
      have m35 : h_ai H9 (o + 1) 5 = 1 := (h_apn hp9 (by omega)).trans m21
      have m36 : h_ai H9 (o + 1) 9 = 0 := (h_apn hp9 (by omega)).trans m23
      have m37 : h_ai H9 (o + 1) (80 + u1.toInt).toNat = v28 := (h_apn hp9 (by omega)).trans mv28
      have R38 : mR o H9 := R22.keep (fun j hj => h_apn hp9 (by unfold mK at hj; omega))
      have m39 : h_ai H9 (o + 1) 8 = r31 := h_aps hp9
      refine lv_iload_n hx hb dX11_comesHome_107 rfl (lv_at hl 0 rfl) ?_
      refine lv_aload_n hx hb dX11_comesHome_108 rfl (lv_at hl 2 rfl) ?_
      refine lv_bipush (v := 7) hx hb dX11_comesHome_109 (by decide) ?_
      refine h_callVi (T := TX11) (rest := [.int r31]) (As := [.int 7]) hx hb hml hown hts hK hT9 hZ (fun _ h => h) hS9 (c_of l G Y P (o) hM 7 7 (by decide) (h_inc (by decide))) trivial wd_X11_of wV_X11_of wL_X11_47 (hM.o rfl) rfl rfl hl.1 rfl (Nat.le_of_ble_eq_true rfl) dX11_comesHome_111 ⟨Nat.le_of_ble_eq_true rfl, Nat.le_of_ble_eq_true rfl⟩ ⟨Nat.zero_le _, Nat.zero_le _⟩ (fun r40 H10 locs hp10 hT10 hS10 hk10 => ?_)
      obtain ⟨hp10, he⟩ := hp10
      have he := he.symm
      subst he
      have mr40 : h_ai H9 (o + 1) 7 = r40 := hp10.1.symm
      have br40 := mP_l hp10.2 (by omega)
      refine lv_icmp_gt (tgt := 118) hx hb dX11_comesHome_114 (by decide) (fun c41 => ?_) (fun c41 => ?_)
      · skip
        have c41 : r40.toInt < r31.toInt := Int32.lt_iff_toInt_lt.mp c41
        refine lv_aload_n hx hb dX11_comesHome_118 rfl (lv_at hl 2 rfl) ?_
        refine lv_bipush (v := 8) hx hb dX11_comesHome_119 (by decide) ?_
        refine lv_iconst (v := 0) hx hb dX11_comesHome_121 (by decide) ?_
        refine h_callVv (T := TX11) (rest := []) (As := [.int 8, .int 0]) hx hb hml hown hts hK hT9 hZ (fun _ h => h) hS10 (c_puts l G Y P (o) hM 8 0 8 (by decide) (h_inc (by decide)) mP_zero) trivial wd_X11_puts wV_X11_puts wL_X11_43 (hM.o rfl) rfl rfl hl.1 rfl (Nat.le_of_ble_eq_true rfl) dX11_comesHome_122 ⟨Nat.le_of_ble_eq_true rfl, Nat.le_of_ble_eq_true rfl⟩ ⟨Nat.zero_le _, Nat.zero_le _⟩ (fun H11 locs hp11 hT11 hS11 hk11 => ?_)
        have hp11 : h_apu H9 H11 (o + 1) 8 (.int 0) := hp11.2
        have z42 : ∀ j : Nat, (j = 0 ∨ 600 ≤ j) → h_ai H11 (o + 1) j = h_ai H0 (o + 1) j := fun j hj => (h_apn hp11 (by omega)).trans (z33 j hj)
        have m43 : h_ai H11 (o + 1) 0 = v1 := (h_apn hp11 (by omega)).trans m34
        have m44 : h_ai H11 (o + 1) 5 = 1 := (h_apn hp11 (by omega)).trans m35
        have m45 : h_ai H11 (o + 1) 9 = 0 := (h_apn hp11 (by omega)).trans m36
        have m46 : h_ai H11 (o + 1) (80 + u1.toInt).toNat = v28 := (h_apn hp11 (by omega)).trans m37
        have m47 : h_ai H11 (o + 1) 7 = r40 := (h_apn hp11 (by omega)).trans mr40
        have R48 : mR o H11 := R38.keep (fun j hj => h_apn hp11 (by unfold mK at hj; omega))
        have m49 : h_ai H11 (o + 1) 8 = 0 := h_aps hp11
        refine lv_aload_n hx hb dX11_comesHome_125 rfl (lv_at hl 2 rfl) ?_
        refine lv_iload_n hx hb dX11_comesHome_126 rfl (lv_at hl 3 rfl) ?_
        obtain ⟨v50, mv50⟩ : ∃ x, h_ai H11 (o + 1) (88 + u1.toInt).toNat = x := ⟨_, rfl⟩
        have bv50 := mP_rm (mP_cell hM hT11 (j := (88 + u1.toInt).toNat) (by omega)) (by omega)
        rw [mv50] at bv50
        refine h_callVi (T := TX11) (rest := []) (As := [.int u1]) hx hb hml hown hts hK hT11 hZ (fun _ h => h) hS11 (c_X11_topRaise l G Y P (o) hM u1 (show 0 ≤ u1.toInt ∧ u1.toInt ≤ 7 from by omega)) trivial wd_X11_topRaise wV_X11_topRaise wL_X11_100 (hM.o rfl) rfl rfl hl.1 rfl (Nat.le_of_ble_eq_true rfl) dX11_comesHome_127 ⟨Nat.le_of_ble_eq_true rfl, Nat.le_of_ble_eq_true rfl⟩ ⟨Nat.zero_le _, Nat.zero_le _⟩ (fun r51 H12 locs hp12 hT12 hS12 hk12 => ?_)
        obtain ⟨hp12, he⟩ := hp12
        have he := he.symm
        subst he
        have f52 : r51.toInt = -1 ∨ (r51.toInt = 286 + 16 * u1.toInt + 2 * v50.toInt ∧ 1 ≤ v50.toInt ∧ (h_ai H11 (o + 1) (1 + r51.toInt).toNat).toInt = r40.toInt) := by have q := hp12; rw [m47] at q; rw [mv50] at q; exact q
        have t53 := mR_top u1.toInt.toNat (k8 := (88 + u1.toInt).toNat) (by omega) (by omega) R48 (by rw [mv50]; omega) (by rw [mv50]; omega)
        rw [mv50, m47] at t53
        refine lv_istore (lv' := [(4, .int r51), (3, .int r31), (2, .int 0), (0, .ref (o)), (1, .int u1)]) hx hb dX11_comesHome_130 hl (by decide) rfl (fun ls hl => ?_)
        refine lv_iload hx hb dX11_comesHome_132 (lv_at hl 0 rfl) ?_
        refine lv_iconst (v := (-1)) hx hb dX11_comesHome_134 (by decide) ?_
        refine lv_icmp_ne (tgt := 173) hx hb dX11_comesHome_135 (by decide) (fun c54 => ?_) (fun c54 => ?_)
        · skip
          have c54 : ¬ r51.toInt = (-1 : Int) := h_neI c54
          refine lv_aload_n hx hb dX11_comesHome_173 rfl (lv_at hl 3 rfl) ?_
          refine lv_iload hx hb dX11_comesHome_174 (lv_at hl 0 rfl) ?_
          refine lv_iconst (v := 1) hx hb dX11_comesHome_176 (by decide) ?_
          refine lv_iadd hx hb dX11_comesHome_177 ?_
          obtain ⟨x55, qx55, ix55⟩ := h_addX r51 1 r51.toInt (1 : Int) rfl rfl (by omega) (by omega)
          refine h_top (v := x55) qx55 ?_
          refine lv_iload_n hx hb dX11_comesHome_178 rfl (lv_at hl 1 rfl) ?_
          refine h_callVv (T := TX11) (rest := []) (As := [.int x55, .int r31]) hx hb hml hown hts hK hT11 hZ (fun _ h => h) hS12 (c_puts l G Y P (o) hM x55 r31 (1 + r51.toInt).toNat (show x55.toInt.toNat = (1 + r51.toInt).toNat from by omega) (h_vin (by omega) (by omega)) (mP_of7 (by omega) (show 0 ≤ r31.toInt from by omega) (show r31.toInt ≤ 7 from by omega))) trivial wd_X11_puts wV_X11_puts wL_X11_43 (hM.o rfl) rfl rfl hl.1 rfl (Nat.le_of_ble_eq_true rfl) dX11_comesHome_179 ⟨Nat.le_of_ble_eq_true rfl, Nat.le_of_ble_eq_true rfl⟩ ⟨Nat.zero_le _, Nat.zero_le _⟩ (fun H13 locs hp13 hT13 hS13 hk13 => ?_)
          have hp13 : h_apu H11 H13 (o + 1) (1 + r51.toInt).toNat (.int r31) := hp13.2
          have z56 : ∀ j : Nat, (j = 0 ∨ 600 ≤ j) → h_ai H13 (o + 1) j = h_ai H0 (o + 1) j := fun j hj => (h_apn hp13 (by omega)).trans (z42 j hj)
          have z57 : ∀ j : Nat, mK j → j ≠ (1 + r51.toInt).toNat → h_ai H13 (o + 1) j = h_ai H11 (o + 1) j := fun j hj k0 => (h_apn hp13 k0)
          have m58 : h_ai H13 (o + 1) 0 = v1 := (h_apn hp13 (by omega)).trans m43
          have m59 : h_ai H13 (o + 1) 5 = 1 := (h_apn hp13 (by omega)).trans m44
          have m60 : h_ai H13 (o + 1) 9 = 0 := (h_apn hp13 (by omega)).trans m45
          have m61 : h_ai H13 (o + 1) (80 + u1.toInt).toNat = v28 := (h_apn hp13 (by omega)).trans m46
          have m62 : h_ai H13 (o + 1) 7 = r40 := (h_apn hp13 (by omega)).trans m47
          have m63 : h_ai H13 (o + 1) 8 = 0 := (h_apn hp13 (by omega)).trans m49
          have m64 : h_ai H13 (o + 1) (88 + u1.toInt).toNat = v50 := (h_apn hp13 (by omega)).trans mv50
          have m65 : h_ai H13 (o + 1) (1 + r51.toInt).toNat = r31 := h_aps hp13
          refine lv_aload_n hx hb dX11_comesHome_182 rfl (lv_at hl 3 rfl) ?_
          refine lv_iload_n hx hb dX11_comesHome_183 rfl (lv_at hl 1 rfl) ?_
          refine h_callVv (T := TX11) (rest := []) (As := [.int r31]) hx hb hml hown hts hK hT13 hZ (fun _ h => h) hS13 (c_X11_isLevel l G Y P (o) hM r31 (show 0 ≤ r31.toInt ∧ r31.toInt ≤ 7 from by omega)) trivial wd_X11_isLevel wV_X11_isLevel wL_X11_103 (hM.o rfl) rfl rfl hl.1 rfl (Nat.le_of_ble_eq_true rfl) dX11_comesHome_184 ⟨Nat.le_of_ble_eq_true rfl, Nat.le_of_ble_eq_true rfl⟩ ⟨Nat.zero_le _, Nat.zero_le _⟩ (fun H14 locs hp14 hT14 hS14 hk14 => ?_)
          obtain ⟨hp14, hB14⟩ := hp14
          obtain ⟨H15, v15, hp15, hq15⟩ := hB14
          have z66 : ∀ j : Nat, (j = 0 ∨ 600 ≤ j) → h_ai H15 (o + 1) j = h_ai H0 (o + 1) j := fun j hj => (h_apn hp15 (by omega)).trans (z56 j hj)
          have z67 : ∀ j : Nat, mK j → j ≠ (1 + r51.toInt).toNat → j ≠ 7 → h_ai H15 (o + 1) j = h_ai H11 (o + 1) j := fun j hj k0 k1 => (h_apn hp15 k1).trans (z57 j hj k0)
          have m68 : h_ai H15 (o + 1) 0 = v1 := (h_apn hp15 (by omega)).trans m58
          have m69 : h_ai H15 (o + 1) 5 = 1 := (h_apn hp15 (by omega)).trans m59
          have m70 : h_ai H15 (o + 1) 9 = 0 := (h_apn hp15 (by omega)).trans m60
          have m71 : h_ai H15 (o + 1) (80 + u1.toInt).toNat = v28 := (h_apn hp15 (by omega)).trans m61
          have m72 : h_ai H15 (o + 1) 8 = 0 := (h_apn hp15 (by omega)).trans m63
          have m73 : h_ai H15 (o + 1) (88 + u1.toInt).toNat = v50 := (h_apn hp15 (by omega)).trans m64
          have m74 : h_ai H15 (o + 1) (1 + r51.toInt).toNat = r31 := (h_apn hp15 (by omega)).trans m65
          have m75 : h_ai H15 (o + 1) 7 = r31 := h_aps hp15
          have z76 : ∀ j : Nat, (j = 0 ∨ 600 ≤ j) → h_ai H14 (o + 1) j = h_ai H0 (o + 1) j := fun j hj => (h_apn hq15 (by omega)).trans (z66 j hj)
          have z77 : ∀ j : Nat, mK j → j ≠ (1 + r51.toInt).toNat → j ≠ 7 → h_ai H14 (o + 1) j = h_ai H11 (o + 1) j := fun j hj k0 k1 => (h_apn hq15 (by unfold mK at hj; omega)).trans (z67 j hj k0 k1)
          have m78 : h_ai H14 (o + 1) 0 = v1 := (h_apn hq15 (by omega)).trans m68
          have m79 : h_ai H14 (o + 1) 5 = 1 := (h_apn hq15 (by omega)).trans m69
          have m80 : h_ai H14 (o + 1) 9 = 0 := (h_apn hq15 (by omega)).trans m70
          have m81 : h_ai H14 (o + 1) (80 + u1.toInt).toNat = v28 := (h_apn hq15 (by omega)).trans m71
          have m82 : h_ai H14 (o + 1) 8 = 0 := (h_apn hq15 (by omega)).trans m72
          have m83 : h_ai H14 (o + 1) (88 + u1.toInt).toNat = v50 := (h_apn hq15 (by omega)).trans m73
          have m84 : h_ai H14 (o + 1) (1 + r51.toInt).toNat = r31 := (h_apn hq15 (by omega)).trans m74
          have m85 : h_ai H14 (o + 1) 7 = r31 := (h_apn hq15 (by omega)).trans m75
          have hl87 : (h_ai H11 (o + 1) (1 + r51.toInt).toNat).toInt = (h_ai H11 (o + 1) 7).toInt := by rcases f52 with q | q <;> first | (exfalso; omega) | (rw [m47]; exact q.2.2)
          have R86 : mR o H14 := mR_set u1.toInt.toNat (v50.toInt - 1).toNat (k8 := (88 + u1.toInt).toNat) (kr := (r51.toInt).toNat) (kn := (1 + r51.toInt).toNat) (by omega) (by omega) (by omega) (by omega) (by omega) R48 (by rw [mv50]; omega) hl87 (by rw [m85, m84]) (by have q := mR_pair u1.toInt.toNat (v50.toInt - 1).toNat (k8 := (88 + u1.toInt).toNat) (kr := (r51.toInt).toNat) (kn := (1 + r51.toInt).toNat) (by omega) (by omega) (by omega) (by omega) (by omega) R48 (by rw [mv50]; omega); rw [hl87, m47] at q; rw [m85]; omega) (fun j hj k0 k1 => z77 j hj k1 k0)
          exact hret _ _ _ _ hT14 hS14 ⟨trivial, ⟨R86, z76⟩⟩ dX11_comesHome_187
        · skip
          have c54 : r51.toInt = (-1 : Int) := congrArg Int32.toInt c54
          refine lv_iload_n hx hb dX11_comesHome_138 rfl (lv_at hl 4 rfl) ?_
          refine lv_aload_n hx hb dX11_comesHome_139 rfl (lv_at hl 3 rfl) ?_
          refine lv_bipush (v := 88) hx hb dX11_comesHome_140 (by decide) ?_
          refine lv_iload_n hx hb dX11_comesHome_142 rfl (lv_at hl 4 rfl) ?_
          refine lv_iadd hx hb dX11_comesHome_143 ?_
          obtain ⟨x88, qx88, ix88⟩ := h_addX 88 u1 (88 : Int) u1.toInt rfl rfl (by omega) (by omega)
          refine h_top (v := x88) qx88 ?_
          refine h_callVi (T := TX11) (rest := [.int u1]) (As := [.int x88]) hx hb hml hown hts hK hT11 hZ (fun _ h => h) hS12 (c_of l G Y P (o) hM x88 (88 + u1.toInt).toNat (show x88.toInt.toNat = (88 + u1.toInt).toNat from by omega) (h_vin (by omega) (by omega))) trivial wd_X11_of wV_X11_of wL_X11_47 (hM.o rfl) rfl rfl hl.1 rfl (Nat.le_of_ble_eq_true rfl) dX11_comesHome_144 ⟨Nat.le_of_ble_eq_true rfl, Nat.le_of_ble_eq_true rfl⟩ ⟨Nat.zero_le _, Nat.zero_le _⟩ (fun r89 H16 locs hp16 hT16 hS16 hk16 => ?_)
          obtain ⟨hp16, he⟩ := hp16
          have he := he.symm
          subst he
          have hp16 : v50 = r89 := (hp16.1.trans mv50).symm
          subst hp16
          refine h_callSi (rest := []) (As := [.int u1, .int v50]) hx hb hml hown hts hK hT11 hZ (fun _ h => h) hS16 (c_X11_raiseAt l G Y u1 v50 (show 0 ≤ u1.toInt ∧ u1.toInt ≤ 7 from by omega) (show (-1) ≤ v50.toInt ∧ v50.toInt ≤ 8 from by omega)) trivial wd_X11_raiseAt wS_X11_raiseAt wL_X11_91 rfl hl.1 rfl (Nat.le_of_ble_eq_true rfl) dX11_comesHome_147 ⟨Nat.le_of_ble_eq_true rfl, Nat.le_of_ble_eq_true rfl⟩ ⟨Nat.zero_le _, Nat.zero_le _⟩ (fun r90 H17 locs hp17 hT17 hS17 hk17 => ?_)
          obtain ⟨hp17, he⟩ := hp17
          have he := he.symm
          subst he
          have f91 : r90.toInt = 288 + 16 * u1.toInt + 2 * v50.toInt := by have q := hp17; exact q
          refine lv_istore (lv' := [(4, .int r90), (3, .int r31), (2, .int 0), (0, .ref (o)), (1, .int u1)]) hx hb dX11_comesHome_150 hl (by decide) rfl (fun ls hl => ?_)
          refine lv_aload_n hx hb dX11_comesHome_152 rfl (lv_at hl 3 rfl) ?_
          refine lv_iload hx hb dX11_comesHome_153 (lv_at hl 0 rfl) ?_
          refine lv_aload_n hx hb dX11_comesHome_155 rfl (lv_at hl 3 rfl) ?_
          refine lv_bipush (v := 7) hx hb dX11_comesHome_156 (by decide) ?_
          refine h_callVi (T := TX11) (rest := [.int r90, .ref (o)]) (As := [.int 7]) hx hb hml hown hts hK hT11 hZ (fun _ h => h) hS17 (c_of l G Y P (o) hM 7 7 (by decide) (h_inc (by decide))) trivial wd_X11_of wV_X11_of wL_X11_47 (hM.o rfl) rfl rfl hl.1 rfl (Nat.le_of_ble_eq_true rfl) dX11_comesHome_158 ⟨Nat.le_of_ble_eq_true rfl, Nat.le_of_ble_eq_true rfl⟩ ⟨Nat.zero_le _, Nat.zero_le _⟩ (fun r92 H18 locs hp18 hT18 hS18 hk18 => ?_)
          obtain ⟨hp18, he⟩ := hp18
          have he := he.symm
          subst he
          have hp18 : r40 = r92 := (hp18.1.trans m47).symm
          subst hp18
          refine h_callVv (T := TX11) (rest := []) (As := [.int r90, .int r40]) hx hb hml hown hts hK hT11 hZ (fun _ h => h) hS18 (c_puts l G Y P (o) hM r90 r40 (288 + 16 * u1.toInt + 2 * v50.toInt).toNat (show r90.toInt.toNat = (288 + 16 * u1.toInt + 2 * v50.toInt).toNat from by omega) (h_vin (by omega) (by omega)) (mP_of7 (by omega) (show 0 ≤ r40.toInt from by omega) (show r40.toInt ≤ 7 from by omega))) trivial wd_X11_puts wV_X11_puts wL_X11_43 (hM.o rfl) rfl rfl hl.1 rfl (Nat.le_of_ble_eq_true rfl) dX11_comesHome_161 ⟨Nat.le_of_ble_eq_true rfl, Nat.le_of_ble_eq_true rfl⟩ ⟨Nat.zero_le _, Nat.zero_le _⟩ (fun H19 locs hp19 hT19 hS19 hk19 => ?_)
          have hp19 : h_apu H11 H19 (o + 1) (288 + 16 * u1.toInt + 2 * v50.toInt).toNat (.int r40) := hp19.2
          have z93 : ∀ j : Nat, (j = 0 ∨ 600 ≤ j) → h_ai H19 (o + 1) j = h_ai H0 (o + 1) j := fun j hj => (h_apn hp19 (by omega)).trans (z42 j hj)
          have z94 : ∀ j : Nat, mK j → j ≠ (288 + 16 * u1.toInt + 2 * v50.toInt).toNat → h_ai H19 (o + 1) j = h_ai H11 (o + 1) j := fun j hj k0 => (h_apn hp19 k0)
          have m95 : h_ai H19 (o + 1) 0 = v1 := (h_apn hp19 (by omega)).trans m43
          have m96 : h_ai H19 (o + 1) 5 = 1 := (h_apn hp19 (by omega)).trans m44
          have m97 : h_ai H19 (o + 1) 9 = 0 := (h_apn hp19 (by omega)).trans m45
          have m98 : h_ai H19 (o + 1) (80 + u1.toInt).toNat = v28 := (h_apn hp19 (by omega)).trans m46
          have m99 : h_ai H19 (o + 1) 7 = r40 := (h_apn hp19 (by omega)).trans m47
          have m100 : h_ai H19 (o + 1) 8 = 0 := (h_apn hp19 (by omega)).trans m49
          have m101 : h_ai H19 (o + 1) (88 + u1.toInt).toNat = v50 := (h_apn hp19 (by omega)).trans mv50
          have m102 : h_ai H19 (o + 1) (288 + 16 * u1.toInt + 2 * v50.toInt).toNat = r40 := h_aps hp19
          refine lv_aload_n hx hb dX11_comesHome_164 rfl (lv_at hl 3 rfl) ?_
          refine lv_bipush (v := 88) hx hb dX11_comesHome_165 (by decide) ?_
          refine lv_iload_n hx hb dX11_comesHome_167 rfl (lv_at hl 4 rfl) ?_
          refine lv_iadd hx hb dX11_comesHome_168 ?_
          refine h_top (v := x88) (h_addE 88 u1 x88 (88 : Int) u1.toInt rfl rfl (by omega) (by omega) (by omega)) ?_
          refine lv_iconst (v := 1) hx hb dX11_comesHome_169 (by decide) ?_
          obtain ⟨x103, qx103, ix103⟩ := h_addX v50 1 v50.toInt (1 : Int) rfl rfl (by omega) (by omega)
          refine h_callVv (T := TX11) (rest := []) (As := [.int x88, .int 1]) hx hb hml hown hts hK hT19 hZ (fun _ h => h) hS19 (c_adds l G Y P (o) hM x88 1 (88 + u1.toInt).toNat (show x88.toInt.toNat = (88 + u1.toInt).toNat from by omega) (h_vin (by omega) (by omega))) (show mP (88 + u1.toInt).toNat (h_ai H19 (o + 1) (88 + u1.toInt).toNat + 1) from (by rw [m101, qx103]; exact (mP_of8 (by omega) (show 0 ≤ x103.toInt from by omega) (show x103.toInt ≤ 8 from by omega)))) wd_X11_adds wV_X11_adds wL_X11_69 (hM.o rfl) rfl rfl hl.1 rfl (Nat.le_of_ble_eq_true rfl) dX11_comesHome_170 ⟨Nat.le_of_ble_eq_true rfl, Nat.le_of_ble_eq_true rfl⟩ ⟨Nat.zero_le _, Nat.zero_le _⟩ (fun H20 locs hp20 hT20 hS20 hk20 => ?_)
          have hp20 : h_apu H19 H20 (o + 1) (88 + u1.toInt).toNat (.int (h_ai H19 (o + 1) (88 + u1.toInt).toNat + 1)) := hp20.2
          rw [show h_ai H19 (o + 1) (88 + u1.toInt).toNat + 1 = x103 from (by rw [m101]; exact qx103)] at hp20
          have hp20 : h_apu H19 H20 (o + 1) (88 + u1.toInt).toNat (.int x103) := hp20
          have z104 : ∀ j : Nat, (j = 0 ∨ 600 ≤ j) → h_ai H20 (o + 1) j = h_ai H0 (o + 1) j := fun j hj => (h_apn hp20 (by omega)).trans (z93 j hj)
          have z105 : ∀ j : Nat, mK j → j ≠ (288 + 16 * u1.toInt + 2 * v50.toInt).toNat → j ≠ (88 + u1.toInt).toNat → h_ai H20 (o + 1) j = h_ai H11 (o + 1) j := fun j hj k0 k1 => (h_apn hp20 k1).trans (z94 j hj k0)
          have m106 : h_ai H20 (o + 1) 0 = v1 := (h_apn hp20 (by omega)).trans m95
          have m107 : h_ai H20 (o + 1) 5 = 1 := (h_apn hp20 (by omega)).trans m96
          have m108 : h_ai H20 (o + 1) 9 = 0 := (h_apn hp20 (by omega)).trans m97
          have m109 : h_ai H20 (o + 1) (80 + u1.toInt).toNat = v28 := (h_apn hp20 (by omega)).trans m98
          have m110 : h_ai H20 (o + 1) 7 = r40 := (h_apn hp20 (by omega)).trans m99
          have m111 : h_ai H20 (o + 1) 8 = 0 := (h_apn hp20 (by omega)).trans m100
          have m112 : h_ai H20 (o + 1) (288 + 16 * u1.toInt + 2 * v50.toInt).toNat = r40 := (h_apn hp20 (by omega)).trans m102
          have m113 : h_ai H20 (o + 1) (88 + u1.toInt).toNat = x103 := h_aps hp20
          refine lv_aload_n hx hb dX11_comesHome_173 rfl (lv_at hl 3 rfl) ?_
          refine lv_iload hx hb dX11_comesHome_174 (lv_at hl 0 rfl) ?_
          refine lv_iconst (v := 1) hx hb dX11_comesHome_176 (by decide) ?_
          refine lv_iadd hx hb dX11_comesHome_177 ?_
          obtain ⟨x114, qx114, ix114⟩ := h_addX r90 1 r90.toInt (1 : Int) rfl rfl (by omega) (by omega)
          refine h_top (v := x114) qx114 ?_
          refine lv_iload_n hx hb dX11_comesHome_178 rfl (lv_at hl 1 rfl) ?_
          refine h_callVv (T := TX11) (rest := []) (As := [.int x114, .int r31]) hx hb hml hown hts hK hT20 hZ (fun _ h => h) hS20 (c_puts l G Y P (o) hM x114 r31 (289 + 16 * u1.toInt + 2 * v50.toInt).toNat (show x114.toInt.toNat = (289 + 16 * u1.toInt + 2 * v50.toInt).toNat from by omega) (h_vin (by omega) (by omega)) (mP_of7 (by omega) (show 0 ≤ r31.toInt from by omega) (show r31.toInt ≤ 7 from by omega))) trivial wd_X11_puts wV_X11_puts wL_X11_43 (hM.o rfl) rfl rfl hl.1 rfl (Nat.le_of_ble_eq_true rfl) dX11_comesHome_179 ⟨Nat.le_of_ble_eq_true rfl, Nat.le_of_ble_eq_true rfl⟩ ⟨Nat.zero_le _, Nat.zero_le _⟩ (fun H21 locs hp21 hT21 hS21 hk21 => ?_)
          have hp21 : h_apu H20 H21 (o + 1) (289 + 16 * u1.toInt + 2 * v50.toInt).toNat (.int r31) := hp21.2
          have z115 : ∀ j : Nat, (j = 0 ∨ 600 ≤ j) → h_ai H21 (o + 1) j = h_ai H0 (o + 1) j := fun j hj => (h_apn hp21 (by omega)).trans (z104 j hj)
          have z116 : ∀ j : Nat, mK j → j ≠ (288 + 16 * u1.toInt + 2 * v50.toInt).toNat → j ≠ (88 + u1.toInt).toNat → j ≠ (289 + 16 * u1.toInt + 2 * v50.toInt).toNat → h_ai H21 (o + 1) j = h_ai H11 (o + 1) j := fun j hj k0 k1 k2 => (h_apn hp21 k2).trans (z105 j hj k0 k1)
          have m117 : h_ai H21 (o + 1) 0 = v1 := (h_apn hp21 (by omega)).trans m106
          have m118 : h_ai H21 (o + 1) 5 = 1 := (h_apn hp21 (by omega)).trans m107
          have m119 : h_ai H21 (o + 1) 9 = 0 := (h_apn hp21 (by omega)).trans m108
          have m120 : h_ai H21 (o + 1) (80 + u1.toInt).toNat = v28 := (h_apn hp21 (by omega)).trans m109
          have m121 : h_ai H21 (o + 1) 7 = r40 := (h_apn hp21 (by omega)).trans m110
          have m122 : h_ai H21 (o + 1) 8 = 0 := (h_apn hp21 (by omega)).trans m111
          have m123 : h_ai H21 (o + 1) (288 + 16 * u1.toInt + 2 * v50.toInt).toNat = r40 := (h_apn hp21 (by omega)).trans m112
          have m124 : h_ai H21 (o + 1) (88 + u1.toInt).toNat = x103 := (h_apn hp21 (by omega)).trans m113
          have m125 : h_ai H21 (o + 1) (289 + 16 * u1.toInt + 2 * v50.toInt).toNat = r31 := h_aps hp21
          refine lv_aload_n hx hb dX11_comesHome_182 rfl (lv_at hl 3 rfl) ?_
          refine lv_iload_n hx hb dX11_comesHome_183 rfl (lv_at hl 1 rfl) ?_
          refine h_callVv (T := TX11) (rest := []) (As := [.int r31]) hx hb hml hown hts hK hT21 hZ (fun _ h => h) hS21 (c_X11_isLevel l G Y P (o) hM r31 (show 0 ≤ r31.toInt ∧ r31.toInt ≤ 7 from by omega)) trivial wd_X11_isLevel wV_X11_isLevel wL_X11_103 (hM.o rfl) rfl rfl hl.1 rfl (Nat.le_of_ble_eq_true rfl) dX11_comesHome_184 ⟨Nat.le_of_ble_eq_true rfl, Nat.le_of_ble_eq_true rfl⟩ ⟨Nat.zero_le _, Nat.zero_le _⟩ (fun H22 locs hp22 hT22 hS22 hk22 => ?_)
          obtain ⟨hp22, hB22⟩ := hp22
          obtain ⟨H23, v23, hp23, hq23⟩ := hB22
          have z126 : ∀ j : Nat, (j = 0 ∨ 600 ≤ j) → h_ai H23 (o + 1) j = h_ai H0 (o + 1) j := fun j hj => (h_apn hp23 (by omega)).trans (z115 j hj)
          have z127 : ∀ j : Nat, mK j → j ≠ (288 + 16 * u1.toInt + 2 * v50.toInt).toNat → j ≠ (88 + u1.toInt).toNat → j ≠ (289 + 16 * u1.toInt + 2 * v50.toInt).toNat → j ≠ 7 → h_ai H23 (o + 1) j = h_ai H11 (o + 1) j := fun j hj k0 k1 k2 k3 => (h_apn hp23 k3).trans (z116 j hj k0 k1 k2)
          have m128 : h_ai H23 (o + 1) 0 = v1 := (h_apn hp23 (by omega)).trans m117
          have m129 : h_ai H23 (o + 1) 5 = 1 := (h_apn hp23 (by omega)).trans m118
          have m130 : h_ai H23 (o + 1) 9 = 0 := (h_apn hp23 (by omega)).trans m119
          have m131 : h_ai H23 (o + 1) (80 + u1.toInt).toNat = v28 := (h_apn hp23 (by omega)).trans m120
          have m132 : h_ai H23 (o + 1) 8 = 0 := (h_apn hp23 (by omega)).trans m122
          have m133 : h_ai H23 (o + 1) (288 + 16 * u1.toInt + 2 * v50.toInt).toNat = r40 := (h_apn hp23 (by omega)).trans m123
          have m134 : h_ai H23 (o + 1) (88 + u1.toInt).toNat = x103 := (h_apn hp23 (by omega)).trans m124
          have m135 : h_ai H23 (o + 1) (289 + 16 * u1.toInt + 2 * v50.toInt).toNat = r31 := (h_apn hp23 (by omega)).trans m125
          have m136 : h_ai H23 (o + 1) 7 = r31 := h_aps hp23
          have z137 : ∀ j : Nat, (j = 0 ∨ 600 ≤ j) → h_ai H22 (o + 1) j = h_ai H0 (o + 1) j := fun j hj => (h_apn hq23 (by omega)).trans (z126 j hj)
          have z138 : ∀ j : Nat, mK j → j ≠ (288 + 16 * u1.toInt + 2 * v50.toInt).toNat → j ≠ (88 + u1.toInt).toNat → j ≠ (289 + 16 * u1.toInt + 2 * v50.toInt).toNat → j ≠ 7 → h_ai H22 (o + 1) j = h_ai H11 (o + 1) j := fun j hj k0 k1 k2 k3 => (h_apn hq23 (by unfold mK at hj; omega)).trans (z127 j hj k0 k1 k2 k3)
          have m139 : h_ai H22 (o + 1) 0 = v1 := (h_apn hq23 (by omega)).trans m128
          have m140 : h_ai H22 (o + 1) 5 = 1 := (h_apn hq23 (by omega)).trans m129
          have m141 : h_ai H22 (o + 1) 9 = 0 := (h_apn hq23 (by omega)).trans m130
          have m142 : h_ai H22 (o + 1) (80 + u1.toInt).toNat = v28 := (h_apn hq23 (by omega)).trans m131
          have m143 : h_ai H22 (o + 1) 8 = 0 := (h_apn hq23 (by omega)).trans m132
          have m144 : h_ai H22 (o + 1) (288 + 16 * u1.toInt + 2 * v50.toInt).toNat = r40 := (h_apn hq23 (by omega)).trans m133
          have m145 : h_ai H22 (o + 1) (88 + u1.toInt).toNat = x103 := (h_apn hq23 (by omega)).trans m134
          have m146 : h_ai H22 (o + 1) (289 + 16 * u1.toInt + 2 * v50.toInt).toNat = r31 := (h_apn hq23 (by omega)).trans m135
          have m147 : h_ai H22 (o + 1) 7 = r31 := (h_apn hq23 (by omega)).trans m136
          have R148 : mR o H22 := mR_push u1.toInt.toNat v50.toInt.toNat (k8 := (88 + u1.toInt).toNat) (kr := (288 + 16 * u1.toInt + 2 * v50.toInt).toNat) (kn := (289 + 16 * u1.toInt + 2 * v50.toInt).toNat) (by omega) (by omega) (by omega) (by omega) (by omega) R48 (by rw [mv50]; omega) (by rw [m43]; omega) (by rw [m47, m147]; omega) (by rw [m144, m47]) (by rw [m146, m147]) (by rw [m145]; omega) (fun j hj k0 k1 k2 k3 => z138 j hj k2 k1 k3 k0)
          exact hret _ _ _ _ hT22 hS22 ⟨trivial, ⟨R148, z137⟩⟩ dX11_comesHome_187
      · skip
        have c41 : ¬ r40.toInt < r31.toInt := h_nltI c41
        exact hret _ _ _ _ hT9 hS10 ⟨trivial, ⟨R38, z33⟩⟩ dX11_comesHome_117
    · skip
      have c26 : ¬ x25.toInt = (0 : Int) := h_neI c26
      refine lv_aload_n hx hb dX11_comesHome_76 rfl (lv_at hl 1 rfl) ?_
      refine lv_bipush (v := 8) hx hb dX11_comesHome_77 (by decide) ?_
      refine h_callVi (T := TX11) (rest := []) (As := [.int 8]) hx hb hml hown hts hK hT5 hZ (fun _ h => h) hS5 (c_of l G Y P (o) hM 8 8 (by decide) (h_inc (by decide))) trivial wd_X11_of wV_X11_of wL_X11_47 (hM.o rfl) rfl rfl hl.1 rfl (Nat.le_of_ble_eq_true rfl) dX11_comesHome_79 ⟨Nat.le_of_ble_eq_true rfl, Nat.le_of_ble_eq_true rfl⟩ ⟨Nat.zero_le _, Nat.zero_le _⟩ (fun r149 H24 locs hp24 hT24 hS24 hk24 => ?_)
      obtain ⟨hp24, he⟩ := hp24
      have he := he.symm
      subst he
      have mr149 : h_ai H5 (o + 1) 8 = r149 := hp24.1.symm
      have br149 := mP_l hp24.2 (by omega)
      refine lv_goto (tgt := 99) hx hb dX11_comesHome_82 (by decide) ?_
      refine lv_istore_n (lv' := [(3, .int r149), (2, .int 0), (0, .ref (o)), (1, .int u1)]) hx hb dX11_comesHome_99 rfl hl (by decide) rfl (fun ls hl => ?_)
      refine lv_aload_n hx hb dX11_comesHome_100 rfl (lv_at hl 2 rfl) ?_
      refine lv_bipush (v := 8) hx hb dX11_comesHome_101 (by decide) ?_
      refine lv_iload_n hx hb dX11_comesHome_103 rfl (lv_at hl 0 rfl) ?_
      refine h_callVv (T := TX11) (rest := []) (As := [.int 8, .int r149]) hx hb hml hown hts hK hT5 hZ (fun _ h => h) hS24 (c_puts l G Y P (o) hM 8 r149 8 (by decide) (h_inc (by decide)) (mP_of7 (by omega) (show 0 ≤ r149.toInt from by omega) (show r149.toInt ≤ 7 from by omega))) trivial wd_X11_puts wV_X11_puts wL_X11_43 (hM.o rfl) rfl rfl hl.1 rfl (Nat.le_of_ble_eq_true rfl) dX11_comesHome_104 ⟨Nat.le_of_ble_eq_true rfl, Nat.le_of_ble_eq_true rfl⟩ ⟨Nat.zero_le _, Nat.zero_le _⟩ (fun H25 locs hp25 hT25 hS25 hk25 => ?_)
      have hp25 : h_apu H5 H25 (o + 1) 8 (.int r149) := hp25.2
      have z150 : ∀ j : Nat, (j = 0 ∨ 600 ≤ j) → h_ai H25 (o + 1) j = h_ai H0 (o + 1) j := fun j hj => (h_apn hp25 (by omega)).trans (z19 j hj)
      have m151 : h_ai H25 (o + 1) 0 = v1 := (h_apn hp25 (by omega)).trans m20
      have m152 : h_ai H25 (o + 1) 5 = 1 := (h_apn hp25 (by omega)).trans m21
      have m153 : h_ai H25 (o + 1) 9 = 0 := (h_apn hp25 (by omega)).trans m23
      have R154 : mR o H25 := R22.keep (fun j hj => h_apn hp25 (by unfold mK at hj; omega))
      have m155 : h_ai H25 (o + 1) 8 = r149 := h_aps hp25
      refine lv_iload_n hx hb dX11_comesHome_107 rfl (lv_at hl 0 rfl) ?_
      refine lv_aload_n hx hb dX11_comesHome_108 rfl (lv_at hl 2 rfl) ?_
      refine lv_bipush (v := 7) hx hb dX11_comesHome_109 (by decide) ?_
      refine h_callVi (T := TX11) (rest := [.int r149]) (As := [.int 7]) hx hb hml hown hts hK hT25 hZ (fun _ h => h) hS25 (c_of l G Y P (o) hM 7 7 (by decide) (h_inc (by decide))) trivial wd_X11_of wV_X11_of wL_X11_47 (hM.o rfl) rfl rfl hl.1 rfl (Nat.le_of_ble_eq_true rfl) dX11_comesHome_111 ⟨Nat.le_of_ble_eq_true rfl, Nat.le_of_ble_eq_true rfl⟩ ⟨Nat.zero_le _, Nat.zero_le _⟩ (fun r156 H26 locs hp26 hT26 hS26 hk26 => ?_)
      obtain ⟨hp26, he⟩ := hp26
      have he := he.symm
      subst he
      have mr156 : h_ai H25 (o + 1) 7 = r156 := hp26.1.symm
      have br156 := mP_l hp26.2 (by omega)
      refine lv_icmp_gt (tgt := 118) hx hb dX11_comesHome_114 (by decide) (fun c157 => ?_) (fun c157 => ?_)
      · skip
        have c157 : r156.toInt < r149.toInt := Int32.lt_iff_toInt_lt.mp c157
        refine lv_aload_n hx hb dX11_comesHome_118 rfl (lv_at hl 2 rfl) ?_
        refine lv_bipush (v := 8) hx hb dX11_comesHome_119 (by decide) ?_
        refine lv_iconst (v := 0) hx hb dX11_comesHome_121 (by decide) ?_
        refine h_callVv (T := TX11) (rest := []) (As := [.int 8, .int 0]) hx hb hml hown hts hK hT25 hZ (fun _ h => h) hS26 (c_puts l G Y P (o) hM 8 0 8 (by decide) (h_inc (by decide)) mP_zero) trivial wd_X11_puts wV_X11_puts wL_X11_43 (hM.o rfl) rfl rfl hl.1 rfl (Nat.le_of_ble_eq_true rfl) dX11_comesHome_122 ⟨Nat.le_of_ble_eq_true rfl, Nat.le_of_ble_eq_true rfl⟩ ⟨Nat.zero_le _, Nat.zero_le _⟩ (fun H27 locs hp27 hT27 hS27 hk27 => ?_)
        have hp27 : h_apu H25 H27 (o + 1) 8 (.int 0) := hp27.2
        have z158 : ∀ j : Nat, (j = 0 ∨ 600 ≤ j) → h_ai H27 (o + 1) j = h_ai H0 (o + 1) j := fun j hj => (h_apn hp27 (by omega)).trans (z150 j hj)
        have m159 : h_ai H27 (o + 1) 0 = v1 := (h_apn hp27 (by omega)).trans m151
        have m160 : h_ai H27 (o + 1) 5 = 1 := (h_apn hp27 (by omega)).trans m152
        have m161 : h_ai H27 (o + 1) 9 = 0 := (h_apn hp27 (by omega)).trans m153
        have m162 : h_ai H27 (o + 1) 7 = r156 := (h_apn hp27 (by omega)).trans mr156
        have R163 : mR o H27 := R154.keep (fun j hj => h_apn hp27 (by unfold mK at hj; omega))
        have m164 : h_ai H27 (o + 1) 8 = 0 := h_aps hp27
        refine lv_aload_n hx hb dX11_comesHome_125 rfl (lv_at hl 2 rfl) ?_
        refine lv_iload_n hx hb dX11_comesHome_126 rfl (lv_at hl 3 rfl) ?_
        obtain ⟨v165, mv165⟩ : ∃ x, h_ai H27 (o + 1) (88 + u1.toInt).toNat = x := ⟨_, rfl⟩
        have bv165 := mP_rm (mP_cell hM hT27 (j := (88 + u1.toInt).toNat) (by omega)) (by omega)
        rw [mv165] at bv165
        refine h_callVi (T := TX11) (rest := []) (As := [.int u1]) hx hb hml hown hts hK hT27 hZ (fun _ h => h) hS27 (c_X11_topRaise l G Y P (o) hM u1 (show 0 ≤ u1.toInt ∧ u1.toInt ≤ 7 from by omega)) trivial wd_X11_topRaise wV_X11_topRaise wL_X11_100 (hM.o rfl) rfl rfl hl.1 rfl (Nat.le_of_ble_eq_true rfl) dX11_comesHome_127 ⟨Nat.le_of_ble_eq_true rfl, Nat.le_of_ble_eq_true rfl⟩ ⟨Nat.zero_le _, Nat.zero_le _⟩ (fun r166 H28 locs hp28 hT28 hS28 hk28 => ?_)
        obtain ⟨hp28, he⟩ := hp28
        have he := he.symm
        subst he
        have f167 : r166.toInt = -1 ∨ (r166.toInt = 286 + 16 * u1.toInt + 2 * v165.toInt ∧ 1 ≤ v165.toInt ∧ (h_ai H27 (o + 1) (1 + r166.toInt).toNat).toInt = r156.toInt) := by have q := hp28; rw [m162] at q; rw [mv165] at q; exact q
        have t168 := mR_top u1.toInt.toNat (k8 := (88 + u1.toInt).toNat) (by omega) (by omega) R163 (by rw [mv165]; omega) (by rw [mv165]; omega)
        rw [mv165, m162] at t168
        refine lv_istore (lv' := [(4, .int r166), (3, .int r149), (2, .int 0), (0, .ref (o)), (1, .int u1)]) hx hb dX11_comesHome_130 hl (by decide) rfl (fun ls hl => ?_)
        refine lv_iload hx hb dX11_comesHome_132 (lv_at hl 0 rfl) ?_
        refine lv_iconst (v := (-1)) hx hb dX11_comesHome_134 (by decide) ?_
        refine lv_icmp_ne (tgt := 173) hx hb dX11_comesHome_135 (by decide) (fun c169 => ?_) (fun c169 => ?_)
        · skip
          have c169 : ¬ r166.toInt = (-1 : Int) := h_neI c169
          refine lv_aload_n hx hb dX11_comesHome_173 rfl (lv_at hl 3 rfl) ?_
          refine lv_iload hx hb dX11_comesHome_174 (lv_at hl 0 rfl) ?_
          refine lv_iconst (v := 1) hx hb dX11_comesHome_176 (by decide) ?_
          refine lv_iadd hx hb dX11_comesHome_177 ?_
          obtain ⟨x170, qx170, ix170⟩ := h_addX r166 1 r166.toInt (1 : Int) rfl rfl (by omega) (by omega)
          refine h_top (v := x170) qx170 ?_
          refine lv_iload_n hx hb dX11_comesHome_178 rfl (lv_at hl 1 rfl) ?_
          refine h_callVv (T := TX11) (rest := []) (As := [.int x170, .int r149]) hx hb hml hown hts hK hT27 hZ (fun _ h => h) hS28 (c_puts l G Y P (o) hM x170 r149 (1 + r166.toInt).toNat (show x170.toInt.toNat = (1 + r166.toInt).toNat from by omega) (h_vin (by omega) (by omega)) (mP_of7 (by omega) (show 0 ≤ r149.toInt from by omega) (show r149.toInt ≤ 7 from by omega))) trivial wd_X11_puts wV_X11_puts wL_X11_43 (hM.o rfl) rfl rfl hl.1 rfl (Nat.le_of_ble_eq_true rfl) dX11_comesHome_179 ⟨Nat.le_of_ble_eq_true rfl, Nat.le_of_ble_eq_true rfl⟩ ⟨Nat.zero_le _, Nat.zero_le _⟩ (fun H29 locs hp29 hT29 hS29 hk29 => ?_)
          have hp29 : h_apu H27 H29 (o + 1) (1 + r166.toInt).toNat (.int r149) := hp29.2
          have z171 : ∀ j : Nat, (j = 0 ∨ 600 ≤ j) → h_ai H29 (o + 1) j = h_ai H0 (o + 1) j := fun j hj => (h_apn hp29 (by omega)).trans (z158 j hj)
          have z172 : ∀ j : Nat, mK j → j ≠ (1 + r166.toInt).toNat → h_ai H29 (o + 1) j = h_ai H27 (o + 1) j := fun j hj k0 => (h_apn hp29 k0)
          have m173 : h_ai H29 (o + 1) 0 = v1 := (h_apn hp29 (by omega)).trans m159
          have m174 : h_ai H29 (o + 1) 5 = 1 := (h_apn hp29 (by omega)).trans m160
          have m175 : h_ai H29 (o + 1) 9 = 0 := (h_apn hp29 (by omega)).trans m161
          have m176 : h_ai H29 (o + 1) 7 = r156 := (h_apn hp29 (by omega)).trans m162
          have m177 : h_ai H29 (o + 1) 8 = 0 := (h_apn hp29 (by omega)).trans m164
          have m178 : h_ai H29 (o + 1) (88 + u1.toInt).toNat = v165 := (h_apn hp29 (by omega)).trans mv165
          have m179 : h_ai H29 (o + 1) (1 + r166.toInt).toNat = r149 := h_aps hp29
          refine lv_aload_n hx hb dX11_comesHome_182 rfl (lv_at hl 3 rfl) ?_
          refine lv_iload_n hx hb dX11_comesHome_183 rfl (lv_at hl 1 rfl) ?_
          refine h_callVv (T := TX11) (rest := []) (As := [.int r149]) hx hb hml hown hts hK hT29 hZ (fun _ h => h) hS29 (c_X11_isLevel l G Y P (o) hM r149 (show 0 ≤ r149.toInt ∧ r149.toInt ≤ 7 from by omega)) trivial wd_X11_isLevel wV_X11_isLevel wL_X11_103 (hM.o rfl) rfl rfl hl.1 rfl (Nat.le_of_ble_eq_true rfl) dX11_comesHome_184 ⟨Nat.le_of_ble_eq_true rfl, Nat.le_of_ble_eq_true rfl⟩ ⟨Nat.zero_le _, Nat.zero_le _⟩ (fun H30 locs hp30 hT30 hS30 hk30 => ?_)
          obtain ⟨hp30, hB30⟩ := hp30
          obtain ⟨H31, v31, hp31, hq31⟩ := hB30
          have z180 : ∀ j : Nat, (j = 0 ∨ 600 ≤ j) → h_ai H31 (o + 1) j = h_ai H0 (o + 1) j := fun j hj => (h_apn hp31 (by omega)).trans (z171 j hj)
          have z181 : ∀ j : Nat, mK j → j ≠ (1 + r166.toInt).toNat → j ≠ 7 → h_ai H31 (o + 1) j = h_ai H27 (o + 1) j := fun j hj k0 k1 => (h_apn hp31 k1).trans (z172 j hj k0)
          have m182 : h_ai H31 (o + 1) 0 = v1 := (h_apn hp31 (by omega)).trans m173
          have m183 : h_ai H31 (o + 1) 5 = 1 := (h_apn hp31 (by omega)).trans m174
          have m184 : h_ai H31 (o + 1) 9 = 0 := (h_apn hp31 (by omega)).trans m175
          have m185 : h_ai H31 (o + 1) 8 = 0 := (h_apn hp31 (by omega)).trans m177
          have m186 : h_ai H31 (o + 1) (88 + u1.toInt).toNat = v165 := (h_apn hp31 (by omega)).trans m178
          have m187 : h_ai H31 (o + 1) (1 + r166.toInt).toNat = r149 := (h_apn hp31 (by omega)).trans m179
          have m188 : h_ai H31 (o + 1) 7 = r149 := h_aps hp31
          have z189 : ∀ j : Nat, (j = 0 ∨ 600 ≤ j) → h_ai H30 (o + 1) j = h_ai H0 (o + 1) j := fun j hj => (h_apn hq31 (by omega)).trans (z180 j hj)
          have z190 : ∀ j : Nat, mK j → j ≠ (1 + r166.toInt).toNat → j ≠ 7 → h_ai H30 (o + 1) j = h_ai H27 (o + 1) j := fun j hj k0 k1 => (h_apn hq31 (by unfold mK at hj; omega)).trans (z181 j hj k0 k1)
          have m191 : h_ai H30 (o + 1) 0 = v1 := (h_apn hq31 (by omega)).trans m182
          have m192 : h_ai H30 (o + 1) 5 = 1 := (h_apn hq31 (by omega)).trans m183
          have m193 : h_ai H30 (o + 1) 9 = 0 := (h_apn hq31 (by omega)).trans m184
          have m194 : h_ai H30 (o + 1) 8 = 0 := (h_apn hq31 (by omega)).trans m185
          have m195 : h_ai H30 (o + 1) (88 + u1.toInt).toNat = v165 := (h_apn hq31 (by omega)).trans m186
          have m196 : h_ai H30 (o + 1) (1 + r166.toInt).toNat = r149 := (h_apn hq31 (by omega)).trans m187
          have m197 : h_ai H30 (o + 1) 7 = r149 := (h_apn hq31 (by omega)).trans m188
          have hl199 : (h_ai H27 (o + 1) (1 + r166.toInt).toNat).toInt = (h_ai H27 (o + 1) 7).toInt := by rcases f167 with q | q <;> first | (exfalso; omega) | (rw [m162]; exact q.2.2)
          have R198 : mR o H30 := mR_set u1.toInt.toNat (v165.toInt - 1).toNat (k8 := (88 + u1.toInt).toNat) (kr := (r166.toInt).toNat) (kn := (1 + r166.toInt).toNat) (by omega) (by omega) (by omega) (by omega) (by omega) R163 (by rw [mv165]; omega) hl199 (by rw [m197, m196]) (by have q := mR_pair u1.toInt.toNat (v165.toInt - 1).toNat (k8 := (88 + u1.toInt).toNat) (kr := (r166.toInt).toNat) (kn := (1 + r166.toInt).toNat) (by omega) (by omega) (by omega) (by omega) (by omega) R163 (by rw [mv165]; omega); rw [hl199, m162] at q; rw [m197]; omega) (fun j hj k0 k1 => z190 j hj k1 k0)
          exact hret _ _ _ _ hT30 hS30 ⟨trivial, ⟨R198, z189⟩⟩ dX11_comesHome_187
        · skip
          have c169 : r166.toInt = (-1 : Int) := congrArg Int32.toInt c169
          refine lv_iload_n hx hb dX11_comesHome_138 rfl (lv_at hl 4 rfl) ?_
          refine lv_aload_n hx hb dX11_comesHome_139 rfl (lv_at hl 3 rfl) ?_
          refine lv_bipush (v := 88) hx hb dX11_comesHome_140 (by decide) ?_
          refine lv_iload_n hx hb dX11_comesHome_142 rfl (lv_at hl 4 rfl) ?_
          refine lv_iadd hx hb dX11_comesHome_143 ?_
          obtain ⟨x200, qx200, ix200⟩ := h_addX 88 u1 (88 : Int) u1.toInt rfl rfl (by omega) (by omega)
          refine h_top (v := x200) qx200 ?_
          refine h_callVi (T := TX11) (rest := [.int u1]) (As := [.int x200]) hx hb hml hown hts hK hT27 hZ (fun _ h => h) hS28 (c_of l G Y P (o) hM x200 (88 + u1.toInt).toNat (show x200.toInt.toNat = (88 + u1.toInt).toNat from by omega) (h_vin (by omega) (by omega))) trivial wd_X11_of wV_X11_of wL_X11_47 (hM.o rfl) rfl rfl hl.1 rfl (Nat.le_of_ble_eq_true rfl) dX11_comesHome_144 ⟨Nat.le_of_ble_eq_true rfl, Nat.le_of_ble_eq_true rfl⟩ ⟨Nat.zero_le _, Nat.zero_le _⟩ (fun r201 H32 locs hp32 hT32 hS32 hk32 => ?_)
          obtain ⟨hp32, he⟩ := hp32
          have he := he.symm
          subst he
          have hp32 : v165 = r201 := (hp32.1.trans mv165).symm
          subst hp32
          refine h_callSi (rest := []) (As := [.int u1, .int v165]) hx hb hml hown hts hK hT27 hZ (fun _ h => h) hS32 (c_X11_raiseAt l G Y u1 v165 (show 0 ≤ u1.toInt ∧ u1.toInt ≤ 7 from by omega) (show (-1) ≤ v165.toInt ∧ v165.toInt ≤ 8 from by omega)) trivial wd_X11_raiseAt wS_X11_raiseAt wL_X11_91 rfl hl.1 rfl (Nat.le_of_ble_eq_true rfl) dX11_comesHome_147 ⟨Nat.le_of_ble_eq_true rfl, Nat.le_of_ble_eq_true rfl⟩ ⟨Nat.zero_le _, Nat.zero_le _⟩ (fun r202 H33 locs hp33 hT33 hS33 hk33 => ?_)
          obtain ⟨hp33, he⟩ := hp33
          have he := he.symm
          subst he
          have f203 : r202.toInt = 288 + 16 * u1.toInt + 2 * v165.toInt := by have q := hp33; exact q
          refine lv_istore (lv' := [(4, .int r202), (3, .int r149), (2, .int 0), (0, .ref (o)), (1, .int u1)]) hx hb dX11_comesHome_150 hl (by decide) rfl (fun ls hl => ?_)
          refine lv_aload_n hx hb dX11_comesHome_152 rfl (lv_at hl 3 rfl) ?_
          refine lv_iload hx hb dX11_comesHome_153 (lv_at hl 0 rfl) ?_
          refine lv_aload_n hx hb dX11_comesHome_155 rfl (lv_at hl 3 rfl) ?_
          refine lv_bipush (v := 7) hx hb dX11_comesHome_156 (by decide) ?_
          refine h_callVi (T := TX11) (rest := [.int r202, .ref (o)]) (As := [.int 7]) hx hb hml hown hts hK hT27 hZ (fun _ h => h) hS33 (c_of l G Y P (o) hM 7 7 (by decide) (h_inc (by decide))) trivial wd_X11_of wV_X11_of wL_X11_47 (hM.o rfl) rfl rfl hl.1 rfl (Nat.le_of_ble_eq_true rfl) dX11_comesHome_158 ⟨Nat.le_of_ble_eq_true rfl, Nat.le_of_ble_eq_true rfl⟩ ⟨Nat.zero_le _, Nat.zero_le _⟩ (fun r204 H34 locs hp34 hT34 hS34 hk34 => ?_)
          obtain ⟨hp34, he⟩ := hp34
          have he := he.symm
          subst he
          have hp34 : r156 = r204 := (hp34.1.trans m162).symm
          subst hp34
          refine h_callVv (T := TX11) (rest := []) (As := [.int r202, .int r156]) hx hb hml hown hts hK hT27 hZ (fun _ h => h) hS34 (c_puts l G Y P (o) hM r202 r156 (288 + 16 * u1.toInt + 2 * v165.toInt).toNat (show r202.toInt.toNat = (288 + 16 * u1.toInt + 2 * v165.toInt).toNat from by omega) (h_vin (by omega) (by omega)) (mP_of7 (by omega) (show 0 ≤ r156.toInt from by omega) (show r156.toInt ≤ 7 from by omega))) trivial wd_X11_puts wV_X11_puts wL_X11_43 (hM.o rfl) rfl rfl hl.1 rfl (Nat.le_of_ble_eq_true rfl) dX11_comesHome_161 ⟨Nat.le_of_ble_eq_true rfl, Nat.le_of_ble_eq_true rfl⟩ ⟨Nat.zero_le _, Nat.zero_le _⟩ (fun H35 locs hp35 hT35 hS35 hk35 => ?_)
          have hp35 : h_apu H27 H35 (o + 1) (288 + 16 * u1.toInt + 2 * v165.toInt).toNat (.int r156) := hp35.2
          have z205 : ∀ j : Nat, (j = 0 ∨ 600 ≤ j) → h_ai H35 (o + 1) j = h_ai H0 (o + 1) j := fun j hj => (h_apn hp35 (by omega)).trans (z158 j hj)
          have z206 : ∀ j : Nat, mK j → j ≠ (288 + 16 * u1.toInt + 2 * v165.toInt).toNat → h_ai H35 (o + 1) j = h_ai H27 (o + 1) j := fun j hj k0 => (h_apn hp35 k0)
          have m207 : h_ai H35 (o + 1) 0 = v1 := (h_apn hp35 (by omega)).trans m159
          have m208 : h_ai H35 (o + 1) 5 = 1 := (h_apn hp35 (by omega)).trans m160
          have m209 : h_ai H35 (o + 1) 9 = 0 := (h_apn hp35 (by omega)).trans m161
          have m210 : h_ai H35 (o + 1) 7 = r156 := (h_apn hp35 (by omega)).trans m162
          have m211 : h_ai H35 (o + 1) 8 = 0 := (h_apn hp35 (by omega)).trans m164
          have m212 : h_ai H35 (o + 1) (88 + u1.toInt).toNat = v165 := (h_apn hp35 (by omega)).trans mv165
          have m213 : h_ai H35 (o + 1) (288 + 16 * u1.toInt + 2 * v165.toInt).toNat = r156 := h_aps hp35
          refine lv_aload_n hx hb dX11_comesHome_164 rfl (lv_at hl 3 rfl) ?_
          refine lv_bipush (v := 88) hx hb dX11_comesHome_165 (by decide) ?_
          refine lv_iload_n hx hb dX11_comesHome_167 rfl (lv_at hl 4 rfl) ?_
          refine lv_iadd hx hb dX11_comesHome_168 ?_
          refine h_top (v := x200) (h_addE 88 u1 x200 (88 : Int) u1.toInt rfl rfl (by omega) (by omega) (by omega)) ?_
          refine lv_iconst (v := 1) hx hb dX11_comesHome_169 (by decide) ?_
          obtain ⟨x214, qx214, ix214⟩ := h_addX v165 1 v165.toInt (1 : Int) rfl rfl (by omega) (by omega)
          refine h_callVv (T := TX11) (rest := []) (As := [.int x200, .int 1]) hx hb hml hown hts hK hT35 hZ (fun _ h => h) hS35 (c_adds l G Y P (o) hM x200 1 (88 + u1.toInt).toNat (show x200.toInt.toNat = (88 + u1.toInt).toNat from by omega) (h_vin (by omega) (by omega))) (show mP (88 + u1.toInt).toNat (h_ai H35 (o + 1) (88 + u1.toInt).toNat + 1) from (by rw [m212, qx214]; exact (mP_of8 (by omega) (show 0 ≤ x214.toInt from by omega) (show x214.toInt ≤ 8 from by omega)))) wd_X11_adds wV_X11_adds wL_X11_69 (hM.o rfl) rfl rfl hl.1 rfl (Nat.le_of_ble_eq_true rfl) dX11_comesHome_170 ⟨Nat.le_of_ble_eq_true rfl, Nat.le_of_ble_eq_true rfl⟩ ⟨Nat.zero_le _, Nat.zero_le _⟩ (fun H36 locs hp36 hT36 hS36 hk36 => ?_)
          have hp36 : h_apu H35 H36 (o + 1) (88 + u1.toInt).toNat (.int (h_ai H35 (o + 1) (88 + u1.toInt).toNat + 1)) := hp36.2
          rw [show h_ai H35 (o + 1) (88 + u1.toInt).toNat + 1 = x214 from (by rw [m212]; exact qx214)] at hp36
          have hp36 : h_apu H35 H36 (o + 1) (88 + u1.toInt).toNat (.int x214) := hp36
          have z215 : ∀ j : Nat, (j = 0 ∨ 600 ≤ j) → h_ai H36 (o + 1) j = h_ai H0 (o + 1) j := fun j hj => (h_apn hp36 (by omega)).trans (z205 j hj)
          have z216 : ∀ j : Nat, mK j → j ≠ (288 + 16 * u1.toInt + 2 * v165.toInt).toNat → j ≠ (88 + u1.toInt).toNat → h_ai H36 (o + 1) j = h_ai H27 (o + 1) j := fun j hj k0 k1 => (h_apn hp36 k1).trans (z206 j hj k0)
          have m217 : h_ai H36 (o + 1) 0 = v1 := (h_apn hp36 (by omega)).trans m207
          have m218 : h_ai H36 (o + 1) 5 = 1 := (h_apn hp36 (by omega)).trans m208
          have m219 : h_ai H36 (o + 1) 9 = 0 := (h_apn hp36 (by omega)).trans m209
          have m220 : h_ai H36 (o + 1) 7 = r156 := (h_apn hp36 (by omega)).trans m210
          have m221 : h_ai H36 (o + 1) 8 = 0 := (h_apn hp36 (by omega)).trans m211
          have m222 : h_ai H36 (o + 1) (288 + 16 * u1.toInt + 2 * v165.toInt).toNat = r156 := (h_apn hp36 (by omega)).trans m213
          have m223 : h_ai H36 (o + 1) (88 + u1.toInt).toNat = x214 := h_aps hp36
          refine lv_aload_n hx hb dX11_comesHome_173 rfl (lv_at hl 3 rfl) ?_
          refine lv_iload hx hb dX11_comesHome_174 (lv_at hl 0 rfl) ?_
          refine lv_iconst (v := 1) hx hb dX11_comesHome_176 (by decide) ?_
          refine lv_iadd hx hb dX11_comesHome_177 ?_
          obtain ⟨x224, qx224, ix224⟩ := h_addX r202 1 r202.toInt (1 : Int) rfl rfl (by omega) (by omega)
          refine h_top (v := x224) qx224 ?_
          refine lv_iload_n hx hb dX11_comesHome_178 rfl (lv_at hl 1 rfl) ?_
          refine h_callVv (T := TX11) (rest := []) (As := [.int x224, .int r149]) hx hb hml hown hts hK hT36 hZ (fun _ h => h) hS36 (c_puts l G Y P (o) hM x224 r149 (289 + 16 * u1.toInt + 2 * v165.toInt).toNat (show x224.toInt.toNat = (289 + 16 * u1.toInt + 2 * v165.toInt).toNat from by omega) (h_vin (by omega) (by omega)) (mP_of7 (by omega) (show 0 ≤ r149.toInt from by omega) (show r149.toInt ≤ 7 from by omega))) trivial wd_X11_puts wV_X11_puts wL_X11_43 (hM.o rfl) rfl rfl hl.1 rfl (Nat.le_of_ble_eq_true rfl) dX11_comesHome_179 ⟨Nat.le_of_ble_eq_true rfl, Nat.le_of_ble_eq_true rfl⟩ ⟨Nat.zero_le _, Nat.zero_le _⟩ (fun H37 locs hp37 hT37 hS37 hk37 => ?_)
          have hp37 : h_apu H36 H37 (o + 1) (289 + 16 * u1.toInt + 2 * v165.toInt).toNat (.int r149) := hp37.2
          have z225 : ∀ j : Nat, (j = 0 ∨ 600 ≤ j) → h_ai H37 (o + 1) j = h_ai H0 (o + 1) j := fun j hj => (h_apn hp37 (by omega)).trans (z215 j hj)
          have z226 : ∀ j : Nat, mK j → j ≠ (288 + 16 * u1.toInt + 2 * v165.toInt).toNat → j ≠ (88 + u1.toInt).toNat → j ≠ (289 + 16 * u1.toInt + 2 * v165.toInt).toNat → h_ai H37 (o + 1) j = h_ai H27 (o + 1) j := fun j hj k0 k1 k2 => (h_apn hp37 k2).trans (z216 j hj k0 k1)
          have m227 : h_ai H37 (o + 1) 0 = v1 := (h_apn hp37 (by omega)).trans m217
          have m228 : h_ai H37 (o + 1) 5 = 1 := (h_apn hp37 (by omega)).trans m218
          have m229 : h_ai H37 (o + 1) 9 = 0 := (h_apn hp37 (by omega)).trans m219
          have m230 : h_ai H37 (o + 1) 7 = r156 := (h_apn hp37 (by omega)).trans m220
          have m231 : h_ai H37 (o + 1) 8 = 0 := (h_apn hp37 (by omega)).trans m221
          have m232 : h_ai H37 (o + 1) (288 + 16 * u1.toInt + 2 * v165.toInt).toNat = r156 := (h_apn hp37 (by omega)).trans m222
          have m233 : h_ai H37 (o + 1) (88 + u1.toInt).toNat = x214 := (h_apn hp37 (by omega)).trans m223
          have m234 : h_ai H37 (o + 1) (289 + 16 * u1.toInt + 2 * v165.toInt).toNat = r149 := h_aps hp37
          refine lv_aload_n hx hb dX11_comesHome_182 rfl (lv_at hl 3 rfl) ?_
          refine lv_iload_n hx hb dX11_comesHome_183 rfl (lv_at hl 1 rfl) ?_
          refine h_callVv (T := TX11) (rest := []) (As := [.int r149]) hx hb hml hown hts hK hT37 hZ (fun _ h => h) hS37 (c_X11_isLevel l G Y P (o) hM r149 (show 0 ≤ r149.toInt ∧ r149.toInt ≤ 7 from by omega)) trivial wd_X11_isLevel wV_X11_isLevel wL_X11_103 (hM.o rfl) rfl rfl hl.1 rfl (Nat.le_of_ble_eq_true rfl) dX11_comesHome_184 ⟨Nat.le_of_ble_eq_true rfl, Nat.le_of_ble_eq_true rfl⟩ ⟨Nat.zero_le _, Nat.zero_le _⟩ (fun H38 locs hp38 hT38 hS38 hk38 => ?_)
          obtain ⟨hp38, hB38⟩ := hp38
          obtain ⟨H39, v39, hp39, hq39⟩ := hB38
          have z235 : ∀ j : Nat, (j = 0 ∨ 600 ≤ j) → h_ai H39 (o + 1) j = h_ai H0 (o + 1) j := fun j hj => (h_apn hp39 (by omega)).trans (z225 j hj)
          have z236 : ∀ j : Nat, mK j → j ≠ (288 + 16 * u1.toInt + 2 * v165.toInt).toNat → j ≠ (88 + u1.toInt).toNat → j ≠ (289 + 16 * u1.toInt + 2 * v165.toInt).toNat → j ≠ 7 → h_ai H39 (o + 1) j = h_ai H27 (o + 1) j := fun j hj k0 k1 k2 k3 => (h_apn hp39 k3).trans (z226 j hj k0 k1 k2)
          have m237 : h_ai H39 (o + 1) 0 = v1 := (h_apn hp39 (by omega)).trans m227
          have m238 : h_ai H39 (o + 1) 5 = 1 := (h_apn hp39 (by omega)).trans m228
          have m239 : h_ai H39 (o + 1) 9 = 0 := (h_apn hp39 (by omega)).trans m229
          have m240 : h_ai H39 (o + 1) 8 = 0 := (h_apn hp39 (by omega)).trans m231
          have m241 : h_ai H39 (o + 1) (288 + 16 * u1.toInt + 2 * v165.toInt).toNat = r156 := (h_apn hp39 (by omega)).trans m232
          have m242 : h_ai H39 (o + 1) (88 + u1.toInt).toNat = x214 := (h_apn hp39 (by omega)).trans m233
          have m243 : h_ai H39 (o + 1) (289 + 16 * u1.toInt + 2 * v165.toInt).toNat = r149 := (h_apn hp39 (by omega)).trans m234
          have m244 : h_ai H39 (o + 1) 7 = r149 := h_aps hp39
          have z245 : ∀ j : Nat, (j = 0 ∨ 600 ≤ j) → h_ai H38 (o + 1) j = h_ai H0 (o + 1) j := fun j hj => (h_apn hq39 (by omega)).trans (z235 j hj)
          have z246 : ∀ j : Nat, mK j → j ≠ (288 + 16 * u1.toInt + 2 * v165.toInt).toNat → j ≠ (88 + u1.toInt).toNat → j ≠ (289 + 16 * u1.toInt + 2 * v165.toInt).toNat → j ≠ 7 → h_ai H38 (o + 1) j = h_ai H27 (o + 1) j := fun j hj k0 k1 k2 k3 => (h_apn hq39 (by unfold mK at hj; omega)).trans (z236 j hj k0 k1 k2 k3)
          have m247 : h_ai H38 (o + 1) 0 = v1 := (h_apn hq39 (by omega)).trans m237
          have m248 : h_ai H38 (o + 1) 5 = 1 := (h_apn hq39 (by omega)).trans m238
          have m249 : h_ai H38 (o + 1) 9 = 0 := (h_apn hq39 (by omega)).trans m239
          have m250 : h_ai H38 (o + 1) 8 = 0 := (h_apn hq39 (by omega)).trans m240
          have m251 : h_ai H38 (o + 1) (288 + 16 * u1.toInt + 2 * v165.toInt).toNat = r156 := (h_apn hq39 (by omega)).trans m241
          have m252 : h_ai H38 (o + 1) (88 + u1.toInt).toNat = x214 := (h_apn hq39 (by omega)).trans m242
          have m253 : h_ai H38 (o + 1) (289 + 16 * u1.toInt + 2 * v165.toInt).toNat = r149 := (h_apn hq39 (by omega)).trans m243
          have m254 : h_ai H38 (o + 1) 7 = r149 := (h_apn hq39 (by omega)).trans m244
          have R255 : mR o H38 := mR_push u1.toInt.toNat v165.toInt.toNat (k8 := (88 + u1.toInt).toNat) (kr := (288 + 16 * u1.toInt + 2 * v165.toInt).toNat) (kn := (289 + 16 * u1.toInt + 2 * v165.toInt).toNat) (by omega) (by omega) (by omega) (by omega) (by omega) R163 (by rw [mv165]; omega) (by rw [m159]; omega) (by rw [m162, m254]; omega) (by rw [m251, m162]) (by rw [m253, m254]) (by rw [m252]; omega) (fun j hj k0 k1 k2 k3 => z246 j hj k2 k1 k3 k0)
          exact hret _ _ _ _ hT38 hS38 ⟨trivial, ⟨R255, z245⟩⟩ dX11_comesHome_187
      · skip
        have c157 : ¬ r156.toInt < r149.toInt := h_nltI c157
        exact hret _ _ _ _ hT25 hS26 ⟨trivial, ⟨R154, z150⟩⟩ dX11_comesHome_117
  · skip
    have c4 : r3.toInt = (1 : Int) := congrArg Int32.toInt c4
    refine lv_iconst (v := 1) hx hb dX11_comesHome_10 (by decide) ?_
    refine lv_goto (tgt := 15) hx hb dX11_comesHome_11 (by decide) ?_
    refine lv_istore_n (lv' := [(2, .int 1), (0, .ref (o)), (1, .int u1)]) hx hb dX11_comesHome_15 rfl hl (by decide) rfl (fun ls hl => ?_)
    refine lv_iload_n hx hb dX11_comesHome_16 rfl (lv_at hl 0 rfl) ?_
    refine lv_if_eq (tgt := 25) hx hb dX11_comesHome_17 (by decide) (fun h => absurd h (by decide)) (fun _ => ?_)
    refine lv_aload_n hx hb dX11_comesHome_20 rfl (lv_at hl 1 rfl) ?_
    refine lv_iload_n hx hb dX11_comesHome_21 rfl (lv_at hl 2 rfl) ?_
    refine h_callVv (T := TX11) (rest := []) (As := [.int u1]) hx hb hml hown hts hK hT0 hZ (fun _ h => h) hS1 (c_X11_isGot l G Y P (o) hM u1 (show 0 ≤ u1.toInt ∧ u1.toInt ≤ 7 from by omega)) trivial wd_X11_isGot wV_X11_isGot wL_X11_115 (hM.o rfl) rfl rfl hl.1 rfl (Nat.le_of_ble_eq_true rfl) dX11_comesHome_22 ⟨Nat.le_of_ble_eq_true rfl, Nat.le_of_ble_eq_true rfl⟩ ⟨Nat.zero_le _, Nat.zero_le _⟩ (fun H40 locs hp40 hT40 hS40 hk40 => ?_)
    obtain ⟨hp40, hB40⟩ := hp40
    have z257 : ∀ j : Nat, (j = 0 ∨ 600 ≤ j) → h_ai H40 (o + 1) j = h_ai H0 (o + 1) j := fun j hj => (hB40 j (by unfold mK; omega))
    have m258 : h_ai H40 (o + 1) 0 = v1 := (hB40 _ (by unfold mK; omega)).trans mv1
    have R259 : mR o H40 := hpr.1.keep hB40
    refine lv_aload_n hx hb dX11_comesHome_25 rfl (lv_at hl 1 rfl) ?_
    refine lv_bipush (v := 21) hx hb dX11_comesHome_26 (by decide) ?_
    refine lv_iload_n hx hb dX11_comesHome_28 rfl (lv_at hl 0 rfl) ?_
    refine lv_if_eq (tgt := 36) hx hb dX11_comesHome_29 (by decide) (fun h => absurd h (by decide)) (fun _ => ?_)
    refine lv_iconst (v := 0) hx hb dX11_comesHome_32 (by decide) ?_
    refine lv_goto (tgt := 37) hx hb dX11_comesHome_33 (by decide) ?_
    refine lv_iadd hx hb dX11_comesHome_37 ?_
    refine h_top (v := 21) (by decide) ?_
    refine lv_iconst (v := 1) hx hb dX11_comesHome_38 (by decide) ?_
    refine h_callVv (T := TX11) (rest := []) (As := [.int 21, .int 1]) hx hb hml hown hts hK hT40 hZ (fun _ h => h) hS40 (c_adds l G Y P (o) hM 21 1 21 (by decide) (h_inc (by decide))) (show mP 21 (h_ai H40 (o + 1) 21 + 1) from (mP_free (by unfold mFree; omega))) wd_X11_adds wV_X11_adds wL_X11_69 (hM.o rfl) rfl rfl hl.1 rfl (Nat.le_of_ble_eq_true rfl) dX11_comesHome_39 ⟨Nat.le_of_ble_eq_true rfl, Nat.le_of_ble_eq_true rfl⟩ ⟨Nat.zero_le _, Nat.zero_le _⟩ (fun H41 locs hp41 hT41 hS41 hk41 => ?_)
    have hp41 : h_apu H40 H41 (o + 1) 21 (.int (h_ai H40 (o + 1) 21 + 1)) := hp41.2
    have z261 : ∀ j : Nat, (j = 0 ∨ 600 ≤ j) → h_ai H41 (o + 1) j = h_ai H0 (o + 1) j := fun j hj => (h_apn hp41 (by omega)).trans (z257 j hj)
    have m262 : h_ai H41 (o + 1) 0 = v1 := (h_apn hp41 (by omega)).trans m258
    have R263 : mR o H41 := R259.keep (fun j hj => h_apn hp41 (by unfold mK at hj; omega))
    refine lv_aload_n hx hb dX11_comesHome_42 rfl (lv_at hl 1 rfl) ?_
    refine lv_iload_n hx hb dX11_comesHome_43 rfl (lv_at hl 0 rfl) ?_
    refine lv_if_eq (tgt := 51) hx hb dX11_comesHome_44 (by decide) (fun h => absurd h (by decide)) (fun _ => ?_)
    refine lv_iconst (v := 0) hx hb dX11_comesHome_47 (by decide) ?_
    refine lv_goto (tgt := 52) hx hb dX11_comesHome_48 (by decide) ?_
    refine lv_iload_n hx hb dX11_comesHome_52 rfl (lv_at hl 2 rfl) ?_
    refine h_callVv (T := TX11) (rest := []) (As := [.int 0, .int u1]) hx hb hml hown hts hK hT41 hZ (fun _ h => h) hS41 (c_X11_happens l G Y P (o) hM 0 u1) trivial wd_X11_happens wV_X11_happens wL_X11_72 (hM.o rfl) rfl rfl hl.1 rfl (Nat.le_of_ble_eq_true rfl) dX11_comesHome_53 ⟨Nat.le_of_ble_eq_true rfl, Nat.le_of_ble_eq_true rfl⟩ ⟨Nat.zero_le _, Nat.zero_le _⟩ (fun H42 locs hp42 hT42 hS42 hk42 => ?_)
    obtain ⟨hp42, hB42⟩ := hp42
    have z265 : ∀ j : Nat, (j = 0 ∨ 600 ≤ j) → h_ai H42 (o + 1) j = h_ai H0 (o + 1) j := fun j hj => (hB42 j (by unfold mK; omega)).trans (z261 j hj)
    have m266 : h_ai H42 (o + 1) 0 = v1 := (hB42 _ (by unfold mK; omega)).trans m262
    have R267 : mR o H42 := R263.keep hB42
    refine lv_aload_n hx hb dX11_comesHome_56 rfl (lv_at hl 1 rfl) ?_
    refine lv_iconst (v := 5) hx hb dX11_comesHome_57 (by decide) ?_
    refine lv_iconst (v := 1) hx hb dX11_comesHome_58 (by decide) ?_
    refine h_callVv (T := TX11) (rest := []) (As := [.int 5, .int 1]) hx hb hml hown hts hK hT42 hZ (fun _ h => h) hS42 (c_puts l G Y P (o) hM 5 1 5 (by decide) (h_inc (by decide)) (mP_free (by unfold mFree; omega))) trivial wd_X11_puts wV_X11_puts wL_X11_43 (hM.o rfl) rfl rfl hl.1 rfl (Nat.le_of_ble_eq_true rfl) dX11_comesHome_59 ⟨Nat.le_of_ble_eq_true rfl, Nat.le_of_ble_eq_true rfl⟩ ⟨Nat.zero_le _, Nat.zero_le _⟩ (fun H43 locs hp43 hT43 hS43 hk43 => ?_)
    have hp43 : h_apu H42 H43 (o + 1) 5 (.int 1) := hp43.2
    have z268 : ∀ j : Nat, (j = 0 ∨ 600 ≤ j) → h_ai H43 (o + 1) j = h_ai H0 (o + 1) j := fun j hj => (h_apn hp43 (by omega)).trans (z265 j hj)
    have m269 : h_ai H43 (o + 1) 0 = v1 := (h_apn hp43 (by omega)).trans m266
    have R270 : mR o H43 := R267.keep (fun j hj => h_apn hp43 (by unfold mK at hj; omega))
    have m271 : h_ai H43 (o + 1) 5 = 1 := h_aps hp43
    refine lv_aload_n hx hb dX11_comesHome_62 rfl (lv_at hl 1 rfl) ?_
    refine lv_bipush (v := 9) hx hb dX11_comesHome_63 (by decide) ?_
    refine lv_iconst (v := 0) hx hb dX11_comesHome_65 (by decide) ?_
    refine h_callVv (T := TX11) (rest := []) (As := [.int 9, .int 0]) hx hb hml hown hts hK hT43 hZ (fun _ h => h) hS43 (c_puts l G Y P (o) hM 9 0 9 (by decide) (h_inc (by decide)) mP_zero) trivial wd_X11_puts wV_X11_puts wL_X11_43 (hM.o rfl) rfl rfl hl.1 rfl (Nat.le_of_ble_eq_true rfl) dX11_comesHome_66 ⟨Nat.le_of_ble_eq_true rfl, Nat.le_of_ble_eq_true rfl⟩ ⟨Nat.zero_le _, Nat.zero_le _⟩ (fun H44 locs hp44 hT44 hS44 hk44 => ?_)
    have hp44 : h_apu H43 H44 (o + 1) 9 (.int 0) := hp44.2
    have z272 : ∀ j : Nat, (j = 0 ∨ 600 ≤ j) → h_ai H44 (o + 1) j = h_ai H0 (o + 1) j := fun j hj => (h_apn hp44 (by omega)).trans (z268 j hj)
    have m273 : h_ai H44 (o + 1) 0 = v1 := (h_apn hp44 (by omega)).trans m269
    have m274 : h_ai H44 (o + 1) 5 = 1 := (h_apn hp44 (by omega)).trans m271
    have R275 : mR o H44 := R270.keep (fun j hj => h_apn hp44 (by unfold mK at hj; omega))
    have m276 : h_ai H44 (o + 1) 9 = 0 := h_aps hp44
    refine lv_aload_n hx hb dX11_comesHome_69 rfl (lv_at hl 1 rfl) ?_
    refine h_geti (C := RX11) (T := TX11) (N := 23) hx hb hts inX11 hown hK hT44 (hM.o rfl) rfl 6 rfl wF_X11_94 rfl dX11_comesHome_70 (fun p277 => ?_)
    refine lv_topi (fun x278 ex278 => ?_)
    refine lv_if_eq (tgt := 85) hx hb dX11_comesHome_73 (by decide) (fun c279 => ?_) (fun c279 => ?_)
    · skip
      have c279 : x278.toInt = (0 : Int) := congrArg Int32.toInt c279
      refine lv_aload_n hx hb dX11_comesHome_85 rfl (lv_at hl 1 rfl) ?_
      refine lv_bipush (v := 8) hx hb dX11_comesHome_86 (by decide) ?_
      refine h_callVi (T := TX11) (rest := []) (As := [.int 8]) hx hb hml hown hts hK hT44 hZ (fun _ h => h) hS44 (c_of l G Y P (o) hM 8 8 (by decide) (h_inc (by decide))) trivial wd_X11_of wV_X11_of wL_X11_47 (hM.o rfl) rfl rfl hl.1 rfl (Nat.le_of_ble_eq_true rfl) dX11_comesHome_88 ⟨Nat.le_of_ble_eq_true rfl, Nat.le_of_ble_eq_true rfl⟩ ⟨Nat.zero_le _, Nat.zero_le _⟩ (fun r280 H45 locs hp45 hT45 hS45 hk45 => ?_)
      obtain ⟨hp45, he⟩ := hp45
      have he := he.symm
      subst he
      have mr280 : h_ai H44 (o + 1) 8 = r280 := hp45.1.symm
      have br280 := mP_l hp45.2 (by omega)
      refine lv_aload_n hx hb dX11_comesHome_91 rfl (lv_at hl 1 rfl) ?_
      refine lv_iload_n hx hb dX11_comesHome_92 rfl (lv_at hl 2 rfl) ?_
      obtain ⟨v281, mv281⟩ : ∃ x, h_ai H44 (o + 1) (80 + u1.toInt).toNat = x := ⟨_, rfl⟩
      have bv281 := mP_wm (mP_cell hM hT44 (j := (80 + u1.toInt).toNat) (by omega)) (by omega)
      rw [mv281] at bv281
      refine h_callVi (T := TX11) (rest := [.int r280]) (As := [.int u1]) hx hb hml hown hts hK hT44 hZ (fun _ h => h) hS45 (c_X11_firstRank l G Y P (o) hM u1 (show 0 ≤ u1.toInt ∧ u1.toInt ≤ 7 from by omega)) trivial wd_X11_firstRank wV_X11_firstRank wL_X11_97 (hM.o rfl) rfl rfl hl.1 rfl (Nat.le_of_ble_eq_true rfl) dX11_comesHome_93 ⟨Nat.le_of_ble_eq_true rfl, Nat.le_of_ble_eq_true rfl⟩ ⟨Nat.zero_le _, Nat.zero_le _⟩ (fun r282 H46 locs hp46 hT46 hS46 hk46 => ?_)
      obtain ⟨hp46, he⟩ := hp46
      have he := he.symm
      subst he
      have f283 : (r282.toInt = -1 ∧ v281.toInt ≤ 0) ∨ (0 ≤ r282.toInt ∧ r282.toInt ≤ 7 ∧ 1 ≤ v281.toInt) := by have q := hp46; rw [mv281] at q; exact q
      refine h_callSi (rest := []) (As := [.int r280, .int r282]) hx hb hml hown hts hK hT44 hZ (fun _ h => h) hS46 (c_J_max l G Y r280 r282) trivial wd_J9_max_7cf53 wS_J9_max_7cf53 wL_X11_86 rfl hl.1 rfl (Nat.le_of_ble_eq_true rfl) dX11_comesHome_96 ⟨Nat.le_of_ble_eq_true rfl, Nat.le_of_ble_eq_true rfl⟩ ⟨Nat.zero_le _, Nat.zero_le _⟩ (fun r284 H47 locs hp47 hT47 hS47 hk47 => ?_)
      obtain ⟨hp47, he⟩ := hp47
      have he := he.symm
      subst he
      have f285 : ((r284.toInt = r280.toInt ∨ r284.toInt = r282.toInt) ∧ r280.toInt ≤ r284.toInt ∧ r282.toInt ≤ r284.toInt) := by have q := hp47; exact q
      refine lv_istore_n (lv' := [(3, .int r284), (2, .int 1), (0, .ref (o)), (1, .int u1)]) hx hb dX11_comesHome_99 rfl hl (by decide) rfl (fun ls hl => ?_)
      refine lv_aload_n hx hb dX11_comesHome_100 rfl (lv_at hl 2 rfl) ?_
      refine lv_bipush (v := 8) hx hb dX11_comesHome_101 (by decide) ?_
      refine lv_iload_n hx hb dX11_comesHome_103 rfl (lv_at hl 0 rfl) ?_
      refine h_callVv (T := TX11) (rest := []) (As := [.int 8, .int r284]) hx hb hml hown hts hK hT44 hZ (fun _ h => h) hS47 (c_puts l G Y P (o) hM 8 r284 8 (by decide) (h_inc (by decide)) (mP_of7 (by omega) (show 0 ≤ r284.toInt from by omega) (show r284.toInt ≤ 7 from by omega))) trivial wd_X11_puts wV_X11_puts wL_X11_43 (hM.o rfl) rfl rfl hl.1 rfl (Nat.le_of_ble_eq_true rfl) dX11_comesHome_104 ⟨Nat.le_of_ble_eq_true rfl, Nat.le_of_ble_eq_true rfl⟩ ⟨Nat.zero_le _, Nat.zero_le _⟩ (fun H48 locs hp48 hT48 hS48 hk48 => ?_)
      have hp48 : h_apu H44 H48 (o + 1) 8 (.int r284) := hp48.2
      have z286 : ∀ j : Nat, (j = 0 ∨ 600 ≤ j) → h_ai H48 (o + 1) j = h_ai H0 (o + 1) j := fun j hj => (h_apn hp48 (by omega)).trans (z272 j hj)
      have m287 : h_ai H48 (o + 1) 0 = v1 := (h_apn hp48 (by omega)).trans m273
      have m288 : h_ai H48 (o + 1) 5 = 1 := (h_apn hp48 (by omega)).trans m274
      have m289 : h_ai H48 (o + 1) 9 = 0 := (h_apn hp48 (by omega)).trans m276
      have m290 : h_ai H48 (o + 1) (80 + u1.toInt).toNat = v281 := (h_apn hp48 (by omega)).trans mv281
      have R291 : mR o H48 := R275.keep (fun j hj => h_apn hp48 (by unfold mK at hj; omega))
      have m292 : h_ai H48 (o + 1) 8 = r284 := h_aps hp48
      refine lv_iload_n hx hb dX11_comesHome_107 rfl (lv_at hl 0 rfl) ?_
      refine lv_aload_n hx hb dX11_comesHome_108 rfl (lv_at hl 2 rfl) ?_
      refine lv_bipush (v := 7) hx hb dX11_comesHome_109 (by decide) ?_
      refine h_callVi (T := TX11) (rest := [.int r284]) (As := [.int 7]) hx hb hml hown hts hK hT48 hZ (fun _ h => h) hS48 (c_of l G Y P (o) hM 7 7 (by decide) (h_inc (by decide))) trivial wd_X11_of wV_X11_of wL_X11_47 (hM.o rfl) rfl rfl hl.1 rfl (Nat.le_of_ble_eq_true rfl) dX11_comesHome_111 ⟨Nat.le_of_ble_eq_true rfl, Nat.le_of_ble_eq_true rfl⟩ ⟨Nat.zero_le _, Nat.zero_le _⟩ (fun r293 H49 locs hp49 hT49 hS49 hk49 => ?_)
      obtain ⟨hp49, he⟩ := hp49
      have he := he.symm
      subst he
      have mr293 : h_ai H48 (o + 1) 7 = r293 := hp49.1.symm
      have br293 := mP_l hp49.2 (by omega)
      refine lv_icmp_gt (tgt := 118) hx hb dX11_comesHome_114 (by decide) (fun c294 => ?_) (fun c294 => ?_)
      · skip
        have c294 : r293.toInt < r284.toInt := Int32.lt_iff_toInt_lt.mp c294
        refine lv_aload_n hx hb dX11_comesHome_118 rfl (lv_at hl 2 rfl) ?_
        refine lv_bipush (v := 8) hx hb dX11_comesHome_119 (by decide) ?_
        refine lv_iconst (v := 0) hx hb dX11_comesHome_121 (by decide) ?_
        refine h_callVv (T := TX11) (rest := []) (As := [.int 8, .int 0]) hx hb hml hown hts hK hT48 hZ (fun _ h => h) hS49 (c_puts l G Y P (o) hM 8 0 8 (by decide) (h_inc (by decide)) mP_zero) trivial wd_X11_puts wV_X11_puts wL_X11_43 (hM.o rfl) rfl rfl hl.1 rfl (Nat.le_of_ble_eq_true rfl) dX11_comesHome_122 ⟨Nat.le_of_ble_eq_true rfl, Nat.le_of_ble_eq_true rfl⟩ ⟨Nat.zero_le _, Nat.zero_le _⟩ (fun H50 locs hp50 hT50 hS50 hk50 => ?_)
        have hp50 : h_apu H48 H50 (o + 1) 8 (.int 0) := hp50.2
        have z295 : ∀ j : Nat, (j = 0 ∨ 600 ≤ j) → h_ai H50 (o + 1) j = h_ai H0 (o + 1) j := fun j hj => (h_apn hp50 (by omega)).trans (z286 j hj)
        have m296 : h_ai H50 (o + 1) 0 = v1 := (h_apn hp50 (by omega)).trans m287
        have m297 : h_ai H50 (o + 1) 5 = 1 := (h_apn hp50 (by omega)).trans m288
        have m298 : h_ai H50 (o + 1) 9 = 0 := (h_apn hp50 (by omega)).trans m289
        have m299 : h_ai H50 (o + 1) (80 + u1.toInt).toNat = v281 := (h_apn hp50 (by omega)).trans m290
        have m300 : h_ai H50 (o + 1) 7 = r293 := (h_apn hp50 (by omega)).trans mr293
        have R301 : mR o H50 := R291.keep (fun j hj => h_apn hp50 (by unfold mK at hj; omega))
        have m302 : h_ai H50 (o + 1) 8 = 0 := h_aps hp50
        refine lv_aload_n hx hb dX11_comesHome_125 rfl (lv_at hl 2 rfl) ?_
        refine lv_iload_n hx hb dX11_comesHome_126 rfl (lv_at hl 3 rfl) ?_
        obtain ⟨v303, mv303⟩ : ∃ x, h_ai H50 (o + 1) (88 + u1.toInt).toNat = x := ⟨_, rfl⟩
        have bv303 := mP_rm (mP_cell hM hT50 (j := (88 + u1.toInt).toNat) (by omega)) (by omega)
        rw [mv303] at bv303
        refine h_callVi (T := TX11) (rest := []) (As := [.int u1]) hx hb hml hown hts hK hT50 hZ (fun _ h => h) hS50 (c_X11_topRaise l G Y P (o) hM u1 (show 0 ≤ u1.toInt ∧ u1.toInt ≤ 7 from by omega)) trivial wd_X11_topRaise wV_X11_topRaise wL_X11_100 (hM.o rfl) rfl rfl hl.1 rfl (Nat.le_of_ble_eq_true rfl) dX11_comesHome_127 ⟨Nat.le_of_ble_eq_true rfl, Nat.le_of_ble_eq_true rfl⟩ ⟨Nat.zero_le _, Nat.zero_le _⟩ (fun r304 H51 locs hp51 hT51 hS51 hk51 => ?_)
        obtain ⟨hp51, he⟩ := hp51
        have he := he.symm
        subst he
        have f305 : r304.toInt = -1 ∨ (r304.toInt = 286 + 16 * u1.toInt + 2 * v303.toInt ∧ 1 ≤ v303.toInt ∧ (h_ai H50 (o + 1) (1 + r304.toInt).toNat).toInt = r293.toInt) := by have q := hp51; rw [m300] at q; rw [mv303] at q; exact q
        have t306 := mR_top u1.toInt.toNat (k8 := (88 + u1.toInt).toNat) (by omega) (by omega) R301 (by rw [mv303]; omega) (by rw [mv303]; omega)
        rw [mv303, m300] at t306
        refine lv_istore (lv' := [(4, .int r304), (3, .int r284), (2, .int 1), (0, .ref (o)), (1, .int u1)]) hx hb dX11_comesHome_130 hl (by decide) rfl (fun ls hl => ?_)
        refine lv_iload hx hb dX11_comesHome_132 (lv_at hl 0 rfl) ?_
        refine lv_iconst (v := (-1)) hx hb dX11_comesHome_134 (by decide) ?_
        refine lv_icmp_ne (tgt := 173) hx hb dX11_comesHome_135 (by decide) (fun c307 => ?_) (fun c307 => ?_)
        · skip
          have c307 : ¬ r304.toInt = (-1 : Int) := h_neI c307
          refine lv_aload_n hx hb dX11_comesHome_173 rfl (lv_at hl 3 rfl) ?_
          refine lv_iload hx hb dX11_comesHome_174 (lv_at hl 0 rfl) ?_
          refine lv_iconst (v := 1) hx hb dX11_comesHome_176 (by decide) ?_
          refine lv_iadd hx hb dX11_comesHome_177 ?_
          obtain ⟨x308, qx308, ix308⟩ := h_addX r304 1 r304.toInt (1 : Int) rfl rfl (by omega) (by omega)
          refine h_top (v := x308) qx308 ?_
          refine lv_iload_n hx hb dX11_comesHome_178 rfl (lv_at hl 1 rfl) ?_
          refine h_callVv (T := TX11) (rest := []) (As := [.int x308, .int r284]) hx hb hml hown hts hK hT50 hZ (fun _ h => h) hS51 (c_puts l G Y P (o) hM x308 r284 (1 + r304.toInt).toNat (show x308.toInt.toNat = (1 + r304.toInt).toNat from by omega) (h_vin (by omega) (by omega)) (mP_of7 (by omega) (show 0 ≤ r284.toInt from by omega) (show r284.toInt ≤ 7 from by omega))) trivial wd_X11_puts wV_X11_puts wL_X11_43 (hM.o rfl) rfl rfl hl.1 rfl (Nat.le_of_ble_eq_true rfl) dX11_comesHome_179 ⟨Nat.le_of_ble_eq_true rfl, Nat.le_of_ble_eq_true rfl⟩ ⟨Nat.zero_le _, Nat.zero_le _⟩ (fun H52 locs hp52 hT52 hS52 hk52 => ?_)
          have hp52 : h_apu H50 H52 (o + 1) (1 + r304.toInt).toNat (.int r284) := hp52.2
          have z309 : ∀ j : Nat, (j = 0 ∨ 600 ≤ j) → h_ai H52 (o + 1) j = h_ai H0 (o + 1) j := fun j hj => (h_apn hp52 (by omega)).trans (z295 j hj)
          have z310 : ∀ j : Nat, mK j → j ≠ (1 + r304.toInt).toNat → h_ai H52 (o + 1) j = h_ai H50 (o + 1) j := fun j hj k0 => (h_apn hp52 k0)
          have m311 : h_ai H52 (o + 1) 0 = v1 := (h_apn hp52 (by omega)).trans m296
          have m312 : h_ai H52 (o + 1) 5 = 1 := (h_apn hp52 (by omega)).trans m297
          have m313 : h_ai H52 (o + 1) 9 = 0 := (h_apn hp52 (by omega)).trans m298
          have m314 : h_ai H52 (o + 1) (80 + u1.toInt).toNat = v281 := (h_apn hp52 (by omega)).trans m299
          have m315 : h_ai H52 (o + 1) 7 = r293 := (h_apn hp52 (by omega)).trans m300
          have m316 : h_ai H52 (o + 1) 8 = 0 := (h_apn hp52 (by omega)).trans m302
          have m317 : h_ai H52 (o + 1) (88 + u1.toInt).toNat = v303 := (h_apn hp52 (by omega)).trans mv303
          have m318 : h_ai H52 (o + 1) (1 + r304.toInt).toNat = r284 := h_aps hp52
          refine lv_aload_n hx hb dX11_comesHome_182 rfl (lv_at hl 3 rfl) ?_
          refine lv_iload_n hx hb dX11_comesHome_183 rfl (lv_at hl 1 rfl) ?_
          refine h_callVv (T := TX11) (rest := []) (As := [.int r284]) hx hb hml hown hts hK hT52 hZ (fun _ h => h) hS52 (c_X11_isLevel l G Y P (o) hM r284 (show 0 ≤ r284.toInt ∧ r284.toInt ≤ 7 from by omega)) trivial wd_X11_isLevel wV_X11_isLevel wL_X11_103 (hM.o rfl) rfl rfl hl.1 rfl (Nat.le_of_ble_eq_true rfl) dX11_comesHome_184 ⟨Nat.le_of_ble_eq_true rfl, Nat.le_of_ble_eq_true rfl⟩ ⟨Nat.zero_le _, Nat.zero_le _⟩ (fun H53 locs hp53 hT53 hS53 hk53 => ?_)
          obtain ⟨hp53, hB53⟩ := hp53
          obtain ⟨H54, v54, hp54, hq54⟩ := hB53
          have z319 : ∀ j : Nat, (j = 0 ∨ 600 ≤ j) → h_ai H54 (o + 1) j = h_ai H0 (o + 1) j := fun j hj => (h_apn hp54 (by omega)).trans (z309 j hj)
          have z320 : ∀ j : Nat, mK j → j ≠ (1 + r304.toInt).toNat → j ≠ 7 → h_ai H54 (o + 1) j = h_ai H50 (o + 1) j := fun j hj k0 k1 => (h_apn hp54 k1).trans (z310 j hj k0)
          have m321 : h_ai H54 (o + 1) 0 = v1 := (h_apn hp54 (by omega)).trans m311
          have m322 : h_ai H54 (o + 1) 5 = 1 := (h_apn hp54 (by omega)).trans m312
          have m323 : h_ai H54 (o + 1) 9 = 0 := (h_apn hp54 (by omega)).trans m313
          have m324 : h_ai H54 (o + 1) (80 + u1.toInt).toNat = v281 := (h_apn hp54 (by omega)).trans m314
          have m325 : h_ai H54 (o + 1) 8 = 0 := (h_apn hp54 (by omega)).trans m316
          have m326 : h_ai H54 (o + 1) (88 + u1.toInt).toNat = v303 := (h_apn hp54 (by omega)).trans m317
          have m327 : h_ai H54 (o + 1) (1 + r304.toInt).toNat = r284 := (h_apn hp54 (by omega)).trans m318
          have m328 : h_ai H54 (o + 1) 7 = r284 := h_aps hp54
          have z329 : ∀ j : Nat, (j = 0 ∨ 600 ≤ j) → h_ai H53 (o + 1) j = h_ai H0 (o + 1) j := fun j hj => (h_apn hq54 (by omega)).trans (z319 j hj)
          have z330 : ∀ j : Nat, mK j → j ≠ (1 + r304.toInt).toNat → j ≠ 7 → h_ai H53 (o + 1) j = h_ai H50 (o + 1) j := fun j hj k0 k1 => (h_apn hq54 (by unfold mK at hj; omega)).trans (z320 j hj k0 k1)
          have m331 : h_ai H53 (o + 1) 0 = v1 := (h_apn hq54 (by omega)).trans m321
          have m332 : h_ai H53 (o + 1) 5 = 1 := (h_apn hq54 (by omega)).trans m322
          have m333 : h_ai H53 (o + 1) 9 = 0 := (h_apn hq54 (by omega)).trans m323
          have m334 : h_ai H53 (o + 1) (80 + u1.toInt).toNat = v281 := (h_apn hq54 (by omega)).trans m324
          have m335 : h_ai H53 (o + 1) 8 = 0 := (h_apn hq54 (by omega)).trans m325
          have m336 : h_ai H53 (o + 1) (88 + u1.toInt).toNat = v303 := (h_apn hq54 (by omega)).trans m326
          have m337 : h_ai H53 (o + 1) (1 + r304.toInt).toNat = r284 := (h_apn hq54 (by omega)).trans m327
          have m338 : h_ai H53 (o + 1) 7 = r284 := (h_apn hq54 (by omega)).trans m328
          have hl340 : (h_ai H50 (o + 1) (1 + r304.toInt).toNat).toInt = (h_ai H50 (o + 1) 7).toInt := by rcases f305 with q | q <;> first | (exfalso; omega) | (rw [m300]; exact q.2.2)
          have R339 : mR o H53 := mR_set u1.toInt.toNat (v303.toInt - 1).toNat (k8 := (88 + u1.toInt).toNat) (kr := (r304.toInt).toNat) (kn := (1 + r304.toInt).toNat) (by omega) (by omega) (by omega) (by omega) (by omega) R301 (by rw [mv303]; omega) hl340 (by rw [m338, m337]) (by have q := mR_pair u1.toInt.toNat (v303.toInt - 1).toNat (k8 := (88 + u1.toInt).toNat) (kr := (r304.toInt).toNat) (kn := (1 + r304.toInt).toNat) (by omega) (by omega) (by omega) (by omega) (by omega) R301 (by rw [mv303]; omega); rw [hl340, m300] at q; rw [m338]; omega) (fun j hj k0 k1 => z330 j hj k1 k0)
          exact hret _ _ _ _ hT53 hS53 ⟨trivial, ⟨R339, z329⟩⟩ dX11_comesHome_187
        · skip
          have c307 : r304.toInt = (-1 : Int) := congrArg Int32.toInt c307
          refine lv_iload_n hx hb dX11_comesHome_138 rfl (lv_at hl 4 rfl) ?_
          refine lv_aload_n hx hb dX11_comesHome_139 rfl (lv_at hl 3 rfl) ?_
          refine lv_bipush (v := 88) hx hb dX11_comesHome_140 (by decide) ?_
          refine lv_iload_n hx hb dX11_comesHome_142 rfl (lv_at hl 4 rfl) ?_
          refine lv_iadd hx hb dX11_comesHome_143 ?_
          obtain ⟨x341, qx341, ix341⟩ := h_addX 88 u1 (88 : Int) u1.toInt rfl rfl (by omega) (by omega)
          refine h_top (v := x341) qx341 ?_
          refine h_callVi (T := TX11) (rest := [.int u1]) (As := [.int x341]) hx hb hml hown hts hK hT50 hZ (fun _ h => h) hS51 (c_of l G Y P (o) hM x341 (88 + u1.toInt).toNat (show x341.toInt.toNat = (88 + u1.toInt).toNat from by omega) (h_vin (by omega) (by omega))) trivial wd_X11_of wV_X11_of wL_X11_47 (hM.o rfl) rfl rfl hl.1 rfl (Nat.le_of_ble_eq_true rfl) dX11_comesHome_144 ⟨Nat.le_of_ble_eq_true rfl, Nat.le_of_ble_eq_true rfl⟩ ⟨Nat.zero_le _, Nat.zero_le _⟩ (fun r342 H55 locs hp55 hT55 hS55 hk55 => ?_)
          obtain ⟨hp55, he⟩ := hp55
          have he := he.symm
          subst he
          have hp55 : v303 = r342 := (hp55.1.trans mv303).symm
          subst hp55
          refine h_callSi (rest := []) (As := [.int u1, .int v303]) hx hb hml hown hts hK hT50 hZ (fun _ h => h) hS55 (c_X11_raiseAt l G Y u1 v303 (show 0 ≤ u1.toInt ∧ u1.toInt ≤ 7 from by omega) (show (-1) ≤ v303.toInt ∧ v303.toInt ≤ 8 from by omega)) trivial wd_X11_raiseAt wS_X11_raiseAt wL_X11_91 rfl hl.1 rfl (Nat.le_of_ble_eq_true rfl) dX11_comesHome_147 ⟨Nat.le_of_ble_eq_true rfl, Nat.le_of_ble_eq_true rfl⟩ ⟨Nat.zero_le _, Nat.zero_le _⟩ (fun r343 H56 locs hp56 hT56 hS56 hk56 => ?_)
          obtain ⟨hp56, he⟩ := hp56
          have he := he.symm
          subst he
          have f344 : r343.toInt = 288 + 16 * u1.toInt + 2 * v303.toInt := by have q := hp56; exact q
          refine lv_istore (lv' := [(4, .int r343), (3, .int r284), (2, .int 1), (0, .ref (o)), (1, .int u1)]) hx hb dX11_comesHome_150 hl (by decide) rfl (fun ls hl => ?_)
          refine lv_aload_n hx hb dX11_comesHome_152 rfl (lv_at hl 3 rfl) ?_
          refine lv_iload hx hb dX11_comesHome_153 (lv_at hl 0 rfl) ?_
          refine lv_aload_n hx hb dX11_comesHome_155 rfl (lv_at hl 3 rfl) ?_
          refine lv_bipush (v := 7) hx hb dX11_comesHome_156 (by decide) ?_
          refine h_callVi (T := TX11) (rest := [.int r343, .ref (o)]) (As := [.int 7]) hx hb hml hown hts hK hT50 hZ (fun _ h => h) hS56 (c_of l G Y P (o) hM 7 7 (by decide) (h_inc (by decide))) trivial wd_X11_of wV_X11_of wL_X11_47 (hM.o rfl) rfl rfl hl.1 rfl (Nat.le_of_ble_eq_true rfl) dX11_comesHome_158 ⟨Nat.le_of_ble_eq_true rfl, Nat.le_of_ble_eq_true rfl⟩ ⟨Nat.zero_le _, Nat.zero_le _⟩ (fun r345 H57 locs hp57 hT57 hS57 hk57 => ?_)
          obtain ⟨hp57, he⟩ := hp57
          have he := he.symm
          subst he
          have hp57 : r293 = r345 := (hp57.1.trans m300).symm
          subst hp57
          refine h_callVv (T := TX11) (rest := []) (As := [.int r343, .int r293]) hx hb hml hown hts hK hT50 hZ (fun _ h => h) hS57 (c_puts l G Y P (o) hM r343 r293 (288 + 16 * u1.toInt + 2 * v303.toInt).toNat (show r343.toInt.toNat = (288 + 16 * u1.toInt + 2 * v303.toInt).toNat from by omega) (h_vin (by omega) (by omega)) (mP_of7 (by omega) (show 0 ≤ r293.toInt from by omega) (show r293.toInt ≤ 7 from by omega))) trivial wd_X11_puts wV_X11_puts wL_X11_43 (hM.o rfl) rfl rfl hl.1 rfl (Nat.le_of_ble_eq_true rfl) dX11_comesHome_161 ⟨Nat.le_of_ble_eq_true rfl, Nat.le_of_ble_eq_true rfl⟩ ⟨Nat.zero_le _, Nat.zero_le _⟩ (fun H58 locs hp58 hT58 hS58 hk58 => ?_)
          have hp58 : h_apu H50 H58 (o + 1) (288 + 16 * u1.toInt + 2 * v303.toInt).toNat (.int r293) := hp58.2
          have z346 : ∀ j : Nat, (j = 0 ∨ 600 ≤ j) → h_ai H58 (o + 1) j = h_ai H0 (o + 1) j := fun j hj => (h_apn hp58 (by omega)).trans (z295 j hj)
          have z347 : ∀ j : Nat, mK j → j ≠ (288 + 16 * u1.toInt + 2 * v303.toInt).toNat → h_ai H58 (o + 1) j = h_ai H50 (o + 1) j := fun j hj k0 => (h_apn hp58 k0)
          have m348 : h_ai H58 (o + 1) 0 = v1 := (h_apn hp58 (by omega)).trans m296
          have m349 : h_ai H58 (o + 1) 5 = 1 := (h_apn hp58 (by omega)).trans m297
          have m350 : h_ai H58 (o + 1) 9 = 0 := (h_apn hp58 (by omega)).trans m298
          have m351 : h_ai H58 (o + 1) (80 + u1.toInt).toNat = v281 := (h_apn hp58 (by omega)).trans m299
          have m352 : h_ai H58 (o + 1) 7 = r293 := (h_apn hp58 (by omega)).trans m300
          have m353 : h_ai H58 (o + 1) 8 = 0 := (h_apn hp58 (by omega)).trans m302
          have m354 : h_ai H58 (o + 1) (88 + u1.toInt).toNat = v303 := (h_apn hp58 (by omega)).trans mv303
          have m355 : h_ai H58 (o + 1) (288 + 16 * u1.toInt + 2 * v303.toInt).toNat = r293 := h_aps hp58
          refine lv_aload_n hx hb dX11_comesHome_164 rfl (lv_at hl 3 rfl) ?_
          refine lv_bipush (v := 88) hx hb dX11_comesHome_165 (by decide) ?_
          refine lv_iload_n hx hb dX11_comesHome_167 rfl (lv_at hl 4 rfl) ?_
          refine lv_iadd hx hb dX11_comesHome_168 ?_
          refine h_top (v := x341) (h_addE 88 u1 x341 (88 : Int) u1.toInt rfl rfl (by omega) (by omega) (by omega)) ?_
          refine lv_iconst (v := 1) hx hb dX11_comesHome_169 (by decide) ?_
          obtain ⟨x356, qx356, ix356⟩ := h_addX v303 1 v303.toInt (1 : Int) rfl rfl (by omega) (by omega)
          refine h_callVv (T := TX11) (rest := []) (As := [.int x341, .int 1]) hx hb hml hown hts hK hT58 hZ (fun _ h => h) hS58 (c_adds l G Y P (o) hM x341 1 (88 + u1.toInt).toNat (show x341.toInt.toNat = (88 + u1.toInt).toNat from by omega) (h_vin (by omega) (by omega))) (show mP (88 + u1.toInt).toNat (h_ai H58 (o + 1) (88 + u1.toInt).toNat + 1) from (by rw [m354, qx356]; exact (mP_of8 (by omega) (show 0 ≤ x356.toInt from by omega) (show x356.toInt ≤ 8 from by omega)))) wd_X11_adds wV_X11_adds wL_X11_69 (hM.o rfl) rfl rfl hl.1 rfl (Nat.le_of_ble_eq_true rfl) dX11_comesHome_170 ⟨Nat.le_of_ble_eq_true rfl, Nat.le_of_ble_eq_true rfl⟩ ⟨Nat.zero_le _, Nat.zero_le _⟩ (fun H59 locs hp59 hT59 hS59 hk59 => ?_)
          have hp59 : h_apu H58 H59 (o + 1) (88 + u1.toInt).toNat (.int (h_ai H58 (o + 1) (88 + u1.toInt).toNat + 1)) := hp59.2
          rw [show h_ai H58 (o + 1) (88 + u1.toInt).toNat + 1 = x356 from (by rw [m354]; exact qx356)] at hp59
          have hp59 : h_apu H58 H59 (o + 1) (88 + u1.toInt).toNat (.int x356) := hp59
          have z357 : ∀ j : Nat, (j = 0 ∨ 600 ≤ j) → h_ai H59 (o + 1) j = h_ai H0 (o + 1) j := fun j hj => (h_apn hp59 (by omega)).trans (z346 j hj)
          have z358 : ∀ j : Nat, mK j → j ≠ (288 + 16 * u1.toInt + 2 * v303.toInt).toNat → j ≠ (88 + u1.toInt).toNat → h_ai H59 (o + 1) j = h_ai H50 (o + 1) j := fun j hj k0 k1 => (h_apn hp59 k1).trans (z347 j hj k0)
          have m359 : h_ai H59 (o + 1) 0 = v1 := (h_apn hp59 (by omega)).trans m348
          have m360 : h_ai H59 (o + 1) 5 = 1 := (h_apn hp59 (by omega)).trans m349
          have m361 : h_ai H59 (o + 1) 9 = 0 := (h_apn hp59 (by omega)).trans m350
          have m362 : h_ai H59 (o + 1) (80 + u1.toInt).toNat = v281 := (h_apn hp59 (by omega)).trans m351
          have m363 : h_ai H59 (o + 1) 7 = r293 := (h_apn hp59 (by omega)).trans m352
          have m364 : h_ai H59 (o + 1) 8 = 0 := (h_apn hp59 (by omega)).trans m353
          have m365 : h_ai H59 (o + 1) (288 + 16 * u1.toInt + 2 * v303.toInt).toNat = r293 := (h_apn hp59 (by omega)).trans m355
          have m366 : h_ai H59 (o + 1) (88 + u1.toInt).toNat = x356 := h_aps hp59
          refine lv_aload_n hx hb dX11_comesHome_173 rfl (lv_at hl 3 rfl) ?_
          refine lv_iload hx hb dX11_comesHome_174 (lv_at hl 0 rfl) ?_
          refine lv_iconst (v := 1) hx hb dX11_comesHome_176 (by decide) ?_
          refine lv_iadd hx hb dX11_comesHome_177 ?_
          obtain ⟨x367, qx367, ix367⟩ := h_addX r343 1 r343.toInt (1 : Int) rfl rfl (by omega) (by omega)
          refine h_top (v := x367) qx367 ?_
          refine lv_iload_n hx hb dX11_comesHome_178 rfl (lv_at hl 1 rfl) ?_
          refine h_callVv (T := TX11) (rest := []) (As := [.int x367, .int r284]) hx hb hml hown hts hK hT59 hZ (fun _ h => h) hS59 (c_puts l G Y P (o) hM x367 r284 (289 + 16 * u1.toInt + 2 * v303.toInt).toNat (show x367.toInt.toNat = (289 + 16 * u1.toInt + 2 * v303.toInt).toNat from by omega) (h_vin (by omega) (by omega)) (mP_of7 (by omega) (show 0 ≤ r284.toInt from by omega) (show r284.toInt ≤ 7 from by omega))) trivial wd_X11_puts wV_X11_puts wL_X11_43 (hM.o rfl) rfl rfl hl.1 rfl (Nat.le_of_ble_eq_true rfl) dX11_comesHome_179 ⟨Nat.le_of_ble_eq_true rfl, Nat.le_of_ble_eq_true rfl⟩ ⟨Nat.zero_le _, Nat.zero_le _⟩ (fun H60 locs hp60 hT60 hS60 hk60 => ?_)
          have hp60 : h_apu H59 H60 (o + 1) (289 + 16 * u1.toInt + 2 * v303.toInt).toNat (.int r284) := hp60.2
          have z368 : ∀ j : Nat, (j = 0 ∨ 600 ≤ j) → h_ai H60 (o + 1) j = h_ai H0 (o + 1) j := fun j hj => (h_apn hp60 (by omega)).trans (z357 j hj)
          have z369 : ∀ j : Nat, mK j → j ≠ (288 + 16 * u1.toInt + 2 * v303.toInt).toNat → j ≠ (88 + u1.toInt).toNat → j ≠ (289 + 16 * u1.toInt + 2 * v303.toInt).toNat → h_ai H60 (o + 1) j = h_ai H50 (o + 1) j := fun j hj k0 k1 k2 => (h_apn hp60 k2).trans (z358 j hj k0 k1)
          have m370 : h_ai H60 (o + 1) 0 = v1 := (h_apn hp60 (by omega)).trans m359
          have m371 : h_ai H60 (o + 1) 5 = 1 := (h_apn hp60 (by omega)).trans m360
          have m372 : h_ai H60 (o + 1) 9 = 0 := (h_apn hp60 (by omega)).trans m361
          have m373 : h_ai H60 (o + 1) (80 + u1.toInt).toNat = v281 := (h_apn hp60 (by omega)).trans m362
          have m374 : h_ai H60 (o + 1) 7 = r293 := (h_apn hp60 (by omega)).trans m363
          have m375 : h_ai H60 (o + 1) 8 = 0 := (h_apn hp60 (by omega)).trans m364
          have m376 : h_ai H60 (o + 1) (288 + 16 * u1.toInt + 2 * v303.toInt).toNat = r293 := (h_apn hp60 (by omega)).trans m365
          have m377 : h_ai H60 (o + 1) (88 + u1.toInt).toNat = x356 := (h_apn hp60 (by omega)).trans m366
          have m378 : h_ai H60 (o + 1) (289 + 16 * u1.toInt + 2 * v303.toInt).toNat = r284 := h_aps hp60
          refine lv_aload_n hx hb dX11_comesHome_182 rfl (lv_at hl 3 rfl) ?_
          refine lv_iload_n hx hb dX11_comesHome_183 rfl (lv_at hl 1 rfl) ?_
          refine h_callVv (T := TX11) (rest := []) (As := [.int r284]) hx hb hml hown hts hK hT60 hZ (fun _ h => h) hS60 (c_X11_isLevel l G Y P (o) hM r284 (show 0 ≤ r284.toInt ∧ r284.toInt ≤ 7 from by omega)) trivial wd_X11_isLevel wV_X11_isLevel wL_X11_103 (hM.o rfl) rfl rfl hl.1 rfl (Nat.le_of_ble_eq_true rfl) dX11_comesHome_184 ⟨Nat.le_of_ble_eq_true rfl, Nat.le_of_ble_eq_true rfl⟩ ⟨Nat.zero_le _, Nat.zero_le _⟩ (fun H61 locs hp61 hT61 hS61 hk61 => ?_)
          obtain ⟨hp61, hB61⟩ := hp61
          obtain ⟨H62, v62, hp62, hq62⟩ := hB61
          have z379 : ∀ j : Nat, (j = 0 ∨ 600 ≤ j) → h_ai H62 (o + 1) j = h_ai H0 (o + 1) j := fun j hj => (h_apn hp62 (by omega)).trans (z368 j hj)
          have z380 : ∀ j : Nat, mK j → j ≠ (288 + 16 * u1.toInt + 2 * v303.toInt).toNat → j ≠ (88 + u1.toInt).toNat → j ≠ (289 + 16 * u1.toInt + 2 * v303.toInt).toNat → j ≠ 7 → h_ai H62 (o + 1) j = h_ai H50 (o + 1) j := fun j hj k0 k1 k2 k3 => (h_apn hp62 k3).trans (z369 j hj k0 k1 k2)
          have m381 : h_ai H62 (o + 1) 0 = v1 := (h_apn hp62 (by omega)).trans m370
          have m382 : h_ai H62 (o + 1) 5 = 1 := (h_apn hp62 (by omega)).trans m371
          have m383 : h_ai H62 (o + 1) 9 = 0 := (h_apn hp62 (by omega)).trans m372
          have m384 : h_ai H62 (o + 1) (80 + u1.toInt).toNat = v281 := (h_apn hp62 (by omega)).trans m373
          have m385 : h_ai H62 (o + 1) 8 = 0 := (h_apn hp62 (by omega)).trans m375
          have m386 : h_ai H62 (o + 1) (288 + 16 * u1.toInt + 2 * v303.toInt).toNat = r293 := (h_apn hp62 (by omega)).trans m376
          have m387 : h_ai H62 (o + 1) (88 + u1.toInt).toNat = x356 := (h_apn hp62 (by omega)).trans m377
          have m388 : h_ai H62 (o + 1) (289 + 16 * u1.toInt + 2 * v303.toInt).toNat = r284 := (h_apn hp62 (by omega)).trans m378
          have m389 : h_ai H62 (o + 1) 7 = r284 := h_aps hp62
          have z390 : ∀ j : Nat, (j = 0 ∨ 600 ≤ j) → h_ai H61 (o + 1) j = h_ai H0 (o + 1) j := fun j hj => (h_apn hq62 (by omega)).trans (z379 j hj)
          have z391 : ∀ j : Nat, mK j → j ≠ (288 + 16 * u1.toInt + 2 * v303.toInt).toNat → j ≠ (88 + u1.toInt).toNat → j ≠ (289 + 16 * u1.toInt + 2 * v303.toInt).toNat → j ≠ 7 → h_ai H61 (o + 1) j = h_ai H50 (o + 1) j := fun j hj k0 k1 k2 k3 => (h_apn hq62 (by unfold mK at hj; omega)).trans (z380 j hj k0 k1 k2 k3)
          have m392 : h_ai H61 (o + 1) 0 = v1 := (h_apn hq62 (by omega)).trans m381
          have m393 : h_ai H61 (o + 1) 5 = 1 := (h_apn hq62 (by omega)).trans m382
          have m394 : h_ai H61 (o + 1) 9 = 0 := (h_apn hq62 (by omega)).trans m383
          have m395 : h_ai H61 (o + 1) (80 + u1.toInt).toNat = v281 := (h_apn hq62 (by omega)).trans m384
          have m396 : h_ai H61 (o + 1) 8 = 0 := (h_apn hq62 (by omega)).trans m385
          have m397 : h_ai H61 (o + 1) (288 + 16 * u1.toInt + 2 * v303.toInt).toNat = r293 := (h_apn hq62 (by omega)).trans m386
          have m398 : h_ai H61 (o + 1) (88 + u1.toInt).toNat = x356 := (h_apn hq62 (by omega)).trans m387
          have m399 : h_ai H61 (o + 1) (289 + 16 * u1.toInt + 2 * v303.toInt).toNat = r284 := (h_apn hq62 (by omega)).trans m388
          have m400 : h_ai H61 (o + 1) 7 = r284 := (h_apn hq62 (by omega)).trans m389
          have R401 : mR o H61 := mR_push u1.toInt.toNat v303.toInt.toNat (k8 := (88 + u1.toInt).toNat) (kr := (288 + 16 * u1.toInt + 2 * v303.toInt).toNat) (kn := (289 + 16 * u1.toInt + 2 * v303.toInt).toNat) (by omega) (by omega) (by omega) (by omega) (by omega) R301 (by rw [mv303]; omega) (by rw [m296]; omega) (by rw [m300, m400]; omega) (by rw [m397, m300]) (by rw [m399, m400]) (by rw [m398]; omega) (fun j hj k0 k1 k2 k3 => z391 j hj k2 k1 k3 k0)
          exact hret _ _ _ _ hT61 hS61 ⟨trivial, ⟨R401, z390⟩⟩ dX11_comesHome_187
      · skip
        have c294 : ¬ r293.toInt < r284.toInt := h_nltI c294
        exact hret _ _ _ _ hT48 hS49 ⟨trivial, ⟨R291, z286⟩⟩ dX11_comesHome_117
    · skip
      have c279 : ¬ x278.toInt = (0 : Int) := h_neI c279
      refine lv_aload_n hx hb dX11_comesHome_76 rfl (lv_at hl 1 rfl) ?_
      refine lv_bipush (v := 8) hx hb dX11_comesHome_77 (by decide) ?_
      refine h_callVi (T := TX11) (rest := []) (As := [.int 8]) hx hb hml hown hts hK hT44 hZ (fun _ h => h) hS44 (c_of l G Y P (o) hM 8 8 (by decide) (h_inc (by decide))) trivial wd_X11_of wV_X11_of wL_X11_47 (hM.o rfl) rfl rfl hl.1 rfl (Nat.le_of_ble_eq_true rfl) dX11_comesHome_79 ⟨Nat.le_of_ble_eq_true rfl, Nat.le_of_ble_eq_true rfl⟩ ⟨Nat.zero_le _, Nat.zero_le _⟩ (fun r402 H63 locs hp63 hT63 hS63 hk63 => ?_)
      obtain ⟨hp63, he⟩ := hp63
      have he := he.symm
      subst he
      have mr402 : h_ai H44 (o + 1) 8 = r402 := hp63.1.symm
      have br402 := mP_l hp63.2 (by omega)
      refine lv_goto (tgt := 99) hx hb dX11_comesHome_82 (by decide) ?_
      refine lv_istore_n (lv' := [(3, .int r402), (2, .int 1), (0, .ref (o)), (1, .int u1)]) hx hb dX11_comesHome_99 rfl hl (by decide) rfl (fun ls hl => ?_)
      refine lv_aload_n hx hb dX11_comesHome_100 rfl (lv_at hl 2 rfl) ?_
      refine lv_bipush (v := 8) hx hb dX11_comesHome_101 (by decide) ?_
      refine lv_iload_n hx hb dX11_comesHome_103 rfl (lv_at hl 0 rfl) ?_
      refine h_callVv (T := TX11) (rest := []) (As := [.int 8, .int r402]) hx hb hml hown hts hK hT44 hZ (fun _ h => h) hS63 (c_puts l G Y P (o) hM 8 r402 8 (by decide) (h_inc (by decide)) (mP_of7 (by omega) (show 0 ≤ r402.toInt from by omega) (show r402.toInt ≤ 7 from by omega))) trivial wd_X11_puts wV_X11_puts wL_X11_43 (hM.o rfl) rfl rfl hl.1 rfl (Nat.le_of_ble_eq_true rfl) dX11_comesHome_104 ⟨Nat.le_of_ble_eq_true rfl, Nat.le_of_ble_eq_true rfl⟩ ⟨Nat.zero_le _, Nat.zero_le _⟩ (fun H64 locs hp64 hT64 hS64 hk64 => ?_)
      have hp64 : h_apu H44 H64 (o + 1) 8 (.int r402) := hp64.2
      have z403 : ∀ j : Nat, (j = 0 ∨ 600 ≤ j) → h_ai H64 (o + 1) j = h_ai H0 (o + 1) j := fun j hj => (h_apn hp64 (by omega)).trans (z272 j hj)
      have m404 : h_ai H64 (o + 1) 0 = v1 := (h_apn hp64 (by omega)).trans m273
      have m405 : h_ai H64 (o + 1) 5 = 1 := (h_apn hp64 (by omega)).trans m274
      have m406 : h_ai H64 (o + 1) 9 = 0 := (h_apn hp64 (by omega)).trans m276
      have R407 : mR o H64 := R275.keep (fun j hj => h_apn hp64 (by unfold mK at hj; omega))
      have m408 : h_ai H64 (o + 1) 8 = r402 := h_aps hp64
      refine lv_iload_n hx hb dX11_comesHome_107 rfl (lv_at hl 0 rfl) ?_
      refine lv_aload_n hx hb dX11_comesHome_108 rfl (lv_at hl 2 rfl) ?_
      refine lv_bipush (v := 7) hx hb dX11_comesHome_109 (by decide) ?_
      refine h_callVi (T := TX11) (rest := [.int r402]) (As := [.int 7]) hx hb hml hown hts hK hT64 hZ (fun _ h => h) hS64 (c_of l G Y P (o) hM 7 7 (by decide) (h_inc (by decide))) trivial wd_X11_of wV_X11_of wL_X11_47 (hM.o rfl) rfl rfl hl.1 rfl (Nat.le_of_ble_eq_true rfl) dX11_comesHome_111 ⟨Nat.le_of_ble_eq_true rfl, Nat.le_of_ble_eq_true rfl⟩ ⟨Nat.zero_le _, Nat.zero_le _⟩ (fun r409 H65 locs hp65 hT65 hS65 hk65 => ?_)
      obtain ⟨hp65, he⟩ := hp65
      have he := he.symm
      subst he
      have mr409 : h_ai H64 (o + 1) 7 = r409 := hp65.1.symm
      have br409 := mP_l hp65.2 (by omega)
      refine lv_icmp_gt (tgt := 118) hx hb dX11_comesHome_114 (by decide) (fun c410 => ?_) (fun c410 => ?_)
      · skip
        have c410 : r409.toInt < r402.toInt := Int32.lt_iff_toInt_lt.mp c410
        refine lv_aload_n hx hb dX11_comesHome_118 rfl (lv_at hl 2 rfl) ?_
        refine lv_bipush (v := 8) hx hb dX11_comesHome_119 (by decide) ?_
        refine lv_iconst (v := 0) hx hb dX11_comesHome_121 (by decide) ?_
        refine h_callVv (T := TX11) (rest := []) (As := [.int 8, .int 0]) hx hb hml hown hts hK hT64 hZ (fun _ h => h) hS65 (c_puts l G Y P (o) hM 8 0 8 (by decide) (h_inc (by decide)) mP_zero) trivial wd_X11_puts wV_X11_puts wL_X11_43 (hM.o rfl) rfl rfl hl.1 rfl (Nat.le_of_ble_eq_true rfl) dX11_comesHome_122 ⟨Nat.le_of_ble_eq_true rfl, Nat.le_of_ble_eq_true rfl⟩ ⟨Nat.zero_le _, Nat.zero_le _⟩ (fun H66 locs hp66 hT66 hS66 hk66 => ?_)
        have hp66 : h_apu H64 H66 (o + 1) 8 (.int 0) := hp66.2
        have z411 : ∀ j : Nat, (j = 0 ∨ 600 ≤ j) → h_ai H66 (o + 1) j = h_ai H0 (o + 1) j := fun j hj => (h_apn hp66 (by omega)).trans (z403 j hj)
        have m412 : h_ai H66 (o + 1) 0 = v1 := (h_apn hp66 (by omega)).trans m404
        have m413 : h_ai H66 (o + 1) 5 = 1 := (h_apn hp66 (by omega)).trans m405
        have m414 : h_ai H66 (o + 1) 9 = 0 := (h_apn hp66 (by omega)).trans m406
        have m415 : h_ai H66 (o + 1) 7 = r409 := (h_apn hp66 (by omega)).trans mr409
        have R416 : mR o H66 := R407.keep (fun j hj => h_apn hp66 (by unfold mK at hj; omega))
        have m417 : h_ai H66 (o + 1) 8 = 0 := h_aps hp66
        refine lv_aload_n hx hb dX11_comesHome_125 rfl (lv_at hl 2 rfl) ?_
        refine lv_iload_n hx hb dX11_comesHome_126 rfl (lv_at hl 3 rfl) ?_
        obtain ⟨v418, mv418⟩ : ∃ x, h_ai H66 (o + 1) (88 + u1.toInt).toNat = x := ⟨_, rfl⟩
        have bv418 := mP_rm (mP_cell hM hT66 (j := (88 + u1.toInt).toNat) (by omega)) (by omega)
        rw [mv418] at bv418
        refine h_callVi (T := TX11) (rest := []) (As := [.int u1]) hx hb hml hown hts hK hT66 hZ (fun _ h => h) hS66 (c_X11_topRaise l G Y P (o) hM u1 (show 0 ≤ u1.toInt ∧ u1.toInt ≤ 7 from by omega)) trivial wd_X11_topRaise wV_X11_topRaise wL_X11_100 (hM.o rfl) rfl rfl hl.1 rfl (Nat.le_of_ble_eq_true rfl) dX11_comesHome_127 ⟨Nat.le_of_ble_eq_true rfl, Nat.le_of_ble_eq_true rfl⟩ ⟨Nat.zero_le _, Nat.zero_le _⟩ (fun r419 H67 locs hp67 hT67 hS67 hk67 => ?_)
        obtain ⟨hp67, he⟩ := hp67
        have he := he.symm
        subst he
        have f420 : r419.toInt = -1 ∨ (r419.toInt = 286 + 16 * u1.toInt + 2 * v418.toInt ∧ 1 ≤ v418.toInt ∧ (h_ai H66 (o + 1) (1 + r419.toInt).toNat).toInt = r409.toInt) := by have q := hp67; rw [m415] at q; rw [mv418] at q; exact q
        have t421 := mR_top u1.toInt.toNat (k8 := (88 + u1.toInt).toNat) (by omega) (by omega) R416 (by rw [mv418]; omega) (by rw [mv418]; omega)
        rw [mv418, m415] at t421
        refine lv_istore (lv' := [(4, .int r419), (3, .int r402), (2, .int 1), (0, .ref (o)), (1, .int u1)]) hx hb dX11_comesHome_130 hl (by decide) rfl (fun ls hl => ?_)
        refine lv_iload hx hb dX11_comesHome_132 (lv_at hl 0 rfl) ?_
        refine lv_iconst (v := (-1)) hx hb dX11_comesHome_134 (by decide) ?_
        refine lv_icmp_ne (tgt := 173) hx hb dX11_comesHome_135 (by decide) (fun c422 => ?_) (fun c422 => ?_)
        · skip
          have c422 : ¬ r419.toInt = (-1 : Int) := h_neI c422
          refine lv_aload_n hx hb dX11_comesHome_173 rfl (lv_at hl 3 rfl) ?_
          refine lv_iload hx hb dX11_comesHome_174 (lv_at hl 0 rfl) ?_
          refine lv_iconst (v := 1) hx hb dX11_comesHome_176 (by decide) ?_
          refine lv_iadd hx hb dX11_comesHome_177 ?_
          obtain ⟨x423, qx423, ix423⟩ := h_addX r419 1 r419.toInt (1 : Int) rfl rfl (by omega) (by omega)
          refine h_top (v := x423) qx423 ?_
          refine lv_iload_n hx hb dX11_comesHome_178 rfl (lv_at hl 1 rfl) ?_
          refine h_callVv (T := TX11) (rest := []) (As := [.int x423, .int r402]) hx hb hml hown hts hK hT66 hZ (fun _ h => h) hS67 (c_puts l G Y P (o) hM x423 r402 (1 + r419.toInt).toNat (show x423.toInt.toNat = (1 + r419.toInt).toNat from by omega) (h_vin (by omega) (by omega)) (mP_of7 (by omega) (show 0 ≤ r402.toInt from by omega) (show r402.toInt ≤ 7 from by omega))) trivial wd_X11_puts wV_X11_puts wL_X11_43 (hM.o rfl) rfl rfl hl.1 rfl (Nat.le_of_ble_eq_true rfl) dX11_comesHome_179 ⟨Nat.le_of_ble_eq_true rfl, Nat.le_of_ble_eq_true rfl⟩ ⟨Nat.zero_le _, Nat.zero_le _⟩ (fun H68 locs hp68 hT68 hS68 hk68 => ?_)
          have hp68 : h_apu H66 H68 (o + 1) (1 + r419.toInt).toNat (.int r402) := hp68.2
          have z424 : ∀ j : Nat, (j = 0 ∨ 600 ≤ j) → h_ai H68 (o + 1) j = h_ai H0 (o + 1) j := fun j hj => (h_apn hp68 (by omega)).trans (z411 j hj)
          have z425 : ∀ j : Nat, mK j → j ≠ (1 + r419.toInt).toNat → h_ai H68 (o + 1) j = h_ai H66 (o + 1) j := fun j hj k0 => (h_apn hp68 k0)
          have m426 : h_ai H68 (o + 1) 0 = v1 := (h_apn hp68 (by omega)).trans m412
          have m427 : h_ai H68 (o + 1) 5 = 1 := (h_apn hp68 (by omega)).trans m413
          have m428 : h_ai H68 (o + 1) 9 = 0 := (h_apn hp68 (by omega)).trans m414
          have m429 : h_ai H68 (o + 1) 7 = r409 := (h_apn hp68 (by omega)).trans m415
          have m430 : h_ai H68 (o + 1) 8 = 0 := (h_apn hp68 (by omega)).trans m417
          have m431 : h_ai H68 (o + 1) (88 + u1.toInt).toNat = v418 := (h_apn hp68 (by omega)).trans mv418
          have m432 : h_ai H68 (o + 1) (1 + r419.toInt).toNat = r402 := h_aps hp68
          refine lv_aload_n hx hb dX11_comesHome_182 rfl (lv_at hl 3 rfl) ?_
          refine lv_iload_n hx hb dX11_comesHome_183 rfl (lv_at hl 1 rfl) ?_
          refine h_callVv (T := TX11) (rest := []) (As := [.int r402]) hx hb hml hown hts hK hT68 hZ (fun _ h => h) hS68 (c_X11_isLevel l G Y P (o) hM r402 (show 0 ≤ r402.toInt ∧ r402.toInt ≤ 7 from by omega)) trivial wd_X11_isLevel wV_X11_isLevel wL_X11_103 (hM.o rfl) rfl rfl hl.1 rfl (Nat.le_of_ble_eq_true rfl) dX11_comesHome_184 ⟨Nat.le_of_ble_eq_true rfl, Nat.le_of_ble_eq_true rfl⟩ ⟨Nat.zero_le _, Nat.zero_le _⟩ (fun H69 locs hp69 hT69 hS69 hk69 => ?_)
          obtain ⟨hp69, hB69⟩ := hp69
          obtain ⟨H70, v70, hp70, hq70⟩ := hB69
          have z433 : ∀ j : Nat, (j = 0 ∨ 600 ≤ j) → h_ai H70 (o + 1) j = h_ai H0 (o + 1) j := fun j hj => (h_apn hp70 (by omega)).trans (z424 j hj)
          have z434 : ∀ j : Nat, mK j → j ≠ (1 + r419.toInt).toNat → j ≠ 7 → h_ai H70 (o + 1) j = h_ai H66 (o + 1) j := fun j hj k0 k1 => (h_apn hp70 k1).trans (z425 j hj k0)
          have m435 : h_ai H70 (o + 1) 0 = v1 := (h_apn hp70 (by omega)).trans m426
          have m436 : h_ai H70 (o + 1) 5 = 1 := (h_apn hp70 (by omega)).trans m427
          have m437 : h_ai H70 (o + 1) 9 = 0 := (h_apn hp70 (by omega)).trans m428
          have m438 : h_ai H70 (o + 1) 8 = 0 := (h_apn hp70 (by omega)).trans m430
          have m439 : h_ai H70 (o + 1) (88 + u1.toInt).toNat = v418 := (h_apn hp70 (by omega)).trans m431
          have m440 : h_ai H70 (o + 1) (1 + r419.toInt).toNat = r402 := (h_apn hp70 (by omega)).trans m432
          have m441 : h_ai H70 (o + 1) 7 = r402 := h_aps hp70
          have z442 : ∀ j : Nat, (j = 0 ∨ 600 ≤ j) → h_ai H69 (o + 1) j = h_ai H0 (o + 1) j := fun j hj => (h_apn hq70 (by omega)).trans (z433 j hj)
          have z443 : ∀ j : Nat, mK j → j ≠ (1 + r419.toInt).toNat → j ≠ 7 → h_ai H69 (o + 1) j = h_ai H66 (o + 1) j := fun j hj k0 k1 => (h_apn hq70 (by unfold mK at hj; omega)).trans (z434 j hj k0 k1)
          have m444 : h_ai H69 (o + 1) 0 = v1 := (h_apn hq70 (by omega)).trans m435
          have m445 : h_ai H69 (o + 1) 5 = 1 := (h_apn hq70 (by omega)).trans m436
          have m446 : h_ai H69 (o + 1) 9 = 0 := (h_apn hq70 (by omega)).trans m437
          have m447 : h_ai H69 (o + 1) 8 = 0 := (h_apn hq70 (by omega)).trans m438
          have m448 : h_ai H69 (o + 1) (88 + u1.toInt).toNat = v418 := (h_apn hq70 (by omega)).trans m439
          have m449 : h_ai H69 (o + 1) (1 + r419.toInt).toNat = r402 := (h_apn hq70 (by omega)).trans m440
          have m450 : h_ai H69 (o + 1) 7 = r402 := (h_apn hq70 (by omega)).trans m441
          have hl452 : (h_ai H66 (o + 1) (1 + r419.toInt).toNat).toInt = (h_ai H66 (o + 1) 7).toInt := by rcases f420 with q | q <;> first | (exfalso; omega) | (rw [m415]; exact q.2.2)
          have R451 : mR o H69 := mR_set u1.toInt.toNat (v418.toInt - 1).toNat (k8 := (88 + u1.toInt).toNat) (kr := (r419.toInt).toNat) (kn := (1 + r419.toInt).toNat) (by omega) (by omega) (by omega) (by omega) (by omega) R416 (by rw [mv418]; omega) hl452 (by rw [m450, m449]) (by have q := mR_pair u1.toInt.toNat (v418.toInt - 1).toNat (k8 := (88 + u1.toInt).toNat) (kr := (r419.toInt).toNat) (kn := (1 + r419.toInt).toNat) (by omega) (by omega) (by omega) (by omega) (by omega) R416 (by rw [mv418]; omega); rw [hl452, m415] at q; rw [m450]; omega) (fun j hj k0 k1 => z443 j hj k1 k0)
          exact hret _ _ _ _ hT69 hS69 ⟨trivial, ⟨R451, z442⟩⟩ dX11_comesHome_187
        · skip
          have c422 : r419.toInt = (-1 : Int) := congrArg Int32.toInt c422
          refine lv_iload_n hx hb dX11_comesHome_138 rfl (lv_at hl 4 rfl) ?_
          refine lv_aload_n hx hb dX11_comesHome_139 rfl (lv_at hl 3 rfl) ?_
          refine lv_bipush (v := 88) hx hb dX11_comesHome_140 (by decide) ?_
          refine lv_iload_n hx hb dX11_comesHome_142 rfl (lv_at hl 4 rfl) ?_
          refine lv_iadd hx hb dX11_comesHome_143 ?_
          obtain ⟨x453, qx453, ix453⟩ := h_addX 88 u1 (88 : Int) u1.toInt rfl rfl (by omega) (by omega)
          refine h_top (v := x453) qx453 ?_
          refine h_callVi (T := TX11) (rest := [.int u1]) (As := [.int x453]) hx hb hml hown hts hK hT66 hZ (fun _ h => h) hS67 (c_of l G Y P (o) hM x453 (88 + u1.toInt).toNat (show x453.toInt.toNat = (88 + u1.toInt).toNat from by omega) (h_vin (by omega) (by omega))) trivial wd_X11_of wV_X11_of wL_X11_47 (hM.o rfl) rfl rfl hl.1 rfl (Nat.le_of_ble_eq_true rfl) dX11_comesHome_144 ⟨Nat.le_of_ble_eq_true rfl, Nat.le_of_ble_eq_true rfl⟩ ⟨Nat.zero_le _, Nat.zero_le _⟩ (fun r454 H71 locs hp71 hT71 hS71 hk71 => ?_)
          obtain ⟨hp71, he⟩ := hp71
          have he := he.symm
          subst he
          have hp71 : v418 = r454 := (hp71.1.trans mv418).symm
          subst hp71
          refine h_callSi (rest := []) (As := [.int u1, .int v418]) hx hb hml hown hts hK hT66 hZ (fun _ h => h) hS71 (c_X11_raiseAt l G Y u1 v418 (show 0 ≤ u1.toInt ∧ u1.toInt ≤ 7 from by omega) (show (-1) ≤ v418.toInt ∧ v418.toInt ≤ 8 from by omega)) trivial wd_X11_raiseAt wS_X11_raiseAt wL_X11_91 rfl hl.1 rfl (Nat.le_of_ble_eq_true rfl) dX11_comesHome_147 ⟨Nat.le_of_ble_eq_true rfl, Nat.le_of_ble_eq_true rfl⟩ ⟨Nat.zero_le _, Nat.zero_le _⟩ (fun r455 H72 locs hp72 hT72 hS72 hk72 => ?_)
          obtain ⟨hp72, he⟩ := hp72
          have he := he.symm
          subst he
          have f456 : r455.toInt = 288 + 16 * u1.toInt + 2 * v418.toInt := by have q := hp72; exact q
          refine lv_istore (lv' := [(4, .int r455), (3, .int r402), (2, .int 1), (0, .ref (o)), (1, .int u1)]) hx hb dX11_comesHome_150 hl (by decide) rfl (fun ls hl => ?_)
          refine lv_aload_n hx hb dX11_comesHome_152 rfl (lv_at hl 3 rfl) ?_
          refine lv_iload hx hb dX11_comesHome_153 (lv_at hl 0 rfl) ?_
          refine lv_aload_n hx hb dX11_comesHome_155 rfl (lv_at hl 3 rfl) ?_
          refine lv_bipush (v := 7) hx hb dX11_comesHome_156 (by decide) ?_
          refine h_callVi (T := TX11) (rest := [.int r455, .ref (o)]) (As := [.int 7]) hx hb hml hown hts hK hT66 hZ (fun _ h => h) hS72 (c_of l G Y P (o) hM 7 7 (by decide) (h_inc (by decide))) trivial wd_X11_of wV_X11_of wL_X11_47 (hM.o rfl) rfl rfl hl.1 rfl (Nat.le_of_ble_eq_true rfl) dX11_comesHome_158 ⟨Nat.le_of_ble_eq_true rfl, Nat.le_of_ble_eq_true rfl⟩ ⟨Nat.zero_le _, Nat.zero_le _⟩ (fun r457 H73 locs hp73 hT73 hS73 hk73 => ?_)
          obtain ⟨hp73, he⟩ := hp73
          have he := he.symm
          subst he
          have hp73 : r409 = r457 := (hp73.1.trans m415).symm
          subst hp73
          refine h_callVv (T := TX11) (rest := []) (As := [.int r455, .int r409]) hx hb hml hown hts hK hT66 hZ (fun _ h => h) hS73 (c_puts l G Y P (o) hM r455 r409 (288 + 16 * u1.toInt + 2 * v418.toInt).toNat (show r455.toInt.toNat = (288 + 16 * u1.toInt + 2 * v418.toInt).toNat from by omega) (h_vin (by omega) (by omega)) (mP_of7 (by omega) (show 0 ≤ r409.toInt from by omega) (show r409.toInt ≤ 7 from by omega))) trivial wd_X11_puts wV_X11_puts wL_X11_43 (hM.o rfl) rfl rfl hl.1 rfl (Nat.le_of_ble_eq_true rfl) dX11_comesHome_161 ⟨Nat.le_of_ble_eq_true rfl, Nat.le_of_ble_eq_true rfl⟩ ⟨Nat.zero_le _, Nat.zero_le _⟩ (fun H74 locs hp74 hT74 hS74 hk74 => ?_)
          have hp74 : h_apu H66 H74 (o + 1) (288 + 16 * u1.toInt + 2 * v418.toInt).toNat (.int r409) := hp74.2
          have z458 : ∀ j : Nat, (j = 0 ∨ 600 ≤ j) → h_ai H74 (o + 1) j = h_ai H0 (o + 1) j := fun j hj => (h_apn hp74 (by omega)).trans (z411 j hj)
          have z459 : ∀ j : Nat, mK j → j ≠ (288 + 16 * u1.toInt + 2 * v418.toInt).toNat → h_ai H74 (o + 1) j = h_ai H66 (o + 1) j := fun j hj k0 => (h_apn hp74 k0)
          have m460 : h_ai H74 (o + 1) 0 = v1 := (h_apn hp74 (by omega)).trans m412
          have m461 : h_ai H74 (o + 1) 5 = 1 := (h_apn hp74 (by omega)).trans m413
          have m462 : h_ai H74 (o + 1) 9 = 0 := (h_apn hp74 (by omega)).trans m414
          have m463 : h_ai H74 (o + 1) 7 = r409 := (h_apn hp74 (by omega)).trans m415
          have m464 : h_ai H74 (o + 1) 8 = 0 := (h_apn hp74 (by omega)).trans m417
          have m465 : h_ai H74 (o + 1) (88 + u1.toInt).toNat = v418 := (h_apn hp74 (by omega)).trans mv418
          have m466 : h_ai H74 (o + 1) (288 + 16 * u1.toInt + 2 * v418.toInt).toNat = r409 := h_aps hp74
          refine lv_aload_n hx hb dX11_comesHome_164 rfl (lv_at hl 3 rfl) ?_
          refine lv_bipush (v := 88) hx hb dX11_comesHome_165 (by decide) ?_
          refine lv_iload_n hx hb dX11_comesHome_167 rfl (lv_at hl 4 rfl) ?_
          refine lv_iadd hx hb dX11_comesHome_168 ?_
          refine h_top (v := x453) (h_addE 88 u1 x453 (88 : Int) u1.toInt rfl rfl (by omega) (by omega) (by omega)) ?_
          refine lv_iconst (v := 1) hx hb dX11_comesHome_169 (by decide) ?_
          obtain ⟨x467, qx467, ix467⟩ := h_addX v418 1 v418.toInt (1 : Int) rfl rfl (by omega) (by omega)
          refine h_callVv (T := TX11) (rest := []) (As := [.int x453, .int 1]) hx hb hml hown hts hK hT74 hZ (fun _ h => h) hS74 (c_adds l G Y P (o) hM x453 1 (88 + u1.toInt).toNat (show x453.toInt.toNat = (88 + u1.toInt).toNat from by omega) (h_vin (by omega) (by omega))) (show mP (88 + u1.toInt).toNat (h_ai H74 (o + 1) (88 + u1.toInt).toNat + 1) from (by rw [m465, qx467]; exact (mP_of8 (by omega) (show 0 ≤ x467.toInt from by omega) (show x467.toInt ≤ 8 from by omega)))) wd_X11_adds wV_X11_adds wL_X11_69 (hM.o rfl) rfl rfl hl.1 rfl (Nat.le_of_ble_eq_true rfl) dX11_comesHome_170 ⟨Nat.le_of_ble_eq_true rfl, Nat.le_of_ble_eq_true rfl⟩ ⟨Nat.zero_le _, Nat.zero_le _⟩ (fun H75 locs hp75 hT75 hS75 hk75 => ?_)
          have hp75 : h_apu H74 H75 (o + 1) (88 + u1.toInt).toNat (.int (h_ai H74 (o + 1) (88 + u1.toInt).toNat + 1)) := hp75.2
          rw [show h_ai H74 (o + 1) (88 + u1.toInt).toNat + 1 = x467 from (by rw [m465]; exact qx467)] at hp75
          have hp75 : h_apu H74 H75 (o + 1) (88 + u1.toInt).toNat (.int x467) := hp75
          have z468 : ∀ j : Nat, (j = 0 ∨ 600 ≤ j) → h_ai H75 (o + 1) j = h_ai H0 (o + 1) j := fun j hj => (h_apn hp75 (by omega)).trans (z458 j hj)
          have z469 : ∀ j : Nat, mK j → j ≠ (288 + 16 * u1.toInt + 2 * v418.toInt).toNat → j ≠ (88 + u1.toInt).toNat → h_ai H75 (o + 1) j = h_ai H66 (o + 1) j := fun j hj k0 k1 => (h_apn hp75 k1).trans (z459 j hj k0)
          have m470 : h_ai H75 (o + 1) 0 = v1 := (h_apn hp75 (by omega)).trans m460
          have m471 : h_ai H75 (o + 1) 5 = 1 := (h_apn hp75 (by omega)).trans m461
          have m472 : h_ai H75 (o + 1) 9 = 0 := (h_apn hp75 (by omega)).trans m462
          have m473 : h_ai H75 (o + 1) 7 = r409 := (h_apn hp75 (by omega)).trans m463
          have m474 : h_ai H75 (o + 1) 8 = 0 := (h_apn hp75 (by omega)).trans m464
          have m475 : h_ai H75 (o + 1) (288 + 16 * u1.toInt + 2 * v418.toInt).toNat = r409 := (h_apn hp75 (by omega)).trans m466
          have m476 : h_ai H75 (o + 1) (88 + u1.toInt).toNat = x467 := h_aps hp75
          refine lv_aload_n hx hb dX11_comesHome_173 rfl (lv_at hl 3 rfl) ?_
          refine lv_iload hx hb dX11_comesHome_174 (lv_at hl 0 rfl) ?_
          refine lv_iconst (v := 1) hx hb dX11_comesHome_176 (by decide) ?_
          refine lv_iadd hx hb dX11_comesHome_177 ?_
          obtain ⟨x477, qx477, ix477⟩ := h_addX r455 1 r455.toInt (1 : Int) rfl rfl (by omega) (by omega)
          refine h_top (v := x477) qx477 ?_
          refine lv_iload_n hx hb dX11_comesHome_178 rfl (lv_at hl 1 rfl) ?_
          refine h_callVv (T := TX11) (rest := []) (As := [.int x477, .int r402]) hx hb hml hown hts hK hT75 hZ (fun _ h => h) hS75 (c_puts l G Y P (o) hM x477 r402 (289 + 16 * u1.toInt + 2 * v418.toInt).toNat (show x477.toInt.toNat = (289 + 16 * u1.toInt + 2 * v418.toInt).toNat from by omega) (h_vin (by omega) (by omega)) (mP_of7 (by omega) (show 0 ≤ r402.toInt from by omega) (show r402.toInt ≤ 7 from by omega))) trivial wd_X11_puts wV_X11_puts wL_X11_43 (hM.o rfl) rfl rfl hl.1 rfl (Nat.le_of_ble_eq_true rfl) dX11_comesHome_179 ⟨Nat.le_of_ble_eq_true rfl, Nat.le_of_ble_eq_true rfl⟩ ⟨Nat.zero_le _, Nat.zero_le _⟩ (fun H76 locs hp76 hT76 hS76 hk76 => ?_)
          have hp76 : h_apu H75 H76 (o + 1) (289 + 16 * u1.toInt + 2 * v418.toInt).toNat (.int r402) := hp76.2
          have z478 : ∀ j : Nat, (j = 0 ∨ 600 ≤ j) → h_ai H76 (o + 1) j = h_ai H0 (o + 1) j := fun j hj => (h_apn hp76 (by omega)).trans (z468 j hj)
          have z479 : ∀ j : Nat, mK j → j ≠ (288 + 16 * u1.toInt + 2 * v418.toInt).toNat → j ≠ (88 + u1.toInt).toNat → j ≠ (289 + 16 * u1.toInt + 2 * v418.toInt).toNat → h_ai H76 (o + 1) j = h_ai H66 (o + 1) j := fun j hj k0 k1 k2 => (h_apn hp76 k2).trans (z469 j hj k0 k1)
          have m480 : h_ai H76 (o + 1) 0 = v1 := (h_apn hp76 (by omega)).trans m470
          have m481 : h_ai H76 (o + 1) 5 = 1 := (h_apn hp76 (by omega)).trans m471
          have m482 : h_ai H76 (o + 1) 9 = 0 := (h_apn hp76 (by omega)).trans m472
          have m483 : h_ai H76 (o + 1) 7 = r409 := (h_apn hp76 (by omega)).trans m473
          have m484 : h_ai H76 (o + 1) 8 = 0 := (h_apn hp76 (by omega)).trans m474
          have m485 : h_ai H76 (o + 1) (288 + 16 * u1.toInt + 2 * v418.toInt).toNat = r409 := (h_apn hp76 (by omega)).trans m475
          have m486 : h_ai H76 (o + 1) (88 + u1.toInt).toNat = x467 := (h_apn hp76 (by omega)).trans m476
          have m487 : h_ai H76 (o + 1) (289 + 16 * u1.toInt + 2 * v418.toInt).toNat = r402 := h_aps hp76
          refine lv_aload_n hx hb dX11_comesHome_182 rfl (lv_at hl 3 rfl) ?_
          refine lv_iload_n hx hb dX11_comesHome_183 rfl (lv_at hl 1 rfl) ?_
          refine h_callVv (T := TX11) (rest := []) (As := [.int r402]) hx hb hml hown hts hK hT76 hZ (fun _ h => h) hS76 (c_X11_isLevel l G Y P (o) hM r402 (show 0 ≤ r402.toInt ∧ r402.toInt ≤ 7 from by omega)) trivial wd_X11_isLevel wV_X11_isLevel wL_X11_103 (hM.o rfl) rfl rfl hl.1 rfl (Nat.le_of_ble_eq_true rfl) dX11_comesHome_184 ⟨Nat.le_of_ble_eq_true rfl, Nat.le_of_ble_eq_true rfl⟩ ⟨Nat.zero_le _, Nat.zero_le _⟩ (fun H77 locs hp77 hT77 hS77 hk77 => ?_)
          obtain ⟨hp77, hB77⟩ := hp77
          obtain ⟨H78, v78, hp78, hq78⟩ := hB77
          have z488 : ∀ j : Nat, (j = 0 ∨ 600 ≤ j) → h_ai H78 (o + 1) j = h_ai H0 (o + 1) j := fun j hj => (h_apn hp78 (by omega)).trans (z478 j hj)
          have z489 : ∀ j : Nat, mK j → j ≠ (288 + 16 * u1.toInt + 2 * v418.toInt).toNat → j ≠ (88 + u1.toInt).toNat → j ≠ (289 + 16 * u1.toInt + 2 * v418.toInt).toNat → j ≠ 7 → h_ai H78 (o + 1) j = h_ai H66 (o + 1) j := fun j hj k0 k1 k2 k3 => (h_apn hp78 k3).trans (z479 j hj k0 k1 k2)
          have m490 : h_ai H78 (o + 1) 0 = v1 := (h_apn hp78 (by omega)).trans m480
          have m491 : h_ai H78 (o + 1) 5 = 1 := (h_apn hp78 (by omega)).trans m481
          have m492 : h_ai H78 (o + 1) 9 = 0 := (h_apn hp78 (by omega)).trans m482
          have m493 : h_ai H78 (o + 1) 8 = 0 := (h_apn hp78 (by omega)).trans m484
          have m494 : h_ai H78 (o + 1) (288 + 16 * u1.toInt + 2 * v418.toInt).toNat = r409 := (h_apn hp78 (by omega)).trans m485
          have m495 : h_ai H78 (o + 1) (88 + u1.toInt).toNat = x467 := (h_apn hp78 (by omega)).trans m486
          have m496 : h_ai H78 (o + 1) (289 + 16 * u1.toInt + 2 * v418.toInt).toNat = r402 := (h_apn hp78 (by omega)).trans m487
          have m497 : h_ai H78 (o + 1) 7 = r402 := h_aps hp78
          have z498 : ∀ j : Nat, (j = 0 ∨ 600 ≤ j) → h_ai H77 (o + 1) j = h_ai H0 (o + 1) j := fun j hj => (h_apn hq78 (by omega)).trans (z488 j hj)
          have z499 : ∀ j : Nat, mK j → j ≠ (288 + 16 * u1.toInt + 2 * v418.toInt).toNat → j ≠ (88 + u1.toInt).toNat → j ≠ (289 + 16 * u1.toInt + 2 * v418.toInt).toNat → j ≠ 7 → h_ai H77 (o + 1) j = h_ai H66 (o + 1) j := fun j hj k0 k1 k2 k3 => (h_apn hq78 (by unfold mK at hj; omega)).trans (z489 j hj k0 k1 k2 k3)
          have m500 : h_ai H77 (o + 1) 0 = v1 := (h_apn hq78 (by omega)).trans m490
          have m501 : h_ai H77 (o + 1) 5 = 1 := (h_apn hq78 (by omega)).trans m491
          have m502 : h_ai H77 (o + 1) 9 = 0 := (h_apn hq78 (by omega)).trans m492
          have m503 : h_ai H77 (o + 1) 8 = 0 := (h_apn hq78 (by omega)).trans m493
          have m504 : h_ai H77 (o + 1) (288 + 16 * u1.toInt + 2 * v418.toInt).toNat = r409 := (h_apn hq78 (by omega)).trans m494
          have m505 : h_ai H77 (o + 1) (88 + u1.toInt).toNat = x467 := (h_apn hq78 (by omega)).trans m495
          have m506 : h_ai H77 (o + 1) (289 + 16 * u1.toInt + 2 * v418.toInt).toNat = r402 := (h_apn hq78 (by omega)).trans m496
          have m507 : h_ai H77 (o + 1) 7 = r402 := (h_apn hq78 (by omega)).trans m497
          have R508 : mR o H77 := mR_push u1.toInt.toNat v418.toInt.toNat (k8 := (88 + u1.toInt).toNat) (kr := (288 + 16 * u1.toInt + 2 * v418.toInt).toNat) (kn := (289 + 16 * u1.toInt + 2 * v418.toInt).toNat) (by omega) (by omega) (by omega) (by omega) (by omega) R416 (by rw [mv418]; omega) (by rw [m412]; omega) (by rw [m415, m507]; omega) (by rw [m504, m415]) (by rw [m506, m507]) (by rw [m505]; omega) (fun j hj k0 k1 k2 k3 => z499 j hj k2 k1 k3 k0)
          exact hret _ _ _ _ hT77 hS77 ⟨trivial, ⟨R508, z498⟩⟩ dX11_comesHome_187
      · skip
        have c410 : ¬ r409.toInt < r402.toInt := h_nltI c410
        exact hret _ _ _ _ hT64 hS65 ⟨trivial, ⟨R407, z403⟩⟩ dX11_comesHome_117
set_option maxHeartbeats 4000000 in
set_option maxRecDepth 100000 in
theorem c_X11_frameAt (l : Launch) (G : hG) (Y : hW) (P : Int32 → Prop) (o : Nat) (hM : h_On Y o (modE (tM P) o)) (u1 : Int32) (hu1 : 0 ≤ u1.toInt ∧ u1.toInt ≤ 7) : hMv l yX11_frameAt cX11_frameAt 2 none 4 89 G Y [.ref (o), .int u1] (fun H => (mR o H) ∧ (u1.toInt < (h_ai H (o + 1) 0).toInt)) (fun H H1 => (True) ∧ (mR o H1 ∧ mU o H H1)) := by
  refine h_ofv (by decide +kernel) (Nat.le_of_ble_eq_true rfl) ?_
  intro p e s m args below meth c H0 ls Q hx hb hts hown hml hK hZ hT0 hpr hS0 hl hret
  have hl : lv_has ls 2 [(0, .ref (o)), (1, .int u1)] := hl
  obtain ⟨v1, mv1⟩ : ∃ x, h_ai H0 (o + 1) 0 = x := ⟨_, rfl⟩
  have bv1 := mP_N (mP_cell hM hT0 (j := 0) (by omega)) (by omega)
  rw [mv1] at bv1
  have g2 : u1.toInt < v1.toInt := by have q := hpr.2; rw [mv1] at q; exact q
  refine lv_aload_n hx hb dX11_frameAt_0 rfl (lv_at hl 0 rfl) ?_
  refine lv_bipush (v := 10) hx hb dX11_frameAt_1 (by decide) ?_
  refine h_callVi (T := TX11) (rest := []) (As := [.int 10]) hx hb hml hown hts hK hT0 hZ (fun _ h => h) hS0 (c_of l G Y P (o) hM 10 10 (by decide) (h_inc (by decide))) trivial wd_X11_of wV_X11_of wL_X11_47 (hM.o rfl) rfl rfl hl.1 rfl (Nat.le_of_ble_eq_true rfl) dX11_frameAt_3 ⟨Nat.le_of_ble_eq_true rfl, Nat.le_of_ble_eq_true rfl⟩ ⟨Nat.zero_le _, Nat.zero_le _⟩ (fun r3 H1 locs hp1 hT1 hS1 hk1 => ?_)
  obtain ⟨hp1, he⟩ := hp1
  have he := he.symm
  subst he
  have mr3 : h_ai H0 (o + 1) 10 = r3 := hp1.1.symm
  refine lv_iload_n hx hb dX11_frameAt_6 rfl (lv_at hl 1 rfl) ?_
  refine lv_icmp_ne (tgt := 16) hx hb dX11_frameAt_7 (by decide) (fun c4 => ?_) (fun c4 => ?_)
  · skip
    have c4 : ¬ r3.toInt = u1.toInt := h_neI c4
    refine lv_aload_n hx hb dX11_frameAt_16 rfl (lv_at hl 0 rfl) ?_
    refine lv_bipush (v := 11) hx hb dX11_frameAt_17 (by decide) ?_
    refine h_callVi (T := TX11) (rest := []) (As := [.int 11]) hx hb hml hown hts hK hT0 hZ (fun _ h => h) hS1 (c_of l G Y P (o) hM 11 11 (by decide) (h_inc (by decide))) trivial wd_X11_of wV_X11_of wL_X11_47 (hM.o rfl) rfl rfl hl.1 rfl (Nat.le_of_ble_eq_true rfl) dX11_frameAt_19 ⟨Nat.le_of_ble_eq_true rfl, Nat.le_of_ble_eq_true rfl⟩ ⟨Nat.zero_le _, Nat.zero_le _⟩ (fun r5 H2 locs hp2 hT2 hS2 hk2 => ?_)
    obtain ⟨hp2, he⟩ := hp2
    have he := he.symm
    subst he
    have mr5 : h_ai H0 (o + 1) 11 = r5 := hp2.1.symm
    have br5 := mP_l hp2.2 (by omega)
    refine lv_iload_n hx hb dX11_frameAt_22 rfl (lv_at hl 1 rfl) ?_
    refine lv_icmp_ne (tgt := 33) hx hb dX11_frameAt_23 (by decide) (fun c6 => ?_) (fun c6 => ?_)
    · skip
      have c6 : ¬ r5.toInt = u1.toInt := h_neI c6
      refine lv_aload_n hx hb dX11_frameAt_33 rfl (lv_at hl 0 rfl) ?_
      refine lv_iload_n hx hb dX11_frameAt_34 rfl (lv_at hl 1 rfl) ?_
      refine h_callVv (T := TX11) (rest := []) (As := [.int u1]) hx hb hml hown hts hK hT0 hZ (fun _ h => h) hS2 (c_X11_wishes l G Y P (o) hM u1 (show 0 ≤ u1.toInt ∧ u1.toInt ≤ 7 from by omega)) trivial wd_X11_wishes wV_X11_wishes wL_X11_106 (hM.o rfl) rfl rfl hl.1 rfl (Nat.le_of_ble_eq_true rfl) dX11_frameAt_35 ⟨Nat.le_of_ble_eq_true rfl, Nat.le_of_ble_eq_true rfl⟩ ⟨Nat.zero_le _, Nat.zero_le _⟩ (fun H3 locs hp3 hT3 hS3 hk3 => ?_)
      obtain ⟨hp3, hB3⟩ := hp3
      have z7 : ∀ j : Nat, (j = 0 ∨ 600 ≤ j) → h_ai H3 (o + 1) j = h_ai H0 (o + 1) j := fun j hj => (hB3 j (by unfold mK; omega))
      have m8 : h_ai H3 (o + 1) 0 = v1 := (hB3 _ (by unfold mK; omega)).trans mv1
      have R9 : mR o H3 := hpr.1.keep hB3
      exact hret _ _ _ _ hT3 hS3 ⟨trivial, ⟨R9, z7⟩⟩ dX11_frameAt_38
    · skip
      have c6 : r5.toInt = u1.toInt := congrArg Int32.toInt c6
      refine lv_aload_n hx hb dX11_frameAt_26 rfl (lv_at hl 0 rfl) ?_
      refine lv_bipush (v := 13) hx hb dX11_frameAt_27 (by decide) ?_
      refine lv_iconst (v := 1) hx hb dX11_frameAt_29 (by decide) ?_
      refine h_callVv (T := TX11) (rest := []) (As := [.int 13, .int 1]) hx hb hml hown hts hK hT0 hZ (fun _ h => h) hS2 (c_puts l G Y P (o) hM 13 1 13 (by decide) (h_inc (by decide)) (mP_free (by unfold mFree; omega))) trivial wd_X11_puts wV_X11_puts wL_X11_43 (hM.o rfl) rfl rfl hl.1 rfl (Nat.le_of_ble_eq_true rfl) dX11_frameAt_30 ⟨Nat.le_of_ble_eq_true rfl, Nat.le_of_ble_eq_true rfl⟩ ⟨Nat.zero_le _, Nat.zero_le _⟩ (fun H4 locs hp4 hT4 hS4 hk4 => ?_)
      have hp4 : h_apu H0 H4 (o + 1) 13 (.int 1) := hp4.2
      have z10 : ∀ j : Nat, (j = 0 ∨ 600 ≤ j) → h_ai H4 (o + 1) j = h_ai H0 (o + 1) j := fun j hj => (h_apn hp4 (by omega))
      have m11 : h_ai H4 (o + 1) 0 = v1 := (h_apn hp4 (by omega)).trans mv1
      have m12 : h_ai H4 (o + 1) 10 = r3 := (h_apn hp4 (by omega)).trans mr3
      have m13 : h_ai H4 (o + 1) 11 = r5 := (h_apn hp4 (by omega)).trans mr5
      have R14 : mR o H4 := hpr.1.keep (fun j hj => h_apn hp4 (by unfold mK at hj; omega))
      have m15 : h_ai H4 (o + 1) 13 = 1 := h_aps hp4
      refine lv_aload_n hx hb dX11_frameAt_33 rfl (lv_at hl 0 rfl) ?_
      refine lv_iload_n hx hb dX11_frameAt_34 rfl (lv_at hl 1 rfl) ?_
      refine h_callVv (T := TX11) (rest := []) (As := [.int u1]) hx hb hml hown hts hK hT4 hZ (fun _ h => h) hS4 (c_X11_wishes l G Y P (o) hM u1 (show 0 ≤ u1.toInt ∧ u1.toInt ≤ 7 from by omega)) trivial wd_X11_wishes wV_X11_wishes wL_X11_106 (hM.o rfl) rfl rfl hl.1 rfl (Nat.le_of_ble_eq_true rfl) dX11_frameAt_35 ⟨Nat.le_of_ble_eq_true rfl, Nat.le_of_ble_eq_true rfl⟩ ⟨Nat.zero_le _, Nat.zero_le _⟩ (fun H5 locs hp5 hT5 hS5 hk5 => ?_)
      obtain ⟨hp5, hB5⟩ := hp5
      have z16 : ∀ j : Nat, (j = 0 ∨ 600 ≤ j) → h_ai H5 (o + 1) j = h_ai H0 (o + 1) j := fun j hj => (hB5 j (by unfold mK; omega)).trans (z10 j hj)
      have m17 : h_ai H5 (o + 1) 0 = v1 := (hB5 _ (by unfold mK; omega)).trans m11
      have R18 : mR o H5 := R14.keep hB5
      exact hret _ _ _ _ hT5 hS5 ⟨trivial, ⟨R18, z16⟩⟩ dX11_frameAt_38
  · skip
    have c4 : r3.toInt = u1.toInt := congrArg Int32.toInt c4
    refine lv_aload_n hx hb dX11_frameAt_10 rfl (lv_at hl 0 rfl) ?_
    refine lv_iload_n hx hb dX11_frameAt_11 rfl (lv_at hl 1 rfl) ?_
    refine h_callVv (T := TX11) (rest := []) (As := [.int u1]) hx hb hml hown hts hK hT0 hZ (fun _ h => h) hS1 (c_X11_comesHome l G Y P (o) hM u1 (show 0 ≤ u1.toInt ∧ u1.toInt ≤ 7 from by omega)) ⟨hpr.1, (show u1.toInt < (h_ai H0 (o + 1) 0).toInt from by rw [mv1]; exact (show u1.toInt < v1.toInt from by omega))⟩ wd_X11_comesHome wV_X11_comesHome wL_X11_118 (hM.o rfl) rfl rfl hl.1 rfl (Nat.le_of_ble_eq_true rfl) dX11_frameAt_12 ⟨Nat.le_of_ble_eq_true rfl, Nat.le_of_ble_eq_true rfl⟩ ⟨Nat.zero_le _, Nat.zero_le _⟩ (fun H6 locs hp6 hT6 hS6 hk6 => ?_)
    obtain ⟨hp6, hB6⟩ := hp6
    have z19 : ∀ j : Nat, (j = 0 ∨ 600 ≤ j) → h_ai H6 (o + 1) j = h_ai H0 (o + 1) j := fun j hj => (hB6.2 j hj)
    have m20 : h_ai H6 (o + 1) 0 = v1 := (hB6.2 _ (by omega)).trans mv1
    have R21 : mR o H6 := hB6.1
    exact hret _ _ _ _ hT6 hS6 ⟨trivial, ⟨R21, z19⟩⟩ dX11_frameAt_15
set_option maxHeartbeats 4000000 in
set_option maxRecDepth 100000 in
theorem c_X11_goesOn (l : Launch) (G : hG) (Y : hW) (P : Int32 → Prop) (o : Nat) (hM : h_On Y o (modE (tM P) o)) : hMv l yX11_goesOn cX11_goesOn 2 none 5 110 G Y [.ref (o)] (fun H => mR o H) (fun H H1 => (True) ∧ (mR o H1 ∧ mU o H H1)) := by
  refine h_ofv (by decide +kernel) (Nat.le_of_ble_eq_true rfl) ?_
  intro p e s m args below meth c H0 ls Q hx hb hts hown hml hK hZ hT0 hpr hS0 hl hret
  have hl : lv_has ls 2 [(0, .ref (o))] := hl
  refine lv_aload_n hx hb dX11_goesOn_0 rfl (lv_at hl 0 rfl) ?_
  refine lv_aload_n hx hb dX11_goesOn_1 rfl (lv_at hl 0 rfl) ?_
  refine lv_bipush (v := 6) hx hb dX11_goesOn_2 (by decide) ?_
  refine h_callVi (T := TX11) (rest := [.ref (o)]) (As := [.int 6]) hx hb hml hown hts hK hT0 hZ (fun _ h => h) hS0 (c_of l G Y P (o) hM 6 6 (by decide) (h_inc (by decide))) trivial wd_X11_of wV_X11_of wL_X11_47 (hM.o rfl) rfl rfl hl.1 rfl (Nat.le_of_ble_eq_true rfl) dX11_goesOn_4 ⟨Nat.le_of_ble_eq_true rfl, Nat.le_of_ble_eq_true rfl⟩ ⟨Nat.zero_le _, Nat.zero_le _⟩ (fun r1 H1 locs hp1 hT1 hS1 hk1 => ?_)
  obtain ⟨hp1, he⟩ := hp1
  have he := he.symm
  subst he
  have mr1 : h_ai H0 (o + 1) 6 = r1 := hp1.1.symm
  have br1 := mP_m1 hp1.2 (by omega)
  refine lv_iconst (v := 1) hx hb dX11_goesOn_7 (by decide) ?_
  obtain ⟨v2, mv2⟩ : ∃ x, h_ai H0 (o + 1) 0 = x := ⟨_, rfl⟩
  have bv2 := mP_N (mP_cell hM hT0 (j := 0) (by omega)) (by omega)
  rw [mv2] at bv2
  refine h_callVi (T := TX11) (rest := []) (As := [.int r1, .int 1]) hx hb hml hown hts hK hT0 hZ (fun _ h => h) hS1 (c_X11_nextOn l G Y P (o) hM r1 1) trivial wd_X11_nextOn wV_X11_nextOn wL_X11_121 (hM.o rfl) rfl rfl hl.1 rfl (Nat.le_of_ble_eq_true rfl) dX11_goesOn_8 ⟨Nat.le_of_ble_eq_true rfl, Nat.le_of_ble_eq_true rfl⟩ ⟨Nat.zero_le _, Nat.zero_le _⟩ (fun r3 H2 locs hp2 hT2 hS2 hk2 => ?_)
  obtain ⟨hp2, he⟩ := hp2
  have he := he.symm
  subst he
  have f4 : r3.toInt = -1 ∨ (0 ≤ r3.toInt ∧ r3.toInt < v2.toInt) := by have q := hp2; rw [mv2] at q; exact q
  refine lv_istore_n (lv' := [(1, .int r3), (0, .ref (o))]) hx hb dX11_goesOn_11 rfl hl (by decide) rfl (fun ls hl => ?_)
  refine lv_iload_n hx hb dX11_goesOn_12 rfl (lv_at hl 0 rfl) ?_
  refine lv_iconst (v := (-1)) hx hb dX11_goesOn_13 (by decide) ?_
  refine lv_icmp_eq (tgt := 31) hx hb dX11_goesOn_14 (by decide) (fun c5 => ?_) (fun c5 => ?_)
  · skip
    have c5 : r3.toInt = (-1 : Int) := congrArg Int32.toInt c5
    refine lv_aload_n hx hb dX11_goesOn_31 rfl (lv_at hl 1 rfl) ?_
    refine h_callVv (T := TX11) (rest := []) (As := []) hx hb hml hown hts hK hT0 hZ (fun _ h => h) hS2 (c_X11_isLost l G Y P (o) hM) trivial wd_X11_isLost wV_X11_isLost wL_X11_79 (hM.o rfl) rfl rfl hl.1 rfl (Nat.le_of_ble_eq_true rfl) dX11_goesOn_32 ⟨Nat.le_of_ble_eq_true rfl, Nat.le_of_ble_eq_true rfl⟩ ⟨Nat.zero_le _, Nat.zero_le _⟩ (fun H3 locs hp3 hT3 hS3 hk3 => ?_)
    obtain ⟨hp3, hB3⟩ := hp3
    have z6 : ∀ j : Nat, (j = 0 ∨ 600 ≤ j) → h_ai H3 (o + 1) j = h_ai H0 (o + 1) j := fun j hj => (hB3 j (by unfold mK; omega))
    have m7 : h_ai H3 (o + 1) 0 = v2 := (hB3 _ (by unfold mK; omega)).trans mv2
    have R8 : mR o H3 := hpr.keep hB3
    refine lv_aload_n hx hb dX11_goesOn_35 rfl (lv_at hl 1 rfl) ?_
    refine h_callVv (T := TX11) (rest := []) (As := []) hx hb hml hown hts hK hT3 hZ (fun _ h => h) hS3 (c_X11_isSilent l G Y P (o) hM) trivial wd_X11_isSilent wV_X11_isSilent wL_X11_128 (hM.o rfl) rfl rfl hl.1 rfl (Nat.le_of_ble_eq_true rfl) dX11_goesOn_36 ⟨Nat.le_of_ble_eq_true rfl, Nat.le_of_ble_eq_true rfl⟩ ⟨Nat.zero_le _, Nat.zero_le _⟩ (fun H4 locs hp4 hT4 hS4 hk4 => ?_)
    obtain ⟨hp4, hB4⟩ := hp4
    have z9 : ∀ j : Nat, (j = 0 ∨ 600 ≤ j) → h_ai H4 (o + 1) j = h_ai H0 (o + 1) j := fun j hj => (hB4 j (by unfold mK; omega)).trans (z6 j hj)
    have m10 : h_ai H4 (o + 1) 0 = v2 := (hB4 _ (by unfold mK; omega)).trans m7
    have R11 : mR o H4 := R8.keep hB4
    exact hret _ _ _ _ hT4 hS4 ⟨trivial, ⟨R11, z9⟩⟩ dX11_goesOn_39
  · skip
    have c5 : ¬ r3.toInt = (-1 : Int) := h_neI c5
    refine lv_aload_n hx hb dX11_goesOn_17 rfl (lv_at hl 1 rfl) ?_
    refine lv_aload_n hx hb dX11_goesOn_18 rfl (lv_at hl 1 rfl) ?_
    refine lv_bipush (v := 6) hx hb dX11_goesOn_19 (by decide) ?_
    refine h_callVi (T := TX11) (rest := [.ref (o)]) (As := [.int 6]) hx hb hml hown hts hK hT0 hZ (fun _ h => h) hS2 (c_of l G Y P (o) hM 6 6 (by decide) (h_inc (by decide))) trivial wd_X11_of wV_X11_of wL_X11_47 (hM.o rfl) rfl rfl hl.1 rfl (Nat.le_of_ble_eq_true rfl) dX11_goesOn_21 ⟨Nat.le_of_ble_eq_true rfl, Nat.le_of_ble_eq_true rfl⟩ ⟨Nat.zero_le _, Nat.zero_le _⟩ (fun r12 H5 locs hp5 hT5 hS5 hk5 => ?_)
    obtain ⟨hp5, he⟩ := hp5
    have he := he.symm
    subst he
    have hp5 : r1 = r12 := (hp5.1.trans mr1).symm
    subst hp5
    refine lv_iload_n hx hb dX11_goesOn_24 rfl (lv_at hl 0 rfl) ?_
    refine h_callVi (T := TX11) (rest := []) (As := [.int r1, .int r3]) hx hb hml hown hts hK hT0 hZ (fun _ h => h) hS5 (c_X11_isBroken l G Y P (o) hM r1 r3 (show (-1) ≤ r1.toInt ∧ r1.toInt ≤ 7 from by omega) (show 0 ≤ r3.toInt ∧ r3.toInt ≤ 7 from by omega)) ⟨hpr, (show r3.toInt < (h_ai H0 (o + 1) 0).toInt from by rw [mv2]; exact (show r3.toInt < v2.toInt from by omega))⟩ wd_X11_isBroken wV_X11_isBroken wL_X11_124 (hM.o rfl) rfl rfl hl.1 rfl (Nat.le_of_ble_eq_true rfl) dX11_goesOn_25 ⟨Nat.le_of_ble_eq_true rfl, Nat.le_of_ble_eq_true rfl⟩ ⟨Nat.zero_le _, Nat.zero_le _⟩ (fun r13 H6 locs hp6 hT6 hS6 hk6 => ?_)
    obtain ⟨hp6, he⟩ := hp6
    have he := he.symm
    subst he
    refine lv_if_eq (tgt := 40) hx hb dX11_goesOn_28 (by decide) (fun c14 => ?_) (fun c14 => ?_)
    · skip
      have c14 : r13.toInt = (0 : Int) := congrArg Int32.toInt c14
      refine lv_aload_n hx hb dX11_goesOn_40 rfl (lv_at hl 1 rfl) ?_
      refine lv_bipush (v := 6) hx hb dX11_goesOn_41 (by decide) ?_
      refine lv_iload_n hx hb dX11_goesOn_43 rfl (lv_at hl 0 rfl) ?_
      refine h_callVv (T := TX11) (rest := []) (As := [.int 6, .int r3]) hx hb hml hown hts hK hT0 hZ (fun _ h => h) hS6 (c_puts l G Y P (o) hM 6 r3 6 (by decide) (h_inc (by decide)) (mP_of1 (by omega) (show -1 ≤ r3.toInt from by omega) (show r3.toInt ≤ 7 from by omega))) trivial wd_X11_puts wV_X11_puts wL_X11_43 (hM.o rfl) rfl rfl hl.1 rfl (Nat.le_of_ble_eq_true rfl) dX11_goesOn_44 ⟨Nat.le_of_ble_eq_true rfl, Nat.le_of_ble_eq_true rfl⟩ ⟨Nat.zero_le _, Nat.zero_le _⟩ (fun H7 locs hp7 hT7 hS7 hk7 => ?_)
      have hp7 : h_apu H0 H7 (o + 1) 6 (.int r3) := hp7.2
      have z15 : ∀ j : Nat, (j = 0 ∨ 600 ≤ j) → h_ai H7 (o + 1) j = h_ai H0 (o + 1) j := fun j hj => (h_apn hp7 (by omega))
      have m16 : h_ai H7 (o + 1) 0 = v2 := (h_apn hp7 (by omega)).trans mv2
      have R17 : mR o H7 := hpr.keep (fun j hj => h_apn hp7 (by unfold mK at hj; omega))
      have m18 : h_ai H7 (o + 1) 6 = r3 := h_aps hp7
      refine lv_iload_n hx hb dX11_goesOn_47 rfl (lv_at hl 0 rfl) ?_
      refine lv_aload_n hx hb dX11_goesOn_48 rfl (lv_at hl 1 rfl) ?_
      refine lv_iconst (v := 1) hx hb dX11_goesOn_49 (by decide) ?_
      refine h_callVi (T := TX11) (rest := [.int r3]) (As := [.int 1]) hx hb hml hown hts hK hT7 hZ (fun _ h => h) hS7 (c_of l G Y P (o) hM 1 1 (by decide) (h_inc (by decide))) trivial wd_X11_of wV_X11_of wL_X11_47 (hM.o rfl) rfl rfl hl.1 rfl (Nat.le_of_ble_eq_true rfl) dX11_goesOn_50 ⟨Nat.le_of_ble_eq_true rfl, Nat.le_of_ble_eq_true rfl⟩ ⟨Nat.zero_le _, Nat.zero_le _⟩ (fun r19 H8 locs hp8 hT8 hS8 hk8 => ?_)
      obtain ⟨hp8, he⟩ := hp8
      have he := he.symm
      subst he
      have mr19 : h_ai H7 (o + 1) 1 = r19 := hp8.1.symm
      have br19 := mP_m1 hp8.2 (by omega)
      refine lv_icmp_ne (tgt := 96) hx hb dX11_goesOn_53 (by decide) (fun c20 => ?_) (fun c20 => ?_)
      · skip
        have c20 : ¬ r3.toInt = r19.toInt := h_neI c20
        refine lv_aload_n hx hb dX11_goesOn_96 rfl (lv_at hl 1 rfl) ?_
        refine lv_iconst (v := 5) hx hb dX11_goesOn_97 (by decide) ?_
        refine h_callVi (T := TX11) (rest := []) (As := [.int 5]) hx hb hml hown hts hK hT7 hZ (fun _ h => h) hS8 (c_of l G Y P (o) hM 5 5 (by decide) (h_inc (by decide))) trivial wd_X11_of wV_X11_of wL_X11_47 (hM.o rfl) rfl rfl hl.1 rfl (Nat.le_of_ble_eq_true rfl) dX11_goesOn_98 ⟨Nat.le_of_ble_eq_true rfl, Nat.le_of_ble_eq_true rfl⟩ ⟨Nat.zero_le _, Nat.zero_le _⟩ (fun r21 H9 locs hp9 hT9 hS9 hk9 => ?_)
        obtain ⟨hp9, he⟩ := hp9
        have he := he.symm
        subst he
        have mr21 : h_ai H7 (o + 1) 5 = r21 := hp9.1.symm
        refine lv_iconst (v := 1) hx hb dX11_goesOn_101 (by decide) ?_
        refine lv_icmp_ne (tgt := 113) hx hb dX11_goesOn_102 (by decide) (fun c22 => ?_) (fun c22 => ?_)
        · skip
          have c22 : ¬ r21.toInt = (1 : Int) := h_neI c22
          refine lv_aload_n hx hb dX11_goesOn_113 rfl (lv_at hl 1 rfl) ?_
          refine lv_iload_n hx hb dX11_goesOn_114 rfl (lv_at hl 0 rfl) ?_
          refine h_callVv (T := TX11) (rest := []) (As := [.int r3]) hx hb hml hown hts hK hT7 hZ (fun _ h => h) hS9 (c_X11_frameAt l G Y P (o) hM r3 (show 0 ≤ r3.toInt ∧ r3.toInt ≤ 7 from by omega)) ⟨R17, (show r3.toInt < (h_ai H7 (o + 1) 0).toInt from by rw [m16]; exact (show r3.toInt < v2.toInt from by omega))⟩ wd_X11_frameAt wV_X11_frameAt wL_X11_137 (hM.o rfl) rfl rfl hl.1 rfl (Nat.le_of_ble_eq_true rfl) dX11_goesOn_115 ⟨Nat.le_of_ble_eq_true rfl, Nat.le_of_ble_eq_true rfl⟩ ⟨Nat.zero_le _, Nat.zero_le _⟩ (fun H10 locs hp10 hT10 hS10 hk10 => ?_)
          obtain ⟨hp10, hB10⟩ := hp10
          have z23 : ∀ j : Nat, (j = 0 ∨ 600 ≤ j) → h_ai H10 (o + 1) j = h_ai H0 (o + 1) j := fun j hj => (hB10.2 j hj).trans (z15 j hj)
          have m24 : h_ai H10 (o + 1) 0 = v2 := (hB10.2 _ (by omega)).trans m16
          have R25 : mR o H10 := hB10.1
          exact hret _ _ _ _ hT10 hS10 ⟨trivial, ⟨R25, z23⟩⟩ dX11_goesOn_118
        · skip
          have c22 : r21.toInt = (1 : Int) := congrArg Int32.toInt c22
          refine lv_aload_n hx hb dX11_goesOn_105 rfl (lv_at hl 1 rfl) ?_
          refine lv_iload_n hx hb dX11_goesOn_106 rfl (lv_at hl 0 rfl) ?_
          refine h_callVv (T := TX11) (rest := []) (As := [.int r3]) hx hb hml hown hts hK hT7 hZ (fun _ h => h) hS9 (c_X11_tokenAt l G Y P (o) hM r3 (show 0 ≤ r3.toInt ∧ r3.toInt ≤ 7 from by omega)) R17 wd_X11_tokenAt wV_X11_tokenAt wL_X11_134 (hM.o rfl) rfl rfl hl.1 rfl (Nat.le_of_ble_eq_true rfl) dX11_goesOn_107 ⟨Nat.le_of_ble_eq_true rfl, Nat.le_of_ble_eq_true rfl⟩ ⟨Nat.zero_le _, Nat.zero_le _⟩ (fun H11 locs hp11 hT11 hS11 hk11 => ?_)
          obtain ⟨hp11, hB11⟩ := hp11
          have z26 : ∀ j : Nat, (j = 0 ∨ 600 ≤ j) → h_ai H11 (o + 1) j = h_ai H0 (o + 1) j := fun j hj => (hB11.2 j hj).trans (z15 j hj)
          have m27 : h_ai H11 (o + 1) 0 = v2 := (hB11.2 _ (by omega)).trans m16
          have R28 : mR o H11 := hB11.1
          refine lv_goto (tgt := 118) hx hb dX11_goesOn_110 (by decide) ?_
          exact hret _ _ _ _ hT11 hS11 ⟨trivial, ⟨R28, z26⟩⟩ dX11_goesOn_118
      · skip
        have c20 : r3.toInt = r19.toInt := congrArg Int32.toInt c20
        refine lv_aload_n hx hb dX11_goesOn_56 rfl (lv_at hl 1 rfl) ?_
        refine lv_iconst (v := 5) hx hb dX11_goesOn_57 (by decide) ?_
        refine h_callVi (T := TX11) (rest := []) (As := [.int 5]) hx hb hml hown hts hK hT7 hZ (fun _ h => h) hS8 (c_of l G Y P (o) hM 5 5 (by decide) (h_inc (by decide))) trivial wd_X11_of wV_X11_of wL_X11_47 (hM.o rfl) rfl rfl hl.1 rfl (Nat.le_of_ble_eq_true rfl) dX11_goesOn_58 ⟨Nat.le_of_ble_eq_true rfl, Nat.le_of_ble_eq_true rfl⟩ ⟨Nat.zero_le _, Nat.zero_le _⟩ (fun r29 H12 locs hp12 hT12 hS12 hk12 => ?_)
        obtain ⟨hp12, he⟩ := hp12
        have he := he.symm
        subst he
        have mr29 : h_ai H7 (o + 1) 5 = r29 := hp12.1.symm
        refine lv_iconst (v := 2) hx hb dX11_goesOn_61 (by decide) ?_
        refine lv_icmp_eq (tgt := 74) hx hb dX11_goesOn_62 (by decide) (fun c30 => ?_) (fun c30 => ?_)
        · skip
          have c30 : r29.toInt = (2 : Int) := congrArg Int32.toInt c30
          refine lv_aload_n hx hb dX11_goesOn_74 rfl (lv_at hl 1 rfl) ?_
          refine lv_bipush (v := 9) hx hb dX11_goesOn_75 (by decide) ?_
          refine h_callVi (T := TX11) (rest := []) (As := [.int 9]) hx hb hml hown hts hK hT7 hZ (fun _ h => h) hS12 (c_of l G Y P (o) hM 9 9 (by decide) (h_inc (by decide))) trivial wd_X11_of wV_X11_of wL_X11_47 (hM.o rfl) rfl rfl hl.1 rfl (Nat.le_of_ble_eq_true rfl) dX11_goesOn_77 ⟨Nat.le_of_ble_eq_true rfl, Nat.le_of_ble_eq_true rfl⟩ ⟨Nat.zero_le _, Nat.zero_le _⟩ (fun r31 H13 locs hp13 hT13 hS13 hk13 => ?_)
          obtain ⟨hp13, he⟩ := hp13
          have he := he.symm
          subst he
          have mr31 : h_ai H7 (o + 1) 9 = r31 := hp13.1.symm
          refine lv_iconst (v := 1) hx hb dX11_goesOn_80 (by decide) ?_
          refine lv_icmp_ne (tgt := 89) hx hb dX11_goesOn_81 (by decide) (fun c32 => ?_) (fun c32 => ?_)
          · skip
            have c32 : ¬ r31.toInt = (1 : Int) := h_neI c32
            refine lv_aload_n hx hb dX11_goesOn_89 rfl (lv_at hl 1 rfl) ?_
            refine lv_bipush (v := 9) hx hb dX11_goesOn_90 (by decide) ?_
            refine lv_iconst (v := 1) hx hb dX11_goesOn_92 (by decide) ?_
            refine h_callVv (T := TX11) (rest := []) (As := [.int 9, .int 1]) hx hb hml hown hts hK hT7 hZ (fun _ h => h) hS13 (c_puts l G Y P (o) hM 9 1 9 (by decide) (h_inc (by decide)) (mP_free (by unfold mFree; omega))) trivial wd_X11_puts wV_X11_puts wL_X11_43 (hM.o rfl) rfl rfl hl.1 rfl (Nat.le_of_ble_eq_true rfl) dX11_goesOn_93 ⟨Nat.le_of_ble_eq_true rfl, Nat.le_of_ble_eq_true rfl⟩ ⟨Nat.zero_le _, Nat.zero_le _⟩ (fun H14 locs hp14 hT14 hS14 hk14 => ?_)
            have hp14 : h_apu H7 H14 (o + 1) 9 (.int 1) := hp14.2
            have z33 : ∀ j : Nat, (j = 0 ∨ 600 ≤ j) → h_ai H14 (o + 1) j = h_ai H0 (o + 1) j := fun j hj => (h_apn hp14 (by omega)).trans (z15 j hj)
            have m34 : h_ai H14 (o + 1) 0 = v2 := (h_apn hp14 (by omega)).trans m16
            have m35 : h_ai H14 (o + 1) 6 = r3 := (h_apn hp14 (by omega)).trans m18
            have m36 : h_ai H14 (o + 1) 1 = r19 := (h_apn hp14 (by omega)).trans mr19
            have m37 : h_ai H14 (o + 1) 5 = r29 := (h_apn hp14 (by omega)).trans mr29
            have R38 : mR o H14 := R17.keep (fun j hj => h_apn hp14 (by unfold mK at hj; omega))
            have m39 : h_ai H14 (o + 1) 9 = 1 := h_aps hp14
            refine lv_aload_n hx hb dX11_goesOn_96 rfl (lv_at hl 1 rfl) ?_
            refine lv_iconst (v := 5) hx hb dX11_goesOn_97 (by decide) ?_
            refine h_callVi (T := TX11) (rest := []) (As := [.int 5]) hx hb hml hown hts hK hT14 hZ (fun _ h => h) hS14 (c_of l G Y P (o) hM 5 5 (by decide) (h_inc (by decide))) trivial wd_X11_of wV_X11_of wL_X11_47 (hM.o rfl) rfl rfl hl.1 rfl (Nat.le_of_ble_eq_true rfl) dX11_goesOn_98 ⟨Nat.le_of_ble_eq_true rfl, Nat.le_of_ble_eq_true rfl⟩ ⟨Nat.zero_le _, Nat.zero_le _⟩ (fun r40 H15 locs hp15 hT15 hS15 hk15 => ?_)
            obtain ⟨hp15, he⟩ := hp15
            have he := he.symm
            subst he
            have hp15 : r29 = r40 := (hp15.1.trans m37).symm
            subst hp15
            refine lv_iconst (v := 1) hx hb dX11_goesOn_101 (by decide) ?_
            refine lv_icmp_ne (tgt := 113) hx hb dX11_goesOn_102 (by decide) (fun _ => ?_) (fun h => absurd h (fun q => absurd (congrArg Int32.toInt q) (show ¬ r29.toInt = (1 : Int) from by omega)))
            refine lv_aload_n hx hb dX11_goesOn_113 rfl (lv_at hl 1 rfl) ?_
            refine lv_iload_n hx hb dX11_goesOn_114 rfl (lv_at hl 0 rfl) ?_
            refine h_callVv (T := TX11) (rest := []) (As := [.int r3]) hx hb hml hown hts hK hT14 hZ (fun _ h => h) hS15 (c_X11_frameAt l G Y P (o) hM r3 (show 0 ≤ r3.toInt ∧ r3.toInt ≤ 7 from by omega)) ⟨R38, (show r3.toInt < (h_ai H14 (o + 1) 0).toInt from by rw [m34]; exact (show r3.toInt < v2.toInt from by omega))⟩ wd_X11_frameAt wV_X11_frameAt wL_X11_137 (hM.o rfl) rfl rfl hl.1 rfl (Nat.le_of_ble_eq_true rfl) dX11_goesOn_115 ⟨Nat.le_of_ble_eq_true rfl, Nat.le_of_ble_eq_true rfl⟩ ⟨Nat.zero_le _, Nat.zero_le _⟩ (fun H16 locs hp16 hT16 hS16 hk16 => ?_)
            obtain ⟨hp16, hB16⟩ := hp16
            have z41 : ∀ j : Nat, (j = 0 ∨ 600 ≤ j) → h_ai H16 (o + 1) j = h_ai H0 (o + 1) j := fun j hj => (hB16.2 j hj).trans (z33 j hj)
            have m42 : h_ai H16 (o + 1) 0 = v2 := (hB16.2 _ (by omega)).trans m34
            have R43 : mR o H16 := hB16.1
            exact hret _ _ _ _ hT16 hS16 ⟨trivial, ⟨R43, z41⟩⟩ dX11_goesOn_118
          · skip
            have c32 : r31.toInt = (1 : Int) := congrArg Int32.toInt c32
            refine lv_aload_n hx hb dX11_goesOn_84 rfl (lv_at hl 1 rfl) ?_
            refine h_callVv (T := TX11) (rest := []) (As := []) hx hb hml hown hts hK hT7 hZ (fun _ h => h) hS13 (c_X11_purges l G Y P (o) hM) R17 wd_X11_purges wV_X11_purges wL_X11_131 (hM.o rfl) rfl rfl hl.1 rfl (Nat.le_of_ble_eq_true rfl) dX11_goesOn_85 ⟨Nat.le_of_ble_eq_true rfl, Nat.le_of_ble_eq_true rfl⟩ ⟨Nat.zero_le _, Nat.zero_le _⟩ (fun H17 locs hp17 hT17 hS17 hk17 => ?_)
            obtain ⟨hp17, hB17⟩ := hp17
            have z44 : ∀ j : Nat, (j = 0 ∨ 600 ≤ j) → h_ai H17 (o + 1) j = h_ai H0 (o + 1) j := fun j hj => (hB17.2 j hj).trans (z15 j hj)
            have m45 : h_ai H17 (o + 1) 0 = v2 := (hB17.2 _ (by omega)).trans m16
            have R46 : mR o H17 := hB17.1
            exact hret _ _ _ _ hT17 hS17 ⟨trivial, ⟨R46, z44⟩⟩ dX11_goesOn_88
        · skip
          have c30 : ¬ r29.toInt = (2 : Int) := h_neI c30
          refine lv_aload_n hx hb dX11_goesOn_65 rfl (lv_at hl 1 rfl) ?_
          refine lv_bipush (v := 7) hx hb dX11_goesOn_66 (by decide) ?_
          refine h_callVi (T := TX11) (rest := []) (As := [.int 7]) hx hb hml hown hts hK hT7 hZ (fun _ h => h) hS12 (c_of l G Y P (o) hM 7 7 (by decide) (h_inc (by decide))) trivial wd_X11_of wV_X11_of wL_X11_47 (hM.o rfl) rfl rfl hl.1 rfl (Nat.le_of_ble_eq_true rfl) dX11_goesOn_68 ⟨Nat.le_of_ble_eq_true rfl, Nat.le_of_ble_eq_true rfl⟩ ⟨Nat.zero_le _, Nat.zero_le _⟩ (fun r47 H18 locs hp18 hT18 hS18 hk18 => ?_)
          obtain ⟨hp18, he⟩ := hp18
          have he := he.symm
          subst he
          have mr47 : h_ai H7 (o + 1) 7 = r47 := hp18.1.symm
          have br47 := mP_l hp18.2 (by omega)
          refine lv_if_le (tgt := 96) hx hb dX11_goesOn_71 (by decide) (fun c48 => ?_) (fun c48 => ?_)
          · skip
            have c48 : r47.toInt ≤ (0 : Int) := Int32.le_iff_toInt_le.mp c48
            refine lv_aload_n hx hb dX11_goesOn_96 rfl (lv_at hl 1 rfl) ?_
            refine lv_iconst (v := 5) hx hb dX11_goesOn_97 (by decide) ?_
            refine h_callVi (T := TX11) (rest := []) (As := [.int 5]) hx hb hml hown hts hK hT7 hZ (fun _ h => h) hS18 (c_of l G Y P (o) hM 5 5 (by decide) (h_inc (by decide))) trivial wd_X11_of wV_X11_of wL_X11_47 (hM.o rfl) rfl rfl hl.1 rfl (Nat.le_of_ble_eq_true rfl) dX11_goesOn_98 ⟨Nat.le_of_ble_eq_true rfl, Nat.le_of_ble_eq_true rfl⟩ ⟨Nat.zero_le _, Nat.zero_le _⟩ (fun r49 H19 locs hp19 hT19 hS19 hk19 => ?_)
            obtain ⟨hp19, he⟩ := hp19
            have he := he.symm
            subst he
            have hp19 : r29 = r49 := (hp19.1.trans mr29).symm
            subst hp19
            refine lv_iconst (v := 1) hx hb dX11_goesOn_101 (by decide) ?_
            refine lv_icmp_ne (tgt := 113) hx hb dX11_goesOn_102 (by decide) (fun c50 => ?_) (fun c50 => ?_)
            · skip
              have c50 : ¬ r29.toInt = (1 : Int) := h_neI c50
              refine lv_aload_n hx hb dX11_goesOn_113 rfl (lv_at hl 1 rfl) ?_
              refine lv_iload_n hx hb dX11_goesOn_114 rfl (lv_at hl 0 rfl) ?_
              refine h_callVv (T := TX11) (rest := []) (As := [.int r3]) hx hb hml hown hts hK hT7 hZ (fun _ h => h) hS19 (c_X11_frameAt l G Y P (o) hM r3 (show 0 ≤ r3.toInt ∧ r3.toInt ≤ 7 from by omega)) ⟨R17, (show r3.toInt < (h_ai H7 (o + 1) 0).toInt from by rw [m16]; exact (show r3.toInt < v2.toInt from by omega))⟩ wd_X11_frameAt wV_X11_frameAt wL_X11_137 (hM.o rfl) rfl rfl hl.1 rfl (Nat.le_of_ble_eq_true rfl) dX11_goesOn_115 ⟨Nat.le_of_ble_eq_true rfl, Nat.le_of_ble_eq_true rfl⟩ ⟨Nat.zero_le _, Nat.zero_le _⟩ (fun H20 locs hp20 hT20 hS20 hk20 => ?_)
              obtain ⟨hp20, hB20⟩ := hp20
              have z51 : ∀ j : Nat, (j = 0 ∨ 600 ≤ j) → h_ai H20 (o + 1) j = h_ai H0 (o + 1) j := fun j hj => (hB20.2 j hj).trans (z15 j hj)
              have m52 : h_ai H20 (o + 1) 0 = v2 := (hB20.2 _ (by omega)).trans m16
              have R53 : mR o H20 := hB20.1
              exact hret _ _ _ _ hT20 hS20 ⟨trivial, ⟨R53, z51⟩⟩ dX11_goesOn_118
            · skip
              have c50 : r29.toInt = (1 : Int) := congrArg Int32.toInt c50
              refine lv_aload_n hx hb dX11_goesOn_105 rfl (lv_at hl 1 rfl) ?_
              refine lv_iload_n hx hb dX11_goesOn_106 rfl (lv_at hl 0 rfl) ?_
              refine h_callVv (T := TX11) (rest := []) (As := [.int r3]) hx hb hml hown hts hK hT7 hZ (fun _ h => h) hS19 (c_X11_tokenAt l G Y P (o) hM r3 (show 0 ≤ r3.toInt ∧ r3.toInt ≤ 7 from by omega)) R17 wd_X11_tokenAt wV_X11_tokenAt wL_X11_134 (hM.o rfl) rfl rfl hl.1 rfl (Nat.le_of_ble_eq_true rfl) dX11_goesOn_107 ⟨Nat.le_of_ble_eq_true rfl, Nat.le_of_ble_eq_true rfl⟩ ⟨Nat.zero_le _, Nat.zero_le _⟩ (fun H21 locs hp21 hT21 hS21 hk21 => ?_)
              obtain ⟨hp21, hB21⟩ := hp21
              have z54 : ∀ j : Nat, (j = 0 ∨ 600 ≤ j) → h_ai H21 (o + 1) j = h_ai H0 (o + 1) j := fun j hj => (hB21.2 j hj).trans (z15 j hj)
              have m55 : h_ai H21 (o + 1) 0 = v2 := (hB21.2 _ (by omega)).trans m16
              have R56 : mR o H21 := hB21.1
              refine lv_goto (tgt := 118) hx hb dX11_goesOn_110 (by decide) ?_
              exact hret _ _ _ _ hT21 hS21 ⟨trivial, ⟨R56, z54⟩⟩ dX11_goesOn_118
          · skip
            have c48 : ¬ r47.toInt ≤ (0 : Int) := h_nleI c48
            refine lv_aload_n hx hb dX11_goesOn_74 rfl (lv_at hl 1 rfl) ?_
            refine lv_bipush (v := 9) hx hb dX11_goesOn_75 (by decide) ?_
            refine h_callVi (T := TX11) (rest := []) (As := [.int 9]) hx hb hml hown hts hK hT7 hZ (fun _ h => h) hS18 (c_of l G Y P (o) hM 9 9 (by decide) (h_inc (by decide))) trivial wd_X11_of wV_X11_of wL_X11_47 (hM.o rfl) rfl rfl hl.1 rfl (Nat.le_of_ble_eq_true rfl) dX11_goesOn_77 ⟨Nat.le_of_ble_eq_true rfl, Nat.le_of_ble_eq_true rfl⟩ ⟨Nat.zero_le _, Nat.zero_le _⟩ (fun r57 H22 locs hp22 hT22 hS22 hk22 => ?_)
            obtain ⟨hp22, he⟩ := hp22
            have he := he.symm
            subst he
            have mr57 : h_ai H7 (o + 1) 9 = r57 := hp22.1.symm
            refine lv_iconst (v := 1) hx hb dX11_goesOn_80 (by decide) ?_
            refine lv_icmp_ne (tgt := 89) hx hb dX11_goesOn_81 (by decide) (fun c58 => ?_) (fun c58 => ?_)
            · skip
              have c58 : ¬ r57.toInt = (1 : Int) := h_neI c58
              refine lv_aload_n hx hb dX11_goesOn_89 rfl (lv_at hl 1 rfl) ?_
              refine lv_bipush (v := 9) hx hb dX11_goesOn_90 (by decide) ?_
              refine lv_iconst (v := 1) hx hb dX11_goesOn_92 (by decide) ?_
              refine h_callVv (T := TX11) (rest := []) (As := [.int 9, .int 1]) hx hb hml hown hts hK hT7 hZ (fun _ h => h) hS22 (c_puts l G Y P (o) hM 9 1 9 (by decide) (h_inc (by decide)) (mP_free (by unfold mFree; omega))) trivial wd_X11_puts wV_X11_puts wL_X11_43 (hM.o rfl) rfl rfl hl.1 rfl (Nat.le_of_ble_eq_true rfl) dX11_goesOn_93 ⟨Nat.le_of_ble_eq_true rfl, Nat.le_of_ble_eq_true rfl⟩ ⟨Nat.zero_le _, Nat.zero_le _⟩ (fun H23 locs hp23 hT23 hS23 hk23 => ?_)
              have hp23 : h_apu H7 H23 (o + 1) 9 (.int 1) := hp23.2
              have z59 : ∀ j : Nat, (j = 0 ∨ 600 ≤ j) → h_ai H23 (o + 1) j = h_ai H0 (o + 1) j := fun j hj => (h_apn hp23 (by omega)).trans (z15 j hj)
              have m60 : h_ai H23 (o + 1) 0 = v2 := (h_apn hp23 (by omega)).trans m16
              have m61 : h_ai H23 (o + 1) 6 = r3 := (h_apn hp23 (by omega)).trans m18
              have m62 : h_ai H23 (o + 1) 1 = r19 := (h_apn hp23 (by omega)).trans mr19
              have m63 : h_ai H23 (o + 1) 5 = r29 := (h_apn hp23 (by omega)).trans mr29
              have m64 : h_ai H23 (o + 1) 7 = r47 := (h_apn hp23 (by omega)).trans mr47
              have R65 : mR o H23 := R17.keep (fun j hj => h_apn hp23 (by unfold mK at hj; omega))
              have m66 : h_ai H23 (o + 1) 9 = 1 := h_aps hp23
              refine lv_aload_n hx hb dX11_goesOn_96 rfl (lv_at hl 1 rfl) ?_
              refine lv_iconst (v := 5) hx hb dX11_goesOn_97 (by decide) ?_
              refine h_callVi (T := TX11) (rest := []) (As := [.int 5]) hx hb hml hown hts hK hT23 hZ (fun _ h => h) hS23 (c_of l G Y P (o) hM 5 5 (by decide) (h_inc (by decide))) trivial wd_X11_of wV_X11_of wL_X11_47 (hM.o rfl) rfl rfl hl.1 rfl (Nat.le_of_ble_eq_true rfl) dX11_goesOn_98 ⟨Nat.le_of_ble_eq_true rfl, Nat.le_of_ble_eq_true rfl⟩ ⟨Nat.zero_le _, Nat.zero_le _⟩ (fun r67 H24 locs hp24 hT24 hS24 hk24 => ?_)
              obtain ⟨hp24, he⟩ := hp24
              have he := he.symm
              subst he
              have hp24 : r29 = r67 := (hp24.1.trans m63).symm
              subst hp24
              refine lv_iconst (v := 1) hx hb dX11_goesOn_101 (by decide) ?_
              refine lv_icmp_ne (tgt := 113) hx hb dX11_goesOn_102 (by decide) (fun c68 => ?_) (fun c68 => ?_)
              · skip
                have c68 : ¬ r29.toInt = (1 : Int) := h_neI c68
                refine lv_aload_n hx hb dX11_goesOn_113 rfl (lv_at hl 1 rfl) ?_
                refine lv_iload_n hx hb dX11_goesOn_114 rfl (lv_at hl 0 rfl) ?_
                refine h_callVv (T := TX11) (rest := []) (As := [.int r3]) hx hb hml hown hts hK hT23 hZ (fun _ h => h) hS24 (c_X11_frameAt l G Y P (o) hM r3 (show 0 ≤ r3.toInt ∧ r3.toInt ≤ 7 from by omega)) ⟨R65, (show r3.toInt < (h_ai H23 (o + 1) 0).toInt from by rw [m60]; exact (show r3.toInt < v2.toInt from by omega))⟩ wd_X11_frameAt wV_X11_frameAt wL_X11_137 (hM.o rfl) rfl rfl hl.1 rfl (Nat.le_of_ble_eq_true rfl) dX11_goesOn_115 ⟨Nat.le_of_ble_eq_true rfl, Nat.le_of_ble_eq_true rfl⟩ ⟨Nat.zero_le _, Nat.zero_le _⟩ (fun H25 locs hp25 hT25 hS25 hk25 => ?_)
                obtain ⟨hp25, hB25⟩ := hp25
                have z69 : ∀ j : Nat, (j = 0 ∨ 600 ≤ j) → h_ai H25 (o + 1) j = h_ai H0 (o + 1) j := fun j hj => (hB25.2 j hj).trans (z59 j hj)
                have m70 : h_ai H25 (o + 1) 0 = v2 := (hB25.2 _ (by omega)).trans m60
                have R71 : mR o H25 := hB25.1
                exact hret _ _ _ _ hT25 hS25 ⟨trivial, ⟨R71, z69⟩⟩ dX11_goesOn_118
              · skip
                have c68 : r29.toInt = (1 : Int) := congrArg Int32.toInt c68
                refine lv_aload_n hx hb dX11_goesOn_105 rfl (lv_at hl 1 rfl) ?_
                refine lv_iload_n hx hb dX11_goesOn_106 rfl (lv_at hl 0 rfl) ?_
                refine h_callVv (T := TX11) (rest := []) (As := [.int r3]) hx hb hml hown hts hK hT23 hZ (fun _ h => h) hS24 (c_X11_tokenAt l G Y P (o) hM r3 (show 0 ≤ r3.toInt ∧ r3.toInt ≤ 7 from by omega)) R65 wd_X11_tokenAt wV_X11_tokenAt wL_X11_134 (hM.o rfl) rfl rfl hl.1 rfl (Nat.le_of_ble_eq_true rfl) dX11_goesOn_107 ⟨Nat.le_of_ble_eq_true rfl, Nat.le_of_ble_eq_true rfl⟩ ⟨Nat.zero_le _, Nat.zero_le _⟩ (fun H26 locs hp26 hT26 hS26 hk26 => ?_)
                obtain ⟨hp26, hB26⟩ := hp26
                have z72 : ∀ j : Nat, (j = 0 ∨ 600 ≤ j) → h_ai H26 (o + 1) j = h_ai H0 (o + 1) j := fun j hj => (hB26.2 j hj).trans (z59 j hj)
                have m73 : h_ai H26 (o + 1) 0 = v2 := (hB26.2 _ (by omega)).trans m60
                have R74 : mR o H26 := hB26.1
                refine lv_goto (tgt := 118) hx hb dX11_goesOn_110 (by decide) ?_
                exact hret _ _ _ _ hT26 hS26 ⟨trivial, ⟨R74, z72⟩⟩ dX11_goesOn_118
            · skip
              have c58 : r57.toInt = (1 : Int) := congrArg Int32.toInt c58
              refine lv_aload_n hx hb dX11_goesOn_84 rfl (lv_at hl 1 rfl) ?_
              refine h_callVv (T := TX11) (rest := []) (As := []) hx hb hml hown hts hK hT7 hZ (fun _ h => h) hS22 (c_X11_purges l G Y P (o) hM) R17 wd_X11_purges wV_X11_purges wL_X11_131 (hM.o rfl) rfl rfl hl.1 rfl (Nat.le_of_ble_eq_true rfl) dX11_goesOn_85 ⟨Nat.le_of_ble_eq_true rfl, Nat.le_of_ble_eq_true rfl⟩ ⟨Nat.zero_le _, Nat.zero_le _⟩ (fun H27 locs hp27 hT27 hS27 hk27 => ?_)
              obtain ⟨hp27, hB27⟩ := hp27
              have z75 : ∀ j : Nat, (j = 0 ∨ 600 ≤ j) → h_ai H27 (o + 1) j = h_ai H0 (o + 1) j := fun j hj => (hB27.2 j hj).trans (z15 j hj)
              have m76 : h_ai H27 (o + 1) 0 = v2 := (hB27.2 _ (by omega)).trans m16
              have R77 : mR o H27 := hB27.1
              exact hret _ _ _ _ hT27 hS27 ⟨trivial, ⟨R77, z75⟩⟩ dX11_goesOn_88
    · skip
      have c14 : ¬ r13.toInt = (0 : Int) := h_neI c14
      refine lv_aload_n hx hb dX11_goesOn_31 rfl (lv_at hl 1 rfl) ?_
      refine h_callVv (T := TX11) (rest := []) (As := []) hx hb hml hown hts hK hT0 hZ (fun _ h => h) hS6 (c_X11_isLost l G Y P (o) hM) trivial wd_X11_isLost wV_X11_isLost wL_X11_79 (hM.o rfl) rfl rfl hl.1 rfl (Nat.le_of_ble_eq_true rfl) dX11_goesOn_32 ⟨Nat.le_of_ble_eq_true rfl, Nat.le_of_ble_eq_true rfl⟩ ⟨Nat.zero_le _, Nat.zero_le _⟩ (fun H28 locs hp28 hT28 hS28 hk28 => ?_)
      obtain ⟨hp28, hB28⟩ := hp28
      have z78 : ∀ j : Nat, (j = 0 ∨ 600 ≤ j) → h_ai H28 (o + 1) j = h_ai H0 (o + 1) j := fun j hj => (hB28 j (by unfold mK; omega))
      have m79 : h_ai H28 (o + 1) 0 = v2 := (hB28 _ (by unfold mK; omega)).trans mv2
      have R80 : mR o H28 := hpr.keep hB28
      refine lv_aload_n hx hb dX11_goesOn_35 rfl (lv_at hl 1 rfl) ?_
      refine h_callVv (T := TX11) (rest := []) (As := []) hx hb hml hown hts hK hT28 hZ (fun _ h => h) hS28 (c_X11_isSilent l G Y P (o) hM) trivial wd_X11_isSilent wV_X11_isSilent wL_X11_128 (hM.o rfl) rfl rfl hl.1 rfl (Nat.le_of_ble_eq_true rfl) dX11_goesOn_36 ⟨Nat.le_of_ble_eq_true rfl, Nat.le_of_ble_eq_true rfl⟩ ⟨Nat.zero_le _, Nat.zero_le _⟩ (fun H29 locs hp29 hT29 hS29 hk29 => ?_)
      obtain ⟨hp29, hB29⟩ := hp29
      have z81 : ∀ j : Nat, (j = 0 ∨ 600 ≤ j) → h_ai H29 (o + 1) j = h_ai H0 (o + 1) j := fun j hj => (hB29 j (by unfold mK; omega)).trans (z78 j hj)
      have m82 : h_ai H29 (o + 1) 0 = v2 := (hB29 _ (by unfold mK; omega)).trans m79
      have R83 : mR o H29 := R80.keep hB29
      exact hret _ _ _ _ hT29 hS29 ⟨trivial, ⟨R83, z81⟩⟩ dX11_goesOn_39
set_option maxHeartbeats 4000000 in
set_option maxRecDepth 100000 in
theorem c_X11_isStill (l : Launch) (G : hG) (Y : hW) (P : Int32 → Prop) (o : Nat) (hM : h_On Y o (modE (tM P) o)) : hMv l yX11_isStill cX11_isStill 3 none 5 107 G Y [.ref (o)] (fun H => mR o H) (fun H H1 => (True) ∧ (mR o H1 ∧ mU o H H1)) := by
  refine h_ofv (by decide +kernel) (Nat.le_of_ble_eq_true rfl) ?_
  intro p e s m args below meth c H0 ls Q hx hb hts hown hml hK hZ hT0 hpr hS0 hl hret
  have hl : lv_has ls 3 [(0, .ref (o))] := hl
  refine lv_aload_n hx hb dX11_isStill_0 rfl (lv_at hl 0 rfl) ?_
  refine h_callVi (T := TX11) (rest := []) (As := []) hx hb hml hown hts hK hT0 hZ (fun _ h => h) hS0 (c_X11_onMany l G Y P (o) hM) trivial wd_X11_onMany wV_X11_onMany wL_X11_150 (hM.o rfl) rfl rfl hl.1 rfl (Nat.le_of_ble_eq_true rfl) dX11_isStill_1 ⟨Nat.le_of_ble_eq_true rfl, Nat.le_of_ble_eq_true rfl⟩ ⟨Nat.zero_le _, Nat.zero_le _⟩ (fun r1 H1 locs hp1 hT1 hS1 hk1 => ?_)
  obtain ⟨hp1, he⟩ := hp1
  have he := he.symm
  subst he
  refine lv_istore_n (lv' := [(1, .int r1), (0, .ref (o))]) hx hb dX11_isStill_4 rfl hl (by decide) rfl (fun ls hl => ?_)
  refine lv_aload_n hx hb dX11_isStill_5 rfl (lv_at hl 1 rfl) ?_
  refine lv_iconst (v := 4) hx hb dX11_isStill_6 (by decide) ?_
  refine lv_iconst (v := 1) hx hb dX11_isStill_7 (by decide) ?_
  refine h_callVv (T := TX11) (rest := []) (As := [.int 4, .int 1]) hx hb hml hown hts hK hT0 hZ (fun _ h => h) hS1 (c_adds l G Y P (o) hM 4 1 4 (by decide) (h_inc (by decide))) (show mP 4 (h_ai H0 (o + 1) 4 + 1) from (mP_free (by unfold mFree; omega))) wd_X11_adds wV_X11_adds wL_X11_69 (hM.o rfl) rfl rfl hl.1 rfl (Nat.le_of_ble_eq_true rfl) dX11_isStill_8 ⟨Nat.le_of_ble_eq_true rfl, Nat.le_of_ble_eq_true rfl⟩ ⟨Nat.zero_le _, Nat.zero_le _⟩ (fun H2 locs hp2 hT2 hS2 hk2 => ?_)
  have hp2 : h_apu H0 H2 (o + 1) 4 (.int (h_ai H0 (o + 1) 4 + 1)) := hp2.2
  have z2 : ∀ j : Nat, (j = 0 ∨ 600 ≤ j) → h_ai H2 (o + 1) j = h_ai H0 (o + 1) j := fun j hj => (h_apn hp2 (by omega))
  have R3 : mR o H2 := hpr.keep (fun j hj => h_apn hp2 (by unfold mK at hj; omega))
  refine lv_aload_n hx hb dX11_isStill_11 rfl (lv_at hl 1 rfl) ?_
  refine lv_iconst (v := 4) hx hb dX11_isStill_12 (by decide) ?_
  refine h_callVi (T := TX11) (rest := []) (As := [.int 4]) hx hb hml hown hts hK hT2 hZ (fun _ h => h) hS2 (c_of l G Y P (o) hM 4 4 (by decide) (h_inc (by decide))) trivial wd_X11_of wV_X11_of wL_X11_47 (hM.o rfl) rfl rfl hl.1 rfl (Nat.le_of_ble_eq_true rfl) dX11_isStill_13 ⟨Nat.le_of_ble_eq_true rfl, Nat.le_of_ble_eq_true rfl⟩ ⟨Nat.zero_le _, Nat.zero_le _⟩ (fun r4 H3 locs hp3 hT3 hS3 hk3 => ?_)
  obtain ⟨hp3, he⟩ := hp3
  have he := he.symm
  subst he
  have mr4 : h_ai H2 (o + 1) 4 = r4 := hp3.1.symm
  refine lv_istore_n (lv' := [(2, .int r4), (1, .int r1), (0, .ref (o))]) hx hb dX11_isStill_16 rfl hl (by decide) rfl (fun ls hl => ?_)
  refine lv_iload_n hx hb dX11_isStill_17 rfl (lv_at hl 1 rfl) ?_
  refine lv_if_ne (tgt := 22) hx hb dX11_isStill_18 (by decide) (fun c5 => ?_) (fun c5 => ?_)
  · skip
    have c5 : ¬ r1.toInt = (0 : Int) := h_neI c5
    refine lv_iload_n hx hb dX11_isStill_22 rfl (lv_at hl 0 rfl) ?_
    refine lv_iload_n hx hb dX11_isStill_23 rfl (lv_at hl 1 rfl) ?_
    refine lv_iconst (v := 1) hx hb dX11_isStill_24 (by decide) ?_
    refine lv_iadd hx hb dX11_isStill_25 ?_
    refine lv_topi (fun x6 ex6 => ?_)
    refine lv_icmp_ne (tgt := 69) hx hb dX11_isStill_26 (by decide) (fun c7 => ?_) (fun c7 => ?_)
    · skip
      have c7 : ¬ r4.toInt = x6.toInt := h_neI c7
      refine lv_iload_n hx hb dX11_isStill_69 rfl (lv_at hl 0 rfl) ?_
      refine lv_iconst (v := 2) hx hb dX11_isStill_70 (by decide) ?_
      refine lv_iload_n hx hb dX11_isStill_71 rfl (lv_at hl 1 rfl) ?_
      refine lv_imul hx hb dX11_isStill_72 ?_
      refine lv_topi (fun x8 ex8 => ?_)
      refine lv_iconst (v := 1) hx hb dX11_isStill_73 (by decide) ?_
      refine lv_iadd hx hb dX11_isStill_74 ?_
      refine lv_topi (fun x9 ex9 => ?_)
      refine lv_icmp_ne (tgt := 115) hx hb dX11_isStill_75 (by decide) (fun c10 => ?_) (fun c10 => ?_)
      · skip
        have c10 : ¬ r4.toInt = x9.toInt := h_neI c10
        refine lv_aload_n hx hb dX11_isStill_115 rfl (lv_at hl 2 rfl) ?_
        refine lv_bipush (v := 18) hx hb dX11_isStill_116 (by decide) ?_
        refine h_callVi (T := TX11) (rest := []) (As := [.int 18]) hx hb hml hown hts hK hT2 hZ (fun _ h => h) hS3 (c_of l G Y P (o) hM 18 18 (by decide) (h_inc (by decide))) trivial wd_X11_of wV_X11_of wL_X11_47 (hM.o rfl) rfl rfl hl.1 rfl (Nat.le_of_ble_eq_true rfl) dX11_isStill_118 ⟨Nat.le_of_ble_eq_true rfl, Nat.le_of_ble_eq_true rfl⟩ ⟨Nat.zero_le _, Nat.zero_le _⟩ (fun r11 H4 locs hp4 hT4 hS4 hk4 => ?_)
        obtain ⟨hp4, he⟩ := hp4
        have he := he.symm
        subst he
        have mr11 : h_ai H2 (o + 1) 18 = r11 := hp4.1.symm
        refine lv_iconst (v := 2) hx hb dX11_isStill_121 (by decide) ?_
        refine lv_icmp_ne (tgt := 147) hx hb dX11_isStill_122 (by decide) (fun c12 => ?_) (fun c12 => ?_)
        · skip
          have c12 : ¬ r11.toInt = (2 : Int) := h_neI c12
          refine lv_aload_n hx hb dX11_isStill_147 rfl (lv_at hl 2 rfl) ?_
          refine lv_bipush (v := 18) hx hb dX11_isStill_148 (by decide) ?_
          refine h_callVi (T := TX11) (rest := []) (As := [.int 18]) hx hb hml hown hts hK hT2 hZ (fun _ h => h) hS4 (c_of l G Y P (o) hM 18 18 (by decide) (h_inc (by decide))) trivial wd_X11_of wV_X11_of wL_X11_47 (hM.o rfl) rfl rfl hl.1 rfl (Nat.le_of_ble_eq_true rfl) dX11_isStill_150 ⟨Nat.le_of_ble_eq_true rfl, Nat.le_of_ble_eq_true rfl⟩ ⟨Nat.zero_le _, Nat.zero_le _⟩ (fun r13 H5 locs hp5 hT5 hS5 hk5 => ?_)
          obtain ⟨hp5, he⟩ := hp5
          have he := he.symm
          subst he
          have hp5 : r11 = r13 := (hp5.1.trans mr11).symm
          subst hp5
          refine lv_iconst (v := 2) hx hb dX11_isStill_153 (by decide) ?_
          refine lv_icmp_ne (tgt := 176) hx hb dX11_isStill_154 (by decide) (fun c14 => ?_) (fun c14 => ?_)
          · skip
            have c14 : ¬ r11.toInt = (2 : Int) := h_neI c14
            exact hret _ _ _ _ hT2 hS5 ⟨trivial, ⟨R3, z2⟩⟩ dX11_isStill_176
          · skip
            have c14 : r11.toInt = (2 : Int) := congrArg Int32.toInt c14
            refine lv_iload_n hx hb dX11_isStill_157 rfl (lv_at hl 0 rfl) ?_
            refine lv_iconst (v := 2) hx hb dX11_isStill_158 (by decide) ?_
            refine lv_iload_n hx hb dX11_isStill_159 rfl (lv_at hl 1 rfl) ?_
            refine lv_imul hx hb dX11_isStill_160 ?_
            refine lv_topi (fun x15 ex15 => ?_)
            refine lv_iconst (v := 2) hx hb dX11_isStill_161 (by decide) ?_
            refine lv_iadd hx hb dX11_isStill_162 ?_
            refine lv_topi (fun x16 ex16 => ?_)
            refine lv_icmp_ne (tgt := 176) hx hb dX11_isStill_163 (by decide) (fun c17 => ?_) (fun c17 => ?_)
            · skip
              have c17 : ¬ r4.toInt = x16.toInt := h_neI c17
              exact hret _ _ _ _ hT2 hS5 ⟨trivial, ⟨R3, z2⟩⟩ dX11_isStill_176
            · skip
              have c17 : r4.toInt = x16.toInt := congrArg Int32.toInt c17
              refine lv_aload_n hx hb dX11_isStill_166 rfl (lv_at hl 2 rfl) ?_
              refine lv_aload_n hx hb dX11_isStill_167 rfl (lv_at hl 2 rfl) ?_
              refine lv_bipush (v := 20) hx hb dX11_isStill_168 (by decide) ?_
              refine h_callVi (T := TX11) (rest := [.ref (o)]) (As := [.int 20]) hx hb hml hown hts hK hT2 hZ (fun _ h => h) hS5 (c_of l G Y P (o) hM 20 20 (by decide) (h_inc (by decide))) trivial wd_X11_of wV_X11_of wL_X11_47 (hM.o rfl) rfl rfl hl.1 rfl (Nat.le_of_ble_eq_true rfl) dX11_isStill_170 ⟨Nat.le_of_ble_eq_true rfl, Nat.le_of_ble_eq_true rfl⟩ ⟨Nat.zero_le _, Nat.zero_le _⟩ (fun r18 H6 locs hp6 hT6 hS6 hk6 => ?_)
              obtain ⟨hp6, he⟩ := hp6
              have he := he.symm
              subst he
              have mr18 : h_ai H2 (o + 1) 20 = r18 := hp6.1.symm
              have br18 := mP_m1 hp6.2 (by omega)
              refine h_callVv (T := TX11) (rest := []) (As := [.int r18]) hx hb hml hown hts hK hT2 hZ (fun _ h => h) hS6 (c_X11_isBlamed l G Y P (o) hM r18 (show (-1) ≤ r18.toInt ∧ r18.toInt ≤ 7 from by omega)) R3 wd_X11_isBlamed wV_X11_isBlamed wL_X11_159 (hM.o rfl) rfl rfl hl.1 rfl (Nat.le_of_ble_eq_true rfl) dX11_isStill_173 ⟨Nat.le_of_ble_eq_true rfl, Nat.le_of_ble_eq_true rfl⟩ ⟨Nat.zero_le _, Nat.zero_le _⟩ (fun H7 locs hp7 hT7 hS7 hk7 => ?_)
              obtain ⟨hp7, hB7⟩ := hp7
              have z19 : ∀ j : Nat, (j = 0 ∨ 600 ≤ j) → h_ai H7 (o + 1) j = h_ai H0 (o + 1) j := fun j hj => (hB7.2 j hj).trans (z2 j hj)
              have R20 : mR o H7 := hB7.1
              exact hret _ _ _ _ hT7 hS7 ⟨trivial, ⟨R20, z19⟩⟩ dX11_isStill_176
        · skip
          have c12 : r11.toInt = (2 : Int) := congrArg Int32.toInt c12
          refine lv_iload_n hx hb dX11_isStill_125 rfl (lv_at hl 0 rfl) ?_
          refine lv_iconst (v := 2) hx hb dX11_isStill_126 (by decide) ?_
          refine lv_iload_n hx hb dX11_isStill_127 rfl (lv_at hl 1 rfl) ?_
          refine lv_imul hx hb dX11_isStill_128 ?_
          refine lv_topi (fun x21 ex21 => ?_)
          refine lv_iconst (v := 1) hx hb dX11_isStill_129 (by decide) ?_
          refine lv_iadd hx hb dX11_isStill_130 ?_
          refine lv_topi (fun x22 ex22 => ?_)
          refine lv_icmp_ne (tgt := 147) hx hb dX11_isStill_131 (by decide) (fun c23 => ?_) (fun c23 => ?_)
          · skip
            have c23 : ¬ r4.toInt = x22.toInt := h_neI c23
            refine lv_aload_n hx hb dX11_isStill_147 rfl (lv_at hl 2 rfl) ?_
            refine lv_bipush (v := 18) hx hb dX11_isStill_148 (by decide) ?_
            refine h_callVi (T := TX11) (rest := []) (As := [.int 18]) hx hb hml hown hts hK hT2 hZ (fun _ h => h) hS4 (c_of l G Y P (o) hM 18 18 (by decide) (h_inc (by decide))) trivial wd_X11_of wV_X11_of wL_X11_47 (hM.o rfl) rfl rfl hl.1 rfl (Nat.le_of_ble_eq_true rfl) dX11_isStill_150 ⟨Nat.le_of_ble_eq_true rfl, Nat.le_of_ble_eq_true rfl⟩ ⟨Nat.zero_le _, Nat.zero_le _⟩ (fun r24 H8 locs hp8 hT8 hS8 hk8 => ?_)
            obtain ⟨hp8, he⟩ := hp8
            have he := he.symm
            subst he
            have hp8 : r11 = r24 := (hp8.1.trans mr11).symm
            subst hp8
            refine lv_iconst (v := 2) hx hb dX11_isStill_153 (by decide) ?_
            refine lv_icmp_ne (tgt := 176) hx hb dX11_isStill_154 (by decide) (fun h => absurd (Int32.toInt_inj.mp (show r11.toInt = (2 : Int) from by omega)) h) (fun _ => ?_)
            refine lv_iload_n hx hb dX11_isStill_157 rfl (lv_at hl 0 rfl) ?_
            refine lv_iconst (v := 2) hx hb dX11_isStill_158 (by decide) ?_
            refine lv_iload_n hx hb dX11_isStill_159 rfl (lv_at hl 1 rfl) ?_
            refine lv_imul hx hb dX11_isStill_160 ?_
            refine lv_topi (fun x25 ex25 => ?_)
            refine lv_iconst (v := 2) hx hb dX11_isStill_161 (by decide) ?_
            refine lv_iadd hx hb dX11_isStill_162 ?_
            refine lv_topi (fun x26 ex26 => ?_)
            refine lv_icmp_ne (tgt := 176) hx hb dX11_isStill_163 (by decide) (fun c27 => ?_) (fun c27 => ?_)
            · skip
              have c27 : ¬ r4.toInt = x26.toInt := h_neI c27
              exact hret _ _ _ _ hT2 hS8 ⟨trivial, ⟨R3, z2⟩⟩ dX11_isStill_176
            · skip
              have c27 : r4.toInt = x26.toInt := congrArg Int32.toInt c27
              refine lv_aload_n hx hb dX11_isStill_166 rfl (lv_at hl 2 rfl) ?_
              refine lv_aload_n hx hb dX11_isStill_167 rfl (lv_at hl 2 rfl) ?_
              refine lv_bipush (v := 20) hx hb dX11_isStill_168 (by decide) ?_
              refine h_callVi (T := TX11) (rest := [.ref (o)]) (As := [.int 20]) hx hb hml hown hts hK hT2 hZ (fun _ h => h) hS8 (c_of l G Y P (o) hM 20 20 (by decide) (h_inc (by decide))) trivial wd_X11_of wV_X11_of wL_X11_47 (hM.o rfl) rfl rfl hl.1 rfl (Nat.le_of_ble_eq_true rfl) dX11_isStill_170 ⟨Nat.le_of_ble_eq_true rfl, Nat.le_of_ble_eq_true rfl⟩ ⟨Nat.zero_le _, Nat.zero_le _⟩ (fun r28 H9 locs hp9 hT9 hS9 hk9 => ?_)
              obtain ⟨hp9, he⟩ := hp9
              have he := he.symm
              subst he
              have mr28 : h_ai H2 (o + 1) 20 = r28 := hp9.1.symm
              have br28 := mP_m1 hp9.2 (by omega)
              refine h_callVv (T := TX11) (rest := []) (As := [.int r28]) hx hb hml hown hts hK hT2 hZ (fun _ h => h) hS9 (c_X11_isBlamed l G Y P (o) hM r28 (show (-1) ≤ r28.toInt ∧ r28.toInt ≤ 7 from by omega)) R3 wd_X11_isBlamed wV_X11_isBlamed wL_X11_159 (hM.o rfl) rfl rfl hl.1 rfl (Nat.le_of_ble_eq_true rfl) dX11_isStill_173 ⟨Nat.le_of_ble_eq_true rfl, Nat.le_of_ble_eq_true rfl⟩ ⟨Nat.zero_le _, Nat.zero_le _⟩ (fun H10 locs hp10 hT10 hS10 hk10 => ?_)
              obtain ⟨hp10, hB10⟩ := hp10
              have z29 : ∀ j : Nat, (j = 0 ∨ 600 ≤ j) → h_ai H10 (o + 1) j = h_ai H0 (o + 1) j := fun j hj => (hB10.2 j hj).trans (z2 j hj)
              have R30 : mR o H10 := hB10.1
              exact hret _ _ _ _ hT10 hS10 ⟨trivial, ⟨R30, z29⟩⟩ dX11_isStill_176
          · skip
            have c23 : r4.toInt = x22.toInt := congrArg Int32.toInt c23
            refine lv_aload_n hx hb dX11_isStill_134 rfl (lv_at hl 2 rfl) ?_
            refine lv_aload_n hx hb dX11_isStill_135 rfl (lv_at hl 2 rfl) ?_
            refine lv_bipush (v := 19) hx hb dX11_isStill_136 (by decide) ?_
            refine h_callVi (T := TX11) (rest := [.ref (o)]) (As := [.int 19]) hx hb hml hown hts hK hT2 hZ (fun _ h => h) hS4 (c_of l G Y P (o) hM 19 19 (by decide) (h_inc (by decide))) trivial wd_X11_of wV_X11_of wL_X11_47 (hM.o rfl) rfl rfl hl.1 rfl (Nat.le_of_ble_eq_true rfl) dX11_isStill_138 ⟨Nat.le_of_ble_eq_true rfl, Nat.le_of_ble_eq_true rfl⟩ ⟨Nat.zero_le _, Nat.zero_le _⟩ (fun r31 H11 locs hp11 hT11 hS11 hk11 => ?_)
            obtain ⟨hp11, he⟩ := hp11
            have he := he.symm
            subst he
            have mr31 : h_ai H2 (o + 1) 19 = r31 := hp11.1.symm
            have br31 := mP_m1 hp11.2 (by omega)
            refine h_callVv (T := TX11) (rest := []) (As := [.int r31]) hx hb hml hown hts hK hT2 hZ (fun _ h => h) hS11 (c_X11_isBlamed l G Y P (o) hM r31 (show (-1) ≤ r31.toInt ∧ r31.toInt ≤ 7 from by omega)) R3 wd_X11_isBlamed wV_X11_isBlamed wL_X11_159 (hM.o rfl) rfl rfl hl.1 rfl (Nat.le_of_ble_eq_true rfl) dX11_isStill_141 ⟨Nat.le_of_ble_eq_true rfl, Nat.le_of_ble_eq_true rfl⟩ ⟨Nat.zero_le _, Nat.zero_le _⟩ (fun H12 locs hp12 hT12 hS12 hk12 => ?_)
            obtain ⟨hp12, hB12⟩ := hp12
            have z32 : ∀ j : Nat, (j = 0 ∨ 600 ≤ j) → h_ai H12 (o + 1) j = h_ai H0 (o + 1) j := fun j hj => (hB12.2 j hj).trans (z2 j hj)
            have R33 : mR o H12 := hB12.1
            refine lv_goto (tgt := 176) hx hb dX11_isStill_144 (by decide) ?_
            exact hret _ _ _ _ hT12 hS12 ⟨trivial, ⟨R33, z32⟩⟩ dX11_isStill_176
      · skip
        have c10 : r4.toInt = x9.toInt := congrArg Int32.toInt c10
        refine lv_aload_n hx hb dX11_isStill_78 rfl (lv_at hl 2 rfl) ?_
        refine lv_bipush (v := 18) hx hb dX11_isStill_79 (by decide) ?_
        refine h_callVi (T := TX11) (rest := []) (As := [.int 18]) hx hb hml hown hts hK hT2 hZ (fun _ h => h) hS3 (c_of l G Y P (o) hM 18 18 (by decide) (h_inc (by decide))) trivial wd_X11_of wV_X11_of wL_X11_47 (hM.o rfl) rfl rfl hl.1 rfl (Nat.le_of_ble_eq_true rfl) dX11_isStill_81 ⟨Nat.le_of_ble_eq_true rfl, Nat.le_of_ble_eq_true rfl⟩ ⟨Nat.zero_le _, Nat.zero_le _⟩ (fun r34 H13 locs hp13 hT13 hS13 hk13 => ?_)
        obtain ⟨hp13, he⟩ := hp13
        have he := he.symm
        subst he
        have mr34 : h_ai H2 (o + 1) 18 = r34 := hp13.1.symm
        refine lv_iconst (v := 1) hx hb dX11_isStill_84 (by decide) ?_
        refine lv_icmp_ne (tgt := 115) hx hb dX11_isStill_85 (by decide) (fun c35 => ?_) (fun c35 => ?_)
        · skip
          have c35 : ¬ r34.toInt = (1 : Int) := h_neI c35
          refine lv_aload_n hx hb dX11_isStill_115 rfl (lv_at hl 2 rfl) ?_
          refine lv_bipush (v := 18) hx hb dX11_isStill_116 (by decide) ?_
          refine h_callVi (T := TX11) (rest := []) (As := [.int 18]) hx hb hml hown hts hK hT2 hZ (fun _ h => h) hS13 (c_of l G Y P (o) hM 18 18 (by decide) (h_inc (by decide))) trivial wd_X11_of wV_X11_of wL_X11_47 (hM.o rfl) rfl rfl hl.1 rfl (Nat.le_of_ble_eq_true rfl) dX11_isStill_118 ⟨Nat.le_of_ble_eq_true rfl, Nat.le_of_ble_eq_true rfl⟩ ⟨Nat.zero_le _, Nat.zero_le _⟩ (fun r36 H14 locs hp14 hT14 hS14 hk14 => ?_)
          obtain ⟨hp14, he⟩ := hp14
          have he := he.symm
          subst he
          have hp14 : r34 = r36 := (hp14.1.trans mr34).symm
          subst hp14
          refine lv_iconst (v := 2) hx hb dX11_isStill_121 (by decide) ?_
          refine lv_icmp_ne (tgt := 147) hx hb dX11_isStill_122 (by decide) (fun c37 => ?_) (fun c37 => ?_)
          · skip
            have c37 : ¬ r34.toInt = (2 : Int) := h_neI c37
            refine lv_aload_n hx hb dX11_isStill_147 rfl (lv_at hl 2 rfl) ?_
            refine lv_bipush (v := 18) hx hb dX11_isStill_148 (by decide) ?_
            refine h_callVi (T := TX11) (rest := []) (As := [.int 18]) hx hb hml hown hts hK hT2 hZ (fun _ h => h) hS14 (c_of l G Y P (o) hM 18 18 (by decide) (h_inc (by decide))) trivial wd_X11_of wV_X11_of wL_X11_47 (hM.o rfl) rfl rfl hl.1 rfl (Nat.le_of_ble_eq_true rfl) dX11_isStill_150 ⟨Nat.le_of_ble_eq_true rfl, Nat.le_of_ble_eq_true rfl⟩ ⟨Nat.zero_le _, Nat.zero_le _⟩ (fun r38 H15 locs hp15 hT15 hS15 hk15 => ?_)
            obtain ⟨hp15, he⟩ := hp15
            have he := he.symm
            subst he
            have hp15 : r34 = r38 := (hp15.1.trans mr34).symm
            subst hp15
            refine lv_iconst (v := 2) hx hb dX11_isStill_153 (by decide) ?_
            refine lv_icmp_ne (tgt := 176) hx hb dX11_isStill_154 (by decide) (fun c39 => ?_) (fun c39 => ?_)
            · skip
              have c39 : ¬ r34.toInt = (2 : Int) := h_neI c39
              exact hret _ _ _ _ hT2 hS15 ⟨trivial, ⟨R3, z2⟩⟩ dX11_isStill_176
            · skip
              have c39 : r34.toInt = (2 : Int) := congrArg Int32.toInt c39
              refine lv_iload_n hx hb dX11_isStill_157 rfl (lv_at hl 0 rfl) ?_
              refine lv_iconst (v := 2) hx hb dX11_isStill_158 (by decide) ?_
              refine lv_iload_n hx hb dX11_isStill_159 rfl (lv_at hl 1 rfl) ?_
              refine lv_imul hx hb dX11_isStill_160 ?_
              refine lv_topi (fun x40 ex40 => ?_)
              refine lv_iconst (v := 2) hx hb dX11_isStill_161 (by decide) ?_
              refine lv_iadd hx hb dX11_isStill_162 ?_
              refine lv_topi (fun x41 ex41 => ?_)
              refine lv_icmp_ne (tgt := 176) hx hb dX11_isStill_163 (by decide) (fun c42 => ?_) (fun c42 => ?_)
              · skip
                have c42 : ¬ r4.toInt = x41.toInt := h_neI c42
                exact hret _ _ _ _ hT2 hS15 ⟨trivial, ⟨R3, z2⟩⟩ dX11_isStill_176
              · skip
                have c42 : r4.toInt = x41.toInt := congrArg Int32.toInt c42
                refine lv_aload_n hx hb dX11_isStill_166 rfl (lv_at hl 2 rfl) ?_
                refine lv_aload_n hx hb dX11_isStill_167 rfl (lv_at hl 2 rfl) ?_
                refine lv_bipush (v := 20) hx hb dX11_isStill_168 (by decide) ?_
                refine h_callVi (T := TX11) (rest := [.ref (o)]) (As := [.int 20]) hx hb hml hown hts hK hT2 hZ (fun _ h => h) hS15 (c_of l G Y P (o) hM 20 20 (by decide) (h_inc (by decide))) trivial wd_X11_of wV_X11_of wL_X11_47 (hM.o rfl) rfl rfl hl.1 rfl (Nat.le_of_ble_eq_true rfl) dX11_isStill_170 ⟨Nat.le_of_ble_eq_true rfl, Nat.le_of_ble_eq_true rfl⟩ ⟨Nat.zero_le _, Nat.zero_le _⟩ (fun r43 H16 locs hp16 hT16 hS16 hk16 => ?_)
                obtain ⟨hp16, he⟩ := hp16
                have he := he.symm
                subst he
                have mr43 : h_ai H2 (o + 1) 20 = r43 := hp16.1.symm
                have br43 := mP_m1 hp16.2 (by omega)
                refine h_callVv (T := TX11) (rest := []) (As := [.int r43]) hx hb hml hown hts hK hT2 hZ (fun _ h => h) hS16 (c_X11_isBlamed l G Y P (o) hM r43 (show (-1) ≤ r43.toInt ∧ r43.toInt ≤ 7 from by omega)) R3 wd_X11_isBlamed wV_X11_isBlamed wL_X11_159 (hM.o rfl) rfl rfl hl.1 rfl (Nat.le_of_ble_eq_true rfl) dX11_isStill_173 ⟨Nat.le_of_ble_eq_true rfl, Nat.le_of_ble_eq_true rfl⟩ ⟨Nat.zero_le _, Nat.zero_le _⟩ (fun H17 locs hp17 hT17 hS17 hk17 => ?_)
                obtain ⟨hp17, hB17⟩ := hp17
                have z44 : ∀ j : Nat, (j = 0 ∨ 600 ≤ j) → h_ai H17 (o + 1) j = h_ai H0 (o + 1) j := fun j hj => (hB17.2 j hj).trans (z2 j hj)
                have R45 : mR o H17 := hB17.1
                exact hret _ _ _ _ hT17 hS17 ⟨trivial, ⟨R45, z44⟩⟩ dX11_isStill_176
          · skip
            have c37 : r34.toInt = (2 : Int) := congrArg Int32.toInt c37
            refine lv_iload_n hx hb dX11_isStill_125 rfl (lv_at hl 0 rfl) ?_
            refine lv_iconst (v := 2) hx hb dX11_isStill_126 (by decide) ?_
            refine lv_iload_n hx hb dX11_isStill_127 rfl (lv_at hl 1 rfl) ?_
            refine lv_imul hx hb dX11_isStill_128 ?_
            refine lv_topi (fun x46 ex46 => ?_)
            refine lv_iconst (v := 1) hx hb dX11_isStill_129 (by decide) ?_
            refine lv_iadd hx hb dX11_isStill_130 ?_
            refine lv_topi (fun x47 ex47 => ?_)
            refine lv_icmp_ne (tgt := 147) hx hb dX11_isStill_131 (by decide) (fun c48 => ?_) (fun c48 => ?_)
            · skip
              have c48 : ¬ r4.toInt = x47.toInt := h_neI c48
              refine lv_aload_n hx hb dX11_isStill_147 rfl (lv_at hl 2 rfl) ?_
              refine lv_bipush (v := 18) hx hb dX11_isStill_148 (by decide) ?_
              refine h_callVi (T := TX11) (rest := []) (As := [.int 18]) hx hb hml hown hts hK hT2 hZ (fun _ h => h) hS14 (c_of l G Y P (o) hM 18 18 (by decide) (h_inc (by decide))) trivial wd_X11_of wV_X11_of wL_X11_47 (hM.o rfl) rfl rfl hl.1 rfl (Nat.le_of_ble_eq_true rfl) dX11_isStill_150 ⟨Nat.le_of_ble_eq_true rfl, Nat.le_of_ble_eq_true rfl⟩ ⟨Nat.zero_le _, Nat.zero_le _⟩ (fun r49 H18 locs hp18 hT18 hS18 hk18 => ?_)
              obtain ⟨hp18, he⟩ := hp18
              have he := he.symm
              subst he
              have hp18 : r34 = r49 := (hp18.1.trans mr34).symm
              subst hp18
              refine lv_iconst (v := 2) hx hb dX11_isStill_153 (by decide) ?_
              refine lv_icmp_ne (tgt := 176) hx hb dX11_isStill_154 (by decide) (fun h => absurd (Int32.toInt_inj.mp (show r34.toInt = (2 : Int) from by omega)) h) (fun _ => ?_)
              refine lv_iload_n hx hb dX11_isStill_157 rfl (lv_at hl 0 rfl) ?_
              refine lv_iconst (v := 2) hx hb dX11_isStill_158 (by decide) ?_
              refine lv_iload_n hx hb dX11_isStill_159 rfl (lv_at hl 1 rfl) ?_
              refine lv_imul hx hb dX11_isStill_160 ?_
              refine lv_topi (fun x50 ex50 => ?_)
              refine lv_iconst (v := 2) hx hb dX11_isStill_161 (by decide) ?_
              refine lv_iadd hx hb dX11_isStill_162 ?_
              refine lv_topi (fun x51 ex51 => ?_)
              refine lv_icmp_ne (tgt := 176) hx hb dX11_isStill_163 (by decide) (fun c52 => ?_) (fun c52 => ?_)
              · skip
                have c52 : ¬ r4.toInt = x51.toInt := h_neI c52
                exact hret _ _ _ _ hT2 hS18 ⟨trivial, ⟨R3, z2⟩⟩ dX11_isStill_176
              · skip
                have c52 : r4.toInt = x51.toInt := congrArg Int32.toInt c52
                refine lv_aload_n hx hb dX11_isStill_166 rfl (lv_at hl 2 rfl) ?_
                refine lv_aload_n hx hb dX11_isStill_167 rfl (lv_at hl 2 rfl) ?_
                refine lv_bipush (v := 20) hx hb dX11_isStill_168 (by decide) ?_
                refine h_callVi (T := TX11) (rest := [.ref (o)]) (As := [.int 20]) hx hb hml hown hts hK hT2 hZ (fun _ h => h) hS18 (c_of l G Y P (o) hM 20 20 (by decide) (h_inc (by decide))) trivial wd_X11_of wV_X11_of wL_X11_47 (hM.o rfl) rfl rfl hl.1 rfl (Nat.le_of_ble_eq_true rfl) dX11_isStill_170 ⟨Nat.le_of_ble_eq_true rfl, Nat.le_of_ble_eq_true rfl⟩ ⟨Nat.zero_le _, Nat.zero_le _⟩ (fun r53 H19 locs hp19 hT19 hS19 hk19 => ?_)
                obtain ⟨hp19, he⟩ := hp19
                have he := he.symm
                subst he
                have mr53 : h_ai H2 (o + 1) 20 = r53 := hp19.1.symm
                have br53 := mP_m1 hp19.2 (by omega)
                refine h_callVv (T := TX11) (rest := []) (As := [.int r53]) hx hb hml hown hts hK hT2 hZ (fun _ h => h) hS19 (c_X11_isBlamed l G Y P (o) hM r53 (show (-1) ≤ r53.toInt ∧ r53.toInt ≤ 7 from by omega)) R3 wd_X11_isBlamed wV_X11_isBlamed wL_X11_159 (hM.o rfl) rfl rfl hl.1 rfl (Nat.le_of_ble_eq_true rfl) dX11_isStill_173 ⟨Nat.le_of_ble_eq_true rfl, Nat.le_of_ble_eq_true rfl⟩ ⟨Nat.zero_le _, Nat.zero_le _⟩ (fun H20 locs hp20 hT20 hS20 hk20 => ?_)
                obtain ⟨hp20, hB20⟩ := hp20
                have z54 : ∀ j : Nat, (j = 0 ∨ 600 ≤ j) → h_ai H20 (o + 1) j = h_ai H0 (o + 1) j := fun j hj => (hB20.2 j hj).trans (z2 j hj)
                have R55 : mR o H20 := hB20.1
                exact hret _ _ _ _ hT20 hS20 ⟨trivial, ⟨R55, z54⟩⟩ dX11_isStill_176
            · skip
              have c48 : r4.toInt = x47.toInt := congrArg Int32.toInt c48
              refine lv_aload_n hx hb dX11_isStill_134 rfl (lv_at hl 2 rfl) ?_
              refine lv_aload_n hx hb dX11_isStill_135 rfl (lv_at hl 2 rfl) ?_
              refine lv_bipush (v := 19) hx hb dX11_isStill_136 (by decide) ?_
              refine h_callVi (T := TX11) (rest := [.ref (o)]) (As := [.int 19]) hx hb hml hown hts hK hT2 hZ (fun _ h => h) hS14 (c_of l G Y P (o) hM 19 19 (by decide) (h_inc (by decide))) trivial wd_X11_of wV_X11_of wL_X11_47 (hM.o rfl) rfl rfl hl.1 rfl (Nat.le_of_ble_eq_true rfl) dX11_isStill_138 ⟨Nat.le_of_ble_eq_true rfl, Nat.le_of_ble_eq_true rfl⟩ ⟨Nat.zero_le _, Nat.zero_le _⟩ (fun r56 H21 locs hp21 hT21 hS21 hk21 => ?_)
              obtain ⟨hp21, he⟩ := hp21
              have he := he.symm
              subst he
              have mr56 : h_ai H2 (o + 1) 19 = r56 := hp21.1.symm
              have br56 := mP_m1 hp21.2 (by omega)
              refine h_callVv (T := TX11) (rest := []) (As := [.int r56]) hx hb hml hown hts hK hT2 hZ (fun _ h => h) hS21 (c_X11_isBlamed l G Y P (o) hM r56 (show (-1) ≤ r56.toInt ∧ r56.toInt ≤ 7 from by omega)) R3 wd_X11_isBlamed wV_X11_isBlamed wL_X11_159 (hM.o rfl) rfl rfl hl.1 rfl (Nat.le_of_ble_eq_true rfl) dX11_isStill_141 ⟨Nat.le_of_ble_eq_true rfl, Nat.le_of_ble_eq_true rfl⟩ ⟨Nat.zero_le _, Nat.zero_le _⟩ (fun H22 locs hp22 hT22 hS22 hk22 => ?_)
              obtain ⟨hp22, hB22⟩ := hp22
              have z57 : ∀ j : Nat, (j = 0 ∨ 600 ≤ j) → h_ai H22 (o + 1) j = h_ai H0 (o + 1) j := fun j hj => (hB22.2 j hj).trans (z2 j hj)
              have R58 : mR o H22 := hB22.1
              refine lv_goto (tgt := 176) hx hb dX11_isStill_144 (by decide) ?_
              exact hret _ _ _ _ hT22 hS22 ⟨trivial, ⟨R58, z57⟩⟩ dX11_isStill_176
        · skip
          have c35 : r34.toInt = (1 : Int) := congrArg Int32.toInt c35
          refine lv_aload_n hx hb dX11_isStill_88 rfl (lv_at hl 2 rfl) ?_
          refine lv_iconst (v := 1) hx hb dX11_isStill_89 (by decide) ?_
          refine lv_aload_n hx hb dX11_isStill_90 rfl (lv_at hl 2 rfl) ?_
          obtain ⟨v59, mv59⟩ : ∃ x, h_ai H2 (o + 1) 0 = x := ⟨_, rfl⟩
          have bv59 := mP_N (mP_cell hM hT2 (j := 0) (by omega)) (by omega)
          rw [mv59] at bv59
          refine h_callVi (T := TX11) (rest := [.int 1, .ref (o)]) (As := []) hx hb hml hown hts hK hT2 hZ (fun _ h => h) hS13 (c_X11_heirNow l G Y P (o) hM) trivial wd_X11_heirNow wV_X11_heirNow wL_X11_146 (hM.o rfl) rfl rfl hl.1 rfl (Nat.le_of_ble_eq_true rfl) dX11_isStill_91 ⟨Nat.le_of_ble_eq_true rfl, Nat.le_of_ble_eq_true rfl⟩ ⟨Nat.zero_le _, Nat.zero_le _⟩ (fun r60 H23 locs hp23 hT23 hS23 hk23 => ?_)
          obtain ⟨hp23, he⟩ := hp23
          have he := he.symm
          subst he
          have f61 : r60.toInt = -1 ∨ (0 ≤ r60.toInt ∧ r60.toInt < v59.toInt) := by have q := hp23; rw [mv59] at q; exact q
          refine h_callVv (T := TX11) (rest := []) (As := [.int 1, .int r60]) hx hb hml hown hts hK hT2 hZ (fun _ h => h) hS23 (c_puts l G Y P (o) hM 1 r60 1 (by decide) (h_inc (by decide)) (mP_of1 (by omega) (show -1 ≤ r60.toInt from by omega) (show r60.toInt ≤ 7 from by omega))) trivial wd_X11_puts wV_X11_puts wL_X11_43 (hM.o rfl) rfl rfl hl.1 rfl (Nat.le_of_ble_eq_true rfl) dX11_isStill_94 ⟨Nat.le_of_ble_eq_true rfl, Nat.le_of_ble_eq_true rfl⟩ ⟨Nat.zero_le _, Nat.zero_le _⟩ (fun H24 locs hp24 hT24 hS24 hk24 => ?_)
          have hp24 : h_apu H2 H24 (o + 1) 1 (.int r60) := hp24.2
          have z62 : ∀ j : Nat, (j = 0 ∨ 600 ≤ j) → h_ai H24 (o + 1) j = h_ai H0 (o + 1) j := fun j hj => (h_apn hp24 (by omega)).trans (z2 j hj)
          have m63 : h_ai H24 (o + 1) 4 = r4 := (h_apn hp24 (by omega)).trans mr4
          have m64 : h_ai H24 (o + 1) 18 = r34 := (h_apn hp24 (by omega)).trans mr34
          have m65 : h_ai H24 (o + 1) 0 = v59 := (h_apn hp24 (by omega)).trans mv59
          have R66 : mR o H24 := R3.keep (fun j hj => h_apn hp24 (by unfold mK at hj; omega))
          have m67 : h_ai H24 (o + 1) 1 = r60 := h_aps hp24
          refine lv_aload_n hx hb dX11_isStill_97 rfl (lv_at hl 2 rfl) ?_
          refine lv_bipush (v := 7) hx hb dX11_isStill_98 (by decide) ?_
          refine lv_aload_n hx hb dX11_isStill_100 rfl (lv_at hl 2 rfl) ?_
          refine lv_iconst (v := 1) hx hb dX11_isStill_101 (by decide) ?_
          refine h_callVi (T := TX11) (rest := [.int 7, .ref (o)]) (As := [.int 1]) hx hb hml hown hts hK hT24 hZ (fun _ h => h) hS24 (c_of l G Y P (o) hM 1 1 (by decide) (h_inc (by decide))) trivial wd_X11_of wV_X11_of wL_X11_47 (hM.o rfl) rfl rfl hl.1 rfl (Nat.le_of_ble_eq_true rfl) dX11_isStill_102 ⟨Nat.le_of_ble_eq_true rfl, Nat.le_of_ble_eq_true rfl⟩ ⟨Nat.zero_le _, Nat.zero_le _⟩ (fun r68 H25 locs hp25 hT25 hS25 hk25 => ?_)
          obtain ⟨hp25, he⟩ := hp25
          have he := he.symm
          subst he
          have hp25 : r60 = r68 := (hp25.1.trans m67).symm
          subst hp25
          refine h_callVv (T := TX11) (rest := []) (As := [.int 7, .int r60]) hx hb hml hown hts hK hT24 hZ (fun _ h => h) hS25 (c_X11_happens l G Y P (o) hM 7 r60) trivial wd_X11_happens wV_X11_happens wL_X11_72 (hM.o rfl) rfl rfl hl.1 rfl (Nat.le_of_ble_eq_true rfl) dX11_isStill_105 ⟨Nat.le_of_ble_eq_true rfl, Nat.le_of_ble_eq_true rfl⟩ ⟨Nat.zero_le _, Nat.zero_le _⟩ (fun H26 locs hp26 hT26 hS26 hk26 => ?_)
          obtain ⟨hp26, hB26⟩ := hp26
          have z69 : ∀ j : Nat, (j = 0 ∨ 600 ≤ j) → h_ai H26 (o + 1) j = h_ai H0 (o + 1) j := fun j hj => (hB26 j (by unfold mK; omega)).trans (z62 j hj)
          have m70 : h_ai H26 (o + 1) 0 = v59 := (hB26 _ (by unfold mK; omega)).trans m65
          have R71 : mR o H26 := R66.keep hB26
          refine lv_aload_n hx hb dX11_isStill_108 rfl (lv_at hl 2 rfl) ?_
          refine h_callVv (T := TX11) (rest := []) (As := []) hx hb hml hown hts hK hT26 hZ (fun _ h => h) hS26 (c_X11_purges l G Y P (o) hM) R71 wd_X11_purges wV_X11_purges wL_X11_131 (hM.o rfl) rfl rfl hl.1 rfl (Nat.le_of_ble_eq_true rfl) dX11_isStill_109 ⟨Nat.le_of_ble_eq_true rfl, Nat.le_of_ble_eq_true rfl⟩ ⟨Nat.zero_le _, Nat.zero_le _⟩ (fun H27 locs hp27 hT27 hS27 hk27 => ?_)
          obtain ⟨hp27, hB27⟩ := hp27
          have z72 : ∀ j : Nat, (j = 0 ∨ 600 ≤ j) → h_ai H27 (o + 1) j = h_ai H0 (o + 1) j := fun j hj => (hB27.2 j hj).trans (z69 j hj)
          have m73 : h_ai H27 (o + 1) 0 = v59 := (hB27.2 _ (by omega)).trans m70
          have R74 : mR o H27 := hB27.1
          refine lv_goto (tgt := 176) hx hb dX11_isStill_112 (by decide) ?_
          exact hret _ _ _ _ hT27 hS27 ⟨trivial, ⟨R74, z72⟩⟩ dX11_isStill_176
    · skip
      have c7 : r4.toInt = x6.toInt := congrArg Int32.toInt c7
      refine lv_aload_n hx hb dX11_isStill_29 rfl (lv_at hl 2 rfl) ?_
      refine h_callVi (T := TX11) (rest := []) (As := []) hx hb hml hown hts hK hT2 hZ (fun _ h => h) hS3 (c_X11_doesCount l G Y P (o) hM) R3 wd_X11_doesCount wV_X11_doesCount wL_X11_58 (hM.o rfl) rfl rfl hl.1 rfl (Nat.le_of_ble_eq_true rfl) dX11_isStill_30 ⟨Nat.le_of_ble_eq_true rfl, Nat.le_of_ble_eq_true rfl⟩ ⟨Nat.zero_le _, Nat.zero_le _⟩ (fun r75 H28 locs hp28 hT28 hS28 hk28 => ?_)
      obtain ⟨hp28, he⟩ := hp28
      have he := he.symm
      subst he
      refine lv_if_eq (tgt := 43) hx hb dX11_isStill_33 (by decide) (fun c76 => ?_) (fun c76 => ?_)
      · skip
        have c76 : r75.toInt = (0 : Int) := congrArg Int32.toInt c76
        refine lv_aload_n hx hb dX11_isStill_43 rfl (lv_at hl 2 rfl) ?_
        refine lv_aload_n hx hb dX11_isStill_44 rfl (lv_at hl 2 rfl) ?_
        refine lv_iconst (v := 1) hx hb dX11_isStill_45 (by decide) ?_
        refine h_callVi (T := TX11) (rest := [.ref (o)]) (As := [.int 1]) hx hb hml hown hts hK hT2 hZ (fun _ h => h) hS28 (c_of l G Y P (o) hM 1 1 (by decide) (h_inc (by decide))) trivial wd_X11_of wV_X11_of wL_X11_47 (hM.o rfl) rfl rfl hl.1 rfl (Nat.le_of_ble_eq_true rfl) dX11_isStill_46 ⟨Nat.le_of_ble_eq_true rfl, Nat.le_of_ble_eq_true rfl⟩ ⟨Nat.zero_le _, Nat.zero_le _⟩ (fun r77 H29 locs hp29 hT29 hS29 hk29 => ?_)
        obtain ⟨hp29, he⟩ := hp29
        have he := he.symm
        subst he
        have mr77 : h_ai H2 (o + 1) 1 = r77 := hp29.1.symm
        have br77 := mP_m1 hp29.2 (by omega)
        obtain ⟨v78, mv78⟩ : ∃ x, h_ai H2 (o + 1) 0 = x := ⟨_, rfl⟩
        have bv78 := mP_N (mP_cell hM hT2 (j := 0) (by omega)) (by omega)
        rw [mv78] at bv78
        refine h_callVi (T := TX11) (rest := []) (As := [.int r77]) hx hb hml hown hts hK hT2 hZ (fun _ h => h) hS29 (c_X11_isOn l G Y P (o) hM r77) trivial wd_X11_isOn wV_X11_isOn wL_X11_55 (hM.o rfl) rfl rfl hl.1 rfl (Nat.le_of_ble_eq_true rfl) dX11_isStill_49 ⟨Nat.le_of_ble_eq_true rfl, Nat.le_of_ble_eq_true rfl⟩ ⟨Nat.zero_le _, Nat.zero_le _⟩ (fun r79 H30 locs hp30 hT30 hS30 hk30 => ?_)
        obtain ⟨hp30, he⟩ := hp30
        have he := he.symm
        subst he
        have f80 : r79.toInt = 0 ∨ (0 ≤ r77.toInt ∧ r77.toInt < v78.toInt) := by have q := hp30.2; rw [mv78] at q; exact q
        refine lv_if_eq (tgt := 62) hx hb dX11_isStill_52 (by decide) (fun c81 => ?_) (fun c81 => ?_)
        · skip
          have c81 : r79.toInt = (0 : Int) := congrArg Int32.toInt c81
          refine lv_aload_n hx hb dX11_isStill_62 rfl (lv_at hl 2 rfl) ?_
          refine h_callVv (T := TX11) (rest := []) (As := []) hx hb hml hown hts hK hT2 hZ (fun _ h => h) hS30 (c_X11_claims l G Y P (o) hM) trivial wd_X11_claims wV_X11_claims wL_X11_156 (hM.o rfl) rfl rfl hl.1 rfl (Nat.le_of_ble_eq_true rfl) dX11_isStill_63 ⟨Nat.le_of_ble_eq_true rfl, Nat.le_of_ble_eq_true rfl⟩ ⟨Nat.zero_le _, Nat.zero_le _⟩ (fun H31 locs hp31 hT31 hS31 hk31 => ?_)
          obtain ⟨hp31, hB31⟩ := hp31
          have z82 : ∀ j : Nat, (j = 0 ∨ 600 ≤ j) → h_ai H31 (o + 1) j = h_ai H0 (o + 1) j := fun j hj => (hB31 j (by unfold mK; omega)).trans (z2 j hj)
          have m83 : h_ai H31 (o + 1) 0 = v78 := (hB31 _ (by unfold mK; omega)).trans mv78
          have R84 : mR o H31 := R3.keep hB31
          refine lv_goto (tgt := 176) hx hb dX11_isStill_66 (by decide) ?_
          exact hret _ _ _ _ hT31 hS31 ⟨trivial, ⟨R84, z82⟩⟩ dX11_isStill_176
        · skip
          have c81 : ¬ r79.toInt = (0 : Int) := h_neI c81
          refine lv_aload_n hx hb dX11_isStill_55 rfl (lv_at hl 2 rfl) ?_
          refine h_callVv (T := TX11) (rest := []) (As := []) hx hb hml hown hts hK hT2 hZ (fun _ h => h) hS30 (c_X11_purges l G Y P (o) hM) R3 wd_X11_purges wV_X11_purges wL_X11_131 (hM.o rfl) rfl rfl hl.1 rfl (Nat.le_of_ble_eq_true rfl) dX11_isStill_56 ⟨Nat.le_of_ble_eq_true rfl, Nat.le_of_ble_eq_true rfl⟩ ⟨Nat.zero_le _, Nat.zero_le _⟩ (fun H32 locs hp32 hT32 hS32 hk32 => ?_)
          obtain ⟨hp32, hB32⟩ := hp32
          have z85 : ∀ j : Nat, (j = 0 ∨ 600 ≤ j) → h_ai H32 (o + 1) j = h_ai H0 (o + 1) j := fun j hj => (hB32.2 j hj).trans (z2 j hj)
          have m86 : h_ai H32 (o + 1) 0 = v78 := (hB32.2 _ (by omega)).trans mv78
          have R87 : mR o H32 := hB32.1
          refine lv_goto (tgt := 176) hx hb dX11_isStill_59 (by decide) ?_
          exact hret _ _ _ _ hT32 hS32 ⟨trivial, ⟨R87, z85⟩⟩ dX11_isStill_176
      · skip
        have c76 : ¬ r75.toInt = (0 : Int) := h_neI c76
        refine lv_aload_n hx hb dX11_isStill_36 rfl (lv_at hl 2 rfl) ?_
        refine h_callVv (T := TX11) (rest := []) (As := []) hx hb hml hown hts hK hT2 hZ (fun _ h => h) hS28 (c_X11_beacons l G Y P (o) hM) trivial wd_X11_beacons wV_X11_beacons wL_X11_153 (hM.o rfl) rfl rfl hl.1 rfl (Nat.le_of_ble_eq_true rfl) dX11_isStill_37 ⟨Nat.le_of_ble_eq_true rfl, Nat.le_of_ble_eq_true rfl⟩ ⟨Nat.zero_le _, Nat.zero_le _⟩ (fun H33 locs hp33 hT33 hS33 hk33 => ?_)
        obtain ⟨hp33, hB33⟩ := hp33
        have z88 : ∀ j : Nat, (j = 0 ∨ 600 ≤ j) → h_ai H33 (o + 1) j = h_ai H0 (o + 1) j := fun j hj => (hB33 j (by unfold mK; omega)).trans (z2 j hj)
        have R89 : mR o H33 := R3.keep hB33
        refine lv_goto (tgt := 176) hx hb dX11_isStill_40 (by decide) ?_
        exact hret _ _ _ _ hT33 hS33 ⟨trivial, ⟨R89, z88⟩⟩ dX11_isStill_176
  · skip
    have c5 : r1.toInt = (0 : Int) := congrArg Int32.toInt c5
    exact hret _ _ _ _ hT2 hS3 ⟨trivial, ⟨R3, z2⟩⟩ dX11_isStill_21
set_option maxHeartbeats 4000000 in
set_option maxRecDepth 100000 in
theorem c_X11_ticks (l : Launch) (G : hG) (Y : hW) (P : Int32 → Prop) (o : Nat) (hM : h_On Y o (modE (tM P) o)) : hMv l yX11_ticks cX11_ticks 1 none 6 131 G Y [.ref (o)] (fun H => mR o H) (fun H H1 => (True) ∧ (mR o H1 ∧ mU o H H1)) := by
  refine h_ofv (by decide +kernel) (Nat.le_of_ble_eq_true rfl) ?_
  intro p e s m args below meth c H0 ls Q hx hb hts hown hml hK hZ hT0 hpr hS0 hl hret
  have hl : lv_has ls 1 [(0, .ref (o))] := hl
  refine lv_aload_n hx hb dX11_ticks_0 rfl (lv_at hl 0 rfl) ?_
  refine lv_iconst (v := (-1)) hx hb dX11_ticks_1 (by decide) ?_
  refine h_puti (C := RX11) (T := TX11) (N := 23) hx hb hts inX11 tyX11 tyX11_ok nmX11 hown hK hT0 (fun _ h => h) hS0 (hM.o rfl) rfl 3 rfl wF_X11_112 rfl rfl trivial rfl rfl dX11_ticks_2 (fun H1 locs hT1 hS1 hu1 => ?_)
  have z1 : ∀ j : Nat, (j = 0 ∨ 600 ≤ j) → h_ai H1 (o + 1) j = h_ai H0 (o + 1) j := fun j hj => (h_ai_same (hu1.2.1 (o + 1) (by omega)))
  have R2 : mR o H1 := hpr.same (hu1.2.1 (o + 1) (by omega))
  refine lv_aload_n hx hb dX11_ticks_5 rfl (lv_at hl 0 rfl) ?_
  refine lv_iconst (v := (-1)) hx hb dX11_ticks_6 (by decide) ?_
  refine h_puti (C := RX11) (T := TX11) (N := 23) hx hb hts inX11 tyX11 tyX11_ok nmX11 hown hK hT1 (fun _ h => h) hS1 (hM.o rfl) rfl 4 rfl wF_X11_143 rfl rfl trivial rfl rfl dX11_ticks_7 (fun H2 locs hT2 hS2 hu2 => ?_)
  have z3 : ∀ j : Nat, (j = 0 ∨ 600 ≤ j) → h_ai H2 (o + 1) j = h_ai H0 (o + 1) j := fun j hj => (h_ai_same (hu2.2.1 (o + 1) (by omega))).trans (z1 j hj)
  have R4 : mR o H2 := R2.same (hu2.2.1 (o + 1) (by omega))
  refine lv_aload_n hx hb dX11_ticks_10 rfl (lv_at hl 0 rfl) ?_
  refine lv_iconst (v := 0) hx hb dX11_ticks_11 (by decide) ?_
  refine h_puti (C := RX11) (T := TX11) (N := 23) hx hb hts inX11 tyX11 tyX11_ok nmX11 hown hK hT2 (fun _ h => h) hS2 (hM.o rfl) rfl 5 rfl wF_X11_82 rfl rfl (Or.inl rfl) rfl rfl dX11_ticks_12 (fun H3 locs hT3 hS3 hu3 => ?_)
  have z5 : ∀ j : Nat, (j = 0 ∨ 600 ≤ j) → h_ai H3 (o + 1) j = h_ai H0 (o + 1) j := fun j hj => (h_ai_same (hu3.2.1 (o + 1) (by omega))).trans (z3 j hj)
  have R6 : mR o H3 := R4.same (hu3.2.1 (o + 1) (by omega))
  refine lv_aload_n hx hb dX11_ticks_15 rfl (lv_at hl 0 rfl) ?_
  refine lv_iconst (v := 3) hx hb dX11_ticks_16 (by decide) ?_
  refine lv_iconst (v := 1) hx hb dX11_ticks_17 (by decide) ?_
  refine h_callVv (T := TX11) (rest := []) (As := [.int 3, .int 1]) hx hb hml hown hts hK hT3 hZ (fun _ h => h) hS3 (c_adds l G Y P (o) hM 3 1 3 (by decide) (h_inc (by decide))) (show mP 3 (h_ai H3 (o + 1) 3 + 1) from (mP_free (by unfold mFree; omega))) wd_X11_adds wV_X11_adds wL_X11_69 (hM.o rfl) rfl rfl hl.1 rfl (Nat.le_of_ble_eq_true rfl) dX11_ticks_18 ⟨Nat.le_of_ble_eq_true rfl, Nat.le_of_ble_eq_true rfl⟩ ⟨Nat.zero_le _, Nat.zero_le _⟩ (fun H4 locs hp4 hT4 hS4 hk4 => ?_)
  have hp4 : h_apu H3 H4 (o + 1) 3 (.int (h_ai H3 (o + 1) 3 + 1)) := hp4.2
  have z7 : ∀ j : Nat, (j = 0 ∨ 600 ≤ j) → h_ai H4 (o + 1) j = h_ai H0 (o + 1) j := fun j hj => (h_apn hp4 (by omega)).trans (z5 j hj)
  have R8 : mR o H4 := R6.keep (fun j hj => h_apn hp4 (by unfold mK at hj; omega))
  refine lv_aload_n hx hb dX11_ticks_21 rfl (lv_at hl 0 rfl) ?_
  refine lv_iconst (v := 5) hx hb dX11_ticks_22 (by decide) ?_
  refine h_callVi (T := TX11) (rest := []) (As := [.int 5]) hx hb hml hown hts hK hT4 hZ (fun _ h => h) hS4 (c_of l G Y P (o) hM 5 5 (by decide) (h_inc (by decide))) trivial wd_X11_of wV_X11_of wL_X11_47 (hM.o rfl) rfl rfl hl.1 rfl (Nat.le_of_ble_eq_true rfl) dX11_ticks_23 ⟨Nat.le_of_ble_eq_true rfl, Nat.le_of_ble_eq_true rfl⟩ ⟨Nat.zero_le _, Nat.zero_le _⟩ (fun r9 H5 locs hp5 hT5 hS5 hk5 => ?_)
  obtain ⟨hp5, he⟩ := hp5
  have he := he.symm
  subst he
  have mr9 : h_ai H4 (o + 1) 5 = r9 := hp5.1.symm
  refine lv_if_ne (tgt := 36) hx hb dX11_ticks_26 (by decide) (fun c10 => ?_) (fun c10 => ?_)
  · skip
    have c10 : ¬ r9.toInt = (0 : Int) := h_neI c10
    refine lv_aload_n hx hb dX11_ticks_36 rfl (lv_at hl 0 rfl) ?_
    refine h_callVv (T := TX11) (rest := []) (As := []) hx hb hml hown hts hK hT4 hZ (fun _ h => h) hS5 (c_X11_goesOn l G Y P (o) hM) R8 wd_X11_goesOn wV_X11_goesOn wL_X11_165 (hM.o rfl) rfl rfl hl.1 rfl (Nat.le_of_ble_eq_true rfl) dX11_ticks_37 ⟨Nat.le_of_ble_eq_true rfl, Nat.le_of_ble_eq_true rfl⟩ ⟨Nat.zero_le _, Nat.zero_le _⟩ (fun H6 locs hp6 hT6 hS6 hk6 => ?_)
    obtain ⟨hp6, hB6⟩ := hp6
    have z11 : ∀ j : Nat, (j = 0 ∨ 600 ≤ j) → h_ai H6 (o + 1) j = h_ai H0 (o + 1) j := fun j hj => (hB6.2 j hj).trans (z7 j hj)
    have R12 : mR o H6 := hB6.1
    exact hret _ _ _ _ hT6 hS6 ⟨trivial, ⟨R12, z11⟩⟩ dX11_ticks_40
  · skip
    have c10 : r9.toInt = (0 : Int) := congrArg Int32.toInt c10
    refine lv_aload_n hx hb dX11_ticks_29 rfl (lv_at hl 0 rfl) ?_
    refine h_callVv (T := TX11) (rest := []) (As := []) hx hb hml hown hts hK hT4 hZ (fun _ h => h) hS5 (c_X11_isStill l G Y P (o) hM) R8 wd_X11_isStill wV_X11_isStill wL_X11_162 (hM.o rfl) rfl rfl hl.1 rfl (Nat.le_of_ble_eq_true rfl) dX11_ticks_30 ⟨Nat.le_of_ble_eq_true rfl, Nat.le_of_ble_eq_true rfl⟩ ⟨Nat.zero_le _, Nat.zero_le _⟩ (fun H7 locs hp7 hT7 hS7 hk7 => ?_)
    obtain ⟨hp7, hB7⟩ := hp7
    have z13 : ∀ j : Nat, (j = 0 ∨ 600 ≤ j) → h_ai H7 (o + 1) j = h_ai H0 (o + 1) j := fun j hj => (hB7.2 j hj).trans (z7 j hj)
    have R14 : mR o H7 := hB7.1
    refine lv_goto (tgt := 40) hx hb dX11_ticks_33 (by decide) ?_
    exact hret _ _ _ _ hT7 hS7 ⟨trivial, ⟨R14, z13⟩⟩ dX11_ticks_40
