set_option maxHeartbeats 4000000 in
set_option maxRecDepth 100000 in
theorem c_X11_gives (l : Launch) (G : hG) (Y : hW) (o : Nat) (hM : h_On Y o (modE tF o)) (u1 : Int32) : hMi l yX11_gives cX11_gives 2 (some .int) 0 0 G Y [.ref (o), .int u1] (fun H => True) (fun H r H1 => r = u1) := by
  refine h_ofi (by decide +kernel) (Nat.le_of_ble_eq_true rfl) ?_
  intro p e s m args below meth c H0 ls Q hx hb hts hown hml hK hT0 hpr hS0 hl hret
  have hl : lv_has ls 2 [(0, .ref (o)), (1, .int u1)] := hl
  refine lv_aload_n hx hb dX11_gives_0 rfl (lv_at hl 0 rfl) ?_
  refine lv_iconst (v := 0) hx hb dX11_gives_1 (by decide) ?_
  refine h_puti (C := RX11) (T := TX11) (N := 23) hx hb hts inX11 tyX11 tyX11_ok nmX11 hown hK hT0 (fun _ h => h) hS0 (hM.o rfl) rfl 1 rfl wF_X11_40 rfl rfl trivial rfl rfl dX11_gives_2 (fun H1 locs hT1 hS1 hu1 => ?_)
  refine lv_iload_n hx hb dX11_gives_5 rfl (lv_at hl 1 rfl) ?_
  exact hret _ _ _ _ _ hT1 hS1 rfl dX11_gives_6
set_option maxHeartbeats 4000000 in
set_option maxRecDepth 100000 in
theorem c_X11_refuse (l : Launch) (G : hG) (Y : hW) (o : Nat) (hM : h_On Y o (modE tF o)) (u1 : Int32) : hMi l yX11_refuse cX11_refuse 2 (some .int) 0 0 G Y [.ref (o), .int u1] (fun H => True) (fun H r H1 => r = (-1)) := by
  refine h_ofi (by decide +kernel) (Nat.le_of_ble_eq_true rfl) ?_
  intro p e s m args below meth c H0 ls Q hx hb hts hown hml hK hT0 hpr hS0 hl hret
  have hl : lv_has ls 2 [(0, .ref (o)), (1, .int u1)] := hl
  refine lv_aload_n hx hb dX11_refuse_0 rfl (lv_at hl 0 rfl) ?_
  refine lv_iload_n hx hb dX11_refuse_1 rfl (lv_at hl 1 rfl) ?_
  refine h_puti (C := RX11) (T := TX11) (N := 23) hx hb hts inX11 tyX11 tyX11_ok nmX11 hown hK hT0 (fun _ h => h) hS0 (hM.o rfl) rfl 1 rfl wF_X11_40 rfl rfl trivial rfl rfl dX11_refuse_2 (fun H1 locs hT1 hS1 hu1 => ?_)
  refine lv_iconst (v := (-1)) hx hb dX11_refuse_5 (by decide) ?_
  exact hret _ _ _ _ _ hT1 hS1 rfl dX11_refuse_6
set_option maxHeartbeats 4000000 in
set_option maxRecDepth 100000 in
theorem c_X11_givesA (l : Launch) (G : hG) (Y : hW) (o : Nat) (hM : h_On Y o (modE tA o)) (u1 : Int32) : hMi l yX11_gives cX11_gives 2 (some .int) 0 0 G Y [.ref (o), .int u1] (fun H => True) (fun H r H1 => r = u1) := by
  refine h_ofi (by decide +kernel) (Nat.le_of_ble_eq_true rfl) ?_
  intro p e s m args below meth c H0 ls Q hx hb hts hown hml hK hT0 hpr hS0 hl hret
  have hl : lv_has ls 2 [(0, .ref (o)), (1, .int u1)] := hl
  refine lv_aload_n hx hb dX11_gives_0 rfl (lv_at hl 0 rfl) ?_
  refine lv_iconst (v := 0) hx hb dX11_gives_1 (by decide) ?_
  refine h_puti (C := RX11) (T := TX11) (N := 23) hx hb hts inX11 tyX11 tyX11_ok nmX11 hown hK hT0 (fun _ h => h) hS0 (hM.o rfl) rfl 1 rfl wF_X11_40 rfl rfl trivial rfl rfl dX11_gives_2 (fun H1 locs hT1 hS1 hu1 => ?_)
  refine lv_iload_n hx hb dX11_gives_5 rfl (lv_at hl 1 rfl) ?_
  exact hret _ _ _ _ _ hT1 hS1 rfl dX11_gives_6
set_option maxHeartbeats 4000000 in
set_option maxRecDepth 100000 in
theorem c_X11_refuseA (l : Launch) (G : hG) (Y : hW) (o : Nat) (hM : h_On Y o (modE tA o)) (u1 : Int32) : hMi l yX11_refuse cX11_refuse 2 (some .int) 0 0 G Y [.ref (o), .int u1] (fun H => True) (fun H r H1 => r = (-1)) := by
  refine h_ofi (by decide +kernel) (Nat.le_of_ble_eq_true rfl) ?_
  intro p e s m args below meth c H0 ls Q hx hb hts hown hml hK hT0 hpr hS0 hl hret
  have hl : lv_has ls 2 [(0, .ref (o)), (1, .int u1)] := hl
  refine lv_aload_n hx hb dX11_refuse_0 rfl (lv_at hl 0 rfl) ?_
  refine lv_iload_n hx hb dX11_refuse_1 rfl (lv_at hl 1 rfl) ?_
  refine h_puti (C := RX11) (T := TX11) (N := 23) hx hb hts inX11 tyX11 tyX11_ok nmX11 hown hK hT0 (fun _ h => h) hS0 (hM.o rfl) rfl 1 rfl wF_X11_40 rfl rfl trivial rfl rfl dX11_refuse_2 (fun H1 locs hT1 hS1 hu1 => ?_)
  refine lv_iconst (v := (-1)) hx hb dX11_refuse_5 (by decide) ?_
  exact hret _ _ _ _ _ hT1 hS1 rfl dX11_refuse_6
set_option maxHeartbeats 4000000 in
set_option maxRecDepth 100000 in
theorem c_X11_isSo (l : Launch) (G : hG) (Y : hW) (o : Nat) (hM : h_On Y o (modE tF o)) (u1 : Int32) : hMi l yX11_isSo cX11_isSo 2 (some .boolean) 0 0 G Y [.ref (o), .int u1] (fun H => True) (fun H r H1 => (u1 = 0 → r = 1) ∧ (¬ u1 = 0 → r = 0)) := by
  refine h_ofz (by decide +kernel) (Nat.le_of_ble_eq_true rfl) ?_
  intro p e s m args below meth c H0 ls Q hx hb hts hown hml hK hT0 hpr hS0 hl hret
  have hl : lv_has ls 2 [(0, .ref (o)), (1, .int u1)] := hl
  refine lv_aload_n hx hb dX11_isSo_0 rfl (lv_at hl 0 rfl) ?_
  refine lv_iload_n hx hb dX11_isSo_1 rfl (lv_at hl 1 rfl) ?_
  refine h_puti (C := RX11) (T := TX11) (N := 23) hx hb hts inX11 tyX11 tyX11_ok nmX11 hown hK hT0 (fun _ h => h) hS0 (hM.o rfl) rfl 1 rfl wF_X11_40 rfl rfl trivial rfl rfl dX11_isSo_2 (fun H1 locs hT1 hS1 hu1 => ?_)
  refine lv_iload_n hx hb dX11_isSo_5 rfl (lv_at hl 1 rfl) ?_
  refine lv_if_ne (tgt := 13) hx hb dX11_isSo_6 (by decide) (fun c1 => ?_) (fun c1 => ?_)
  · skip
    refine lv_iconst (v := 0) hx hb dX11_isSo_13 (by decide) ?_
    exact hret _ _ _ _ _ hT1 hS1 ⟨by decide, by refine ⟨fun h => ?_, fun h => ?_⟩ <;> first | rfl | exact absurd h c1 | exact absurd c1 h⟩ dX11_isSo_14
  · skip
    refine lv_iconst (v := 1) hx hb dX11_isSo_9 (by decide) ?_
    refine lv_goto (tgt := 14) hx hb dX11_isSo_10 (by decide) ?_
    exact hret _ _ _ _ _ hT1 hS1 ⟨by decide, by refine ⟨fun h => ?_, fun h => ?_⟩ <;> first | rfl | exact absurd h c1 | exact absurd c1 h⟩ dX11_isSo_14
set_option maxHeartbeats 4000000 in
set_option maxRecDepth 100000 in
theorem c_X11_isStation (l : Launch) (G : hG) (Y : hW) (o : Nat) (hM : h_On Y o (modE tF o)) (u1 : Int32) : hMi l yX11_isStation cX11_isStation 2 (some .boolean) 1 21 G Y [.ref (o), .int u1] (fun H => True) (fun H r H1 => r = 0 ∧ H1 = H) := by
  refine h_ofz (by decide +kernel) (Nat.le_of_ble_eq_true rfl) ?_
  intro p e s m args below meth c H0 ls Q hx hb hts hown hml hK hT0 hpr hS0 hl hret
  have hl : lv_has ls 2 [(0, .ref (o)), (1, .int u1)] := hl
  refine lv_iload_n hx hb dX11_isStation_0 rfl (lv_at hl 1 rfl) ?_
  refine lv_if_lt (tgt := 17) hx hb dX11_isStation_1 (by decide) (fun c1 => ?_) (fun c1 => ?_)
  · skip
    refine lv_iconst (v := 0) hx hb dX11_isStation_17 (by decide) ?_
    exact hret _ _ _ _ _ hT0 hS0 ⟨by decide, rfl, rfl⟩ dX11_isStation_18
  · skip
    refine lv_iload_n hx hb dX11_isStation_4 rfl (lv_at hl 1 rfl) ?_
    refine lv_aload_n hx hb dX11_isStation_5 rfl (lv_at hl 0 rfl) ?_
    refine lv_iconst (v := 0) hx hb dX11_isStation_6 (by decide) ?_
    refine h_callVi (T := TX11) (rest := [.int u1]) (As := [.int 0]) hx hb hml hown hts hK hT0 (fun _ h => h) hS0 (c_of l G Y tF (o) hM 0 0 (by decide) (h_inc (by decide))) trivial wd_X11_of wV_X11_of wL_X11_47 (hM.o rfl) rfl rfl hl.1 rfl (Nat.le_of_ble_eq_true rfl) dX11_isStation_7 ⟨Nat.le_of_ble_eq_true rfl, Nat.le_of_ble_eq_true rfl⟩ ⟨Nat.zero_le _, Nat.zero_le _⟩ (fun r2 H1 locs hp1 hT1 hS1 hk1 => ?_)
    obtain ⟨hp1, he⟩ := hp1
    have he := he.symm
    subst he
    have hp1 : r2 = 0 := hp1.trans ((tF_all (hT0.ai (hM.at 1 rfl) (j := 0) (by decide)).1 (by decide) (by decide) (by decide)).trans (by decide))
    subst hp1
    refine lv_icmp_ge (tgt := 17) hx hb dX11_isStation_10 (by decide) (fun _ => ?_) (fun h => absurd (by simp only [Int32.lt_iff_toInt_lt, Int32.le_iff_toInt_le, ← Int32.toInt_inj, Int32.reduceToInt, (show (-1 : Int32).toInt = -1 from rfl)] at c1 ⊢; omega) h)
    refine lv_iconst (v := 0) hx hb dX11_isStation_17 (by decide) ?_
    exact hret _ _ _ _ _ hT0 hS1 ⟨by decide, rfl, rfl⟩ dX11_isStation_18
set_option maxHeartbeats 4000000 in
set_option maxRecDepth 100000 in
theorem c_X11_isOn (l : Launch) (G : hG) (Y : hW) (o : Nat) (hM : h_On Y o (modE tF o)) (u1 : Int32) : hMi l yX11_isOn cX11_isOn 2 (some .boolean) 2 42 G Y [.ref (o), .int u1] (fun H => True) (fun H r H1 => r = 0 ∧ H1 = H) := by
  refine h_ofz (by decide +kernel) (Nat.le_of_ble_eq_true rfl) ?_
  intro p e s m args below meth c H0 ls Q hx hb hts hown hml hK hT0 hpr hS0 hl hret
  have hl : lv_has ls 2 [(0, .ref (o)), (1, .int u1)] := hl
  refine lv_aload_n hx hb dX11_isOn_0 rfl (lv_at hl 0 rfl) ?_
  refine lv_iload_n hx hb dX11_isOn_1 rfl (lv_at hl 1 rfl) ?_
  refine h_callVi (T := TX11) (rest := []) (As := [.int u1]) hx hb hml hown hts hK hT0 (fun _ h => h) hS0 (c_X11_isStation l G Y (o) hM u1) trivial wd_X11_isStation wV_X11_isStation wL_X11_51 (hM.o rfl) rfl rfl hl.1 rfl (Nat.le_of_ble_eq_true rfl) dX11_isOn_2 ⟨Nat.le_of_ble_eq_true rfl, Nat.le_of_ble_eq_true rfl⟩ ⟨Nat.zero_le _, Nat.zero_le _⟩ (fun r1 H1 locs hp1 hT1 hS1 hk1 => ?_)
  obtain ⟨hp1, he⟩ := hp1
  have he := he.symm
  subst he
  have hp1 : r1 = 0 := hp1
  subst hp1
  refine lv_if_eq (tgt := 24) hx hb dX11_isOn_5 (by decide) (fun _ => ?_) (fun h => absurd (by decide) h)
  refine lv_iconst (v := 0) hx hb dX11_isOn_24 (by decide) ?_
  exact hret _ _ _ _ _ hT0 hS1 ⟨by decide, rfl, rfl⟩ dX11_isOn_25
set_option maxHeartbeats 4000000 in
set_option maxRecDepth 100000 in
theorem c_X11_onMany (l : Launch) (G : hG) (Y : hW) (o : Nat) (hM : h_On Y o (modE tF o)) : hMi l yX11_onMany cX11_onMany 3 (some .int) 1 21 G Y [.ref (o)] (fun H => True) (fun H r H1 => r = 0 ∧ H1 = H) := by
  refine h_ofi (by decide +kernel) (Nat.le_of_ble_eq_true rfl) ?_
  intro p e s m args below meth c H0 ls Q hx hb hts hown hml hK hT0 hpr hS0 hl hret
  have hl : lv_has ls 3 [(0, .ref (o))] := hl
  refine lv_iconst (v := 0) hx hb dX11_onMany_0 (by decide) ?_
  refine lv_istore_n (lv' := [(1, .int 0), (0, .ref (o))]) hx hb dX11_onMany_1 rfl hl (by decide) rfl (fun ls hl => ?_)
  refine lv_iconst (v := 0) hx hb dX11_onMany_2 (by decide) ?_
  refine lv_istore_n (lv' := [(2, .int 0), (1, .int 0), (0, .ref (o))]) hx hb dX11_onMany_3 rfl hl (by decide) rfl (fun ls hl => ?_)
  refine lv_iload_n hx hb dX11_onMany_4 rfl (lv_at hl 0 rfl) ?_
  refine lv_aload_n hx hb dX11_onMany_5 rfl (lv_at hl 2 rfl) ?_
  refine lv_iconst (v := 0) hx hb dX11_onMany_6 (by decide) ?_
  refine h_callVi (T := TX11) (rest := [.int 0]) (As := [.int 0]) hx hb hml hown hts hK hT0 (fun _ h => h) hS0 (c_of l G Y tF (o) hM 0 0 (by decide) (h_inc (by decide))) trivial wd_X11_of wV_X11_of wL_X11_47 (hM.o rfl) rfl rfl hl.1 rfl (Nat.le_of_ble_eq_true rfl) dX11_onMany_7 ⟨Nat.le_of_ble_eq_true rfl, Nat.le_of_ble_eq_true rfl⟩ ⟨Nat.zero_le _, Nat.zero_le _⟩ (fun r1 H1 locs hp1 hT1 hS1 hk1 => ?_)
  obtain ⟨hp1, he⟩ := hp1
  have he := he.symm
  subst he
  have hp1 : r1 = 0 := hp1.trans ((tF_all (hT0.ai (hM.at 1 rfl) (j := 0) (by decide)).1 (by decide) (by decide) (by decide)).trans (by decide))
  subst hp1
  refine lv_icmp_ge (tgt := 30) hx hb dX11_onMany_10 (by decide) (fun _ => ?_) (fun h => absurd (by decide) h)
  refine lv_iload_n hx hb dX11_onMany_30 rfl (lv_at hl 1 rfl) ?_
  exact hret _ _ _ _ _ hT0 hS1 ⟨rfl, rfl⟩ dX11_onMany_31
set_option maxHeartbeats 4000000 in
set_option maxRecDepth 100000 in
theorem c_X11_doesCount (l : Launch) (G : hG) (Y : hW) (o : Nat) (hM : h_On Y o (modE tF o)) : hMi l yX11_doesCount cX11_doesCount 2 (some .boolean) 1 21 G Y [.ref (o)] (fun H => True) (fun H r H1 => r = 0 ∧ H1 = H) := by
  refine h_ofz (by decide +kernel) (Nat.le_of_ble_eq_true rfl) ?_
  intro p e s m args below meth c H0 ls Q hx hb hts hown hml hK hT0 hpr hS0 hl hret
  have hl : lv_has ls 2 [(0, .ref (o))] := hl
  refine lv_aload_n hx hb dX11_doesCount_0 rfl (lv_at hl 0 rfl) ?_
  refine lv_bipush (v := 16) hx hb dX11_doesCount_1 (by decide) ?_
  refine h_callVi (T := TX11) (rest := []) (As := [.int 16]) hx hb hml hown hts hK hT0 (fun _ h => h) hS0 (c_of l G Y tF (o) hM 16 16 (by decide) (h_inc (by decide))) trivial wd_X11_of wV_X11_of wL_X11_47 (hM.o rfl) rfl rfl hl.1 rfl (Nat.le_of_ble_eq_true rfl) dX11_doesCount_3 ⟨Nat.le_of_ble_eq_true rfl, Nat.le_of_ble_eq_true rfl⟩ ⟨Nat.zero_le _, Nat.zero_le _⟩ (fun r1 H1 locs hp1 hT1 hS1 hk1 => ?_)
  obtain ⟨hp1, he⟩ := hp1
  have he := he.symm
  subst he
  have hp1 : r1 = (-1) := hp1.trans ((tF_all (hT0.ai (hM.at 1 rfl) (j := 16) (by decide)).1 (by decide) (by decide) (by decide)).trans (by decide))
  subst hp1
  refine lv_istore_n (lv' := [(1, .int (-1)), (0, .ref (o))]) hx hb dX11_doesCount_6 rfl hl (by decide) rfl (fun ls hl => ?_)
  refine lv_iload_n hx hb dX11_doesCount_7 rfl (lv_at hl 0 rfl) ?_
  refine lv_iconst (v := (-1)) hx hb dX11_doesCount_8 (by decide) ?_
  refine lv_icmp_ne (tgt := 14) hx hb dX11_doesCount_9 (by decide) (fun h => absurd (by decide) h) (fun _ => ?_)
  refine lv_iconst (v := 0) hx hb dX11_doesCount_12 (by decide) ?_
  exact hret _ _ _ _ _ hT0 hS1 ⟨by decide, rfl, rfl⟩ dX11_doesCount_13
set_option maxHeartbeats 4000000 in
set_option maxRecDepth 100000 in
theorem c_X11_heirNow (l : Launch) (G : hG) (Y : hW) (o : Nat) (hM : h_On Y o (modE tF o)) : hMi l yX11_heirNow cX11_heirNow 3 (some .int) 1 21 G Y [.ref (o)] (fun H => True) (fun H r H1 => r = (-1) ∧ H1 = H) := by
  refine h_ofi (by decide +kernel) (Nat.le_of_ble_eq_true rfl) ?_
  intro p e s m args below meth c H0 ls Q hx hb hts hown hml hK hT0 hpr hS0 hl hret
  have hl : lv_has ls 3 [(0, .ref (o))] := hl
  refine lv_iconst (v := (-1)) hx hb dX11_heirNow_0 (by decide) ?_
  refine lv_istore_n (lv' := [(1, .int (-1)), (0, .ref (o))]) hx hb dX11_heirNow_1 rfl hl (by decide) rfl (fun ls hl => ?_)
  refine lv_iconst (v := 0) hx hb dX11_heirNow_2 (by decide) ?_
  refine lv_istore_n (lv' := [(2, .int 0), (1, .int (-1)), (0, .ref (o))]) hx hb dX11_heirNow_3 rfl hl (by decide) rfl (fun ls hl => ?_)
  refine lv_iload_n hx hb dX11_heirNow_4 rfl (lv_at hl 0 rfl) ?_
  refine lv_aload_n hx hb dX11_heirNow_5 rfl (lv_at hl 2 rfl) ?_
  refine lv_iconst (v := 0) hx hb dX11_heirNow_6 (by decide) ?_
  refine h_callVi (T := TX11) (rest := [.int 0]) (As := [.int 0]) hx hb hml hown hts hK hT0 (fun _ h => h) hS0 (c_of l G Y tF (o) hM 0 0 (by decide) (h_inc (by decide))) trivial wd_X11_of wV_X11_of wL_X11_47 (hM.o rfl) rfl rfl hl.1 rfl (Nat.le_of_ble_eq_true rfl) dX11_heirNow_7 ⟨Nat.le_of_ble_eq_true rfl, Nat.le_of_ble_eq_true rfl⟩ ⟨Nat.zero_le _, Nat.zero_le _⟩ (fun r1 H1 locs hp1 hT1 hS1 hk1 => ?_)
  obtain ⟨hp1, he⟩ := hp1
  have he := he.symm
  subst he
  have hp1 : r1 = 0 := hp1.trans ((tF_all (hT0.ai (hM.at 1 rfl) (j := 0) (by decide)).1 (by decide) (by decide) (by decide)).trans (by decide))
  subst hp1
  refine lv_icmp_ge (tgt := 53) hx hb dX11_heirNow_10 (by decide) (fun _ => ?_) (fun h => absurd (by decide) h)
  refine lv_iload_n hx hb dX11_heirNow_53 rfl (lv_at hl 1 rfl) ?_
  exact hret _ _ _ _ _ hT0 hS1 ⟨rfl, rfl⟩ dX11_heirNow_54
set_option maxHeartbeats 4000000 in
set_option maxRecDepth 100000 in
theorem c_X11_waitAll (l : Launch) (G : hG) (Y : hW) (o : Nat) (hM : h_On Y o (modE tF o)) : hMi l yX11_waitAll cX11_waitAll 3 (some .int) 1 21 G Y [.ref (o)] (fun H => True) (fun H r H1 => r = 0 ∧ H1 = H) := by
  refine h_ofi (by decide +kernel) (Nat.le_of_ble_eq_true rfl) ?_
  intro p e s m args below meth c H0 ls Q hx hb hts hown hml hK hT0 hpr hS0 hl hret
  have hl : lv_has ls 3 [(0, .ref (o))] := hl
  refine lv_iconst (v := 0) hx hb dX11_waitAll_0 (by decide) ?_
  refine lv_istore_n (lv' := [(1, .int 0), (0, .ref (o))]) hx hb dX11_waitAll_1 rfl hl (by decide) rfl (fun ls hl => ?_)
  refine lv_iconst (v := 0) hx hb dX11_waitAll_2 (by decide) ?_
  refine lv_istore_n (lv' := [(2, .int 0), (1, .int 0), (0, .ref (o))]) hx hb dX11_waitAll_3 rfl hl (by decide) rfl (fun ls hl => ?_)
  refine lv_iload_n hx hb dX11_waitAll_4 rfl (lv_at hl 0 rfl) ?_
  refine lv_aload_n hx hb dX11_waitAll_5 rfl (lv_at hl 2 rfl) ?_
  refine lv_iconst (v := 0) hx hb dX11_waitAll_6 (by decide) ?_
  refine h_callVi (T := TX11) (rest := [.int 0]) (As := [.int 0]) hx hb hml hown hts hK hT0 (fun _ h => h) hS0 (c_of l G Y tF (o) hM 0 0 (by decide) (h_inc (by decide))) trivial wd_X11_of wV_X11_of wL_X11_47 (hM.o rfl) rfl rfl hl.1 rfl (Nat.le_of_ble_eq_true rfl) dX11_waitAll_7 ⟨Nat.le_of_ble_eq_true rfl, Nat.le_of_ble_eq_true rfl⟩ ⟨Nat.zero_le _, Nat.zero_le _⟩ (fun r1 H1 locs hp1 hT1 hS1 hk1 => ?_)
  obtain ⟨hp1, he⟩ := hp1
  have he := he.symm
  subst he
  have hp1 : r1 = 0 := hp1.trans ((tF_all (hT0.ai (hM.at 1 rfl) (j := 0) (by decide)).1 (by decide) (by decide) (by decide)).trans (by decide))
  subst hp1
  refine lv_icmp_ge (tgt := 30) hx hb dX11_waitAll_10 (by decide) (fun _ => ?_) (fun h => absurd (by decide) h)
  refine lv_iload_n hx hb dX11_waitAll_30 rfl (lv_at hl 1 rfl) ?_
  exact hret _ _ _ _ _ hT0 hS1 ⟨rfl, rfl⟩ dX11_waitAll_31
set_option maxHeartbeats 4000000 in
set_option maxRecDepth 100000 in
theorem c_X11_onBits (l : Launch) (G : hG) (Y : hW) (o : Nat) (hM : h_On Y o (modE tF o)) : hMi l yX11_onBits cX11_onBits 3 (some .int) 1 21 G Y [.ref (o)] (fun H => True) (fun H r H1 => r = 0 ∧ H1 = H) := by
  refine h_ofi (by decide +kernel) (Nat.le_of_ble_eq_true rfl) ?_
  intro p e s m args below meth c H0 ls Q hx hb hts hown hml hK hT0 hpr hS0 hl hret
  have hl : lv_has ls 3 [(0, .ref (o))] := hl
  refine lv_iconst (v := 0) hx hb dX11_onBits_0 (by decide) ?_
  refine lv_istore_n (lv' := [(1, .int 0), (0, .ref (o))]) hx hb dX11_onBits_1 rfl hl (by decide) rfl (fun ls hl => ?_)
  refine lv_iconst (v := 0) hx hb dX11_onBits_2 (by decide) ?_
  refine lv_istore_n (lv' := [(2, .int 0), (1, .int 0), (0, .ref (o))]) hx hb dX11_onBits_3 rfl hl (by decide) rfl (fun ls hl => ?_)
  refine lv_iload_n hx hb dX11_onBits_4 rfl (lv_at hl 0 rfl) ?_
  refine lv_aload_n hx hb dX11_onBits_5 rfl (lv_at hl 2 rfl) ?_
  refine lv_iconst (v := 0) hx hb dX11_onBits_6 (by decide) ?_
  refine h_callVi (T := TX11) (rest := [.int 0]) (As := [.int 0]) hx hb hml hown hts hK hT0 (fun _ h => h) hS0 (c_of l G Y tF (o) hM 0 0 (by decide) (h_inc (by decide))) trivial wd_X11_of wV_X11_of wL_X11_47 (hM.o rfl) rfl rfl hl.1 rfl (Nat.le_of_ble_eq_true rfl) dX11_onBits_7 ⟨Nat.le_of_ble_eq_true rfl, Nat.le_of_ble_eq_true rfl⟩ ⟨Nat.zero_le _, Nat.zero_le _⟩ (fun r1 H1 locs hp1 hT1 hS1 hk1 => ?_)
  obtain ⟨hp1, he⟩ := hp1
  have he := he.symm
  subst he
  have hp1 : r1 = 0 := hp1.trans ((tF_all (hT0.ai (hM.at 1 rfl) (j := 0) (by decide)).1 (by decide) (by decide) (by decide)).trans (by decide))
  subst hp1
  refine lv_icmp_ge (tgt := 32) hx hb dX11_onBits_10 (by decide) (fun _ => ?_) (fun h => absurd (by decide) h)
  refine lv_iload_n hx hb dX11_onBits_32 rfl (lv_at hl 1 rfl) ?_
  exact hret _ _ _ _ _ hT0 hS1 ⟨rfl, rfl⟩ dX11_onBits_33
set_option maxHeartbeats 4000000 in
set_option maxRecDepth 100000 in
theorem c_X11_wrongStation (l : Launch) (G : hG) (Y : hW) (o : Nat) (hM : h_On Y o (modE tF o)) (u1 : Int32) : hMi l yX11_wrongStation cX11_wrongStation 2 (some .int) 2 42 G Y [.ref (o), .int u1] (fun H => True) (fun H r H1 => r = 2 ∧ H1 = H) := by
  refine h_ofi (by decide +kernel) (Nat.le_of_ble_eq_true rfl) ?_
  intro p e s m args below meth c H0 ls Q hx hb hts hown hml hK hT0 hpr hS0 hl hret
  have hl : lv_has ls 2 [(0, .ref (o)), (1, .int u1)] := hl
  refine lv_aload_n hx hb dX11_wrongStation_0 rfl (lv_at hl 0 rfl) ?_
  refine lv_iload_n hx hb dX11_wrongStation_1 rfl (lv_at hl 1 rfl) ?_
  refine h_callVi (T := TX11) (rest := []) (As := [.int u1]) hx hb hml hown hts hK hT0 (fun _ h => h) hS0 (c_X11_isStation l G Y (o) hM u1) trivial wd_X11_isStation wV_X11_isStation wL_X11_51 (hM.o rfl) rfl rfl hl.1 rfl (Nat.le_of_ble_eq_true rfl) dX11_wrongStation_2 ⟨Nat.le_of_ble_eq_true rfl, Nat.le_of_ble_eq_true rfl⟩ ⟨Nat.zero_le _, Nat.zero_le _⟩ (fun r1 H1 locs hp1 hT1 hS1 hk1 => ?_)
  obtain ⟨hp1, he⟩ := hp1
  have he := he.symm
  subst he
  have hp1 : r1 = 0 := hp1
  subst hp1
  refine lv_if_eq (tgt := 12) hx hb dX11_wrongStation_5 (by decide) (fun _ => ?_) (fun h => absurd (by decide) h)
  refine lv_iconst (v := 2) hx hb dX11_wrongStation_12 (by decide) ?_
  exact hret _ _ _ _ _ hT0 hS1 ⟨rfl, rfl⟩ dX11_wrongStation_13
set_option maxHeartbeats 4000000 in
set_option maxRecDepth 100000 in
theorem c_X11_station (l : Launch) (G : hG) (Y : hW) (o : Nat) (hM : h_On Y o (modE tF o)) (u1 u2 : Int32) : hMi l yX11_station cX11_station 5 (some .int) 3 63 G Y [.ref (o), .int u1, .int u2] (fun H => True) (fun H r H1 => r = (-1)) := by
  refine h_ofi (by decide +kernel) (Nat.le_of_ble_eq_true rfl) ?_
  intro p e s m args below meth c H0 ls Q hx hb hts hown hml hK hT0 hpr hS0 hl hret
  have hl : lv_has ls 5 [(0, .ref (o)), (1, .int u1), (2, .int u2)] := hl
  refine lv_iload_n hx hb dX11_station_0 rfl (lv_at hl 2 rfl) ?_
  refine lv_iconst (v := 0) hx hb dX11_station_1 (by decide) ?_
  refine lv_bipush (v := 9) hx hb dX11_station_2 (by decide) ?_
  refine h_callSi (rest := []) (As := [.int u2, .int 0, .int 9]) hx hb hml hown hts hK hT0 (fun _ h => h) hS0 (c_isFrom l G Y u2 0 9) trivial wd_X11_isFrom wS_X11_isFrom wL_X11_228 rfl hl.1 rfl (Nat.le_of_ble_eq_true rfl) dX11_station_4 ⟨Nat.le_of_ble_eq_true rfl, Nat.le_of_ble_eq_true rfl⟩ ⟨Nat.zero_le _, Nat.zero_le _⟩ (fun r1 H1 locs hp1 hT1 hS1 hk1 => ?_)
  obtain ⟨hp1, he⟩ := hp1
  have he := he.symm
  subst he
  rcases Classical.em (0 ≤ u2.toInt ∧ u2.toInt ≤ 9) with f2 | f2
  · have hp1 : r1 = 1 := hp1.1 f2
    subst hp1
    refine lv_if_ne (tgt := 14) hx hb dX11_station_7 (by decide) (fun _ => ?_) (fun h => absurd h (by decide))
    refine lv_aload_n hx hb dX11_station_14 rfl (lv_at hl 0 rfl) ?_
    refine lv_iload_n hx hb dX11_station_15 rfl (lv_at hl 1 rfl) ?_
    refine h_callVi (T := TX11) (rest := []) (As := [.int u1]) hx hb hml hown hts hK hT0 (fun _ h => h) hS1 (c_X11_wrongStation l G Y (o) hM u1) trivial wd_X11_wrongStation wV_X11_wrongStation wL_X11_288 (hM.o rfl) rfl rfl hl.1 rfl (Nat.le_of_ble_eq_true rfl) dX11_station_16 ⟨Nat.le_of_ble_eq_true rfl, Nat.le_of_ble_eq_true rfl⟩ ⟨Nat.zero_le _, Nat.zero_le _⟩ (fun r4 H2 locs hp2 hT2 hS2 hk2 => ?_)
    obtain ⟨hp2, he⟩ := hp2
    have he := he.symm
    subst he
    have hp2 : r4 = 2 := hp2
    subst hp2
    refine lv_istore_n (lv' := [(3, .int 2), (0, .ref (o)), (1, .int u1), (2, .int u2)]) hx hb dX11_station_19 rfl hl (by decide) rfl (fun ls hl => ?_)
    refine lv_iload_n hx hb dX11_station_20 rfl (lv_at hl 0 rfl) ?_
    refine lv_if_le (tgt := 30) hx hb dX11_station_21 (by decide) (fun h => absurd h (by decide)) (fun _ => ?_)
    refine lv_aload_n hx hb dX11_station_24 rfl (lv_at hl 1 rfl) ?_
    refine lv_iload_n hx hb dX11_station_25 rfl (lv_at hl 0 rfl) ?_
    refine h_callVi (T := TX11) (rest := []) (As := [.int 2]) hx hb hml hown hts hK hT0 (fun _ h => h) hS2 (c_X11_refuse l G Y (o) hM 2) trivial wd_X11_refuse wV_X11_refuse wL_X11_267 (hM.o rfl) rfl rfl hl.1 rfl (Nat.le_of_ble_eq_true rfl) dX11_station_26 ⟨Nat.le_of_ble_eq_true rfl, Nat.le_of_ble_eq_true rfl⟩ ⟨Nat.zero_le _, Nat.zero_le _⟩ (fun r6 H3 locs hp3 hT3 hS3 hk3 => ?_)
    have hp3 : r6 = (-1) := hp3
    subst hp3
    exact hret _ _ _ _ _ hT3 hS3 rfl dX11_station_29
  · have hp1 : r1 = 0 := hp1.2 f2
    subst hp1
    refine lv_if_ne (tgt := 14) hx hb dX11_station_7 (by decide) (fun h => absurd (by decide) h) (fun _ => ?_)
    refine lv_iconst (v := 1) hx hb dX11_station_10 (by decide) ?_
    refine lv_goto (tgt := 19) hx hb dX11_station_11 (by decide) ?_
    refine lv_istore_n (lv' := [(3, .int 1), (0, .ref (o)), (1, .int u1), (2, .int u2)]) hx hb dX11_station_19 rfl hl (by decide) rfl (fun ls hl => ?_)
    refine lv_iload_n hx hb dX11_station_20 rfl (lv_at hl 0 rfl) ?_
    refine lv_if_le (tgt := 30) hx hb dX11_station_21 (by decide) (fun h => absurd h (by decide)) (fun _ => ?_)
    refine lv_aload_n hx hb dX11_station_24 rfl (lv_at hl 1 rfl) ?_
    refine lv_iload_n hx hb dX11_station_25 rfl (lv_at hl 0 rfl) ?_
    refine h_callVi (T := TX11) (rest := []) (As := [.int 1]) hx hb hml hown hts hK hT0 (fun _ h => h) hS1 (c_X11_refuse l G Y (o) hM 1) trivial wd_X11_refuse wV_X11_refuse wL_X11_267 (hM.o rfl) rfl rfl hl.1 rfl (Nat.le_of_ble_eq_true rfl) dX11_station_26 ⟨Nat.le_of_ble_eq_true rfl, Nat.le_of_ble_eq_true rfl⟩ ⟨Nat.zero_le _, Nat.zero_le _⟩ (fun r9 H4 locs hp4 hT4 hS4 hk4 => ?_)
    have hp4 : r9 = (-1) := hp4
    subst hp4
    exact hret _ _ _ _ _ hT4 hS4 rfl dX11_station_29
set_option maxHeartbeats 4000000 in
set_option maxRecDepth 100000 in
theorem c_X11_waits (l : Launch) (G : hG) (Y : hW) (o : Nat) (hM : h_On Y o (modE tF o)) (u1 u2 u3 : Int32) : hMi l yX11_waits cX11_waits 5 (some .int) 3 63 G Y [.ref (o), .int u1, .int u2, .int u3] (fun H => True) (fun H r H1 => r = (-1)) := by
  refine h_ofi (by decide +kernel) (Nat.le_of_ble_eq_true rfl) ?_
  intro p e s m args below meth c H0 ls Q hx hb hts hown hml hK hT0 hpr hS0 hl hret
  have hl : lv_has ls 5 [(0, .ref (o)), (1, .int u1), (2, .int u2), (3, .int u3)] := hl
  refine lv_iload_n hx hb dX11_waits_0 rfl (lv_at hl 2 rfl) ?_
  refine lv_if_lt (tgt := 13) hx hb dX11_waits_1 (by decide) (fun c1 => ?_) (fun c1 => ?_)
  · skip
    refine lv_iconst (v := 1) hx hb dX11_waits_13 (by decide) ?_
    refine lv_goto (tgt := 22) hx hb dX11_waits_14 (by decide) ?_
    refine lv_istore (lv' := [(4, .int 1), (0, .ref (o)), (1, .int u1), (2, .int u2), (3, .int u3)]) hx hb dX11_waits_22 hl (by decide) rfl (fun ls hl => ?_)
    refine lv_iload hx hb dX11_waits_24 (lv_at hl 0 rfl) ?_
    refine lv_if_ne (tgt := 44) hx hb dX11_waits_26 (by decide) (fun _ => ?_) (fun h => absurd h (by decide))
    refine lv_iload hx hb dX11_waits_44 (lv_at hl 0 rfl) ?_
    refine lv_if_le (tgt := 58) hx hb dX11_waits_46 (by decide) (fun h => absurd h (by decide)) (fun _ => ?_)
    refine lv_aload_n hx hb dX11_waits_49 rfl (lv_at hl 1 rfl) ?_
    refine lv_iload hx hb dX11_waits_50 (lv_at hl 0 rfl) ?_
    refine h_callVi (T := TX11) (rest := []) (As := [.int 1]) hx hb hml hown hts hK hT0 (fun _ h => h) hS0 (c_X11_refuse l G Y (o) hM 1) trivial wd_X11_refuse wV_X11_refuse wL_X11_267 (hM.o rfl) rfl rfl hl.1 rfl (Nat.le_of_ble_eq_true rfl) dX11_waits_52 ⟨Nat.le_of_ble_eq_true rfl, Nat.le_of_ble_eq_true rfl⟩ ⟨Nat.zero_le _, Nat.zero_le _⟩ (fun r4 H1 locs hp1 hT1 hS1 hk1 => ?_)
    have hp1 : r4 = (-1) := hp1
    subst hp1
    refine lv_goto (tgt := 73) hx hb dX11_waits_55 (by decide) ?_
    exact hret _ _ _ _ _ hT1 hS1 rfl dX11_waits_73
  · skip
    refine lv_iload_n hx hb dX11_waits_4 rfl (lv_at hl 3 rfl) ?_
    refine lv_iconst (v := 0) hx hb dX11_waits_5 (by decide) ?_
    refine lv_iconst (v := 2) hx hb dX11_waits_6 (by decide) ?_
    refine h_callSi (rest := []) (As := [.int u3, .int 0, .int 2]) hx hb hml hown hts hK hT0 (fun _ h => h) hS0 (c_isFrom l G Y u3 0 2) trivial wd_X11_isFrom wS_X11_isFrom wL_X11_228 rfl hl.1 rfl (Nat.le_of_ble_eq_true rfl) dX11_waits_7 ⟨Nat.le_of_ble_eq_true rfl, Nat.le_of_ble_eq_true rfl⟩ ⟨Nat.zero_le _, Nat.zero_le _⟩ (fun r5 H2 locs hp2 hT2 hS2 hk2 => ?_)
    obtain ⟨hp2, he⟩ := hp2
    have he := he.symm
    subst he
    rcases Classical.em (0 ≤ u3.toInt ∧ u3.toInt ≤ 2) with f6 | f6
    · have hp2 : r5 = 1 := hp2.1 f6
      subst hp2
      refine lv_if_ne (tgt := 17) hx hb dX11_waits_10 (by decide) (fun _ => ?_) (fun h => absurd h (by decide))
      refine lv_aload_n hx hb dX11_waits_17 rfl (lv_at hl 0 rfl) ?_
      refine lv_iload_n hx hb dX11_waits_18 rfl (lv_at hl 1 rfl) ?_
      refine h_callVi (T := TX11) (rest := []) (As := [.int u1]) hx hb hml hown hts hK hT0 (fun _ h => h) hS2 (c_X11_wrongStation l G Y (o) hM u1) trivial wd_X11_wrongStation wV_X11_wrongStation wL_X11_288 (hM.o rfl) rfl rfl hl.1 rfl (Nat.le_of_ble_eq_true rfl) dX11_waits_19 ⟨Nat.le_of_ble_eq_true rfl, Nat.le_of_ble_eq_true rfl⟩ ⟨Nat.zero_le _, Nat.zero_le _⟩ (fun r8 H3 locs hp3 hT3 hS3 hk3 => ?_)
      obtain ⟨hp3, he⟩ := hp3
      have he := he.symm
      subst he
      have hp3 : r8 = 2 := hp3
      subst hp3
      refine lv_istore (lv' := [(4, .int 2), (0, .ref (o)), (1, .int u1), (2, .int u2), (3, .int u3)]) hx hb dX11_waits_22 hl (by decide) rfl (fun ls hl => ?_)
      refine lv_iload hx hb dX11_waits_24 (lv_at hl 0 rfl) ?_
      refine lv_if_ne (tgt := 44) hx hb dX11_waits_26 (by decide) (fun _ => ?_) (fun h => absurd h (by decide))
      refine lv_iload hx hb dX11_waits_44 (lv_at hl 0 rfl) ?_
      refine lv_if_le (tgt := 58) hx hb dX11_waits_46 (by decide) (fun h => absurd h (by decide)) (fun _ => ?_)
      refine lv_aload_n hx hb dX11_waits_49 rfl (lv_at hl 1 rfl) ?_
      refine lv_iload hx hb dX11_waits_50 (lv_at hl 0 rfl) ?_
      refine h_callVi (T := TX11) (rest := []) (As := [.int 2]) hx hb hml hown hts hK hT0 (fun _ h => h) hS3 (c_X11_refuse l G Y (o) hM 2) trivial wd_X11_refuse wV_X11_refuse wL_X11_267 (hM.o rfl) rfl rfl hl.1 rfl (Nat.le_of_ble_eq_true rfl) dX11_waits_52 ⟨Nat.le_of_ble_eq_true rfl, Nat.le_of_ble_eq_true rfl⟩ ⟨Nat.zero_le _, Nat.zero_le _⟩ (fun r11 H4 locs hp4 hT4 hS4 hk4 => ?_)
      have hp4 : r11 = (-1) := hp4
      subst hp4
      refine lv_goto (tgt := 73) hx hb dX11_waits_55 (by decide) ?_
      exact hret _ _ _ _ _ hT4 hS4 rfl dX11_waits_73
    · have hp2 : r5 = 0 := hp2.2 f6
      subst hp2
      refine lv_if_ne (tgt := 17) hx hb dX11_waits_10 (by decide) (fun h => absurd (by decide) h) (fun _ => ?_)
      refine lv_iconst (v := 1) hx hb dX11_waits_13 (by decide) ?_
      refine lv_goto (tgt := 22) hx hb dX11_waits_14 (by decide) ?_
      refine lv_istore (lv' := [(4, .int 1), (0, .ref (o)), (1, .int u1), (2, .int u2), (3, .int u3)]) hx hb dX11_waits_22 hl (by decide) rfl (fun ls hl => ?_)
      refine lv_iload hx hb dX11_waits_24 (lv_at hl 0 rfl) ?_
      refine lv_if_ne (tgt := 44) hx hb dX11_waits_26 (by decide) (fun _ => ?_) (fun h => absurd h (by decide))
      refine lv_iload hx hb dX11_waits_44 (lv_at hl 0 rfl) ?_
      refine lv_if_le (tgt := 58) hx hb dX11_waits_46 (by decide) (fun h => absurd h (by decide)) (fun _ => ?_)
      refine lv_aload_n hx hb dX11_waits_49 rfl (lv_at hl 1 rfl) ?_
      refine lv_iload hx hb dX11_waits_50 (lv_at hl 0 rfl) ?_
      refine h_callVi (T := TX11) (rest := []) (As := [.int 1]) hx hb hml hown hts hK hT0 (fun _ h => h) hS2 (c_X11_refuse l G Y (o) hM 1) trivial wd_X11_refuse wV_X11_refuse wL_X11_267 (hM.o rfl) rfl rfl hl.1 rfl (Nat.le_of_ble_eq_true rfl) dX11_waits_52 ⟨Nat.le_of_ble_eq_true rfl, Nat.le_of_ble_eq_true rfl⟩ ⟨Nat.zero_le _, Nat.zero_le _⟩ (fun r15 H5 locs hp5 hT5 hS5 hk5 => ?_)
      have hp5 : r15 = (-1) := hp5
      subst hp5
      refine lv_goto (tgt := 73) hx hb dX11_waits_55 (by decide) ?_
      exact hret _ _ _ _ _ hT5 hS5 rfl dX11_waits_73
set_option maxHeartbeats 4000000 in
set_option maxRecDepth 100000 in
theorem c_X11_way (l : Launch) (G : hG) (Y : hW) (o : Nat) (hM : h_On Y o (modE tF o)) (u1 : Int32) : hMi l yX11_way cX11_way 2 (some .int) 1 22 G Y [.ref (o), .int u1] (fun H => True) (fun H r H1 => ((u1.toInt = 0) → r = 0) ∧ (¬ (u1.toInt = 0) → r = -1)) := by
  refine h_ofi (by decide +kernel) (Nat.le_of_ble_eq_true rfl) ?_
  intro p e s m args below meth c H0 ls Q hx hb hts hown hml hK hT0 hpr hS0 hl hret
  have hl : lv_has ls 2 [(0, .ref (o)), (1, .int u1)] := hl
  refine lv_iload_n hx hb dX11_way_0 rfl (lv_at hl 1 rfl) ?_
  refine lv_iconst (v := 0) hx hb dX11_way_1 (by decide) ?_
  refine lv_bipush (v := 9) hx hb dX11_way_2 (by decide) ?_
  refine h_callSi (rest := []) (As := [.int u1, .int 0, .int 9]) hx hb hml hown hts hK hT0 (fun _ h => h) hS0 (c_isFrom l G Y u1 0 9) trivial wd_X11_isFrom wS_X11_isFrom wL_X11_228 rfl hl.1 rfl (Nat.le_of_ble_eq_true rfl) dX11_way_4 ⟨Nat.le_of_ble_eq_true rfl, Nat.le_of_ble_eq_true rfl⟩ ⟨Nat.zero_le _, Nat.zero_le _⟩ (fun r1 H1 locs hp1 hT1 hS1 hk1 => ?_)
  obtain ⟨hp1, he⟩ := hp1
  have he := he.symm
  subst he
  rcases Classical.em (0 ≤ u1.toInt ∧ u1.toInt ≤ 9) with f2 | f2
  · have hp1 : r1 = 1 := hp1.1 f2
    subst hp1
    refine lv_if_ne (tgt := 16) hx hb dX11_way_7 (by decide) (fun _ => ?_) (fun h => absurd h (by decide))
    refine lv_iload_n hx hb dX11_way_16 rfl (lv_at hl 1 rfl) ?_
    refine lv_if_ne (tgt := 30) hx hb dX11_way_17 (by decide) (fun c4 => ?_) (fun c4 => ?_)
    · skip
      refine lv_aload_n hx hb dX11_way_30 rfl (lv_at hl 0 rfl) ?_
      refine lv_iconst (v := 5) hx hb dX11_way_31 (by decide) ?_
      refine h_callVi (T := TX11) (rest := []) (As := [.int 5]) hx hb hml hown hts hK hT0 (fun _ h => h) hS1 (c_of l G Y tF (o) hM 5 5 (by decide) (h_inc (by decide))) trivial wd_X11_of wV_X11_of wL_X11_47 (hM.o rfl) rfl rfl hl.1 rfl (Nat.le_of_ble_eq_true rfl) dX11_way_32 ⟨Nat.le_of_ble_eq_true rfl, Nat.le_of_ble_eq_true rfl⟩ ⟨Nat.zero_le _, Nat.zero_le _⟩ (fun r5 H2 locs hp2 hT2 hS2 hk2 => ?_)
      obtain ⟨hp2, he⟩ := hp2
      have he := he.symm
      subst he
      have hp2 : r5 = 0 := hp2.trans ((tF_all (hT0.ai (hM.at 1 rfl) (j := 5) (by decide)).1 (by decide) (by decide) (by decide)).trans (by decide))
      subst hp2
      refine lv_if_eq (tgt := 52) hx hb dX11_way_35 (by decide) (fun _ => ?_) (fun h => absurd (by decide) h)
      refine lv_aload_n hx hb dX11_way_52 rfl (lv_at hl 0 rfl) ?_
      refine lv_bipush (v := 6) hx hb dX11_way_53 (by decide) ?_
      refine h_callVi (T := TX11) (rest := []) (As := [.int 6]) hx hb hml hown hts hK hT0 (fun _ h => h) hS2 (c_X11_refuse l G Y (o) hM 6) trivial wd_X11_refuse wV_X11_refuse wL_X11_267 (hM.o rfl) rfl rfl hl.1 rfl (Nat.le_of_ble_eq_true rfl) dX11_way_55 ⟨Nat.le_of_ble_eq_true rfl, Nat.le_of_ble_eq_true rfl⟩ ⟨Nat.zero_le _, Nat.zero_le _⟩ (fun r7 H3 locs hp3 hT3 hS3 hk3 => ?_)
      have hp3 : r7 = (-1) := hp3
      subst hp3
      exact hret _ _ _ _ _ hT3 hS3 (by refine ⟨fun h => ?_, fun h => ?_⟩ <;> first | rfl | exact absurd h (by decide) | (exfalso; simp only [Int32.lt_iff_toInt_lt, Int32.le_iff_toInt_le, ← Int32.toInt_inj, Int32.reduceToInt, (show (-1 : Int32).toInt = -1 from rfl)] at c4 <;> omega)) dX11_way_58
    · skip
      obtain rfl : u1 = 0 := (by simp only [Int32.lt_iff_toInt_lt, Int32.le_iff_toInt_le, ← Int32.toInt_inj, Int32.reduceToInt, (show (-1 : Int32).toInt = -1 from rfl)] at c4 ⊢; omega)
      refine lv_aload_n hx hb dX11_way_20 rfl (lv_at hl 0 rfl) ?_
      refine lv_aload_n hx hb dX11_way_21 rfl (lv_at hl 0 rfl) ?_
      refine lv_iconst (v := 5) hx hb dX11_way_22 (by decide) ?_
      refine h_callVi (T := TX11) (rest := [.ref (o)]) (As := [.int 5]) hx hb hml hown hts hK hT0 (fun _ h => h) hS1 (c_of l G Y tF (o) hM 5 5 (by decide) (h_inc (by decide))) trivial wd_X11_of wV_X11_of wL_X11_47 (hM.o rfl) rfl rfl hl.1 rfl (Nat.le_of_ble_eq_true rfl) dX11_way_23 ⟨Nat.le_of_ble_eq_true rfl, Nat.le_of_ble_eq_true rfl⟩ ⟨Nat.zero_le _, Nat.zero_le _⟩ (fun r8 H4 locs hp4 hT4 hS4 hk4 => ?_)
      obtain ⟨hp4, he⟩ := hp4
      have he := he.symm
      subst he
      have hp4 : r8 = 0 := hp4.trans ((tF_all (hT0.ai (hM.at 1 rfl) (j := 5) (by decide)).1 (by decide) (by decide) (by decide)).trans (by decide))
      subst hp4
      refine h_callVi (T := TX11) (rest := []) (As := [.int 0]) hx hb hml hown hts hK hT0 (fun _ h => h) hS4 (c_X11_gives l G Y (o) hM 0) trivial wd_X11_gives wV_X11_gives wL_X11_276 (hM.o rfl) rfl rfl hl.1 rfl (Nat.le_of_ble_eq_true rfl) dX11_way_26 ⟨Nat.le_of_ble_eq_true rfl, Nat.le_of_ble_eq_true rfl⟩ ⟨Nat.zero_le _, Nat.zero_le _⟩ (fun r9 H5 locs hp5 hT5 hS5 hk5 => ?_)
      have hp5 : r9 = 0 := hp5
      subst hp5
      exact hret _ _ _ _ _ hT5 hS5 (by refine ⟨fun h => ?_, fun h => ?_⟩ <;> first | rfl | exact absurd h (by decide) | (exfalso; simp only [Int32.lt_iff_toInt_lt, Int32.le_iff_toInt_le, ← Int32.toInt_inj, Int32.reduceToInt, (show (-1 : Int32).toInt = -1 from rfl)] at c4 <;> omega)) dX11_way_29
  · have hp1 : r1 = 0 := hp1.2 f2
    subst hp1
    refine lv_if_ne (tgt := 16) hx hb dX11_way_7 (by decide) (fun h => absurd (by decide) h) (fun _ => ?_)
    refine lv_aload_n hx hb dX11_way_10 rfl (lv_at hl 0 rfl) ?_
    refine lv_iconst (v := 1) hx hb dX11_way_11 (by decide) ?_
    refine h_callVi (T := TX11) (rest := []) (As := [.int 1]) hx hb hml hown hts hK hT0 (fun _ h => h) hS1 (c_X11_refuse l G Y (o) hM 1) trivial wd_X11_refuse wV_X11_refuse wL_X11_267 (hM.o rfl) rfl rfl hl.1 rfl (Nat.le_of_ble_eq_true rfl) dX11_way_12 ⟨Nat.le_of_ble_eq_true rfl, Nat.le_of_ble_eq_true rfl⟩ ⟨Nat.zero_le _, Nat.zero_le _⟩ (fun r11 H6 locs hp6 hT6 hS6 hk6 => ?_)
    have hp6 : r11 = (-1) := hp6
    subst hp6
    exact hret _ _ _ _ _ hT6 hS6 (by refine ⟨fun h => ?_, fun h => ?_⟩ <;> first | rfl | exact absurd h (by decide) | (exfalso; omega)) dX11_way_15
set_option maxHeartbeats 4000000 in
set_option maxRecDepth 100000 in
theorem c_X11_beacon (l : Launch) (G : hG) (Y : hW) (o : Nat) (hM : h_On Y o (modE tF o)) (u1 : Int32) : hMi l yX11_beacon cX11_beacon 2 (some .int) 1 22 G Y [.ref (o), .int u1] (fun H => True) (fun H r H1 => ((u1.toInt = 0) → r = 0) ∧ (¬ (u1.toInt = 0) → r = -1)) := by
  refine h_ofi (by decide +kernel) (Nat.le_of_ble_eq_true rfl) ?_
  intro p e s m args below meth c H0 ls Q hx hb hts hown hml hK hT0 hpr hS0 hl hret
  have hl : lv_has ls 2 [(0, .ref (o)), (1, .int u1)] := hl
  refine lv_iload_n hx hb dX11_beacon_0 rfl (lv_at hl 1 rfl) ?_
  refine lv_iconst (v := 0) hx hb dX11_beacon_1 (by decide) ?_
  refine lv_iconst (v := 2) hx hb dX11_beacon_2 (by decide) ?_
  refine h_callSi (rest := []) (As := [.int u1, .int 0, .int 2]) hx hb hml hown hts hK hT0 (fun _ h => h) hS0 (c_isFrom l G Y u1 0 2) trivial wd_X11_isFrom wS_X11_isFrom wL_X11_228 rfl hl.1 rfl (Nat.le_of_ble_eq_true rfl) dX11_beacon_3 ⟨Nat.le_of_ble_eq_true rfl, Nat.le_of_ble_eq_true rfl⟩ ⟨Nat.zero_le _, Nat.zero_le _⟩ (fun r1 H1 locs hp1 hT1 hS1 hk1 => ?_)
  obtain ⟨hp1, he⟩ := hp1
  have he := he.symm
  subst he
  rcases Classical.em (0 ≤ u1.toInt ∧ u1.toInt ≤ 2) with f2 | f2
  · have hp1 : r1 = 1 := hp1.1 f2
    subst hp1
    refine lv_if_ne (tgt := 15) hx hb dX11_beacon_6 (by decide) (fun _ => ?_) (fun h => absurd h (by decide))
    refine lv_iload_n hx hb dX11_beacon_15 rfl (lv_at hl 1 rfl) ?_
    refine lv_if_le (tgt := 35) hx hb dX11_beacon_16 (by decide) (fun c4 => ?_) (fun c4 => ?_)
    · skip
      obtain rfl : u1 = 0 := (by simp only [Int32.lt_iff_toInt_lt, Int32.le_iff_toInt_le, ← Int32.toInt_inj, Int32.reduceToInt, (show (-1 : Int32).toInt = -1 from rfl)] at c4 ⊢; omega)
      refine lv_aload_n hx hb dX11_beacon_35 rfl (lv_at hl 0 rfl) ?_
      refine lv_aload_n hx hb dX11_beacon_36 rfl (lv_at hl 0 rfl) ?_
      refine lv_bipush (v := 18) hx hb dX11_beacon_37 (by decide) ?_
      refine lv_iload_n hx hb dX11_beacon_39 rfl (lv_at hl 1 rfl) ?_
      refine lv_iadd hx hb dX11_beacon_40 ?_
      refine h_top (v := 18) (by decide) ?_
      refine h_callVi (T := TX11) (rest := [.ref (o)]) (As := [.int 18]) hx hb hml hown hts hK hT0 (fun _ h => h) hS1 (c_of l G Y tF (o) hM 18 18 (by decide) (h_inc (by decide))) trivial wd_X11_of wV_X11_of wL_X11_47 (hM.o rfl) rfl rfl hl.1 rfl (Nat.le_of_ble_eq_true rfl) dX11_beacon_41 ⟨Nat.le_of_ble_eq_true rfl, Nat.le_of_ble_eq_true rfl⟩ ⟨Nat.zero_le _, Nat.zero_le _⟩ (fun r5 H2 locs hp2 hT2 hS2 hk2 => ?_)
      obtain ⟨hp2, he⟩ := hp2
      have he := he.symm
      subst he
      have hp2 : r5 = 0 := hp2.trans ((tF_all (hT0.ai (hM.at 1 rfl) (j := 18) (by decide)).1 (by decide) (by decide) (by decide)).trans (by decide))
      subst hp2
      refine h_callVi (T := TX11) (rest := []) (As := [.int 0]) hx hb hml hown hts hK hT0 (fun _ h => h) hS2 (c_X11_gives l G Y (o) hM 0) trivial wd_X11_gives wV_X11_gives wL_X11_276 (hM.o rfl) rfl rfl hl.1 rfl (Nat.le_of_ble_eq_true rfl) dX11_beacon_44 ⟨Nat.le_of_ble_eq_true rfl, Nat.le_of_ble_eq_true rfl⟩ ⟨Nat.zero_le _, Nat.zero_le _⟩ (fun r6 H3 locs hp3 hT3 hS3 hk3 => ?_)
      have hp3 : r6 = 0 := hp3
      subst hp3
      exact hret _ _ _ _ _ hT3 hS3 (by refine ⟨fun h => ?_, fun h => ?_⟩ <;> first | rfl | exact absurd h (by decide) | (exfalso; simp only [Int32.lt_iff_toInt_lt, Int32.le_iff_toInt_le, ← Int32.toInt_inj, Int32.reduceToInt, (show (-1 : Int32).toInt = -1 from rfl)] at c4 <;> omega)) dX11_beacon_47
    · skip
      refine lv_aload_n hx hb dX11_beacon_19 rfl (lv_at hl 0 rfl) ?_
      refine lv_bipush (v := 18) hx hb dX11_beacon_20 (by decide) ?_
      refine h_callVi (T := TX11) (rest := []) (As := [.int 18]) hx hb hml hown hts hK hT0 (fun _ h => h) hS1 (c_of l G Y tF (o) hM 18 18 (by decide) (h_inc (by decide))) trivial wd_X11_of wV_X11_of wL_X11_47 (hM.o rfl) rfl rfl hl.1 rfl (Nat.le_of_ble_eq_true rfl) dX11_beacon_22 ⟨Nat.le_of_ble_eq_true rfl, Nat.le_of_ble_eq_true rfl⟩ ⟨Nat.zero_le _, Nat.zero_le _⟩ (fun r7 H4 locs hp4 hT4 hS4 hk4 => ?_)
      obtain ⟨hp4, he⟩ := hp4
      have he := he.symm
      subst he
      have hp4 : r7 = 0 := hp4.trans ((tF_all (hT0.ai (hM.at 1 rfl) (j := 18) (by decide)).1 (by decide) (by decide) (by decide)).trans (by decide))
      subst hp4
      refine lv_iconst (v := 2) hx hb dX11_beacon_25 (by decide) ?_
      refine lv_icmp_eq (tgt := 35) hx hb dX11_beacon_26 (by decide) (fun h => absurd h (by decide)) (fun _ => ?_)
      refine lv_aload_n hx hb dX11_beacon_29 rfl (lv_at hl 0 rfl) ?_
      refine lv_iconst (v := 5) hx hb dX11_beacon_30 (by decide) ?_
      refine h_callVi (T := TX11) (rest := []) (As := [.int 5]) hx hb hml hown hts hK hT0 (fun _ h => h) hS4 (c_X11_refuse l G Y (o) hM 5) trivial wd_X11_refuse wV_X11_refuse wL_X11_267 (hM.o rfl) rfl rfl hl.1 rfl (Nat.le_of_ble_eq_true rfl) dX11_beacon_31 ⟨Nat.le_of_ble_eq_true rfl, Nat.le_of_ble_eq_true rfl⟩ ⟨Nat.zero_le _, Nat.zero_le _⟩ (fun r9 H5 locs hp5 hT5 hS5 hk5 => ?_)
      have hp5 : r9 = (-1) := hp5
      subst hp5
      exact hret _ _ _ _ _ hT5 hS5 (by refine ⟨fun h => ?_, fun h => ?_⟩ <;> first | rfl | exact absurd h (by decide) | (exfalso; simp only [Int32.lt_iff_toInt_lt, Int32.le_iff_toInt_le, ← Int32.toInt_inj, Int32.reduceToInt, (show (-1 : Int32).toInt = -1 from rfl)] at c4 <;> omega)) dX11_beacon_34
  · have hp1 : r1 = 0 := hp1.2 f2
    subst hp1
    refine lv_if_ne (tgt := 15) hx hb dX11_beacon_6 (by decide) (fun h => absurd (by decide) h) (fun _ => ?_)
    refine lv_aload_n hx hb dX11_beacon_9 rfl (lv_at hl 0 rfl) ?_
    refine lv_iconst (v := 1) hx hb dX11_beacon_10 (by decide) ?_
    refine h_callVi (T := TX11) (rest := []) (As := [.int 1]) hx hb hml hown hts hK hT0 (fun _ h => h) hS1 (c_X11_refuse l G Y (o) hM 1) trivial wd_X11_refuse wV_X11_refuse wL_X11_267 (hM.o rfl) rfl rfl hl.1 rfl (Nat.le_of_ble_eq_true rfl) dX11_beacon_11 ⟨Nat.le_of_ble_eq_true rfl, Nat.le_of_ble_eq_true rfl⟩ ⟨Nat.zero_le _, Nat.zero_le _⟩ (fun r11 H6 locs hp6 hT6 hS6 hk6 => ?_)
    have hp6 : r11 = (-1) := hp6
    subst hp6
    exact hret _ _ _ _ _ hT6 hS6 (by refine ⟨fun h => ?_, fun h => ?_⟩ <;> first | rfl | exact absurd h (by decide) | (exfalso; omega)) dX11_beacon_14
set_option maxHeartbeats 4000000 in
set_option maxRecDepth 100000 in
theorem c_X11_been (l : Launch) (G : hG) (Y : hW) (o : Nat) (hM : h_On Y o (modE tF o)) (u1 : Int32) : hMi l yX11_been cX11_been 2 (some .int) 1 22 G Y [.ref (o), .int u1] (fun H => True) (fun H r H1 => ((0 ≤ u1.toInt ∧ u1.toInt ≤ 9) → r = 0) ∧ (¬ (0 ≤ u1.toInt ∧ u1.toInt ≤ 9) → r = -1)) := by
  refine h_ofi (by decide +kernel) (Nat.le_of_ble_eq_true rfl) ?_
  intro p e s m args below meth c H0 ls Q hx hb hts hown hml hK hT0 hpr hS0 hl hret
  have hl : lv_has ls 2 [(0, .ref (o)), (1, .int u1)] := hl
  refine lv_iload_n hx hb dX11_been_0 rfl (lv_at hl 1 rfl) ?_
  refine lv_iconst (v := 0) hx hb dX11_been_1 (by decide) ?_
  refine lv_bipush (v := 9) hx hb dX11_been_2 (by decide) ?_
  refine h_callSi (rest := []) (As := [.int u1, .int 0, .int 9]) hx hb hml hown hts hK hT0 (fun _ h => h) hS0 (c_isFrom l G Y u1 0 9) trivial wd_X11_isFrom wS_X11_isFrom wL_X11_228 rfl hl.1 rfl (Nat.le_of_ble_eq_true rfl) dX11_been_4 ⟨Nat.le_of_ble_eq_true rfl, Nat.le_of_ble_eq_true rfl⟩ ⟨Nat.zero_le _, Nat.zero_le _⟩ (fun r1 H1 locs hp1 hT1 hS1 hk1 => ?_)
  obtain ⟨hp1, he⟩ := hp1
  have he := he.symm
  subst he
  rcases Classical.em (0 ≤ u1.toInt ∧ u1.toInt ≤ 9) with f2 | f2
  · have hp1 : r1 = 1 := hp1.1 f2
    subst hp1
    refine lv_if_eq (tgt := 25) hx hb dX11_been_7 (by decide) (fun h => absurd h (by decide)) (fun _ => ?_)
    refine lv_aload_n hx hb dX11_been_10 rfl (lv_at hl 0 rfl) ?_
    refine lv_aload_n hx hb dX11_been_11 rfl (lv_at hl 0 rfl) ?_
    refine lv_bipush (v := 21) hx hb dX11_been_12 (by decide) ?_
    refine lv_iload_n hx hb dX11_been_14 rfl (lv_at hl 1 rfl) ?_
    refine lv_iadd hx hb dX11_been_15 ?_
    have hcond : 0 ≤ u1.toInt ∧ u1.toInt ≤ 9 := by omega
    obtain ⟨J, hJ, hu⟩ : ∃ J : Nat, J ≤ 9 ∧ u1 = nI J := nI_of2 (M := 9) rfl (by simp only [Int32.lt_iff_toInt_lt, Int32.le_iff_toInt_le, ← Int32.toInt_inj, Int32.reduceToInt, (show (-1 : Int32).toInt = -1 from rfl)] at ⊢; omega) (by simp only [Int32.lt_iff_toInt_lt, Int32.le_iff_toInt_le, ← Int32.toInt_inj, Int32.reduceToInt, (show (-1 : Int32).toInt = -1 from rfl)] at ⊢; omega)
    subst hu
    refine h_top (v := nI (21 + J)) (nI_add 21 J) ?_
    refine h_callVi (T := TX11) (rest := [.ref (o)]) (As := [.int (nI (21 + J))]) hx hb hml hown hts hK hT0 (fun _ h => h) hS1 (c_of l G Y tF (o) hM (nI (21 + J)) (21 + J) (nI_clamp (by omega)) (vp_in_nI (by omega) (by decide))) trivial wd_X11_of wV_X11_of wL_X11_47 (hM.o rfl) rfl rfl hl.1 rfl (Nat.le_of_ble_eq_true rfl) dX11_been_16 ⟨Nat.le_of_ble_eq_true rfl, Nat.le_of_ble_eq_true rfl⟩ ⟨Nat.zero_le _, Nat.zero_le _⟩ (fun r4 H2 locs hp2 hT2 hS2 hk2 => ?_)
    obtain ⟨hp2, he⟩ := hp2
    have he := he.symm
    subst he
    have hp2 : r4 = 0 := hp2.trans ((tF_all (hT0.ai (hM.at 1 rfl) (by omega)).1 (by omega) (by omega) (by omega)).trans (by rw [if_neg (by omega)]))
    subst hp2
    refine h_callVi (T := TX11) (rest := []) (As := [.int 0]) hx hb hml hown hts hK hT0 (fun _ h => h) hS2 (c_X11_gives l G Y (o) hM 0) trivial wd_X11_gives wV_X11_gives wL_X11_276 (hM.o rfl) rfl rfl hl.1 rfl (Nat.le_of_ble_eq_true rfl) dX11_been_19 ⟨Nat.le_of_ble_eq_true rfl, Nat.le_of_ble_eq_true rfl⟩ ⟨Nat.zero_le _, Nat.zero_le _⟩ (fun r5 H3 locs hp3 hT3 hS3 hk3 => ?_)
    have hp3 : r5 = 0 := hp3
    subst hp3
    refine lv_goto (tgt := 30) hx hb dX11_been_22 (by decide) ?_
    exact hret _ _ _ _ _ hT3 hS3 ⟨fun _ => rfl, fun h => absurd hcond h⟩ dX11_been_30
  · have hp1 : r1 = 0 := hp1.2 f2
    subst hp1
    refine lv_if_eq (tgt := 25) hx hb dX11_been_7 (by decide) (fun _ => ?_) (fun h => absurd (by decide) h)
    refine lv_aload_n hx hb dX11_been_25 rfl (lv_at hl 0 rfl) ?_
    refine lv_iconst (v := 1) hx hb dX11_been_26 (by decide) ?_
    refine h_callVi (T := TX11) (rest := []) (As := [.int 1]) hx hb hml hown hts hK hT0 (fun _ h => h) hS1 (c_X11_refuse l G Y (o) hM 1) trivial wd_X11_refuse wV_X11_refuse wL_X11_267 (hM.o rfl) rfl rfl hl.1 rfl (Nat.le_of_ble_eq_true rfl) dX11_been_27 ⟨Nat.le_of_ble_eq_true rfl, Nat.le_of_ble_eq_true rfl⟩ ⟨Nat.zero_le _, Nat.zero_le _⟩ (fun r7 H4 locs hp4 hT4 hS4 hk4 => ?_)
    have hp4 : r7 = (-1) := hp4
    subst hp4
    exact hret _ _ _ _ _ hT4 hS4 (by refine ⟨fun h => ?_, fun h => ?_⟩ <;> first | rfl | exact absurd h (by decide) | (exfalso; omega)) dX11_been_30
set_option maxHeartbeats 4000000 in
set_option maxRecDepth 100000 in
theorem c_X11_got (l : Launch) (G : hG) (Y : hW) (o : Nat) (hM : h_On Y o (modE tF o)) (u1 u2 : Int32) : hMi l yX11_got cX11_got 3 (some .int) 1 22 G Y [.ref (o), .int u1, .int u2] (fun H => True) (fun H r H1 => r = (-1)) := by
  refine h_ofi (by decide +kernel) (Nat.le_of_ble_eq_true rfl) ?_
  intro p e s m args below meth c H0 ls Q hx hb hts hown hml hK hT0 hpr hS0 hl hret
  have hl : lv_has ls 3 [(0, .ref (o)), (1, .int u1), (2, .int u2)] := hl
  refine lv_iload_n hx hb dX11_got_0 rfl (lv_at hl 1 rfl) ?_
  refine lv_iconst (v := 0) hx hb dX11_got_1 (by decide) ?_
  refine lv_bipush (v := 15) hx hb dX11_got_2 (by decide) ?_
  refine h_callSi (rest := []) (As := [.int u1, .int 0, .int 15]) hx hb hml hown hts hK hT0 (fun _ h => h) hS0 (c_isFrom l G Y u1 0 15) trivial wd_X11_isFrom wS_X11_isFrom wL_X11_228 rfl hl.1 rfl (Nat.le_of_ble_eq_true rfl) dX11_got_4 ⟨Nat.le_of_ble_eq_true rfl, Nat.le_of_ble_eq_true rfl⟩ ⟨Nat.zero_le _, Nat.zero_le _⟩ (fun r1 H1 locs hp1 hT1 hS1 hk1 => ?_)
  obtain ⟨hp1, he⟩ := hp1
  have he := he.symm
  subst he
  rcases Classical.em (0 ≤ u1.toInt ∧ u1.toInt ≤ 15) with f2 | f2
  · have hp1 : r1 = 1 := hp1.1 f2
    subst hp1
    refine lv_if_eq (tgt := 19) hx hb dX11_got_7 (by decide) (fun h => absurd h (by decide)) (fun _ => ?_)
    refine lv_iload_n hx hb dX11_got_10 rfl (lv_at hl 2 rfl) ?_
    refine lv_iconst (v := 0) hx hb dX11_got_11 (by decide) ?_
    refine lv_iconst (v := 5) hx hb dX11_got_12 (by decide) ?_
    refine h_callSi (rest := []) (As := [.int u2, .int 0, .int 5]) hx hb hml hown hts hK hT0 (fun _ h => h) hS1 (c_isFrom l G Y u2 0 5) trivial wd_X11_isFrom wS_X11_isFrom wL_X11_228 rfl hl.1 rfl (Nat.le_of_ble_eq_true rfl) dX11_got_13 ⟨Nat.le_of_ble_eq_true rfl, Nat.le_of_ble_eq_true rfl⟩ ⟨Nat.zero_le _, Nat.zero_le _⟩ (fun r4 H2 locs hp2 hT2 hS2 hk2 => ?_)
    obtain ⟨hp2, he⟩ := hp2
    have he := he.symm
    subst he
    rcases Classical.em (0 ≤ u2.toInt ∧ u2.toInt ≤ 5) with f5 | f5
    · have hp2 : r4 = 1 := hp2.1 f5
      subst hp2
      refine lv_if_ne (tgt := 25) hx hb dX11_got_16 (by decide) (fun _ => ?_) (fun h => absurd h (by decide))
      refine lv_iload_n hx hb dX11_got_25 rfl (lv_at hl 1 rfl) ?_
      refine lv_aload_n hx hb dX11_got_26 rfl (lv_at hl 0 rfl) ?_
      refine lv_bipush (v := 31) hx hb dX11_got_27 (by decide) ?_
      refine h_callVi (T := TX11) (rest := [.int u1]) (As := [.int 31]) hx hb hml hown hts hK hT0 (fun _ h => h) hS2 (c_of l G Y tF (o) hM 31 31 (by decide) (h_inc (by decide))) trivial wd_X11_of wV_X11_of wL_X11_47 (hM.o rfl) rfl rfl hl.1 rfl (Nat.le_of_ble_eq_true rfl) dX11_got_29 ⟨Nat.le_of_ble_eq_true rfl, Nat.le_of_ble_eq_true rfl⟩ ⟨Nat.zero_le _, Nat.zero_le _⟩ (fun r7 H3 locs hp3 hT3 hS3 hk3 => ?_)
      obtain ⟨hp3, he⟩ := hp3
      have he := he.symm
      subst he
      have hp3 : r7 = 0 := hp3.trans ((tF_all (hT0.ai (hM.at 1 rfl) (j := 31) (by decide)).1 (by decide) (by decide) (by decide)).trans (by decide))
      subst hp3
      refine lv_icmp_ge (tgt := 65) hx hb dX11_got_32 (by decide) (fun _ => ?_) (fun h => absurd (by simp only [Int32.lt_iff_toInt_lt, Int32.le_iff_toInt_le, ← Int32.toInt_inj, Int32.reduceToInt, (show (-1 : Int32).toInt = -1 from rfl)] at ⊢; omega) h)
      refine lv_aload_n hx hb dX11_got_65 rfl (lv_at hl 0 rfl) ?_
      refine lv_iconst (v := 5) hx hb dX11_got_66 (by decide) ?_
      refine h_callVi (T := TX11) (rest := []) (As := [.int 5]) hx hb hml hown hts hK hT0 (fun _ h => h) hS3 (c_X11_refuse l G Y (o) hM 5) trivial wd_X11_refuse wV_X11_refuse wL_X11_267 (hM.o rfl) rfl rfl hl.1 rfl (Nat.le_of_ble_eq_true rfl) dX11_got_67 ⟨Nat.le_of_ble_eq_true rfl, Nat.le_of_ble_eq_true rfl⟩ ⟨Nat.zero_le _, Nat.zero_le _⟩ (fun r8 H4 locs hp4 hT4 hS4 hk4 => ?_)
      have hp4 : r8 = (-1) := hp4
      subst hp4
      exact hret _ _ _ _ _ hT4 hS4 rfl dX11_got_70
    · have hp2 : r4 = 0 := hp2.2 f5
      subst hp2
      refine lv_if_ne (tgt := 25) hx hb dX11_got_16 (by decide) (fun h => absurd (by decide) h) (fun _ => ?_)
      refine lv_aload_n hx hb dX11_got_19 rfl (lv_at hl 0 rfl) ?_
      refine lv_iconst (v := 1) hx hb dX11_got_20 (by decide) ?_
      refine h_callVi (T := TX11) (rest := []) (As := [.int 1]) hx hb hml hown hts hK hT0 (fun _ h => h) hS2 (c_X11_refuse l G Y (o) hM 1) trivial wd_X11_refuse wV_X11_refuse wL_X11_267 (hM.o rfl) rfl rfl hl.1 rfl (Nat.le_of_ble_eq_true rfl) dX11_got_21 ⟨Nat.le_of_ble_eq_true rfl, Nat.le_of_ble_eq_true rfl⟩ ⟨Nat.zero_le _, Nat.zero_le _⟩ (fun r10 H5 locs hp5 hT5 hS5 hk5 => ?_)
      have hp5 : r10 = (-1) := hp5
      subst hp5
      exact hret _ _ _ _ _ hT5 hS5 rfl dX11_got_24
  · have hp1 : r1 = 0 := hp1.2 f2
    subst hp1
    refine lv_if_eq (tgt := 19) hx hb dX11_got_7 (by decide) (fun _ => ?_) (fun h => absurd (by decide) h)
    refine lv_aload_n hx hb dX11_got_19 rfl (lv_at hl 0 rfl) ?_
    refine lv_iconst (v := 1) hx hb dX11_got_20 (by decide) ?_
    refine h_callVi (T := TX11) (rest := []) (As := [.int 1]) hx hb hml hown hts hK hT0 (fun _ h => h) hS1 (c_X11_refuse l G Y (o) hM 1) trivial wd_X11_refuse wV_X11_refuse wL_X11_267 (hM.o rfl) rfl rfl hl.1 rfl (Nat.le_of_ble_eq_true rfl) dX11_got_21 ⟨Nat.le_of_ble_eq_true rfl, Nat.le_of_ble_eq_true rfl⟩ ⟨Nat.zero_le _, Nat.zero_le _⟩ (fun r12 H6 locs hp6 hT6 hS6 hk6 => ?_)
    have hp6 : r12 = (-1) := hp6
    subst hp6
    exact hret _ _ _ _ _ hT6 hS6 rfl dX11_got_24
set_option maxHeartbeats 4000000 in
set_option maxRecDepth 100000 in
theorem c_X11_raise (l : Launch) (G : hG) (Y : hW) (o : Nat) (hM : h_On Y o (modE tF o)) (u1 u2 u3 : Int32) : hMi l yX11_raise cX11_raise 5 (some .int) 3 63 G Y [.ref (o), .int u1, .int u2, .int u3] (fun H => True) (fun H r H1 => r = (-1)) := by
  refine h_ofi (by decide +kernel) (Nat.le_of_ble_eq_true rfl) ?_
  intro p e s m args below meth c H0 ls Q hx hb hts hown hml hK hT0 hpr hS0 hl hret
  have hl : lv_has ls 5 [(0, .ref (o)), (1, .int u1), (2, .int u2), (3, .int u3)] := hl
  refine lv_iload_n hx hb dX11_raise_0 rfl (lv_at hl 2 rfl) ?_
  refine lv_if_lt (tgt := 13) hx hb dX11_raise_1 (by decide) (fun c1 => ?_) (fun c1 => ?_)
  · skip
    refine lv_iconst (v := 1) hx hb dX11_raise_13 (by decide) ?_
    refine lv_goto (tgt := 22) hx hb dX11_raise_14 (by decide) ?_
    refine lv_istore (lv' := [(4, .int 1), (0, .ref (o)), (1, .int u1), (2, .int u2), (3, .int u3)]) hx hb dX11_raise_22 hl (by decide) rfl (fun ls hl => ?_)
    refine lv_iload hx hb dX11_raise_24 (lv_at hl 0 rfl) ?_
    refine lv_if_ne (tgt := 44) hx hb dX11_raise_26 (by decide) (fun _ => ?_) (fun h => absurd h (by decide))
    refine lv_iload hx hb dX11_raise_44 (lv_at hl 0 rfl) ?_
    refine lv_if_le (tgt := 58) hx hb dX11_raise_46 (by decide) (fun h => absurd h (by decide)) (fun _ => ?_)
    refine lv_aload_n hx hb dX11_raise_49 rfl (lv_at hl 1 rfl) ?_
    refine lv_iload hx hb dX11_raise_50 (lv_at hl 0 rfl) ?_
    refine h_callVi (T := TX11) (rest := []) (As := [.int 1]) hx hb hml hown hts hK hT0 (fun _ h => h) hS0 (c_X11_refuse l G Y (o) hM 1) trivial wd_X11_refuse wV_X11_refuse wL_X11_267 (hM.o rfl) rfl rfl hl.1 rfl (Nat.le_of_ble_eq_true rfl) dX11_raise_52 ⟨Nat.le_of_ble_eq_true rfl, Nat.le_of_ble_eq_true rfl⟩ ⟨Nat.zero_le _, Nat.zero_le _⟩ (fun r4 H1 locs hp1 hT1 hS1 hk1 => ?_)
    have hp1 : r4 = (-1) := hp1
    subst hp1
    refine lv_goto (tgt := 84) hx hb dX11_raise_55 (by decide) ?_
    exact hret _ _ _ _ _ hT1 hS1 rfl dX11_raise_84
  · skip
    refine lv_iload_n hx hb dX11_raise_4 rfl (lv_at hl 3 rfl) ?_
    refine lv_iconst (v := 0) hx hb dX11_raise_5 (by decide) ?_
    refine lv_iconst (v := 1) hx hb dX11_raise_6 (by decide) ?_
    refine h_callSi (rest := []) (As := [.int u3, .int 0, .int 1]) hx hb hml hown hts hK hT0 (fun _ h => h) hS0 (c_isFrom l G Y u3 0 1) trivial wd_X11_isFrom wS_X11_isFrom wL_X11_228 rfl hl.1 rfl (Nat.le_of_ble_eq_true rfl) dX11_raise_7 ⟨Nat.le_of_ble_eq_true rfl, Nat.le_of_ble_eq_true rfl⟩ ⟨Nat.zero_le _, Nat.zero_le _⟩ (fun r5 H2 locs hp2 hT2 hS2 hk2 => ?_)
    obtain ⟨hp2, he⟩ := hp2
    have he := he.symm
    subst he
    rcases Classical.em (0 ≤ u3.toInt ∧ u3.toInt ≤ 1) with f6 | f6
    · have hp2 : r5 = 1 := hp2.1 f6
      subst hp2
      refine lv_if_ne (tgt := 17) hx hb dX11_raise_10 (by decide) (fun _ => ?_) (fun h => absurd h (by decide))
      refine lv_aload_n hx hb dX11_raise_17 rfl (lv_at hl 0 rfl) ?_
      refine lv_iload_n hx hb dX11_raise_18 rfl (lv_at hl 1 rfl) ?_
      refine h_callVi (T := TX11) (rest := []) (As := [.int u1]) hx hb hml hown hts hK hT0 (fun _ h => h) hS2 (c_X11_wrongStation l G Y (o) hM u1) trivial wd_X11_wrongStation wV_X11_wrongStation wL_X11_288 (hM.o rfl) rfl rfl hl.1 rfl (Nat.le_of_ble_eq_true rfl) dX11_raise_19 ⟨Nat.le_of_ble_eq_true rfl, Nat.le_of_ble_eq_true rfl⟩ ⟨Nat.zero_le _, Nat.zero_le _⟩ (fun r8 H3 locs hp3 hT3 hS3 hk3 => ?_)
      obtain ⟨hp3, he⟩ := hp3
      have he := he.symm
      subst he
      have hp3 : r8 = 2 := hp3
      subst hp3
      refine lv_istore (lv' := [(4, .int 2), (0, .ref (o)), (1, .int u1), (2, .int u2), (3, .int u3)]) hx hb dX11_raise_22 hl (by decide) rfl (fun ls hl => ?_)
      refine lv_iload hx hb dX11_raise_24 (lv_at hl 0 rfl) ?_
      refine lv_if_ne (tgt := 44) hx hb dX11_raise_26 (by decide) (fun _ => ?_) (fun h => absurd h (by decide))
      refine lv_iload hx hb dX11_raise_44 (lv_at hl 0 rfl) ?_
      refine lv_if_le (tgt := 58) hx hb dX11_raise_46 (by decide) (fun h => absurd h (by decide)) (fun _ => ?_)
      refine lv_aload_n hx hb dX11_raise_49 rfl (lv_at hl 1 rfl) ?_
      refine lv_iload hx hb dX11_raise_50 (lv_at hl 0 rfl) ?_
      refine h_callVi (T := TX11) (rest := []) (As := [.int 2]) hx hb hml hown hts hK hT0 (fun _ h => h) hS3 (c_X11_refuse l G Y (o) hM 2) trivial wd_X11_refuse wV_X11_refuse wL_X11_267 (hM.o rfl) rfl rfl hl.1 rfl (Nat.le_of_ble_eq_true rfl) dX11_raise_52 ⟨Nat.le_of_ble_eq_true rfl, Nat.le_of_ble_eq_true rfl⟩ ⟨Nat.zero_le _, Nat.zero_le _⟩ (fun r11 H4 locs hp4 hT4 hS4 hk4 => ?_)
      have hp4 : r11 = (-1) := hp4
      subst hp4
      refine lv_goto (tgt := 84) hx hb dX11_raise_55 (by decide) ?_
      exact hret _ _ _ _ _ hT4 hS4 rfl dX11_raise_84
    · have hp2 : r5 = 0 := hp2.2 f6
      subst hp2
      refine lv_if_ne (tgt := 17) hx hb dX11_raise_10 (by decide) (fun h => absurd (by decide) h) (fun _ => ?_)
      refine lv_iconst (v := 1) hx hb dX11_raise_13 (by decide) ?_
      refine lv_goto (tgt := 22) hx hb dX11_raise_14 (by decide) ?_
      refine lv_istore (lv' := [(4, .int 1), (0, .ref (o)), (1, .int u1), (2, .int u2), (3, .int u3)]) hx hb dX11_raise_22 hl (by decide) rfl (fun ls hl => ?_)
      refine lv_iload hx hb dX11_raise_24 (lv_at hl 0 rfl) ?_
      refine lv_if_ne (tgt := 44) hx hb dX11_raise_26 (by decide) (fun _ => ?_) (fun h => absurd h (by decide))
      refine lv_iload hx hb dX11_raise_44 (lv_at hl 0 rfl) ?_
      refine lv_if_le (tgt := 58) hx hb dX11_raise_46 (by decide) (fun h => absurd h (by decide)) (fun _ => ?_)
      refine lv_aload_n hx hb dX11_raise_49 rfl (lv_at hl 1 rfl) ?_
      refine lv_iload hx hb dX11_raise_50 (lv_at hl 0 rfl) ?_
      refine h_callVi (T := TX11) (rest := []) (As := [.int 1]) hx hb hml hown hts hK hT0 (fun _ h => h) hS2 (c_X11_refuse l G Y (o) hM 1) trivial wd_X11_refuse wV_X11_refuse wL_X11_267 (hM.o rfl) rfl rfl hl.1 rfl (Nat.le_of_ble_eq_true rfl) dX11_raise_52 ⟨Nat.le_of_ble_eq_true rfl, Nat.le_of_ble_eq_true rfl⟩ ⟨Nat.zero_le _, Nat.zero_le _⟩ (fun r15 H5 locs hp5 hT5 hS5 hk5 => ?_)
      have hp5 : r15 = (-1) := hp5
      subst hp5
      refine lv_goto (tgt := 84) hx hb dX11_raise_55 (by decide) ?_
      exact hret _ _ _ _ _ hT5 hS5 rfl dX11_raise_84
set_option maxHeartbeats 4000000 in
set_option maxRecDepth 100000 in
theorem c_X11_event (l : Launch) (G : hG) (Y : hW) (o : Nat) (hM : h_On Y o (modE tF o)) (u1 u2 : Int32) : hMi l yX11_event cX11_event 3 (some .int) 1 22 G Y [.ref (o), .int u1, .int u2] (fun H => True) (fun H r H1 => r = (-1)) := by
  refine h_ofi (by decide +kernel) (Nat.le_of_ble_eq_true rfl) ?_
  intro p e s m args below meth c H0 ls Q hx hb hts hown hml hK hT0 hpr hS0 hl hret
  have hl : lv_has ls 3 [(0, .ref (o)), (1, .int u1), (2, .int u2)] := hl
  refine lv_iload_n hx hb dX11_event_0 rfl (lv_at hl 1 rfl) ?_
  refine lv_iconst (v := 0) hx hb dX11_event_1 (by decide) ?_
  refine lv_bipush (v := 23) hx hb dX11_event_2 (by decide) ?_
  refine h_callSi (rest := []) (As := [.int u1, .int 0, .int 23]) hx hb hml hown hts hK hT0 (fun _ h => h) hS0 (c_isFrom l G Y u1 0 23) trivial wd_X11_isFrom wS_X11_isFrom wL_X11_228 rfl hl.1 rfl (Nat.le_of_ble_eq_true rfl) dX11_event_4 ⟨Nat.le_of_ble_eq_true rfl, Nat.le_of_ble_eq_true rfl⟩ ⟨Nat.zero_le _, Nat.zero_le _⟩ (fun r1 H1 locs hp1 hT1 hS1 hk1 => ?_)
  obtain ⟨hp1, he⟩ := hp1
  have he := he.symm
  subst he
  rcases Classical.em (0 ≤ u1.toInt ∧ u1.toInt ≤ 23) with f2 | f2
  · have hp1 : r1 = 1 := hp1.1 f2
    subst hp1
    refine lv_if_eq (tgt := 19) hx hb dX11_event_7 (by decide) (fun h => absurd h (by decide)) (fun _ => ?_)
    refine lv_iload_n hx hb dX11_event_10 rfl (lv_at hl 2 rfl) ?_
    refine lv_iconst (v := 0) hx hb dX11_event_11 (by decide) ?_
    refine lv_iconst (v := 2) hx hb dX11_event_12 (by decide) ?_
    refine h_callSi (rest := []) (As := [.int u2, .int 0, .int 2]) hx hb hml hown hts hK hT0 (fun _ h => h) hS1 (c_isFrom l G Y u2 0 2) trivial wd_X11_isFrom wS_X11_isFrom wL_X11_228 rfl hl.1 rfl (Nat.le_of_ble_eq_true rfl) dX11_event_13 ⟨Nat.le_of_ble_eq_true rfl, Nat.le_of_ble_eq_true rfl⟩ ⟨Nat.zero_le _, Nat.zero_le _⟩ (fun r4 H2 locs hp2 hT2 hS2 hk2 => ?_)
    obtain ⟨hp2, he⟩ := hp2
    have he := he.symm
    subst he
    rcases Classical.em (0 ≤ u2.toInt ∧ u2.toInt ≤ 2) with f5 | f5
    · have hp2 : r4 = 1 := hp2.1 f5
      subst hp2
      refine lv_if_ne (tgt := 25) hx hb dX11_event_16 (by decide) (fun _ => ?_) (fun h => absurd h (by decide))
      refine lv_iload_n hx hb dX11_event_25 rfl (lv_at hl 1 rfl) ?_
      refine lv_aload_n hx hb dX11_event_26 rfl (lv_at hl 0 rfl) ?_
      refine lv_bipush (v := 32) hx hb dX11_event_27 (by decide) ?_
      refine h_callVi (T := TX11) (rest := [.int u1]) (As := [.int 32]) hx hb hml hown hts hK hT0 (fun _ h => h) hS2 (c_of l G Y tF (o) hM 32 32 (by decide) (h_inc (by decide))) trivial wd_X11_of wV_X11_of wL_X11_47 (hM.o rfl) rfl rfl hl.1 rfl (Nat.le_of_ble_eq_true rfl) dX11_event_29 ⟨Nat.le_of_ble_eq_true rfl, Nat.le_of_ble_eq_true rfl⟩ ⟨Nat.zero_le _, Nat.zero_le _⟩ (fun r7 H3 locs hp3 hT3 hS3 hk3 => ?_)
      obtain ⟨hp3, he⟩ := hp3
      have he := he.symm
      subst he
      have hp3 : r7 = 0 := hp3.trans ((tF_all (hT0.ai (hM.at 1 rfl) (j := 32) (by decide)).1 (by decide) (by decide) (by decide)).trans (by decide))
      subst hp3
      refine lv_icmp_ge (tgt := 64) hx hb dX11_event_32 (by decide) (fun _ => ?_) (fun h => absurd (by simp only [Int32.lt_iff_toInt_lt, Int32.le_iff_toInt_le, ← Int32.toInt_inj, Int32.reduceToInt, (show (-1 : Int32).toInt = -1 from rfl)] at ⊢; omega) h)
      refine lv_aload_n hx hb dX11_event_64 rfl (lv_at hl 0 rfl) ?_
      refine lv_iconst (v := 5) hx hb dX11_event_65 (by decide) ?_
      refine h_callVi (T := TX11) (rest := []) (As := [.int 5]) hx hb hml hown hts hK hT0 (fun _ h => h) hS3 (c_X11_refuse l G Y (o) hM 5) trivial wd_X11_refuse wV_X11_refuse wL_X11_267 (hM.o rfl) rfl rfl hl.1 rfl (Nat.le_of_ble_eq_true rfl) dX11_event_66 ⟨Nat.le_of_ble_eq_true rfl, Nat.le_of_ble_eq_true rfl⟩ ⟨Nat.zero_le _, Nat.zero_le _⟩ (fun r8 H4 locs hp4 hT4 hS4 hk4 => ?_)
      have hp4 : r8 = (-1) := hp4
      subst hp4
      exact hret _ _ _ _ _ hT4 hS4 rfl dX11_event_69
    · have hp2 : r4 = 0 := hp2.2 f5
      subst hp2
      refine lv_if_ne (tgt := 25) hx hb dX11_event_16 (by decide) (fun h => absurd (by decide) h) (fun _ => ?_)
      refine lv_aload_n hx hb dX11_event_19 rfl (lv_at hl 0 rfl) ?_
      refine lv_iconst (v := 1) hx hb dX11_event_20 (by decide) ?_
      refine h_callVi (T := TX11) (rest := []) (As := [.int 1]) hx hb hml hown hts hK hT0 (fun _ h => h) hS2 (c_X11_refuse l G Y (o) hM 1) trivial wd_X11_refuse wV_X11_refuse wL_X11_267 (hM.o rfl) rfl rfl hl.1 rfl (Nat.le_of_ble_eq_true rfl) dX11_event_21 ⟨Nat.le_of_ble_eq_true rfl, Nat.le_of_ble_eq_true rfl⟩ ⟨Nat.zero_le _, Nat.zero_le _⟩ (fun r10 H5 locs hp5 hT5 hS5 hk5 => ?_)
      have hp5 : r10 = (-1) := hp5
      subst hp5
      exact hret _ _ _ _ _ hT5 hS5 rfl dX11_event_24
  · have hp1 : r1 = 0 := hp1.2 f2
    subst hp1
    refine lv_if_eq (tgt := 19) hx hb dX11_event_7 (by decide) (fun _ => ?_) (fun h => absurd (by decide) h)
    refine lv_aload_n hx hb dX11_event_19 rfl (lv_at hl 0 rfl) ?_
    refine lv_iconst (v := 1) hx hb dX11_event_20 (by decide) ?_
    refine h_callVi (T := TX11) (rest := []) (As := [.int 1]) hx hb hml hown hts hK hT0 (fun _ h => h) hS1 (c_X11_refuse l G Y (o) hM 1) trivial wd_X11_refuse wV_X11_refuse wL_X11_267 (hM.o rfl) rfl rfl hl.1 rfl (Nat.le_of_ble_eq_true rfl) dX11_event_21 ⟨Nat.le_of_ble_eq_true rfl, Nat.le_of_ble_eq_true rfl⟩ ⟨Nat.zero_le _, Nat.zero_le _⟩ (fun r12 H6 locs hp6 hT6 hS6 hk6 => ?_)
    have hp6 : r12 = (-1) := hp6
    subst hp6
    exact hret _ _ _ _ _ hT6 hS6 rfl dX11_event_24
set_option maxHeartbeats 4000000 in
set_option maxRecDepth 100000 in
theorem c_X11_ranks (l : Launch) (G : hG) (Y : hW) (o : Nat) (hM : h_On Y o (modE tF o)) (u1 u2 : Int32) : hMi l yX11_ranks cX11_ranks 6 (some .int) 1 22 G Y [.ref (o), .int u1, .int u2] (fun H => True) (fun H r H1 => (((0 ≤ u1.toInt ∧ u1.toInt ≤ 7) ∧ (0 ≤ u2.toInt ∧ u2.toInt ≤ 2)) → r = 0) ∧ (¬ ((0 ≤ u1.toInt ∧ u1.toInt ≤ 7) ∧ (0 ≤ u2.toInt ∧ u2.toInt ≤ 2)) → r = -1)) := by
  refine h_ofi (by decide +kernel) (Nat.le_of_ble_eq_true rfl) ?_
  intro p e s m args below meth c H0 ls Q hx hb hts hown hml hK hT0 hpr hS0 hl hret
  have hl : lv_has ls 6 [(0, .ref (o)), (1, .int u1), (2, .int u2)] := hl
  refine lv_iload_n hx hb dX11_ranks_0 rfl (lv_at hl 1 rfl) ?_
  refine lv_iconst (v := 0) hx hb dX11_ranks_1 (by decide) ?_
  refine lv_bipush (v := 7) hx hb dX11_ranks_2 (by decide) ?_
  refine h_callSi (rest := []) (As := [.int u1, .int 0, .int 7]) hx hb hml hown hts hK hT0 (fun _ h => h) hS0 (c_isFrom l G Y u1 0 7) trivial wd_X11_isFrom wS_X11_isFrom wL_X11_228 rfl hl.1 rfl (Nat.le_of_ble_eq_true rfl) dX11_ranks_4 ⟨Nat.le_of_ble_eq_true rfl, Nat.le_of_ble_eq_true rfl⟩ ⟨Nat.zero_le _, Nat.zero_le _⟩ (fun r1 H1 locs hp1 hT1 hS1 hk1 => ?_)
  obtain ⟨hp1, he⟩ := hp1
  have he := he.symm
  subst he
  rcases Classical.em (0 ≤ u1.toInt ∧ u1.toInt ≤ 7) with f2 | f2
  · have hp1 : r1 = 1 := hp1.1 f2
    subst hp1
    refine lv_if_eq (tgt := 19) hx hb dX11_ranks_7 (by decide) (fun h => absurd h (by decide)) (fun _ => ?_)
    refine lv_iload_n hx hb dX11_ranks_10 rfl (lv_at hl 2 rfl) ?_
    refine lv_iconst (v := 0) hx hb dX11_ranks_11 (by decide) ?_
    refine lv_iconst (v := 2) hx hb dX11_ranks_12 (by decide) ?_
    refine h_callSi (rest := []) (As := [.int u2, .int 0, .int 2]) hx hb hml hown hts hK hT0 (fun _ h => h) hS1 (c_isFrom l G Y u2 0 2) trivial wd_X11_isFrom wS_X11_isFrom wL_X11_228 rfl hl.1 rfl (Nat.le_of_ble_eq_true rfl) dX11_ranks_13 ⟨Nat.le_of_ble_eq_true rfl, Nat.le_of_ble_eq_true rfl⟩ ⟨Nat.zero_le _, Nat.zero_le _⟩ (fun r4 H2 locs hp2 hT2 hS2 hk2 => ?_)
    obtain ⟨hp2, he⟩ := hp2
    have he := he.symm
    subst he
    rcases Classical.em (0 ≤ u2.toInt ∧ u2.toInt ≤ 2) with f5 | f5
    · have hp2 : r4 = 1 := hp2.1 f5
      subst hp2
      refine lv_if_ne (tgt := 25) hx hb dX11_ranks_16 (by decide) (fun _ => ?_) (fun h => absurd h (by decide))
      refine lv_iload_n hx hb dX11_ranks_25 rfl (lv_at hl 2 rfl) ?_
      refine lv_if_le (tgt := 50) hx hb dX11_ranks_26 (by decide) (fun c7 => ?_) (fun c7 => ?_)
      · skip
        refine lv_iconst (v := 0) hx hb dX11_ranks_50 (by decide) ?_
        refine lv_istore_n (lv' := [(3, .int 0), (0, .ref (o)), (1, .int u1), (2, .int u2)]) hx hb dX11_ranks_51 rfl hl (by decide) rfl (fun ls hl => ?_)
        refine lv_iconst (v := 0) hx hb dX11_ranks_52 (by decide) ?_
        refine lv_istore (lv' := [(4, .int 0), (3, .int 0), (0, .ref (o)), (1, .int u1), (2, .int u2)]) hx hb dX11_ranks_53 hl (by decide) rfl (fun ls hl => ?_)
        refine lv_iload hx hb dX11_ranks_55 (lv_at hl 0 rfl) ?_
        refine lv_aload_n hx hb dX11_ranks_57 rfl (lv_at hl 2 rfl) ?_
        refine lv_iconst (v := 0) hx hb dX11_ranks_58 (by decide) ?_
        refine h_callVi (T := TX11) (rest := [.int 0]) (As := [.int 0]) hx hb hml hown hts hK hT0 (fun _ h => h) hS2 (c_of l G Y tF (o) hM 0 0 (by decide) (h_inc (by decide))) trivial wd_X11_of wV_X11_of wL_X11_47 (hM.o rfl) rfl rfl hl.1 rfl (Nat.le_of_ble_eq_true rfl) dX11_ranks_59 ⟨Nat.le_of_ble_eq_true rfl, Nat.le_of_ble_eq_true rfl⟩ ⟨Nat.zero_le _, Nat.zero_le _⟩ (fun r8 H3 locs hp3 hT3 hS3 hk3 => ?_)
        obtain ⟨hp3, he⟩ := hp3
        have he := he.symm
        subst he
        have hp3 : r8 = 0 := hp3.trans ((tF_all (hT0.ai (hM.at 1 rfl) (j := 0) (by decide)).1 (by decide) (by decide) (by decide)).trans (by decide))
        subst hp3
        refine lv_icmp_ge (tgt := 119) hx hb dX11_ranks_62 (by decide) (fun _ => ?_) (fun h => absurd (by decide) h)
        refine lv_aload_n hx hb dX11_ranks_119 rfl (lv_at hl 2 rfl) ?_
        refine lv_iload_n hx hb dX11_ranks_120 rfl (lv_at hl 1 rfl) ?_
        refine h_callVi (T := TX11) (rest := []) (As := [.int 0]) hx hb hml hown hts hK hT0 (fun _ h => h) hS3 (c_X11_gives l G Y (o) hM 0) trivial wd_X11_gives wV_X11_gives wL_X11_276 (hM.o rfl) rfl rfl hl.1 rfl (Nat.le_of_ble_eq_true rfl) dX11_ranks_121 ⟨Nat.le_of_ble_eq_true rfl, Nat.le_of_ble_eq_true rfl⟩ ⟨Nat.zero_le _, Nat.zero_le _⟩ (fun r10 H4 locs hp4 hT4 hS4 hk4 => ?_)
        have hp4 : r10 = 0 := hp4
        subst hp4
        exact hret _ _ _ _ _ hT4 hS4 (by refine ⟨fun h => ?_, fun h => ?_⟩ <;> first | rfl | exact absurd h (by decide) | (exfalso; simp only [Int32.lt_iff_toInt_lt, Int32.le_iff_toInt_le, ← Int32.toInt_inj, Int32.reduceToInt, (show (-1 : Int32).toInt = -1 from rfl)] at c7 <;> omega)) dX11_ranks_124
      · skip
        have hcond : (0 ≤ u1.toInt ∧ u1.toInt ≤ 7) ∧ (0 ≤ u2.toInt ∧ u2.toInt ≤ 2) := by omega
        rcases (show u2 = 1 ∨ u2 = 2 from by simp only [Int32.lt_iff_toInt_lt, Int32.le_iff_toInt_le, ← Int32.toInt_inj, Int32.reduceToInt, (show (-1 : Int32).toInt = -1 from rfl)] at c7 ⊢; omega) with hu | hu
        · subst hu
          refine lv_aload_n hx hb dX11_ranks_29 rfl (lv_at hl 0 rfl) ?_
          refine lv_aload_n hx hb dX11_ranks_30 rfl (lv_at hl 0 rfl) ?_
          refine lv_sipush (v := 584) hx hb dX11_ranks_31 (by decide) ?_
          refine lv_bipush (v := 8) hx hb dX11_ranks_34 (by decide) ?_
          refine lv_iload_n hx hb dX11_ranks_36 rfl (lv_at hl 2 rfl) ?_
          refine lv_iconst (v := 1) hx hb dX11_ranks_37 (by decide) ?_
          refine lv_isub hx hb dX11_ranks_38 ?_
          refine h_top (v := 0) (by decide) ?_
          refine lv_imul hx hb dX11_ranks_39 ?_
          refine h_top (v := 0) (by decide) ?_
          refine lv_iadd hx hb dX11_ranks_40 ?_
          refine h_top (v := 584) (by decide) ?_
          refine lv_iload_n hx hb dX11_ranks_41 rfl (lv_at hl 1 rfl) ?_
          refine lv_iadd hx hb dX11_ranks_42 ?_
          obtain ⟨J, hJ, hu⟩ : ∃ J : Nat, J ≤ 7 ∧ u1 = nI J := nI_of2 (M := 7) rfl (by simp only [Int32.lt_iff_toInt_lt, Int32.le_iff_toInt_le, ← Int32.toInt_inj, Int32.reduceToInt, (show (-1 : Int32).toInt = -1 from rfl)] at ⊢; omega) (by simp only [Int32.lt_iff_toInt_lt, Int32.le_iff_toInt_le, ← Int32.toInt_inj, Int32.reduceToInt, (show (-1 : Int32).toInt = -1 from rfl)] at ⊢; omega)
          subst hu
          refine h_top (v := nI (584 + J)) (nI_add 584 J) ?_
          refine h_callVi (T := TX11) (rest := [.ref (o)]) (As := [.int (nI (584 + J))]) hx hb hml hown hts hK hT0 (fun _ h => h) hS2 (c_of l G Y tF (o) hM (nI (584 + J)) (584 + J) (nI_clamp (by omega)) (vp_in_nI (by omega) (by decide))) trivial wd_X11_of wV_X11_of wL_X11_47 (hM.o rfl) rfl rfl hl.1 rfl (Nat.le_of_ble_eq_true rfl) dX11_ranks_43 ⟨Nat.le_of_ble_eq_true rfl, Nat.le_of_ble_eq_true rfl⟩ ⟨Nat.zero_le _, Nat.zero_le _⟩ (fun r11 H5 locs hp5 hT5 hS5 hk5 => ?_)
          obtain ⟨hp5, he⟩ := hp5
          have he := he.symm
          subst he
          have hp5 : r11 = 0 := hp5.trans ((tF_all (hT0.ai (hM.at 1 rfl) (by omega)).1 (by omega) (by omega) (by omega)).trans (by rw [if_neg (by omega)]))
          subst hp5
          refine h_callVi (T := TX11) (rest := []) (As := [.int 0]) hx hb hml hown hts hK hT0 (fun _ h => h) hS5 (c_X11_gives l G Y (o) hM 0) trivial wd_X11_gives wV_X11_gives wL_X11_276 (hM.o rfl) rfl rfl hl.1 rfl (Nat.le_of_ble_eq_true rfl) dX11_ranks_46 ⟨Nat.le_of_ble_eq_true rfl, Nat.le_of_ble_eq_true rfl⟩ ⟨Nat.zero_le _, Nat.zero_le _⟩ (fun r12 H6 locs hp6 hT6 hS6 hk6 => ?_)
          have hp6 : r12 = 0 := hp6
          subst hp6
          exact hret _ _ _ _ _ hT6 hS6 ⟨fun _ => rfl, fun h => absurd hcond h⟩ dX11_ranks_49
        · subst hu
          refine lv_aload_n hx hb dX11_ranks_29 rfl (lv_at hl 0 rfl) ?_
          refine lv_aload_n hx hb dX11_ranks_30 rfl (lv_at hl 0 rfl) ?_
          refine lv_sipush (v := 584) hx hb dX11_ranks_31 (by decide) ?_
          refine lv_bipush (v := 8) hx hb dX11_ranks_34 (by decide) ?_
          refine lv_iload_n hx hb dX11_ranks_36 rfl (lv_at hl 2 rfl) ?_
          refine lv_iconst (v := 1) hx hb dX11_ranks_37 (by decide) ?_
          refine lv_isub hx hb dX11_ranks_38 ?_
          refine h_top (v := 1) (by decide) ?_
          refine lv_imul hx hb dX11_ranks_39 ?_
          refine h_top (v := 8) (by decide) ?_
          refine lv_iadd hx hb dX11_ranks_40 ?_
          refine h_top (v := 592) (by decide) ?_
          refine lv_iload_n hx hb dX11_ranks_41 rfl (lv_at hl 1 rfl) ?_
          refine lv_iadd hx hb dX11_ranks_42 ?_
          obtain ⟨J, hJ, hu⟩ : ∃ J : Nat, J ≤ 7 ∧ u1 = nI J := nI_of2 (M := 7) rfl (by simp only [Int32.lt_iff_toInt_lt, Int32.le_iff_toInt_le, ← Int32.toInt_inj, Int32.reduceToInt, (show (-1 : Int32).toInt = -1 from rfl)] at ⊢; omega) (by simp only [Int32.lt_iff_toInt_lt, Int32.le_iff_toInt_le, ← Int32.toInt_inj, Int32.reduceToInt, (show (-1 : Int32).toInt = -1 from rfl)] at ⊢; omega)
          subst hu
          refine h_top (v := nI (592 + J)) (nI_add 592 J) ?_
          refine h_callVi (T := TX11) (rest := [.ref (o)]) (As := [.int (nI (592 + J))]) hx hb hml hown hts hK hT0 (fun _ h => h) hS2 (c_of l G Y tF (o) hM (nI (592 + J)) (592 + J) (nI_clamp (by omega)) (vp_in_nI (by omega) (by decide))) trivial wd_X11_of wV_X11_of wL_X11_47 (hM.o rfl) rfl rfl hl.1 rfl (Nat.le_of_ble_eq_true rfl) dX11_ranks_43 ⟨Nat.le_of_ble_eq_true rfl, Nat.le_of_ble_eq_true rfl⟩ ⟨Nat.zero_le _, Nat.zero_le _⟩ (fun r13 H7 locs hp7 hT7 hS7 hk7 => ?_)
          obtain ⟨hp7, he⟩ := hp7
          have he := he.symm
          subst he
          have hp7 : r13 = 0 := hp7.trans ((tF_all (hT0.ai (hM.at 1 rfl) (by omega)).1 (by omega) (by omega) (by omega)).trans (by rw [if_neg (by omega)]))
          subst hp7
          refine h_callVi (T := TX11) (rest := []) (As := [.int 0]) hx hb hml hown hts hK hT0 (fun _ h => h) hS7 (c_X11_gives l G Y (o) hM 0) trivial wd_X11_gives wV_X11_gives wL_X11_276 (hM.o rfl) rfl rfl hl.1 rfl (Nat.le_of_ble_eq_true rfl) dX11_ranks_46 ⟨Nat.le_of_ble_eq_true rfl, Nat.le_of_ble_eq_true rfl⟩ ⟨Nat.zero_le _, Nat.zero_le _⟩ (fun r14 H8 locs hp8 hT8 hS8 hk8 => ?_)
          have hp8 : r14 = 0 := hp8
          subst hp8
          exact hret _ _ _ _ _ hT8 hS8 ⟨fun _ => rfl, fun h => absurd hcond h⟩ dX11_ranks_49
    · have hp2 : r4 = 0 := hp2.2 f5
      subst hp2
      refine lv_if_ne (tgt := 25) hx hb dX11_ranks_16 (by decide) (fun h => absurd (by decide) h) (fun _ => ?_)
      refine lv_aload_n hx hb dX11_ranks_19 rfl (lv_at hl 0 rfl) ?_
      refine lv_iconst (v := 1) hx hb dX11_ranks_20 (by decide) ?_
      refine h_callVi (T := TX11) (rest := []) (As := [.int 1]) hx hb hml hown hts hK hT0 (fun _ h => h) hS2 (c_X11_refuse l G Y (o) hM 1) trivial wd_X11_refuse wV_X11_refuse wL_X11_267 (hM.o rfl) rfl rfl hl.1 rfl (Nat.le_of_ble_eq_true rfl) dX11_ranks_21 ⟨Nat.le_of_ble_eq_true rfl, Nat.le_of_ble_eq_true rfl⟩ ⟨Nat.zero_le _, Nat.zero_le _⟩ (fun r16 H9 locs hp9 hT9 hS9 hk9 => ?_)
      have hp9 : r16 = (-1) := hp9
      subst hp9
      exact hret _ _ _ _ _ hT9 hS9 (by refine ⟨fun h => ?_, fun h => ?_⟩ <;> first | rfl | exact absurd h (by decide) | (exfalso; omega)) dX11_ranks_24
  · have hp1 : r1 = 0 := hp1.2 f2
    subst hp1
    refine lv_if_eq (tgt := 19) hx hb dX11_ranks_7 (by decide) (fun _ => ?_) (fun h => absurd (by decide) h)
    refine lv_aload_n hx hb dX11_ranks_19 rfl (lv_at hl 0 rfl) ?_
    refine lv_iconst (v := 1) hx hb dX11_ranks_20 (by decide) ?_
    refine h_callVi (T := TX11) (rest := []) (As := [.int 1]) hx hb hml hown hts hK hT0 (fun _ h => h) hS1 (c_X11_refuse l G Y (o) hM 1) trivial wd_X11_refuse wV_X11_refuse wL_X11_267 (hM.o rfl) rfl rfl hl.1 rfl (Nat.le_of_ble_eq_true rfl) dX11_ranks_21 ⟨Nat.le_of_ble_eq_true rfl, Nat.le_of_ble_eq_true rfl⟩ ⟨Nat.zero_le _, Nat.zero_le _⟩ (fun r18 H10 locs hp10 hT10 hS10 hk10 => ?_)
    have hp10 : r18 = (-1) := hp10
    subst hp10
    exact hret _ _ _ _ _ hT10 hS10 (by refine ⟨fun h => ?_, fun h => ?_⟩ <;> first | rfl | exact absurd h (by decide) | (exfalso; omega)) dX11_ranks_24
set_option maxHeartbeats 4000000 in
set_option maxRecDepth 100000 in
theorem c_X11_hops (l : Launch) (G : hG) (Y : hW) (o : Nat) (hM : h_On Y o (modE tF o)) (u1 u2 : Int32) : hMi l yX11_hops cX11_hops 5 (some .int) 2 42 G Y [.ref (o), .int u1, .int u2] (fun H => True) (fun H r H1 => r = (-1)) := by
  refine h_ofi (by decide +kernel) (Nat.le_of_ble_eq_true rfl) ?_
  intro p e s m args below meth c H0 ls Q hx hb hts hown hml hK hT0 hpr hS0 hl hret
  have hl : lv_has ls 5 [(0, .ref (o)), (1, .int u1), (2, .int u2)] := hl
  refine lv_aload_n hx hb dX11_hops_0 rfl (lv_at hl 0 rfl) ?_
  refine lv_iload_n hx hb dX11_hops_1 rfl (lv_at hl 1 rfl) ?_
  refine h_callVi (T := TX11) (rest := []) (As := [.int u1]) hx hb hml hown hts hK hT0 (fun _ h => h) hS0 (c_X11_isStation l G Y (o) hM u1) trivial wd_X11_isStation wV_X11_isStation wL_X11_51 (hM.o rfl) rfl rfl hl.1 rfl (Nat.le_of_ble_eq_true rfl) dX11_hops_2 ⟨Nat.le_of_ble_eq_true rfl, Nat.le_of_ble_eq_true rfl⟩ ⟨Nat.zero_le _, Nat.zero_le _⟩ (fun r1 H1 locs hp1 hT1 hS1 hk1 => ?_)
  obtain ⟨hp1, he⟩ := hp1
  have he := he.symm
  subst he
  have hp1 : r1 = 0 := hp1
  subst hp1
  refine lv_if_eq (tgt := 16) hx hb dX11_hops_5 (by decide) (fun _ => ?_) (fun h => absurd (by decide) h)
  refine lv_aload_n hx hb dX11_hops_16 rfl (lv_at hl 0 rfl) ?_
  refine lv_iconst (v := 2) hx hb dX11_hops_17 (by decide) ?_
  refine h_callVi (T := TX11) (rest := []) (As := [.int 2]) hx hb hml hown hts hK hT0 (fun _ h => h) hS1 (c_X11_refuse l G Y (o) hM 2) trivial wd_X11_refuse wV_X11_refuse wL_X11_267 (hM.o rfl) rfl rfl hl.1 rfl (Nat.le_of_ble_eq_true rfl) dX11_hops_18 ⟨Nat.le_of_ble_eq_true rfl, Nat.le_of_ble_eq_true rfl⟩ ⟨Nat.zero_le _, Nat.zero_le _⟩ (fun r3 H2 locs hp2 hT2 hS2 hk2 => ?_)
  have hp2 : r3 = (-1) := hp2
  subst hp2
  exact hret _ _ _ _ _ hT2 hS2 rfl dX11_hops_21
set_option maxHeartbeats 4000000 in
set_option maxRecDepth 100000 in
theorem c_X11_heir (l : Launch) (G : hG) (Y : hW) (o : Nat) (hM : h_On Y o (modE tF o)) : hMi l yX11_heir cX11_heir 2 (some .int) 2 43 G Y [.ref (o)] (fun H => True) (fun H r H1 => r = (-1)) := by
  refine h_ofi (by decide +kernel) (Nat.le_of_ble_eq_true rfl) ?_
  intro p e s m args below meth c H0 ls Q hx hb hts hown hml hK hT0 hpr hS0 hl hret
  have hl : lv_has ls 2 [(0, .ref (o))] := hl
  refine lv_aload_n hx hb dX11_heir_0 rfl (lv_at hl 0 rfl) ?_
  refine h_callVi (T := TX11) (rest := []) (As := []) hx hb hml hown hts hK hT0 (fun _ h => h) hS0 (c_X11_heirNow l G Y (o) hM) trivial wd_X11_heirNow wV_X11_heirNow wL_X11_146 (hM.o rfl) rfl rfl hl.1 rfl (Nat.le_of_ble_eq_true rfl) dX11_heir_1 ⟨Nat.le_of_ble_eq_true rfl, Nat.le_of_ble_eq_true rfl⟩ ⟨Nat.zero_le _, Nat.zero_le _⟩ (fun r1 H1 locs hp1 hT1 hS1 hk1 => ?_)
  obtain ⟨hp1, he⟩ := hp1
  have he := he.symm
  subst he
  have hp1 : r1 = (-1) := hp1
  subst hp1
  refine lv_istore_n (lv' := [(1, .int (-1)), (0, .ref (o))]) hx hb dX11_heir_4 rfl hl (by decide) rfl (fun ls hl => ?_)
  refine lv_iload_n hx hb dX11_heir_5 rfl (lv_at hl 0 rfl) ?_
  refine lv_iconst (v := (-1)) hx hb dX11_heir_6 (by decide) ?_
  refine lv_icmp_ne (tgt := 18) hx hb dX11_heir_7 (by decide) (fun h => absurd (by decide) h) (fun _ => ?_)
  refine lv_aload_n hx hb dX11_heir_10 rfl (lv_at hl 1 rfl) ?_
  refine lv_iconst (v := 5) hx hb dX11_heir_11 (by decide) ?_
  refine h_callVi (T := TX11) (rest := []) (As := [.int 5]) hx hb hml hown hts hK hT0 (fun _ h => h) hS1 (c_X11_refuse l G Y (o) hM 5) trivial wd_X11_refuse wV_X11_refuse wL_X11_267 (hM.o rfl) rfl rfl hl.1 rfl (Nat.le_of_ble_eq_true rfl) dX11_heir_12 ⟨Nat.le_of_ble_eq_true rfl, Nat.le_of_ble_eq_true rfl⟩ ⟨Nat.zero_le _, Nat.zero_le _⟩ (fun r3 H2 locs hp2 hT2 hS2 hk2 => ?_)
  have hp2 : r3 = (-1) := hp2
  subst hp2
  refine lv_goto (tgt := 23) hx hb dX11_heir_15 (by decide) ?_
  exact hret _ _ _ _ _ hT2 hS2 rfl dX11_heir_23
set_option maxHeartbeats 4000000 in
set_option maxRecDepth 100000 in
theorem c_X11_send (l : Launch) (G : hG) (Y : hW) (o : Nat) (hM : h_On Y o (modE tF o)) (u1 u2 u3 : Int32) : hMi l yX11_send cX11_send 4 (some .int) 2 42 G Y [.ref (o), .int u1, .int u2, .int u3] (fun H => True) (fun H r H1 => r = (-1)) := by
  refine h_ofi (by decide +kernel) (Nat.le_of_ble_eq_true rfl) ?_
  intro p e s m args below meth c H0 ls Q hx hb hts hown hml hK hT0 hpr hS0 hl hret
  have hl : lv_has ls 4 [(0, .ref (o)), (1, .int u1), (2, .int u2), (3, .int u3)] := hl
  refine lv_iload_n hx hb dX11_send_0 rfl (lv_at hl 3 rfl) ?_
  refine lv_iconst (v := 0) hx hb dX11_send_1 (by decide) ?_
  refine lv_bipush (v := 7) hx hb dX11_send_2 (by decide) ?_
  refine h_callSi (rest := []) (As := [.int u3, .int 0, .int 7]) hx hb hml hown hts hK hT0 (fun _ h => h) hS0 (c_isFrom l G Y u3 0 7) trivial wd_X11_isFrom wS_X11_isFrom wL_X11_228 rfl hl.1 rfl (Nat.le_of_ble_eq_true rfl) dX11_send_4 ⟨Nat.le_of_ble_eq_true rfl, Nat.le_of_ble_eq_true rfl⟩ ⟨Nat.zero_le _, Nat.zero_le _⟩ (fun r1 H1 locs hp1 hT1 hS1 hk1 => ?_)
  obtain ⟨hp1, he⟩ := hp1
  have he := he.symm
  subst he
  rcases Classical.em (0 ≤ u3.toInt ∧ u3.toInt ≤ 7) with f2 | f2
  · have hp1 : r1 = 1 := hp1.1 f2
    subst hp1
    refine lv_if_ne (tgt := 16) hx hb dX11_send_7 (by decide) (fun _ => ?_) (fun h => absurd h (by decide))
    refine lv_aload_n hx hb dX11_send_16 rfl (lv_at hl 0 rfl) ?_
    refine lv_iload_n hx hb dX11_send_17 rfl (lv_at hl 1 rfl) ?_
    refine h_callVi (T := TX11) (rest := []) (As := [.int u1]) hx hb hml hown hts hK hT0 (fun _ h => h) hS1 (c_X11_isStation l G Y (o) hM u1) trivial wd_X11_isStation wV_X11_isStation wL_X11_51 (hM.o rfl) rfl rfl hl.1 rfl (Nat.le_of_ble_eq_true rfl) dX11_send_18 ⟨Nat.le_of_ble_eq_true rfl, Nat.le_of_ble_eq_true rfl⟩ ⟨Nat.zero_le _, Nat.zero_le _⟩ (fun r4 H2 locs hp2 hT2 hS2 hk2 => ?_)
    obtain ⟨hp2, he⟩ := hp2
    have he := he.symm
    subst he
    have hp2 : r4 = 0 := hp2
    subst hp2
    refine lv_if_eq (tgt := 32) hx hb dX11_send_21 (by decide) (fun _ => ?_) (fun h => absurd (by decide) h)
    refine lv_aload_n hx hb dX11_send_32 rfl (lv_at hl 0 rfl) ?_
    refine lv_iconst (v := 2) hx hb dX11_send_33 (by decide) ?_
    refine h_callVi (T := TX11) (rest := []) (As := [.int 2]) hx hb hml hown hts hK hT0 (fun _ h => h) hS2 (c_X11_refuse l G Y (o) hM 2) trivial wd_X11_refuse wV_X11_refuse wL_X11_267 (hM.o rfl) rfl rfl hl.1 rfl (Nat.le_of_ble_eq_true rfl) dX11_send_34 ⟨Nat.le_of_ble_eq_true rfl, Nat.le_of_ble_eq_true rfl⟩ ⟨Nat.zero_le _, Nat.zero_le _⟩ (fun r6 H3 locs hp3 hT3 hS3 hk3 => ?_)
    have hp3 : r6 = (-1) := hp3
    subst hp3
    exact hret _ _ _ _ _ hT3 hS3 rfl dX11_send_37
  · have hp1 : r1 = 0 := hp1.2 f2
    subst hp1
    refine lv_if_ne (tgt := 16) hx hb dX11_send_7 (by decide) (fun h => absurd (by decide) h) (fun _ => ?_)
    refine lv_aload_n hx hb dX11_send_10 rfl (lv_at hl 0 rfl) ?_
    refine lv_iconst (v := 1) hx hb dX11_send_11 (by decide) ?_
    refine h_callVi (T := TX11) (rest := []) (As := [.int 1]) hx hb hml hown hts hK hT0 (fun _ h => h) hS1 (c_X11_refuse l G Y (o) hM 1) trivial wd_X11_refuse wV_X11_refuse wL_X11_267 (hM.o rfl) rfl rfl hl.1 rfl (Nat.le_of_ble_eq_true rfl) dX11_send_12 ⟨Nat.le_of_ble_eq_true rfl, Nat.le_of_ble_eq_true rfl⟩ ⟨Nat.zero_le _, Nat.zero_le _⟩ (fun r8 H4 locs hp4 hT4 hS4 hk4 => ?_)
    have hp4 : r8 = (-1) := hp4
    subst hp4
    exact hret _ _ _ _ _ hT4 hS4 rfl dX11_send_15
set_option maxHeartbeats 4000000 in
set_option maxRecDepth 100000 in
theorem c_X11_take (l : Launch) (G : hG) (Y : hW) (o : Nat) (hM : h_On Y o (modE tF o)) (u1 : Int32) : hMi l yX11_take cX11_take 4 (some .int) 1 21 G Y [.ref (o), .int u1] (fun H => True) (fun H r H1 => r = (-1)) := by
  refine h_ofi (by decide +kernel) (Nat.le_of_ble_eq_true rfl) ?_
  intro p e s m args below meth c H0 ls Q hx hb hts hown hml hK hT0 hpr hS0 hl hret
  have hl : lv_has ls 4 [(0, .ref (o)), (1, .int u1)] := hl
  refine lv_iload_n hx hb dX11_take_0 rfl (lv_at hl 1 rfl) ?_
  refine lv_if_ge (tgt := 10) hx hb dX11_take_1 (by decide) (fun c1 => ?_) (fun c1 => ?_)
  · skip
    refine lv_iconst (v := 0) hx hb dX11_take_10 (by decide) ?_
    refine lv_istore_n (lv' := [(2, .int 0), (0, .ref (o)), (1, .int u1)]) hx hb dX11_take_11 rfl hl (by decide) rfl (fun ls hl => ?_)
    refine lv_iload_n hx hb dX11_take_12 rfl (lv_at hl 0 rfl) ?_
    refine lv_aload_n hx hb dX11_take_13 rfl (lv_at hl 1 rfl) ?_
    refine lv_iconst (v := 0) hx hb dX11_take_14 (by decide) ?_
    refine h_callVi (T := TX11) (rest := [.int 0]) (As := [.int 0]) hx hb hml hown hts hK hT0 (fun _ h => h) hS0 (c_of l G Y tF (o) hM 0 0 (by decide) (h_inc (by decide))) trivial wd_X11_of wV_X11_of wL_X11_47 (hM.o rfl) rfl rfl hl.1 rfl (Nat.le_of_ble_eq_true rfl) dX11_take_15 ⟨Nat.le_of_ble_eq_true rfl, Nat.le_of_ble_eq_true rfl⟩ ⟨Nat.zero_le _, Nat.zero_le _⟩ (fun r2 H1 locs hp1 hT1 hS1 hk1 => ?_)
    obtain ⟨hp1, he⟩ := hp1
    have he := he.symm
    subst he
    have hp1 : r2 = 0 := hp1.trans ((tF_all (hT0.ai (hM.at 1 rfl) (j := 0) (by decide)).1 (by decide) (by decide) (by decide)).trans (by decide))
    subst hp1
    refine lv_icmp_ge (tgt := 75) hx hb dX11_take_18 (by decide) (fun _ => ?_) (fun h => absurd (by decide) h)
    refine lv_aload_n hx hb dX11_take_75 rfl (lv_at hl 1 rfl) ?_
    refine lv_iconst (v := 5) hx hb dX11_take_76 (by decide) ?_
    refine h_callVi (T := TX11) (rest := []) (As := [.int 5]) hx hb hml hown hts hK hT0 (fun _ h => h) hS1 (c_X11_refuse l G Y (o) hM 5) trivial wd_X11_refuse wV_X11_refuse wL_X11_267 (hM.o rfl) rfl rfl hl.1 rfl (Nat.le_of_ble_eq_true rfl) dX11_take_77 ⟨Nat.le_of_ble_eq_true rfl, Nat.le_of_ble_eq_true rfl⟩ ⟨Nat.zero_le _, Nat.zero_le _⟩ (fun r4 H2 locs hp2 hT2 hS2 hk2 => ?_)
    have hp2 : r4 = (-1) := hp2
    subst hp2
    exact hret _ _ _ _ _ hT2 hS2 rfl dX11_take_80
  · skip
    refine lv_aload_n hx hb dX11_take_4 rfl (lv_at hl 0 rfl) ?_
    refine lv_iconst (v := 1) hx hb dX11_take_5 (by decide) ?_
    refine h_callVi (T := TX11) (rest := []) (As := [.int 1]) hx hb hml hown hts hK hT0 (fun _ h => h) hS0 (c_X11_refuse l G Y (o) hM 1) trivial wd_X11_refuse wV_X11_refuse wL_X11_267 (hM.o rfl) rfl rfl hl.1 rfl (Nat.le_of_ble_eq_true rfl) dX11_take_6 ⟨Nat.le_of_ble_eq_true rfl, Nat.le_of_ble_eq_true rfl⟩ ⟨Nat.zero_le _, Nat.zero_le _⟩ (fun r5 H3 locs hp3 hT3 hS3 hk3 => ?_)
    have hp3 : r5 = (-1) := hp3
    subst hp3
    exact hret _ _ _ _ _ hT3 hS3 rfl dX11_take_9
set_option maxHeartbeats 4000000 in
set_option maxRecDepth 100000 in
theorem c_X11_shed (l : Launch) (G : hG) (Y : hW) (o : Nat) (hM : h_On Y o (modE tF o)) (u1 u2 : Int32) : hMi l yX11_shed cX11_shed 6 (some .int) 3 63 G Y [.ref (o), .int u1, .int u2] (fun H => True) (fun H r H1 => r = (-1)) := by
  refine h_ofi (by decide +kernel) (Nat.le_of_ble_eq_true rfl) ?_
  intro p e s m args below meth c H0 ls Q hx hb hts hown hml hK hT0 hpr hS0 hl hret
  have hl : lv_has ls 6 [(0, .ref (o)), (1, .int u1), (2, .int u2)] := hl
  refine lv_iload_n hx hb dX11_shed_0 rfl (lv_at hl 2 rfl) ?_
  refine lv_iconst (v := 0) hx hb dX11_shed_1 (by decide) ?_
  refine lv_bipush (v := 8) hx hb dX11_shed_2 (by decide) ?_
  refine h_callSi (rest := []) (As := [.int u2, .int 0, .int 8]) hx hb hml hown hts hK hT0 (fun _ h => h) hS0 (c_isFrom l G Y u2 0 8) trivial wd_X11_isFrom wS_X11_isFrom wL_X11_228 rfl hl.1 rfl (Nat.le_of_ble_eq_true rfl) dX11_shed_4 ⟨Nat.le_of_ble_eq_true rfl, Nat.le_of_ble_eq_true rfl⟩ ⟨Nat.zero_le _, Nat.zero_le _⟩ (fun r1 H1 locs hp1 hT1 hS1 hk1 => ?_)
  obtain ⟨hp1, he⟩ := hp1
  have he := he.symm
  subst he
  rcases Classical.em (0 ≤ u2.toInt ∧ u2.toInt ≤ 8) with f2 | f2
  · have hp1 : r1 = 1 := hp1.1 f2
    subst hp1
    refine lv_if_ne (tgt := 14) hx hb dX11_shed_7 (by decide) (fun _ => ?_) (fun h => absurd h (by decide))
    refine lv_aload_n hx hb dX11_shed_14 rfl (lv_at hl 0 rfl) ?_
    refine lv_iload_n hx hb dX11_shed_15 rfl (lv_at hl 1 rfl) ?_
    refine h_callVi (T := TX11) (rest := []) (As := [.int u1]) hx hb hml hown hts hK hT0 (fun _ h => h) hS1 (c_X11_wrongStation l G Y (o) hM u1) trivial wd_X11_wrongStation wV_X11_wrongStation wL_X11_288 (hM.o rfl) rfl rfl hl.1 rfl (Nat.le_of_ble_eq_true rfl) dX11_shed_16 ⟨Nat.le_of_ble_eq_true rfl, Nat.le_of_ble_eq_true rfl⟩ ⟨Nat.zero_le _, Nat.zero_le _⟩ (fun r4 H2 locs hp2 hT2 hS2 hk2 => ?_)
    obtain ⟨hp2, he⟩ := hp2
    have he := he.symm
    subst he
    have hp2 : r4 = 2 := hp2
    subst hp2
    refine lv_istore_n (lv' := [(3, .int 2), (0, .ref (o)), (1, .int u1), (2, .int u2)]) hx hb dX11_shed_19 rfl hl (by decide) rfl (fun ls hl => ?_)
    refine lv_iload_n hx hb dX11_shed_20 rfl (lv_at hl 0 rfl) ?_
    refine lv_if_le (tgt := 30) hx hb dX11_shed_21 (by decide) (fun h => absurd h (by decide)) (fun _ => ?_)
    refine lv_aload_n hx hb dX11_shed_24 rfl (lv_at hl 1 rfl) ?_
    refine lv_iload_n hx hb dX11_shed_25 rfl (lv_at hl 0 rfl) ?_
    refine h_callVi (T := TX11) (rest := []) (As := [.int 2]) hx hb hml hown hts hK hT0 (fun _ h => h) hS2 (c_X11_refuse l G Y (o) hM 2) trivial wd_X11_refuse wV_X11_refuse wL_X11_267 (hM.o rfl) rfl rfl hl.1 rfl (Nat.le_of_ble_eq_true rfl) dX11_shed_26 ⟨Nat.le_of_ble_eq_true rfl, Nat.le_of_ble_eq_true rfl⟩ ⟨Nat.zero_le _, Nat.zero_le _⟩ (fun r6 H3 locs hp3 hT3 hS3 hk3 => ?_)
    have hp3 : r6 = (-1) := hp3
    subst hp3
    exact hret _ _ _ _ _ hT3 hS3 rfl dX11_shed_29
  · have hp1 : r1 = 0 := hp1.2 f2
    subst hp1
    refine lv_if_ne (tgt := 14) hx hb dX11_shed_7 (by decide) (fun h => absurd (by decide) h) (fun _ => ?_)
    refine lv_iconst (v := 1) hx hb dX11_shed_10 (by decide) ?_
    refine lv_goto (tgt := 19) hx hb dX11_shed_11 (by decide) ?_
    refine lv_istore_n (lv' := [(3, .int 1), (0, .ref (o)), (1, .int u1), (2, .int u2)]) hx hb dX11_shed_19 rfl hl (by decide) rfl (fun ls hl => ?_)
    refine lv_iload_n hx hb dX11_shed_20 rfl (lv_at hl 0 rfl) ?_
    refine lv_if_le (tgt := 30) hx hb dX11_shed_21 (by decide) (fun h => absurd h (by decide)) (fun _ => ?_)
    refine lv_aload_n hx hb dX11_shed_24 rfl (lv_at hl 1 rfl) ?_
    refine lv_iload_n hx hb dX11_shed_25 rfl (lv_at hl 0 rfl) ?_
    refine h_callVi (T := TX11) (rest := []) (As := [.int 1]) hx hb hml hown hts hK hT0 (fun _ h => h) hS1 (c_X11_refuse l G Y (o) hM 1) trivial wd_X11_refuse wV_X11_refuse wL_X11_267 (hM.o rfl) rfl rfl hl.1 rfl (Nat.le_of_ble_eq_true rfl) dX11_shed_26 ⟨Nat.le_of_ble_eq_true rfl, Nat.le_of_ble_eq_true rfl⟩ ⟨Nat.zero_le _, Nat.zero_le _⟩ (fun r9 H4 locs hp4 hT4 hS4 hk4 => ?_)
    have hp4 : r9 = (-1) := hp4
    subst hp4
    exact hret _ _ _ _ _ hT4 hS4 rfl dX11_shed_29
set_option maxHeartbeats 4000000 in
set_option maxRecDepth 100000 in
theorem c_X11_off (l : Launch) (G : hG) (Y : hW) (o : Nat) (hM : h_On Y o (modE tF o)) (u1 : Int32) : hMi l yX11_off cX11_off 2 (some .boolean) 2 42 G Y [.ref (o), .int u1] (fun H => True) (fun H r H1 => r = 0) := by
  refine h_ofz (by decide +kernel) (Nat.le_of_ble_eq_true rfl) ?_
  intro p e s m args below meth c H0 ls Q hx hb hts hown hml hK hT0 hpr hS0 hl hret
  have hl : lv_has ls 2 [(0, .ref (o)), (1, .int u1)] := hl
  refine lv_aload_n hx hb dX11_off_0 rfl (lv_at hl 0 rfl) ?_
  refine lv_iload_n hx hb dX11_off_1 rfl (lv_at hl 1 rfl) ?_
  refine h_callVi (T := TX11) (rest := []) (As := [.int u1]) hx hb hml hown hts hK hT0 (fun _ h => h) hS0 (c_X11_isStation l G Y (o) hM u1) trivial wd_X11_isStation wV_X11_isStation wL_X11_51 (hM.o rfl) rfl rfl hl.1 rfl (Nat.le_of_ble_eq_true rfl) dX11_off_2 ⟨Nat.le_of_ble_eq_true rfl, Nat.le_of_ble_eq_true rfl⟩ ⟨Nat.zero_le _, Nat.zero_le _⟩ (fun r1 H1 locs hp1 hT1 hS1 hk1 => ?_)
  obtain ⟨hp1, he⟩ := hp1
  have he := he.symm
  subst he
  have hp1 : r1 = 0 := hp1
  subst hp1
  refine lv_if_ne (tgt := 14) hx hb dX11_off_5 (by decide) (fun h => absurd (by decide) h) (fun _ => ?_)
  refine lv_aload_n hx hb dX11_off_8 rfl (lv_at hl 0 rfl) ?_
  refine lv_iconst (v := 2) hx hb dX11_off_9 (by decide) ?_
  refine h_callVi (T := TX11) (rest := []) (As := [.int 2]) hx hb hml hown hts hK hT0 (fun _ h => h) hS1 (c_X11_isSo l G Y (o) hM 2) trivial wd_X11_isSo wV_X11_isSo wL_X11_294 (hM.o rfl) rfl rfl hl.1 rfl (Nat.le_of_ble_eq_true rfl) dX11_off_10 ⟨Nat.le_of_ble_eq_true rfl, Nat.le_of_ble_eq_true rfl⟩ ⟨Nat.zero_le _, Nat.zero_le _⟩ (fun r3 H2 locs hp2 hT2 hS2 hk2 => ?_)
  have hp2 : r3 = 0 := hp2.2 (by decide)
  subst hp2
  exact hret _ _ _ _ _ hT2 hS2 ⟨by decide, rfl⟩ dX11_off_13
set_option maxHeartbeats 4000000 in
set_option maxRecDepth 100000 in
theorem c_X11_on (l : Launch) (G : hG) (Y : hW) (o : Nat) (hM : h_On Y o (modE tF o)) (u1 : Int32) : hMi l yX11_on cX11_on 2 (some .boolean) 2 42 G Y [.ref (o), .int u1] (fun H => True) (fun H r H1 => r = 0) := by
  refine h_ofz (by decide +kernel) (Nat.le_of_ble_eq_true rfl) ?_
  intro p e s m args below meth c H0 ls Q hx hb hts hown hml hK hT0 hpr hS0 hl hret
  have hl : lv_has ls 2 [(0, .ref (o)), (1, .int u1)] := hl
  refine lv_aload_n hx hb dX11_on_0 rfl (lv_at hl 0 rfl) ?_
  refine lv_iload_n hx hb dX11_on_1 rfl (lv_at hl 1 rfl) ?_
  refine h_callVi (T := TX11) (rest := []) (As := [.int u1]) hx hb hml hown hts hK hT0 (fun _ h => h) hS0 (c_X11_isStation l G Y (o) hM u1) trivial wd_X11_isStation wV_X11_isStation wL_X11_51 (hM.o rfl) rfl rfl hl.1 rfl (Nat.le_of_ble_eq_true rfl) dX11_on_2 ⟨Nat.le_of_ble_eq_true rfl, Nat.le_of_ble_eq_true rfl⟩ ⟨Nat.zero_le _, Nat.zero_le _⟩ (fun r1 H1 locs hp1 hT1 hS1 hk1 => ?_)
  obtain ⟨hp1, he⟩ := hp1
  have he := he.symm
  subst he
  have hp1 : r1 = 0 := hp1
  subst hp1
  refine lv_if_ne (tgt := 14) hx hb dX11_on_5 (by decide) (fun h => absurd (by decide) h) (fun _ => ?_)
  refine lv_aload_n hx hb dX11_on_8 rfl (lv_at hl 0 rfl) ?_
  refine lv_iconst (v := 2) hx hb dX11_on_9 (by decide) ?_
  refine h_callVi (T := TX11) (rest := []) (As := [.int 2]) hx hb hml hown hts hK hT0 (fun _ h => h) hS1 (c_X11_isSo l G Y (o) hM 2) trivial wd_X11_isSo wV_X11_isSo wL_X11_294 (hM.o rfl) rfl rfl hl.1 rfl (Nat.le_of_ble_eq_true rfl) dX11_on_10 ⟨Nat.le_of_ble_eq_true rfl, Nat.le_of_ble_eq_true rfl⟩ ⟨Nat.zero_le _, Nat.zero_le _⟩ (fun r3 H2 locs hp2 hT2 hS2 hk2 => ?_)
  have hp2 : r3 = 0 := hp2.2 (by decide)
  subst hp2
  exact hret _ _ _ _ _ hT2 hS2 ⟨by decide, rfl⟩ dX11_on_13
set_option maxHeartbeats 4000000 in
set_option maxRecDepth 100000 in
theorem c_X11_monitor (l : Launch) (G : hG) (Y : hW) (o : Nat) (hM : h_On Y o (modE tF o)) (u1 : Int32) : hMi l yX11_monitor cX11_monitor 2 (some .boolean) 2 42 G Y [.ref (o), .int u1] (fun H => True) (fun H r H1 => r = 0) := by
  refine h_ofz (by decide +kernel) (Nat.le_of_ble_eq_true rfl) ?_
  intro p e s m args below meth c H0 ls Q hx hb hts hown hml hK hT0 hpr hS0 hl hret
  have hl : lv_has ls 2 [(0, .ref (o)), (1, .int u1)] := hl
  refine lv_aload_n hx hb dX11_monitor_0 rfl (lv_at hl 0 rfl) ?_
  refine lv_iload_n hx hb dX11_monitor_1 rfl (lv_at hl 1 rfl) ?_
  refine h_callVi (T := TX11) (rest := []) (As := [.int u1]) hx hb hml hown hts hK hT0 (fun _ h => h) hS0 (c_X11_isStation l G Y (o) hM u1) trivial wd_X11_isStation wV_X11_isStation wL_X11_51 (hM.o rfl) rfl rfl hl.1 rfl (Nat.le_of_ble_eq_true rfl) dX11_monitor_2 ⟨Nat.le_of_ble_eq_true rfl, Nat.le_of_ble_eq_true rfl⟩ ⟨Nat.zero_le _, Nat.zero_le _⟩ (fun r1 H1 locs hp1 hT1 hS1 hk1 => ?_)
  obtain ⟨hp1, he⟩ := hp1
  have he := he.symm
  subst he
  have hp1 : r1 = 0 := hp1
  subst hp1
  refine lv_if_ne (tgt := 14) hx hb dX11_monitor_5 (by decide) (fun h => absurd (by decide) h) (fun _ => ?_)
  refine lv_aload_n hx hb dX11_monitor_8 rfl (lv_at hl 0 rfl) ?_
  refine lv_iconst (v := 2) hx hb dX11_monitor_9 (by decide) ?_
  refine h_callVi (T := TX11) (rest := []) (As := [.int 2]) hx hb hml hown hts hK hT0 (fun _ h => h) hS1 (c_X11_isSo l G Y (o) hM 2) trivial wd_X11_isSo wV_X11_isSo wL_X11_294 (hM.o rfl) rfl rfl hl.1 rfl (Nat.le_of_ble_eq_true rfl) dX11_monitor_10 ⟨Nat.le_of_ble_eq_true rfl, Nat.le_of_ble_eq_true rfl⟩ ⟨Nat.zero_le _, Nat.zero_le _⟩ (fun r3 H2 locs hp2 hT2 hS2 hk2 => ?_)
  have hp2 : r3 = 0 := hp2.2 (by decide)
  subst hp2
  exact hret _ _ _ _ _ hT2 hS2 ⟨by decide, rfl⟩ dX11_monitor_13
set_option maxHeartbeats 4000000 in
set_option maxRecDepth 100000 in
theorem c_X11_lose (l : Launch) (G : hG) (Y : hW) (o : Nat) (hM : h_On Y o (modE tF o)) : hMi l yX11_lose cX11_lose 1 (some .boolean) 1 21 G Y [.ref (o)] (fun H => True) (fun H r H1 => r = 0) := by
  refine h_ofz (by decide +kernel) (Nat.le_of_ble_eq_true rfl) ?_
  intro p e s m args below meth c H0 ls Q hx hb hts hown hml hK hT0 hpr hS0 hl hret
  have hl : lv_has ls 1 [(0, .ref (o))] := hl
  refine lv_aload_n hx hb dX11_lose_0 rfl (lv_at hl 0 rfl) ?_
  refine lv_iconst (v := 5) hx hb dX11_lose_1 (by decide) ?_
  refine h_callVi (T := TX11) (rest := []) (As := [.int 5]) hx hb hml hown hts hK hT0 (fun _ h => h) hS0 (c_of l G Y tF (o) hM 5 5 (by decide) (h_inc (by decide))) trivial wd_X11_of wV_X11_of wL_X11_47 (hM.o rfl) rfl rfl hl.1 rfl (Nat.le_of_ble_eq_true rfl) dX11_lose_2 ⟨Nat.le_of_ble_eq_true rfl, Nat.le_of_ble_eq_true rfl⟩ ⟨Nat.zero_le _, Nat.zero_le _⟩ (fun r1 H1 locs hp1 hT1 hS1 hk1 => ?_)
  obtain ⟨hp1, he⟩ := hp1
  have he := he.symm
  subst he
  have hp1 : r1 = 0 := hp1.trans ((tF_all (hT0.ai (hM.at 1 rfl) (j := 5) (by decide)).1 (by decide) (by decide) (by decide)).trans (by decide))
  subst hp1
  refine lv_if_ne (tgt := 15) hx hb dX11_lose_5 (by decide) (fun h => absurd (by decide) h) (fun _ => ?_)
  refine lv_aload_n hx hb dX11_lose_8 rfl (lv_at hl 0 rfl) ?_
  refine lv_bipush (v := 6) hx hb dX11_lose_9 (by decide) ?_
  refine h_callVi (T := TX11) (rest := []) (As := [.int 6]) hx hb hml hown hts hK hT0 (fun _ h => h) hS1 (c_X11_isSo l G Y (o) hM 6) trivial wd_X11_isSo wV_X11_isSo wL_X11_294 (hM.o rfl) rfl rfl hl.1 rfl (Nat.le_of_ble_eq_true rfl) dX11_lose_11 ⟨Nat.le_of_ble_eq_true rfl, Nat.le_of_ble_eq_true rfl⟩ ⟨Nat.zero_le _, Nat.zero_le _⟩ (fun r3 H2 locs hp2 hT2 hS2 hk2 => ?_)
  have hp2 : r3 = 0 := hp2.2 (by decide)
  subst hp2
  exact hret _ _ _ _ _ hT2 hS2 ⟨by decide, rfl⟩ dX11_lose_14
set_option maxHeartbeats 4000000 in
set_option maxRecDepth 100000 in
theorem c_X11_snap (l : Launch) (G : hG) (Y : hW) (o : Nat) (hM : h_On Y o (modE tF o)) (u1 u2 : Int32) : hMi l yX11_snap cX11_snap 3 (some .boolean) 2 42 G Y [.ref (o), .int u1, .int u2] (fun H => True) (fun H r H1 => r = 0) := by
  refine h_ofz (by decide +kernel) (Nat.le_of_ble_eq_true rfl) ?_
  intro p e s m args below meth c H0 ls Q hx hb hts hown hml hK hT0 hpr hS0 hl hret
  have hl : lv_has ls 3 [(0, .ref (o)), (1, .int u1), (2, .int u2)] := hl
  refine lv_iload_n hx hb dX11_snap_0 rfl (lv_at hl 2 rfl) ?_
  refine lv_iconst (v := 0) hx hb dX11_snap_1 (by decide) ?_
  refine lv_iconst (v := 2) hx hb dX11_snap_2 (by decide) ?_
  refine h_callSi (rest := []) (As := [.int u2, .int 0, .int 2]) hx hb hml hown hts hK hT0 (fun _ h => h) hS0 (c_isFrom l G Y u2 0 2) trivial wd_X11_isFrom wS_X11_isFrom wL_X11_228 rfl hl.1 rfl (Nat.le_of_ble_eq_true rfl) dX11_snap_3 ⟨Nat.le_of_ble_eq_true rfl, Nat.le_of_ble_eq_true rfl⟩ ⟨Nat.zero_le _, Nat.zero_le _⟩ (fun r1 H1 locs hp1 hT1 hS1 hk1 => ?_)
  obtain ⟨hp1, he⟩ := hp1
  have he := he.symm
  subst he
  rcases Classical.em (0 ≤ u2.toInt ∧ u2.toInt ≤ 2) with f2 | f2
  · have hp1 : r1 = 1 := hp1.1 f2
    subst hp1
    refine lv_if_ne (tgt := 15) hx hb dX11_snap_6 (by decide) (fun _ => ?_) (fun h => absurd h (by decide))
    refine lv_aload_n hx hb dX11_snap_15 rfl (lv_at hl 0 rfl) ?_
    refine lv_iload_n hx hb dX11_snap_16 rfl (lv_at hl 1 rfl) ?_
    refine h_callVi (T := TX11) (rest := []) (As := [.int u1]) hx hb hml hown hts hK hT0 (fun _ h => h) hS1 (c_X11_isStation l G Y (o) hM u1) trivial wd_X11_isStation wV_X11_isStation wL_X11_51 (hM.o rfl) rfl rfl hl.1 rfl (Nat.le_of_ble_eq_true rfl) dX11_snap_17 ⟨Nat.le_of_ble_eq_true rfl, Nat.le_of_ble_eq_true rfl⟩ ⟨Nat.zero_le _, Nat.zero_le _⟩ (fun r4 H2 locs hp2 hT2 hS2 hk2 => ?_)
    obtain ⟨hp2, he⟩ := hp2
    have he := he.symm
    subst he
    have hp2 : r4 = 0 := hp2
    subst hp2
    refine lv_if_ne (tgt := 29) hx hb dX11_snap_20 (by decide) (fun h => absurd (by decide) h) (fun _ => ?_)
    refine lv_aload_n hx hb dX11_snap_23 rfl (lv_at hl 0 rfl) ?_
    refine lv_iconst (v := 2) hx hb dX11_snap_24 (by decide) ?_
    refine h_callVi (T := TX11) (rest := []) (As := [.int 2]) hx hb hml hown hts hK hT0 (fun _ h => h) hS2 (c_X11_isSo l G Y (o) hM 2) trivial wd_X11_isSo wV_X11_isSo wL_X11_294 (hM.o rfl) rfl rfl hl.1 rfl (Nat.le_of_ble_eq_true rfl) dX11_snap_25 ⟨Nat.le_of_ble_eq_true rfl, Nat.le_of_ble_eq_true rfl⟩ ⟨Nat.zero_le _, Nat.zero_le _⟩ (fun r6 H3 locs hp3 hT3 hS3 hk3 => ?_)
    have hp3 : r6 = 0 := hp3.2 (by decide)
    subst hp3
    exact hret _ _ _ _ _ hT3 hS3 ⟨by decide, rfl⟩ dX11_snap_28
  · have hp1 : r1 = 0 := hp1.2 f2
    subst hp1
    refine lv_if_ne (tgt := 15) hx hb dX11_snap_6 (by decide) (fun h => absurd (by decide) h) (fun _ => ?_)
    refine lv_aload_n hx hb dX11_snap_9 rfl (lv_at hl 0 rfl) ?_
    refine lv_iconst (v := 1) hx hb dX11_snap_10 (by decide) ?_
    refine h_callVi (T := TX11) (rest := []) (As := [.int 1]) hx hb hml hown hts hK hT0 (fun _ h => h) hS1 (c_X11_isSo l G Y (o) hM 1) trivial wd_X11_isSo wV_X11_isSo wL_X11_294 (hM.o rfl) rfl rfl hl.1 rfl (Nat.le_of_ble_eq_true rfl) dX11_snap_11 ⟨Nat.le_of_ble_eq_true rfl, Nat.le_of_ble_eq_true rfl⟩ ⟨Nat.zero_le _, Nat.zero_le _⟩ (fun r8 H4 locs hp4 hT4 hS4 hk4 => ?_)
    have hp4 : r8 = 0 := hp4.2 (by decide)
    subst hp4
    exact hret _ _ _ _ _ hT4 hS4 ⟨by decide, rfl⟩ dX11_snap_14
set_option maxHeartbeats 4000000 in
set_option maxRecDepth 100000 in
theorem c_X11_mend (l : Launch) (G : hG) (Y : hW) (o : Nat) (hM : h_On Y o (modE tF o)) : hMi l yX11_mend cX11_mend 1 (some .boolean) 1 21 G Y [.ref (o)] (fun H => True) (fun H r H1 => r = 0) := by
  refine h_ofz (by decide +kernel) (Nat.le_of_ble_eq_true rfl) ?_
  intro p e s m args below meth c H0 ls Q hx hb hts hown hml hK hT0 hpr hS0 hl hret
  have hl : lv_has ls 1 [(0, .ref (o))] := hl
  refine lv_aload_n hx hb dX11_mend_0 rfl (lv_at hl 0 rfl) ?_
  refine lv_bipush (v := 16) hx hb dX11_mend_1 (by decide) ?_
  refine h_callVi (T := TX11) (rest := []) (As := [.int 16]) hx hb hml hown hts hK hT0 (fun _ h => h) hS0 (c_of l G Y tF (o) hM 16 16 (by decide) (h_inc (by decide))) trivial wd_X11_of wV_X11_of wL_X11_47 (hM.o rfl) rfl rfl hl.1 rfl (Nat.le_of_ble_eq_true rfl) dX11_mend_3 ⟨Nat.le_of_ble_eq_true rfl, Nat.le_of_ble_eq_true rfl⟩ ⟨Nat.zero_le _, Nat.zero_le _⟩ (fun r1 H1 locs hp1 hT1 hS1 hk1 => ?_)
  obtain ⟨hp1, he⟩ := hp1
  have he := he.symm
  subst he
  have hp1 : r1 = (-1) := hp1.trans ((tF_all (hT0.ai (hM.at 1 rfl) (j := 16) (by decide)).1 (by decide) (by decide) (by decide)).trans (by decide))
  subst hp1
  refine lv_iconst (v := (-1)) hx hb dX11_mend_6 (by decide) ?_
  refine lv_icmp_ne (tgt := 16) hx hb dX11_mend_7 (by decide) (fun h => absurd (by decide) h) (fun _ => ?_)
  refine lv_aload_n hx hb dX11_mend_10 rfl (lv_at hl 0 rfl) ?_
  refine lv_iconst (v := 5) hx hb dX11_mend_11 (by decide) ?_
  refine h_callVi (T := TX11) (rest := []) (As := [.int 5]) hx hb hml hown hts hK hT0 (fun _ h => h) hS1 (c_X11_isSo l G Y (o) hM 5) trivial wd_X11_isSo wV_X11_isSo wL_X11_294 (hM.o rfl) rfl rfl hl.1 rfl (Nat.le_of_ble_eq_true rfl) dX11_mend_12 ⟨Nat.le_of_ble_eq_true rfl, Nat.le_of_ble_eq_true rfl⟩ ⟨Nat.zero_le _, Nat.zero_le _⟩ (fun r3 H2 locs hp2 hT2 hS2 hk2 => ?_)
  have hp2 : r3 = 0 := hp2.2 (by decide)
  subst hp2
  exact hret _ _ _ _ _ hT2 hS2 ⟨by decide, rfl⟩ dX11_mend_15
set_option maxHeartbeats 4000000 in
set_option maxRecDepth 100000 in
theorem c_X11_notice (l : Launch) (G : hG) (Y : hW) (o : Nat) (hM : h_On Y o (modE tF o)) : hMi l yX11_notice cX11_notice 3 (some .int) 3 63 G Y [.ref (o)] (fun H => True) (fun H r H1 => r = (-1)) := by
  refine h_ofi (by decide +kernel) (Nat.le_of_ble_eq_true rfl) ?_
  intro p e s m args below meth c H0 ls Q hx hb hts hown hml hK hT0 hpr hS0 hl hret
  have hl : lv_has ls 3 [(0, .ref (o))] := hl
  refine lv_aload_n hx hb dX11_notice_0 rfl (lv_at hl 0 rfl) ?_
  refine h_callVi (T := TX11) (rest := []) (As := []) hx hb hml hown hts hK hT0 (fun _ h => h) hS0 (c_X11_doesCount l G Y (o) hM) trivial wd_X11_doesCount wV_X11_doesCount wL_X11_58 (hM.o rfl) rfl rfl hl.1 rfl (Nat.le_of_ble_eq_true rfl) dX11_notice_1 ⟨Nat.le_of_ble_eq_true rfl, Nat.le_of_ble_eq_true rfl⟩ ⟨Nat.zero_le _, Nat.zero_le _⟩ (fun r1 H1 locs hp1 hT1 hS1 hk1 => ?_)
  obtain ⟨hp1, he⟩ := hp1
  have he := he.symm
  subst he
  have hp1 : r1 = 0 := hp1
  subst hp1
  refine lv_if_eq (tgt := 13) hx hb dX11_notice_4 (by decide) (fun _ => ?_) (fun h => absurd (by decide) h)
  refine lv_aload_n hx hb dX11_notice_13 rfl (lv_at hl 0 rfl) ?_
  refine lv_aload_n hx hb dX11_notice_14 rfl (lv_at hl 0 rfl) ?_
  refine lv_iconst (v := 1) hx hb dX11_notice_15 (by decide) ?_
  refine h_callVi (T := TX11) (rest := [.ref (o)]) (As := [.int 1]) hx hb hml hown hts hK hT0 (fun _ h => h) hS1 (c_of l G Y tF (o) hM 1 1 (by decide) (h_inc (by decide))) trivial wd_X11_of wV_X11_of wL_X11_47 (hM.o rfl) rfl rfl hl.1 rfl (Nat.le_of_ble_eq_true rfl) dX11_notice_16 ⟨Nat.le_of_ble_eq_true rfl, Nat.le_of_ble_eq_true rfl⟩ ⟨Nat.zero_le _, Nat.zero_le _⟩ (fun r3 H2 locs hp2 hT2 hS2 hk2 => ?_)
  obtain ⟨hp2, he⟩ := hp2
  have he := he.symm
  subst he
  have hp2 : r3 = (-1) := hp2.trans ((tF_all (hT0.ai (hM.at 1 rfl) (j := 1) (by decide)).1 (by decide) (by decide) (by decide)).trans (by decide))
  subst hp2
  refine h_callVi (T := TX11) (rest := []) (As := [.int (-1)]) hx hb hml hown hts hK hT0 (fun _ h => h) hS2 (c_X11_isOn l G Y (o) hM (-1)) trivial wd_X11_isOn wV_X11_isOn wL_X11_55 (hM.o rfl) rfl rfl hl.1 rfl (Nat.le_of_ble_eq_true rfl) dX11_notice_19 ⟨Nat.le_of_ble_eq_true rfl, Nat.le_of_ble_eq_true rfl⟩ ⟨Nat.zero_le _, Nat.zero_le _⟩ (fun r4 H3 locs hp3 hT3 hS3 hk3 => ?_)
  obtain ⟨hp3, he⟩ := hp3
  have he := he.symm
  subst he
  have hp3 : r4 = 0 := hp3
  subst hp3
  refine lv_if_ne (tgt := 31) hx hb dX11_notice_22 (by decide) (fun h => absurd (by decide) h) (fun _ => ?_)
  refine lv_aload_n hx hb dX11_notice_25 rfl (lv_at hl 0 rfl) ?_
  refine lv_iconst (v := 5) hx hb dX11_notice_26 (by decide) ?_
  refine h_callVi (T := TX11) (rest := []) (As := [.int 5]) hx hb hml hown hts hK hT0 (fun _ h => h) hS3 (c_X11_refuse l G Y (o) hM 5) trivial wd_X11_refuse wV_X11_refuse wL_X11_267 (hM.o rfl) rfl rfl hl.1 rfl (Nat.le_of_ble_eq_true rfl) dX11_notice_27 ⟨Nat.le_of_ble_eq_true rfl, Nat.le_of_ble_eq_true rfl⟩ ⟨Nat.zero_le _, Nat.zero_le _⟩ (fun r6 H4 locs hp4 hT4 hS4 hk4 => ?_)
  have hp4 : r6 = (-1) := hp4
  subst hp4
  exact hret _ _ _ _ _ hT4 hS4 rfl dX11_notice_30
set_option maxHeartbeats 4000000 in
set_option maxRecDepth 100000 in
theorem c_X11_stale (l : Launch) (G : hG) (Y : hW) (o : Nat) (hM : h_On Y o (modE tF o)) : hMi l yX11_stale cX11_stale 3 (some .int) 1 21 G Y [.ref (o)] (fun H => True) (fun H r H1 => r = 0) := by
  refine h_ofi (by decide +kernel) (Nat.le_of_ble_eq_true rfl) ?_
  intro p e s m args below meth c H0 ls Q hx hb hts hown hml hK hT0 hpr hS0 hl hret
  have hl : lv_has ls 3 [(0, .ref (o))] := hl
  refine lv_iconst (v := 0) hx hb dX11_stale_0 (by decide) ?_
  refine lv_istore_n (lv' := [(1, .int 0), (0, .ref (o))]) hx hb dX11_stale_1 rfl hl (by decide) rfl (fun ls hl => ?_)
  refine lv_iconst (v := 0) hx hb dX11_stale_2 (by decide) ?_
  refine lv_istore_n (lv' := [(2, .int 0), (1, .int 0), (0, .ref (o))]) hx hb dX11_stale_3 rfl hl (by decide) rfl (fun ls hl => ?_)
  refine lv_iload_n hx hb dX11_stale_4 rfl (lv_at hl 0 rfl) ?_
  refine lv_aload_n hx hb dX11_stale_5 rfl (lv_at hl 2 rfl) ?_
  refine lv_iconst (v := 0) hx hb dX11_stale_6 (by decide) ?_
  refine h_callVi (T := TX11) (rest := [.int 0]) (As := [.int 0]) hx hb hml hown hts hK hT0 (fun _ h => h) hS0 (c_of l G Y tF (o) hM 0 0 (by decide) (h_inc (by decide))) trivial wd_X11_of wV_X11_of wL_X11_47 (hM.o rfl) rfl rfl hl.1 rfl (Nat.le_of_ble_eq_true rfl) dX11_stale_7 ⟨Nat.le_of_ble_eq_true rfl, Nat.le_of_ble_eq_true rfl⟩ ⟨Nat.zero_le _, Nat.zero_le _⟩ (fun r1 H1 locs hp1 hT1 hS1 hk1 => ?_)
  obtain ⟨hp1, he⟩ := hp1
  have he := he.symm
  subst he
  have hp1 : r1 = 0 := hp1.trans ((tF_all (hT0.ai (hM.at 1 rfl) (j := 0) (by decide)).1 (by decide) (by decide) (by decide)).trans (by decide))
  subst hp1
  refine lv_icmp_ge (tgt := 54) hx hb dX11_stale_10 (by decide) (fun _ => ?_) (fun h => absurd (by decide) h)
  refine lv_aload_n hx hb dX11_stale_54 rfl (lv_at hl 2 rfl) ?_
  refine lv_iload_n hx hb dX11_stale_55 rfl (lv_at hl 1 rfl) ?_
  refine h_callVi (T := TX11) (rest := []) (As := [.int 0]) hx hb hml hown hts hK hT0 (fun _ h => h) hS1 (c_X11_gives l G Y (o) hM 0) trivial wd_X11_gives wV_X11_gives wL_X11_276 (hM.o rfl) rfl rfl hl.1 rfl (Nat.le_of_ble_eq_true rfl) dX11_stale_56 ⟨Nat.le_of_ble_eq_true rfl, Nat.le_of_ble_eq_true rfl⟩ ⟨Nat.zero_le _, Nat.zero_le _⟩ (fun r3 H2 locs hp2 hT2 hS2 hk2 => ?_)
  have hp2 : r3 = 0 := hp2
  subst hp2
  exact hret _ _ _ _ _ hT2 hS2 rfl dX11_stale_59
set_option maxHeartbeats 4000000 in
set_option maxRecDepth 100000 in
theorem c_X11_status (l : Launch) (G : hG) (Y : hW) (o : Nat) (hM : h_On Y o (modE tF o)) : hMi l yX11_status cX11_status 1 (some .int) 0 0 G Y [.ref (o)] (fun H => h_gi G H 11 o 1 = 0) (fun H r H1 => r = 0) := by
  refine h_ofi (by decide +kernel) (Nat.le_of_ble_eq_true rfl) ?_
  intro p e s m args below meth c H0 ls Q hx hb hts hown hml hK hT0 hpr hS0 hl hret
  have hl : lv_has ls 1 [(0, .ref (o))] := hl
  refine lv_aload_n hx hb dX11_status_0 rfl (lv_at hl 0 rfl) ?_
  refine h_geti (C := RX11) (T := TX11) (N := 23) hx hb hts inX11 hown hK hT0 (hM.o rfl) rfl 1 rfl wF_X11_40 rfl dX11_status_1 (fun p1 => ?_)
  refine h_top (v := 0) hpr ?_
  exact hret _ _ _ _ _ hT0 hS0 rfl dX11_status_4
set_option maxHeartbeats 4000000 in
set_option maxRecDepth 100000 in
theorem c_X11_back (l : Launch) (G : hG) (Y : hW) (o : Nat) (hM : h_On Y o (modE tF o)) : hMi l yX11_back cX11_back 1 (some .int) 1 21 G Y [.ref (o)] (fun H => h_gi G H 11 o 2 = 0) (fun H r H1 => r = (-1)) := by
  refine h_ofi (by decide +kernel) (Nat.le_of_ble_eq_true rfl) ?_
  intro p e s m args below meth c H0 ls Q hx hb hts hown hml hK hT0 hpr hS0 hl hret
  have hl : lv_has ls 1 [(0, .ref (o))] := hl
  refine lv_aload_n hx hb dX11_back_0 rfl (lv_at hl 0 rfl) ?_
  refine h_geti (C := RX11) (T := TX11) (N := 23) hx hb hts inX11 hown hK hT0 (hM.o rfl) rfl 2 rfl wF_X11_285 rfl dX11_back_1 (fun p1 => ?_)
  refine h_top (v := 0) hpr ?_
  refine lv_if_ne (tgt := 13) hx hb dX11_back_4 (by decide) (fun h => absurd (by decide) h) (fun _ => ?_)
  refine lv_aload_n hx hb dX11_back_7 rfl (lv_at hl 0 rfl) ?_
  refine lv_iconst (v := 5) hx hb dX11_back_8 (by decide) ?_
  refine h_callVi (T := TX11) (rest := []) (As := [.int 5]) hx hb hml hown hts hK hT0 (fun _ h => h) hS0 (c_X11_refuse l G Y (o) hM 5) trivial wd_X11_refuse wV_X11_refuse wL_X11_267 (hM.o rfl) rfl rfl hl.1 rfl (Nat.le_of_ble_eq_true rfl) dX11_back_9 ⟨Nat.le_of_ble_eq_true rfl, Nat.le_of_ble_eq_true rfl⟩ ⟨Nat.zero_le _, Nat.zero_le _⟩ (fun r3 H1 locs hp1 hT1 hS1 hk1 => ?_)
  have hp1 : r3 = (-1) := hp1
  subst hp1
  exact hret _ _ _ _ _ hT1 hS1 rfl dX11_back_12
set_option maxHeartbeats 4000000 in
set_option maxRecDepth 100000 in
theorem c_X11_fault (l : Launch) (G : hG) (Y : hW) (o : Nat) (hM : h_On Y o (modE tF o)) (u1 : Int32) : hMi l yX11_fault cX11_fault 2 (some .int) 0 0 G Y [.ref (o), .int u1] (fun H => h_gi G H 11 o 18 = -1 ∧ h_gi G H 11 o 17 = -1) (fun H r H1 => r = (-1)) := by
  refine h_ofi (by decide +kernel) (Nat.le_of_ble_eq_true rfl) ?_
  intro p e s m args below meth c H0 ls Q hx hb hts hown hml hK hT0 hpr hS0 hl hret
  have hl : lv_has ls 2 [(0, .ref (o)), (1, .int u1)] := hl
  refine lv_iload_n hx hb dX11_fault_0 rfl (lv_at hl 1 rfl) ?_
  refine lv_if_ne (tgt := 11) hx hb dX11_fault_1 (by decide) (fun c1 => ?_) (fun c1 => ?_)
  · skip
    refine lv_iload_n hx hb dX11_fault_11 rfl (lv_at hl 1 rfl) ?_
    refine lv_iconst (v := 1) hx hb dX11_fault_12 (by decide) ?_
    refine lv_icmp_ne (tgt := 23) hx hb dX11_fault_13 (by decide) (fun c2 => ?_) (fun c2 => ?_)
    · skip
      refine lv_iconst (v := (-1)) hx hb dX11_fault_23 (by decide) ?_
      exact hret _ _ _ _ _ hT0 hS0 rfl dX11_fault_24
    · skip
      refine lv_aload_n hx hb dX11_fault_16 rfl (lv_at hl 0 rfl) ?_
      refine h_geti (C := RX11) (T := TX11) (N := 23) hx hb hts inX11 hown hK hT0 (hM.o rfl) rfl 17 rfl wF_X11_24 rfl dX11_fault_17 (fun p3 => ?_)
      refine h_top (v := (-1)) hpr.2 ?_
      refine lv_goto (tgt := 24) hx hb dX11_fault_20 (by decide) ?_
      exact hret _ _ _ _ _ hT0 hS0 rfl dX11_fault_24
  · skip
    refine lv_aload_n hx hb dX11_fault_4 rfl (lv_at hl 0 rfl) ?_
    refine h_geti (C := RX11) (T := TX11) (N := 23) hx hb hts inX11 hown hK hT0 (hM.o rfl) rfl 18 rfl wF_X11_28 rfl dX11_fault_5 (fun p4 => ?_)
    refine h_top (v := (-1)) hpr.1 ?_
    refine lv_goto (tgt := 24) hx hb dX11_fault_8 (by decide) ?_
    exact hret _ _ _ _ _ hT0 hS0 rfl dX11_fault_24
set_option maxHeartbeats 4000000 in
set_option maxRecDepth 100000 in
theorem c_X11_many (l : Launch) (G : hG) (Y : hW) (o : Nat) (hM : h_On Y o (modE tF o)) (u1 : Int32) : hMi l yX11_many cX11_many 2 (some .int) 2 43 G Y [.ref (o), .int u1] (fun H => h_gi G H 11 o 2 = 0 ∧ h_ai H (o + 1) 3 = 0 ∧ h_ai H (o + 1) 4 = 0) (fun H r H1 => (((0 ≤ u1.toInt ∧ u1.toInt ≤ 8) ∧ u1.toInt ≠ 2) → r = 0) ∧ (¬ ((0 ≤ u1.toInt ∧ u1.toInt ≤ 8) ∧ u1.toInt ≠ 2) → r = -1)) := by
  refine h_ofi (by decide +kernel) (Nat.le_of_ble_eq_true rfl) ?_
  intro p e s m args below meth c H0 ls Q hx hb hts hown hml hK hT0 hpr hS0 hl hret
  have hl : lv_has ls 2 [(0, .ref (o)), (1, .int u1)] := hl
  refine lv_iload_n hx hb dX11_many_0 rfl (lv_at hl 1 rfl) ?_
  rcases h_sw11 u1 with c1 | c1 | c1 | c1 | c1 | c1 | c1 | c1 | c1 | c1 | c1 | c1
  · skip
    refine lv_tableOut (tgt := 202) hx hb dX11_many_1 c1 (by decide) ?_
    refine lv_aload_n hx hb dX11_many_202 rfl (lv_at hl 0 rfl) ?_
    refine lv_iconst (v := 1) hx hb dX11_many_203 (by decide) ?_
    refine h_callVi (T := TX11) (rest := []) (As := [.int 1]) hx hb hml hown hts hK hT0 (fun _ h => h) hS0 (c_X11_refuse l G Y (o) hM 1) trivial wd_X11_refuse wV_X11_refuse wL_X11_267 (hM.o rfl) rfl rfl hl.1 rfl (Nat.le_of_ble_eq_true rfl) dX11_many_204 ⟨Nat.le_of_ble_eq_true rfl, Nat.le_of_ble_eq_true rfl⟩ ⟨Nat.zero_le _, Nat.zero_le _⟩ (fun r2 H1 locs hp1 hT1 hS1 hk1 => ?_)
    have hp1 : r2 = (-1) := hp1
    subst hp1
    exact hret _ _ _ _ _ hT1 hS1 (by refine ⟨fun h => ?_, fun h => ?_⟩ <;> first | rfl | exact absurd h (by decide) | (exfalso; omega)) dX11_many_207
  · subst c1
    refine lv_tableIn (tgt := 60) hx hb dX11_many_1 (by decide) (by decide) rfl (by decide) ?_
    refine lv_aload_n hx hb dX11_many_60 rfl (lv_at hl 0 rfl) ?_
    refine lv_aload_n hx hb dX11_many_61 rfl (lv_at hl 0 rfl) ?_
    refine lv_iconst (v := 0) hx hb dX11_many_62 (by decide) ?_
    refine h_callVi (T := TX11) (rest := [.ref (o)]) (As := [.int 0]) hx hb hml hown hts hK hT0 (fun _ h => h) hS0 (c_of l G Y tF (o) hM 0 0 (by decide) (h_inc (by decide))) trivial wd_X11_of wV_X11_of wL_X11_47 (hM.o rfl) rfl rfl hl.1 rfl (Nat.le_of_ble_eq_true rfl) dX11_many_63 ⟨Nat.le_of_ble_eq_true rfl, Nat.le_of_ble_eq_true rfl⟩ ⟨Nat.zero_le _, Nat.zero_le _⟩ (fun r3 H2 locs hp2 hT2 hS2 hk2 => ?_)
    obtain ⟨hp2, he⟩ := hp2
    have he := he.symm
    subst he
    have hp2 : r3 = 0 := hp2.trans ((tF_all (hT0.ai (hM.at 1 rfl) (j := 0) (by decide)).1 (by decide) (by decide) (by decide)).trans (by decide))
    subst hp2
    refine h_callVi (T := TX11) (rest := []) (As := [.int 0]) hx hb hml hown hts hK hT0 (fun _ h => h) hS2 (c_X11_gives l G Y (o) hM 0) trivial wd_X11_gives wV_X11_gives wL_X11_276 (hM.o rfl) rfl rfl hl.1 rfl (Nat.le_of_ble_eq_true rfl) dX11_many_66 ⟨Nat.le_of_ble_eq_true rfl, Nat.le_of_ble_eq_true rfl⟩ ⟨Nat.zero_le _, Nat.zero_le _⟩ (fun r4 H3 locs hp3 hT3 hS3 hk3 => ?_)
    have hp3 : r4 = 0 := hp3
    subst hp3
    exact hret _ _ _ _ _ hT3 hS3 (by refine ⟨fun h => ?_, fun h => ?_⟩ <;> first | rfl | exact absurd h (by decide) | (exfalso; omega)) dX11_many_69
  · subst c1
    refine lv_tableIn (tgt := 70) hx hb dX11_many_1 (by decide) (by decide) rfl (by decide) ?_
    refine lv_aload_n hx hb dX11_many_70 rfl (lv_at hl 0 rfl) ?_
    refine lv_aload_n hx hb dX11_many_71 rfl (lv_at hl 0 rfl) ?_
    refine h_callVi (T := TX11) (rest := [.ref (o)]) (As := []) hx hb hml hown hts hK hT0 (fun _ h => h) hS0 (c_X11_onBits l G Y (o) hM) trivial wd_X11_onBits wV_X11_onBits wL_X11_279 (hM.o rfl) rfl rfl hl.1 rfl (Nat.le_of_ble_eq_true rfl) dX11_many_72 ⟨Nat.le_of_ble_eq_true rfl, Nat.le_of_ble_eq_true rfl⟩ ⟨Nat.zero_le _, Nat.zero_le _⟩ (fun r5 H4 locs hp4 hT4 hS4 hk4 => ?_)
    obtain ⟨hp4, he⟩ := hp4
    have he := he.symm
    subst he
    have hp4 : r5 = 0 := hp4
    subst hp4
    refine h_callVi (T := TX11) (rest := []) (As := [.int 0]) hx hb hml hown hts hK hT0 (fun _ h => h) hS4 (c_X11_gives l G Y (o) hM 0) trivial wd_X11_gives wV_X11_gives wL_X11_276 (hM.o rfl) rfl rfl hl.1 rfl (Nat.le_of_ble_eq_true rfl) dX11_many_75 ⟨Nat.le_of_ble_eq_true rfl, Nat.le_of_ble_eq_true rfl⟩ ⟨Nat.zero_le _, Nat.zero_le _⟩ (fun r6 H5 locs hp5 hT5 hS5 hk5 => ?_)
    have hp5 : r6 = 0 := hp5
    subst hp5
    exact hret _ _ _ _ _ hT5 hS5 (by refine ⟨fun h => ?_, fun h => ?_⟩ <;> first | rfl | exact absurd h (by decide) | (exfalso; omega)) dX11_many_78
  · subst c1
    refine lv_tableIn (tgt := 79) hx hb dX11_many_1 (by decide) (by decide) rfl (by decide) ?_
    refine lv_aload_n hx hb dX11_many_79 rfl (lv_at hl 0 rfl) ?_
    refine lv_aload_n hx hb dX11_many_80 rfl (lv_at hl 0 rfl) ?_
    refine lv_iconst (v := 1) hx hb dX11_many_81 (by decide) ?_
    refine h_callVi (T := TX11) (rest := [.ref (o)]) (As := [.int 1]) hx hb hml hown hts hK hT0 (fun _ h => h) hS0 (c_of l G Y tF (o) hM 1 1 (by decide) (h_inc (by decide))) trivial wd_X11_of wV_X11_of wL_X11_47 (hM.o rfl) rfl rfl hl.1 rfl (Nat.le_of_ble_eq_true rfl) dX11_many_82 ⟨Nat.le_of_ble_eq_true rfl, Nat.le_of_ble_eq_true rfl⟩ ⟨Nat.zero_le _, Nat.zero_le _⟩ (fun r7 H6 locs hp6 hT6 hS6 hk6 => ?_)
    obtain ⟨hp6, he⟩ := hp6
    have he := he.symm
    subst he
    have hp6 : r7 = (-1) := hp6.trans ((tF_all (hT0.ai (hM.at 1 rfl) (j := 1) (by decide)).1 (by decide) (by decide) (by decide)).trans (by decide))
    subst hp6
    refine h_callVi (T := TX11) (rest := []) (As := [.int (-1)]) hx hb hml hown hts hK hT0 (fun _ h => h) hS6 (c_X11_gives l G Y (o) hM (-1)) trivial wd_X11_gives wV_X11_gives wL_X11_276 (hM.o rfl) rfl rfl hl.1 rfl (Nat.le_of_ble_eq_true rfl) dX11_many_85 ⟨Nat.le_of_ble_eq_true rfl, Nat.le_of_ble_eq_true rfl⟩ ⟨Nat.zero_le _, Nat.zero_le _⟩ (fun r8 H7 locs hp7 hT7 hS7 hk7 => ?_)
    have hp7 : r8 = (-1) := hp7
    subst hp7
    exact hret _ _ _ _ _ hT7 hS7 (by refine ⟨fun h => ?_, fun h => ?_⟩ <;> first | rfl | exact absurd h (by decide) | (exfalso; omega)) dX11_many_88
  · subst c1
    refine lv_tableIn (tgt := 89) hx hb dX11_many_1 (by decide) (by decide) rfl (by decide) ?_
    refine lv_aload_n hx hb dX11_many_89 rfl (lv_at hl 0 rfl) ?_
    refine lv_aload_n hx hb dX11_many_90 rfl (lv_at hl 0 rfl) ?_
    refine h_callVi (T := TX11) (rest := [.ref (o)]) (As := []) hx hb hml hown hts hK hT0 (fun _ h => h) hS0 (c_X11_waitAll l G Y (o) hM) trivial wd_X11_waitAll wV_X11_waitAll wL_X11_282 (hM.o rfl) rfl rfl hl.1 rfl (Nat.le_of_ble_eq_true rfl) dX11_many_91 ⟨Nat.le_of_ble_eq_true rfl, Nat.le_of_ble_eq_true rfl⟩ ⟨Nat.zero_le _, Nat.zero_le _⟩ (fun r9 H8 locs hp8 hT8 hS8 hk8 => ?_)
    obtain ⟨hp8, he⟩ := hp8
    have he := he.symm
    subst he
    have hp8 : r9 = 0 := hp8
    subst hp8
    refine h_callVi (T := TX11) (rest := []) (As := [.int 0]) hx hb hml hown hts hK hT0 (fun _ h => h) hS8 (c_X11_gives l G Y (o) hM 0) trivial wd_X11_gives wV_X11_gives wL_X11_276 (hM.o rfl) rfl rfl hl.1 rfl (Nat.le_of_ble_eq_true rfl) dX11_many_94 ⟨Nat.le_of_ble_eq_true rfl, Nat.le_of_ble_eq_true rfl⟩ ⟨Nat.zero_le _, Nat.zero_le _⟩ (fun r10 H9 locs hp9 hT9 hS9 hk9 => ?_)
    have hp9 : r10 = 0 := hp9
    subst hp9
    exact hret _ _ _ _ _ hT9 hS9 (by refine ⟨fun h => ?_, fun h => ?_⟩ <;> first | rfl | exact absurd h (by decide) | (exfalso; omega)) dX11_many_97
  · subst c1
    refine lv_tableIn (tgt := 98) hx hb dX11_many_1 (by decide) (by decide) rfl (by decide) ?_
    refine lv_aload_n hx hb dX11_many_98 rfl (lv_at hl 0 rfl) ?_
    refine lv_aload_n hx hb dX11_many_99 rfl (lv_at hl 0 rfl) ?_
    refine lv_iconst (v := 2) hx hb dX11_many_100 (by decide) ?_
    refine h_callVi (T := TX11) (rest := [.ref (o)]) (As := [.int 2]) hx hb hml hown hts hK hT0 (fun _ h => h) hS0 (c_of l G Y tF (o) hM 2 2 (by decide) (h_inc (by decide))) trivial wd_X11_of wV_X11_of wL_X11_47 (hM.o rfl) rfl rfl hl.1 rfl (Nat.le_of_ble_eq_true rfl) dX11_many_101 ⟨Nat.le_of_ble_eq_true rfl, Nat.le_of_ble_eq_true rfl⟩ ⟨Nat.zero_le _, Nat.zero_le _⟩ (fun r11 H10 locs hp10 hT10 hS10 hk10 => ?_)
    obtain ⟨hp10, he⟩ := hp10
    have he := he.symm
    subst he
    have hp10 : r11 = 0 := hp10.trans ((tF_all (hT0.ai (hM.at 1 rfl) (j := 2) (by decide)).1 (by decide) (by decide) (by decide)).trans (by decide))
    subst hp10
    refine h_callVi (T := TX11) (rest := []) (As := [.int 0]) hx hb hml hown hts hK hT0 (fun _ h => h) hS10 (c_X11_gives l G Y (o) hM 0) trivial wd_X11_gives wV_X11_gives wL_X11_276 (hM.o rfl) rfl rfl hl.1 rfl (Nat.le_of_ble_eq_true rfl) dX11_many_104 ⟨Nat.le_of_ble_eq_true rfl, Nat.le_of_ble_eq_true rfl⟩ ⟨Nat.zero_le _, Nat.zero_le _⟩ (fun r12 H11 locs hp11 hT11 hS11 hk11 => ?_)
    have hp11 : r12 = 0 := hp11
    subst hp11
    exact hret _ _ _ _ _ hT11 hS11 (by refine ⟨fun h => ?_, fun h => ?_⟩ <;> first | rfl | exact absurd h (by decide) | (exfalso; omega)) dX11_many_107
  · subst c1
    refine lv_tableIn (tgt := 108) hx hb dX11_many_1 (by decide) (by decide) rfl (by decide) ?_
    refine lv_aload_n hx hb dX11_many_108 rfl (lv_at hl 0 rfl) ?_
    refine lv_aload_n hx hb dX11_many_109 rfl (lv_at hl 0 rfl) ?_
    refine lv_iconst (v := 3) hx hb dX11_many_110 (by decide) ?_
    refine h_callVi (T := TX11) (rest := [.ref (o)]) (As := [.int 3]) hx hb hml hown hts hK hT0 (fun _ h => h) hS0 (c_of l G Y tF (o) hM 3 3 (by decide) (h_inc (by decide))) trivial wd_X11_of wV_X11_of wL_X11_47 (hM.o rfl) rfl rfl hl.1 rfl (Nat.le_of_ble_eq_true rfl) dX11_many_111 ⟨Nat.le_of_ble_eq_true rfl, Nat.le_of_ble_eq_true rfl⟩ ⟨Nat.zero_le _, Nat.zero_le _⟩ (fun r13 H12 locs hp12 hT12 hS12 hk12 => ?_)
    obtain ⟨hp12, he⟩ := hp12
    have he := he.symm
    subst he
    have hp12 : r13 = 0 := hp12.trans hpr.2.1
    subst hp12
    refine h_callVi (T := TX11) (rest := []) (As := [.int 0]) hx hb hml hown hts hK hT0 (fun _ h => h) hS12 (c_X11_gives l G Y (o) hM 0) trivial wd_X11_gives wV_X11_gives wL_X11_276 (hM.o rfl) rfl rfl hl.1 rfl (Nat.le_of_ble_eq_true rfl) dX11_many_114 ⟨Nat.le_of_ble_eq_true rfl, Nat.le_of_ble_eq_true rfl⟩ ⟨Nat.zero_le _, Nat.zero_le _⟩ (fun r14 H13 locs hp13 hT13 hS13 hk13 => ?_)
    have hp13 : r14 = 0 := hp13
    subst hp13
    exact hret _ _ _ _ _ hT13 hS13 (by refine ⟨fun h => ?_, fun h => ?_⟩ <;> first | rfl | exact absurd h (by decide) | (exfalso; omega)) dX11_many_117
  · subst c1
    refine lv_tableIn (tgt := 118) hx hb dX11_many_1 (by decide) (by decide) rfl (by decide) ?_
    refine lv_aload_n hx hb dX11_many_118 rfl (lv_at hl 0 rfl) ?_
    refine lv_aload_n hx hb dX11_many_119 rfl (lv_at hl 0 rfl) ?_
    refine lv_iconst (v := 5) hx hb dX11_many_120 (by decide) ?_
    refine h_callVi (T := TX11) (rest := [.ref (o)]) (As := [.int 5]) hx hb hml hown hts hK hT0 (fun _ h => h) hS0 (c_of l G Y tF (o) hM 5 5 (by decide) (h_inc (by decide))) trivial wd_X11_of wV_X11_of wL_X11_47 (hM.o rfl) rfl rfl hl.1 rfl (Nat.le_of_ble_eq_true rfl) dX11_many_121 ⟨Nat.le_of_ble_eq_true rfl, Nat.le_of_ble_eq_true rfl⟩ ⟨Nat.zero_le _, Nat.zero_le _⟩ (fun r15 H14 locs hp14 hT14 hS14 hk14 => ?_)
    obtain ⟨hp14, he⟩ := hp14
    have he := he.symm
    subst he
    have hp14 : r15 = 0 := hp14.trans ((tF_all (hT0.ai (hM.at 1 rfl) (j := 5) (by decide)).1 (by decide) (by decide) (by decide)).trans (by decide))
    subst hp14
    refine lv_if_ne (tgt := 135) hx hb dX11_many_124 (by decide) (fun h => absurd (by decide) h) (fun _ => ?_)
    refine lv_aload_n hx hb dX11_many_127 rfl (lv_at hl 0 rfl) ?_
    refine lv_iconst (v := 4) hx hb dX11_many_128 (by decide) ?_
    refine h_callVi (T := TX11) (rest := [.ref (o)]) (As := [.int 4]) hx hb hml hown hts hK hT0 (fun _ h => h) hS14 (c_of l G Y tF (o) hM 4 4 (by decide) (h_inc (by decide))) trivial wd_X11_of wV_X11_of wL_X11_47 (hM.o rfl) rfl rfl hl.1 rfl (Nat.le_of_ble_eq_true rfl) dX11_many_129 ⟨Nat.le_of_ble_eq_true rfl, Nat.le_of_ble_eq_true rfl⟩ ⟨Nat.zero_le _, Nat.zero_le _⟩ (fun r17 H15 locs hp15 hT15 hS15 hk15 => ?_)
    obtain ⟨hp15, he⟩ := hp15
    have he := he.symm
    subst he
    have hp15 : r17 = 0 := hp15.trans hpr.2.2
    subst hp15
    refine lv_goto (tgt := 136) hx hb dX11_many_132 (by decide) ?_
    refine h_callVi (T := TX11) (rest := []) (As := [.int 0]) hx hb hml hown hts hK hT0 (fun _ h => h) hS15 (c_X11_gives l G Y (o) hM 0) trivial wd_X11_gives wV_X11_gives wL_X11_276 (hM.o rfl) rfl rfl hl.1 rfl (Nat.le_of_ble_eq_true rfl) dX11_many_136 ⟨Nat.le_of_ble_eq_true rfl, Nat.le_of_ble_eq_true rfl⟩ ⟨Nat.zero_le _, Nat.zero_le _⟩ (fun r18 H16 locs hp16 hT16 hS16 hk16 => ?_)
    have hp16 : r18 = 0 := hp16
    subst hp16
    exact hret _ _ _ _ _ hT16 hS16 (by refine ⟨fun h => ?_, fun h => ?_⟩ <;> first | rfl | exact absurd h (by decide) | (exfalso; omega)) dX11_many_139
  · subst c1
    refine lv_tableIn (tgt := 140) hx hb dX11_many_1 (by decide) (by decide) rfl (by decide) ?_
    refine lv_aload_n hx hb dX11_many_140 rfl (lv_at hl 0 rfl) ?_
    refine lv_aload_n hx hb dX11_many_141 rfl (lv_at hl 0 rfl) ?_
    refine h_geti (C := RX11) (T := TX11) (N := 23) hx hb hts inX11 hown hK hT0 (hM.o rfl) rfl 2 rfl wF_X11_285 rfl dX11_many_142 (fun p19 => ?_)
    refine h_top (v := 0) hpr.1 ?_
    refine h_callVi (T := TX11) (rest := []) (As := [.int 0]) hx hb hml hown hts hK hT0 (fun _ h => h) hS0 (c_X11_gives l G Y (o) hM 0) trivial wd_X11_gives wV_X11_gives wL_X11_276 (hM.o rfl) rfl rfl hl.1 rfl (Nat.le_of_ble_eq_true rfl) dX11_many_145 ⟨Nat.le_of_ble_eq_true rfl, Nat.le_of_ble_eq_true rfl⟩ ⟨Nat.zero_le _, Nat.zero_le _⟩ (fun r20 H17 locs hp17 hT17 hS17 hk17 => ?_)
    have hp17 : r20 = 0 := hp17
    subst hp17
    exact hret _ _ _ _ _ hT17 hS17 (by refine ⟨fun h => ?_, fun h => ?_⟩ <;> first | rfl | exact absurd h (by decide) | (exfalso; omega)) dX11_many_148
  · subst c1
    refine lv_tableIn (tgt := 149) hx hb dX11_many_1 (by decide) (by decide) rfl (by decide) ?_
    refine lv_aload_n hx hb dX11_many_149 rfl (lv_at hl 0 rfl) ?_
    refine lv_aload_n hx hb dX11_many_150 rfl (lv_at hl 0 rfl) ?_
    refine h_callVi (T := TX11) (rest := [.ref (o)]) (As := []) hx hb hml hown hts hK hT0 (fun _ h => h) hS0 (c_X11_doesCount l G Y (o) hM) trivial wd_X11_doesCount wV_X11_doesCount wL_X11_58 (hM.o rfl) rfl rfl hl.1 rfl (Nat.le_of_ble_eq_true rfl) dX11_many_151 ⟨Nat.le_of_ble_eq_true rfl, Nat.le_of_ble_eq_true rfl⟩ ⟨Nat.zero_le _, Nat.zero_le _⟩ (fun r21 H18 locs hp18 hT18 hS18 hk18 => ?_)
    obtain ⟨hp18, he⟩ := hp18
    have he := he.symm
    subst he
    have hp18 : r21 = 0 := hp18
    subst hp18
    refine lv_if_eq (tgt := 161) hx hb dX11_many_154 (by decide) (fun _ => ?_) (fun h => absurd (by decide) h)
    refine lv_iconst (v := 0) hx hb dX11_many_161 (by decide) ?_
    refine h_callVi (T := TX11) (rest := []) (As := [.int 0]) hx hb hml hown hts hK hT0 (fun _ h => h) hS18 (c_X11_gives l G Y (o) hM 0) trivial wd_X11_gives wV_X11_gives wL_X11_276 (hM.o rfl) rfl rfl hl.1 rfl (Nat.le_of_ble_eq_true rfl) dX11_many_162 ⟨Nat.le_of_ble_eq_true rfl, Nat.le_of_ble_eq_true rfl⟩ ⟨Nat.zero_le _, Nat.zero_le _⟩ (fun r23 H19 locs hp19 hT19 hS19 hk19 => ?_)
    have hp19 : r23 = 0 := hp19
    subst hp19
    exact hret _ _ _ _ _ hT19 hS19 (by refine ⟨fun h => ?_, fun h => ?_⟩ <;> first | rfl | exact absurd h (by decide) | (exfalso; omega)) dX11_many_165
  · subst c1
    refine lv_tableIn (tgt := 166) hx hb dX11_many_1 (by decide) (by decide) rfl (by decide) ?_
    refine lv_aload_n hx hb dX11_many_166 rfl (lv_at hl 0 rfl) ?_
    refine lv_aload_n hx hb dX11_many_167 rfl (lv_at hl 0 rfl) ?_
    refine lv_bipush (v := 16) hx hb dX11_many_168 (by decide) ?_
    refine h_callVi (T := TX11) (rest := [.ref (o)]) (As := [.int 16]) hx hb hml hown hts hK hT0 (fun _ h => h) hS0 (c_of l G Y tF (o) hM 16 16 (by decide) (h_inc (by decide))) trivial wd_X11_of wV_X11_of wL_X11_47 (hM.o rfl) rfl rfl hl.1 rfl (Nat.le_of_ble_eq_true rfl) dX11_many_170 ⟨Nat.le_of_ble_eq_true rfl, Nat.le_of_ble_eq_true rfl⟩ ⟨Nat.zero_le _, Nat.zero_le _⟩ (fun r24 H20 locs hp20 hT20 hS20 hk20 => ?_)
    obtain ⟨hp20, he⟩ := hp20
    have he := he.symm
    subst he
    have hp20 : r24 = (-1) := hp20.trans ((tF_all (hT0.ai (hM.at 1 rfl) (j := 16) (by decide)).1 (by decide) (by decide) (by decide)).trans (by decide))
    subst hp20
    refine h_callVi (T := TX11) (rest := []) (As := [.int (-1)]) hx hb hml hown hts hK hT0 (fun _ h => h) hS20 (c_X11_gives l G Y (o) hM (-1)) trivial wd_X11_gives wV_X11_gives wL_X11_276 (hM.o rfl) rfl rfl hl.1 rfl (Nat.le_of_ble_eq_true rfl) dX11_many_173 ⟨Nat.le_of_ble_eq_true rfl, Nat.le_of_ble_eq_true rfl⟩ ⟨Nat.zero_le _, Nat.zero_le _⟩ (fun r25 H21 locs hp21 hT21 hS21 hk21 => ?_)
    have hp21 : r25 = (-1) := hp21
    subst hp21
    exact hret _ _ _ _ _ hT21 hS21 (by refine ⟨fun h => ?_, fun h => ?_⟩ <;> first | rfl | exact absurd h (by decide) | (exfalso; omega)) dX11_many_176
  · subst c1
    refine lv_tableIn (tgt := 177) hx hb dX11_many_1 (by decide) (by decide) rfl (by decide) ?_
    refine lv_aload_n hx hb dX11_many_177 rfl (lv_at hl 0 rfl) ?_
    refine lv_aload_n hx hb dX11_many_178 rfl (lv_at hl 0 rfl) ?_
    refine lv_bipush (v := 16) hx hb dX11_many_179 (by decide) ?_
    refine h_callVi (T := TX11) (rest := [.ref (o)]) (As := [.int 16]) hx hb hml hown hts hK hT0 (fun _ h => h) hS0 (c_of l G Y tF (o) hM 16 16 (by decide) (h_inc (by decide))) trivial wd_X11_of wV_X11_of wL_X11_47 (hM.o rfl) rfl rfl hl.1 rfl (Nat.le_of_ble_eq_true rfl) dX11_many_181 ⟨Nat.le_of_ble_eq_true rfl, Nat.le_of_ble_eq_true rfl⟩ ⟨Nat.zero_le _, Nat.zero_le _⟩ (fun r26 H22 locs hp22 hT22 hS22 hk22 => ?_)
    obtain ⟨hp22, he⟩ := hp22
    have he := he.symm
    subst he
    have hp22 : r26 = (-1) := hp22.trans ((tF_all (hT0.ai (hM.at 1 rfl) (j := 16) (by decide)).1 (by decide) (by decide) (by decide)).trans (by decide))
    subst hp22
    refine lv_iconst (v := (-1)) hx hb dX11_many_184 (by decide) ?_
    refine lv_icmp_ne (tgt := 192) hx hb dX11_many_185 (by decide) (fun h => absurd (by decide) h) (fun _ => ?_)
    refine lv_iconst (v := (-1)) hx hb dX11_many_188 (by decide) ?_
    refine lv_goto (tgt := 198) hx hb dX11_many_189 (by decide) ?_
    refine h_callVi (T := TX11) (rest := []) (As := [.int (-1)]) hx hb hml hown hts hK hT0 (fun _ h => h) hS22 (c_X11_gives l G Y (o) hM (-1)) trivial wd_X11_gives wV_X11_gives wL_X11_276 (hM.o rfl) rfl rfl hl.1 rfl (Nat.le_of_ble_eq_true rfl) dX11_many_198 ⟨Nat.le_of_ble_eq_true rfl, Nat.le_of_ble_eq_true rfl⟩ ⟨Nat.zero_le _, Nat.zero_le _⟩ (fun r28 H23 locs hp23 hT23 hS23 hk23 => ?_)
    have hp23 : r28 = (-1) := hp23
    subst hp23
    exact hret _ _ _ _ _ hT23 hS23 (by refine ⟨fun h => ?_, fun h => ?_⟩ <;> first | rfl | exact absurd h (by decide) | (exfalso; omega)) dX11_many_201
set_option maxHeartbeats 4000000 in
set_option maxRecDepth 100000 in
theorem c_four_0 (l : Launch) (G : hG) (Y : hW) (o : Nat) (hM : h_On Y o (modE tF o)) (u1 : Int32) : hMv l yX11_four cX11_four 3 none 0 0 G Y [.ref (o), .int u1] (fun H => h_gi G H 11 o 10 = 0) (fun H H1 => h_gi G H1 11 o 10 = 4) := by
  refine h_ofv (by decide +kernel) (Nat.le_of_ble_eq_true rfl) ?_
  intro p e s m args below meth c H0 ls Q hx hb hts hown hml hK hT0 hpr hS0 hl hret
  have hl : lv_has ls 3 [(0, .ref (o)), (1, .int u1)] := hl
  refine lv_iconst (v := 3) hx hb dX11_four_0 (by decide) ?_
  refine lv_istore_n (lv' := [(2, .int 3), (0, .ref (o)), (1, .int u1)]) hx hb dX11_four_1 rfl hl (by decide) rfl (fun ls hl => ?_)
  refine lv_iload_n hx hb dX11_four_2 rfl (lv_at hl 0 rfl) ?_
  refine lv_if_lt (tgt := 38) hx hb dX11_four_3 (by decide) (fun h => absurd h (by decide)) (fun _ => ?_)
  refine lv_aload_n hx hb dX11_four_6 rfl (lv_at hl 1 rfl) ?_
  refine h_getr (C := RX11) (T := TX11) (N := 23) hx hb hts inX11 hown hK hT0 (hM.o rfl) rfl 7 rfl wF_X11_13 rfl dX11_four_7 ?_
  refine lv_aload_n hx hb dX11_four_10 rfl (lv_at hl 1 rfl) ?_
  refine h_geti (C := RX11) (T := TX11) (N := 23) hx hb hts inX11 hown hK hT0 (hM.o rfl) rfl 10 rfl wF_X11_168 rfl dX11_four_11 (fun p2 => ?_)
  refine h_top (v := 0) hpr ?_
  refine lv_iload_n hx hb dX11_four_14 rfl (lv_at hl 2 rfl) ?_
  refine lv_bipush (v := 8) hx hb dX11_four_15 (by decide) ?_
  refine lv_iload_n hx hb dX11_four_17 rfl (lv_at hl 0 rfl) ?_
  refine lv_imul hx hb dX11_four_18 ?_
  refine h_top (v := 24) (by decide) ?_
  refine lv_ishr hx hb dX11_four_19 ?_
  refine lv_topi (fun x3 ex3 => ?_)
  refine lv_i2b hx hb dX11_four_20 rfl ?_
  refine lv_topi (fun x4 ex4 => ?_)
  refine h_bast hx hb hK hT0 (fun _ h => h) hS0 (hM.at 2 rfl) (h_inc (by decide)) trivial dX11_four_21 (fun H1 locs hT1 hS1 hu1 => ?_)
  refine lv_aload_n hx hb dX11_four_22 rfl (lv_at hl 1 rfl) ?_
  refine lv_dup hx hb dX11_four_23 rfl ?_
  refine h_geti (C := RX11) (T := TX11) (N := 23) hx hb hts inX11 hown hK hT1 (hM.o rfl) rfl 10 rfl wF_X11_168 rfl dX11_four_24 (fun p5 => ?_)
  refine h_top (v := 0) ((h_gi_same (hu1.2.1 _ (by omega))).trans hpr) ?_
  refine lv_iconst (v := 1) hx hb dX11_four_27 (by decide) ?_
  refine lv_iadd hx hb dX11_four_28 ?_
  refine h_top (v := 1) (by decide) ?_
  refine h_puti (C := RX11) (T := TX11) (N := 23) hx hb hts inX11 tyX11 tyX11_ok nmX11 hown hK hT1 (fun _ h => h) hS1 (hM.o rfl) rfl 10 rfl wF_X11_168 rfl rfl trivial rfl rfl dX11_four_29 (fun H2 locs hT2 hS2 hu2 => ?_)
  refine lv_iinc (v := 2) (lv' := [(2, .int 2), (0, .ref (o)), (1, .int u1)]) hx hb dX11_four_32 hl (k := 0) rfl (by decide) (by decide) rfl (fun ls hl => ?_)
  refine lv_goto (tgt := 2) hx hb dX11_four_35 (by decide) ?_
  refine lv_iload_n hx hb dX11_four_2 rfl (lv_at hl 0 rfl) ?_
  refine lv_if_lt (tgt := 38) hx hb dX11_four_3 (by decide) (fun h => absurd h (by decide)) (fun _ => ?_)
  refine lv_aload_n hx hb dX11_four_6 rfl (lv_at hl 1 rfl) ?_
  refine h_getr (C := RX11) (T := TX11) (N := 23) hx hb hts inX11 hown hK hT2 (hM.o rfl) rfl 7 rfl wF_X11_13 rfl dX11_four_7 ?_
  refine lv_aload_n hx hb dX11_four_10 rfl (lv_at hl 1 rfl) ?_
  refine h_geti (C := RX11) (T := TX11) (N := 23) hx hb hts inX11 hown hK hT2 (hM.o rfl) rfl 10 rfl wF_X11_168 rfl dX11_four_11 (fun p7 => ?_)
  refine h_top (v := 1) (h_pu hu2) ?_
  refine lv_iload_n hx hb dX11_four_14 rfl (lv_at hl 2 rfl) ?_
  refine lv_bipush (v := 8) hx hb dX11_four_15 (by decide) ?_
  refine lv_iload_n hx hb dX11_four_17 rfl (lv_at hl 0 rfl) ?_
  refine lv_imul hx hb dX11_four_18 ?_
  refine h_top (v := 16) (by decide) ?_
  refine lv_ishr hx hb dX11_four_19 ?_
  refine lv_topi (fun x8 ex8 => ?_)
  refine lv_i2b hx hb dX11_four_20 rfl ?_
  refine lv_topi (fun x9 ex9 => ?_)
  refine h_bast hx hb hK hT2 (fun _ h => h) hS2 (hM.at 2 rfl) (h_inc (by decide)) trivial dX11_four_21 (fun H3 locs hT3 hS3 hu3 => ?_)
  refine lv_aload_n hx hb dX11_four_22 rfl (lv_at hl 1 rfl) ?_
  refine lv_dup hx hb dX11_four_23 rfl ?_
  refine h_geti (C := RX11) (T := TX11) (N := 23) hx hb hts inX11 hown hK hT3 (hM.o rfl) rfl 10 rfl wF_X11_168 rfl dX11_four_24 (fun p10 => ?_)
  refine h_top (v := 1) ((h_gi_same (hu3.2.1 _ (by omega))).trans (h_pu hu2)) ?_
  refine lv_iconst (v := 1) hx hb dX11_four_27 (by decide) ?_
  refine lv_iadd hx hb dX11_four_28 ?_
  refine h_top (v := 2) (by decide) ?_
  refine h_puti (C := RX11) (T := TX11) (N := 23) hx hb hts inX11 tyX11 tyX11_ok nmX11 hown hK hT3 (fun _ h => h) hS3 (hM.o rfl) rfl 10 rfl wF_X11_168 rfl rfl trivial rfl rfl dX11_four_29 (fun H4 locs hT4 hS4 hu4 => ?_)
  refine lv_iinc (v := 1) (lv' := [(2, .int 1), (0, .ref (o)), (1, .int u1)]) hx hb dX11_four_32 hl (k := 0) rfl (by decide) (by decide) rfl (fun ls hl => ?_)
  refine lv_goto (tgt := 2) hx hb dX11_four_35 (by decide) ?_
  refine lv_iload_n hx hb dX11_four_2 rfl (lv_at hl 0 rfl) ?_
  refine lv_if_lt (tgt := 38) hx hb dX11_four_3 (by decide) (fun h => absurd h (by decide)) (fun _ => ?_)
  refine lv_aload_n hx hb dX11_four_6 rfl (lv_at hl 1 rfl) ?_
  refine h_getr (C := RX11) (T := TX11) (N := 23) hx hb hts inX11 hown hK hT4 (hM.o rfl) rfl 7 rfl wF_X11_13 rfl dX11_four_7 ?_
  refine lv_aload_n hx hb dX11_four_10 rfl (lv_at hl 1 rfl) ?_
  refine h_geti (C := RX11) (T := TX11) (N := 23) hx hb hts inX11 hown hK hT4 (hM.o rfl) rfl 10 rfl wF_X11_168 rfl dX11_four_11 (fun p12 => ?_)
  refine h_top (v := 2) (h_pu hu4) ?_
  refine lv_iload_n hx hb dX11_four_14 rfl (lv_at hl 2 rfl) ?_
  refine lv_bipush (v := 8) hx hb dX11_four_15 (by decide) ?_
  refine lv_iload_n hx hb dX11_four_17 rfl (lv_at hl 0 rfl) ?_
  refine lv_imul hx hb dX11_four_18 ?_
  refine h_top (v := 8) (by decide) ?_
  refine lv_ishr hx hb dX11_four_19 ?_
  refine lv_topi (fun x13 ex13 => ?_)
  refine lv_i2b hx hb dX11_four_20 rfl ?_
  refine lv_topi (fun x14 ex14 => ?_)
  refine h_bast hx hb hK hT4 (fun _ h => h) hS4 (hM.at 2 rfl) (h_inc (by decide)) trivial dX11_four_21 (fun H5 locs hT5 hS5 hu5 => ?_)
  refine lv_aload_n hx hb dX11_four_22 rfl (lv_at hl 1 rfl) ?_
  refine lv_dup hx hb dX11_four_23 rfl ?_
  refine h_geti (C := RX11) (T := TX11) (N := 23) hx hb hts inX11 hown hK hT5 (hM.o rfl) rfl 10 rfl wF_X11_168 rfl dX11_four_24 (fun p15 => ?_)
  refine h_top (v := 2) ((h_gi_same (hu5.2.1 _ (by omega))).trans (h_pu hu4)) ?_
  refine lv_iconst (v := 1) hx hb dX11_four_27 (by decide) ?_
  refine lv_iadd hx hb dX11_four_28 ?_
  refine h_top (v := 3) (by decide) ?_
  refine h_puti (C := RX11) (T := TX11) (N := 23) hx hb hts inX11 tyX11 tyX11_ok nmX11 hown hK hT5 (fun _ h => h) hS5 (hM.o rfl) rfl 10 rfl wF_X11_168 rfl rfl trivial rfl rfl dX11_four_29 (fun H6 locs hT6 hS6 hu6 => ?_)
  refine lv_iinc (v := 0) (lv' := [(2, .int 0), (0, .ref (o)), (1, .int u1)]) hx hb dX11_four_32 hl (k := 0) rfl (by decide) (by decide) rfl (fun ls hl => ?_)
  refine lv_goto (tgt := 2) hx hb dX11_four_35 (by decide) ?_
  refine lv_iload_n hx hb dX11_four_2 rfl (lv_at hl 0 rfl) ?_
  refine lv_if_lt (tgt := 38) hx hb dX11_four_3 (by decide) (fun h => absurd h (by decide)) (fun _ => ?_)
  refine lv_aload_n hx hb dX11_four_6 rfl (lv_at hl 1 rfl) ?_
  refine h_getr (C := RX11) (T := TX11) (N := 23) hx hb hts inX11 hown hK hT6 (hM.o rfl) rfl 7 rfl wF_X11_13 rfl dX11_four_7 ?_
  refine lv_aload_n hx hb dX11_four_10 rfl (lv_at hl 1 rfl) ?_
  refine h_geti (C := RX11) (T := TX11) (N := 23) hx hb hts inX11 hown hK hT6 (hM.o rfl) rfl 10 rfl wF_X11_168 rfl dX11_four_11 (fun p17 => ?_)
  refine h_top (v := 3) (h_pu hu6) ?_
  refine lv_iload_n hx hb dX11_four_14 rfl (lv_at hl 2 rfl) ?_
  refine lv_bipush (v := 8) hx hb dX11_four_15 (by decide) ?_
  refine lv_iload_n hx hb dX11_four_17 rfl (lv_at hl 0 rfl) ?_
  refine lv_imul hx hb dX11_four_18 ?_
  refine h_top (v := 0) (by decide) ?_
  refine lv_ishr hx hb dX11_four_19 ?_
  refine lv_topi (fun x18 ex18 => ?_)
  refine lv_i2b hx hb dX11_four_20 rfl ?_
  refine lv_topi (fun x19 ex19 => ?_)
  refine h_bast hx hb hK hT6 (fun _ h => h) hS6 (hM.at 2 rfl) (h_inc (by decide)) trivial dX11_four_21 (fun H7 locs hT7 hS7 hu7 => ?_)
  refine lv_aload_n hx hb dX11_four_22 rfl (lv_at hl 1 rfl) ?_
  refine lv_dup hx hb dX11_four_23 rfl ?_
  refine h_geti (C := RX11) (T := TX11) (N := 23) hx hb hts inX11 hown hK hT7 (hM.o rfl) rfl 10 rfl wF_X11_168 rfl dX11_four_24 (fun p20 => ?_)
  refine h_top (v := 3) ((h_gi_same (hu7.2.1 _ (by omega))).trans (h_pu hu6)) ?_
  refine lv_iconst (v := 1) hx hb dX11_four_27 (by decide) ?_
  refine lv_iadd hx hb dX11_four_28 ?_
  refine h_top (v := 4) (by decide) ?_
  refine h_puti (C := RX11) (T := TX11) (N := 23) hx hb hts inX11 tyX11 tyX11_ok nmX11 hown hK hT7 (fun _ h => h) hS7 (hM.o rfl) rfl 10 rfl wF_X11_168 rfl rfl trivial rfl rfl dX11_four_29 (fun H8 locs hT8 hS8 hu8 => ?_)
  refine lv_iinc (v := (-1)) (lv' := [(2, .int (-1)), (0, .ref (o)), (1, .int u1)]) hx hb dX11_four_32 hl (k := 0) rfl (by decide) (by decide) rfl (fun ls hl => ?_)
  refine lv_goto (tgt := 2) hx hb dX11_four_35 (by decide) ?_
  refine lv_iload_n hx hb dX11_four_2 rfl (lv_at hl 0 rfl) ?_
  refine lv_if_lt (tgt := 38) hx hb dX11_four_3 (by decide) (fun _ => ?_) (fun h => absurd (by decide) h)
  exact hret _ _ _ _ hT8 hS8 (h_pu hu8) dX11_four_38
set_option maxHeartbeats 4000000 in
set_option maxRecDepth 100000 in
theorem c_four_4 (l : Launch) (G : hG) (Y : hW) (o : Nat) (hM : h_On Y o (modE tF o)) (u1 : Int32) : hMv l yX11_four cX11_four 3 none 0 0 G Y [.ref (o), .int u1] (fun H => h_gi G H 11 o 10 = 4) (fun H H1 => h_gi G H1 11 o 10 = 8) := by
  refine h_ofv (by decide +kernel) (Nat.le_of_ble_eq_true rfl) ?_
  intro p e s m args below meth c H0 ls Q hx hb hts hown hml hK hT0 hpr hS0 hl hret
  have hl : lv_has ls 3 [(0, .ref (o)), (1, .int u1)] := hl
  refine lv_iconst (v := 3) hx hb dX11_four_0 (by decide) ?_
  refine lv_istore_n (lv' := [(2, .int 3), (0, .ref (o)), (1, .int u1)]) hx hb dX11_four_1 rfl hl (by decide) rfl (fun ls hl => ?_)
  refine lv_iload_n hx hb dX11_four_2 rfl (lv_at hl 0 rfl) ?_
  refine lv_if_lt (tgt := 38) hx hb dX11_four_3 (by decide) (fun h => absurd h (by decide)) (fun _ => ?_)
  refine lv_aload_n hx hb dX11_four_6 rfl (lv_at hl 1 rfl) ?_
  refine h_getr (C := RX11) (T := TX11) (N := 23) hx hb hts inX11 hown hK hT0 (hM.o rfl) rfl 7 rfl wF_X11_13 rfl dX11_four_7 ?_
  refine lv_aload_n hx hb dX11_four_10 rfl (lv_at hl 1 rfl) ?_
  refine h_geti (C := RX11) (T := TX11) (N := 23) hx hb hts inX11 hown hK hT0 (hM.o rfl) rfl 10 rfl wF_X11_168 rfl dX11_four_11 (fun p2 => ?_)
  refine h_top (v := 4) hpr ?_
  refine lv_iload_n hx hb dX11_four_14 rfl (lv_at hl 2 rfl) ?_
  refine lv_bipush (v := 8) hx hb dX11_four_15 (by decide) ?_
  refine lv_iload_n hx hb dX11_four_17 rfl (lv_at hl 0 rfl) ?_
  refine lv_imul hx hb dX11_four_18 ?_
  refine h_top (v := 24) (by decide) ?_
  refine lv_ishr hx hb dX11_four_19 ?_
  refine lv_topi (fun x3 ex3 => ?_)
  refine lv_i2b hx hb dX11_four_20 rfl ?_
  refine lv_topi (fun x4 ex4 => ?_)
  refine h_bast hx hb hK hT0 (fun _ h => h) hS0 (hM.at 2 rfl) (h_inc (by decide)) trivial dX11_four_21 (fun H1 locs hT1 hS1 hu1 => ?_)
  refine lv_aload_n hx hb dX11_four_22 rfl (lv_at hl 1 rfl) ?_
  refine lv_dup hx hb dX11_four_23 rfl ?_
  refine h_geti (C := RX11) (T := TX11) (N := 23) hx hb hts inX11 hown hK hT1 (hM.o rfl) rfl 10 rfl wF_X11_168 rfl dX11_four_24 (fun p5 => ?_)
  refine h_top (v := 4) ((h_gi_same (hu1.2.1 _ (by omega))).trans hpr) ?_
  refine lv_iconst (v := 1) hx hb dX11_four_27 (by decide) ?_
  refine lv_iadd hx hb dX11_four_28 ?_
  refine h_top (v := 5) (by decide) ?_
  refine h_puti (C := RX11) (T := TX11) (N := 23) hx hb hts inX11 tyX11 tyX11_ok nmX11 hown hK hT1 (fun _ h => h) hS1 (hM.o rfl) rfl 10 rfl wF_X11_168 rfl rfl trivial rfl rfl dX11_four_29 (fun H2 locs hT2 hS2 hu2 => ?_)
  refine lv_iinc (v := 2) (lv' := [(2, .int 2), (0, .ref (o)), (1, .int u1)]) hx hb dX11_four_32 hl (k := 0) rfl (by decide) (by decide) rfl (fun ls hl => ?_)
  refine lv_goto (tgt := 2) hx hb dX11_four_35 (by decide) ?_
  refine lv_iload_n hx hb dX11_four_2 rfl (lv_at hl 0 rfl) ?_
  refine lv_if_lt (tgt := 38) hx hb dX11_four_3 (by decide) (fun h => absurd h (by decide)) (fun _ => ?_)
  refine lv_aload_n hx hb dX11_four_6 rfl (lv_at hl 1 rfl) ?_
  refine h_getr (C := RX11) (T := TX11) (N := 23) hx hb hts inX11 hown hK hT2 (hM.o rfl) rfl 7 rfl wF_X11_13 rfl dX11_four_7 ?_
  refine lv_aload_n hx hb dX11_four_10 rfl (lv_at hl 1 rfl) ?_
  refine h_geti (C := RX11) (T := TX11) (N := 23) hx hb hts inX11 hown hK hT2 (hM.o rfl) rfl 10 rfl wF_X11_168 rfl dX11_four_11 (fun p7 => ?_)
  refine h_top (v := 5) (h_pu hu2) ?_
  refine lv_iload_n hx hb dX11_four_14 rfl (lv_at hl 2 rfl) ?_
  refine lv_bipush (v := 8) hx hb dX11_four_15 (by decide) ?_
  refine lv_iload_n hx hb dX11_four_17 rfl (lv_at hl 0 rfl) ?_
  refine lv_imul hx hb dX11_four_18 ?_
  refine h_top (v := 16) (by decide) ?_
  refine lv_ishr hx hb dX11_four_19 ?_
  refine lv_topi (fun x8 ex8 => ?_)
  refine lv_i2b hx hb dX11_four_20 rfl ?_
  refine lv_topi (fun x9 ex9 => ?_)
  refine h_bast hx hb hK hT2 (fun _ h => h) hS2 (hM.at 2 rfl) (h_inc (by decide)) trivial dX11_four_21 (fun H3 locs hT3 hS3 hu3 => ?_)
  refine lv_aload_n hx hb dX11_four_22 rfl (lv_at hl 1 rfl) ?_
  refine lv_dup hx hb dX11_four_23 rfl ?_
  refine h_geti (C := RX11) (T := TX11) (N := 23) hx hb hts inX11 hown hK hT3 (hM.o rfl) rfl 10 rfl wF_X11_168 rfl dX11_four_24 (fun p10 => ?_)
  refine h_top (v := 5) ((h_gi_same (hu3.2.1 _ (by omega))).trans (h_pu hu2)) ?_
  refine lv_iconst (v := 1) hx hb dX11_four_27 (by decide) ?_
  refine lv_iadd hx hb dX11_four_28 ?_
  refine h_top (v := 6) (by decide) ?_
  refine h_puti (C := RX11) (T := TX11) (N := 23) hx hb hts inX11 tyX11 tyX11_ok nmX11 hown hK hT3 (fun _ h => h) hS3 (hM.o rfl) rfl 10 rfl wF_X11_168 rfl rfl trivial rfl rfl dX11_four_29 (fun H4 locs hT4 hS4 hu4 => ?_)
  refine lv_iinc (v := 1) (lv' := [(2, .int 1), (0, .ref (o)), (1, .int u1)]) hx hb dX11_four_32 hl (k := 0) rfl (by decide) (by decide) rfl (fun ls hl => ?_)
  refine lv_goto (tgt := 2) hx hb dX11_four_35 (by decide) ?_
  refine lv_iload_n hx hb dX11_four_2 rfl (lv_at hl 0 rfl) ?_
  refine lv_if_lt (tgt := 38) hx hb dX11_four_3 (by decide) (fun h => absurd h (by decide)) (fun _ => ?_)
  refine lv_aload_n hx hb dX11_four_6 rfl (lv_at hl 1 rfl) ?_
  refine h_getr (C := RX11) (T := TX11) (N := 23) hx hb hts inX11 hown hK hT4 (hM.o rfl) rfl 7 rfl wF_X11_13 rfl dX11_four_7 ?_
  refine lv_aload_n hx hb dX11_four_10 rfl (lv_at hl 1 rfl) ?_
  refine h_geti (C := RX11) (T := TX11) (N := 23) hx hb hts inX11 hown hK hT4 (hM.o rfl) rfl 10 rfl wF_X11_168 rfl dX11_four_11 (fun p12 => ?_)
  refine h_top (v := 6) (h_pu hu4) ?_
  refine lv_iload_n hx hb dX11_four_14 rfl (lv_at hl 2 rfl) ?_
  refine lv_bipush (v := 8) hx hb dX11_four_15 (by decide) ?_
  refine lv_iload_n hx hb dX11_four_17 rfl (lv_at hl 0 rfl) ?_
  refine lv_imul hx hb dX11_four_18 ?_
  refine h_top (v := 8) (by decide) ?_
  refine lv_ishr hx hb dX11_four_19 ?_
  refine lv_topi (fun x13 ex13 => ?_)
  refine lv_i2b hx hb dX11_four_20 rfl ?_
  refine lv_topi (fun x14 ex14 => ?_)
  refine h_bast hx hb hK hT4 (fun _ h => h) hS4 (hM.at 2 rfl) (h_inc (by decide)) trivial dX11_four_21 (fun H5 locs hT5 hS5 hu5 => ?_)
  refine lv_aload_n hx hb dX11_four_22 rfl (lv_at hl 1 rfl) ?_
  refine lv_dup hx hb dX11_four_23 rfl ?_
  refine h_geti (C := RX11) (T := TX11) (N := 23) hx hb hts inX11 hown hK hT5 (hM.o rfl) rfl 10 rfl wF_X11_168 rfl dX11_four_24 (fun p15 => ?_)
  refine h_top (v := 6) ((h_gi_same (hu5.2.1 _ (by omega))).trans (h_pu hu4)) ?_
  refine lv_iconst (v := 1) hx hb dX11_four_27 (by decide) ?_
  refine lv_iadd hx hb dX11_four_28 ?_
  refine h_top (v := 7) (by decide) ?_
  refine h_puti (C := RX11) (T := TX11) (N := 23) hx hb hts inX11 tyX11 tyX11_ok nmX11 hown hK hT5 (fun _ h => h) hS5 (hM.o rfl) rfl 10 rfl wF_X11_168 rfl rfl trivial rfl rfl dX11_four_29 (fun H6 locs hT6 hS6 hu6 => ?_)
  refine lv_iinc (v := 0) (lv' := [(2, .int 0), (0, .ref (o)), (1, .int u1)]) hx hb dX11_four_32 hl (k := 0) rfl (by decide) (by decide) rfl (fun ls hl => ?_)
  refine lv_goto (tgt := 2) hx hb dX11_four_35 (by decide) ?_
  refine lv_iload_n hx hb dX11_four_2 rfl (lv_at hl 0 rfl) ?_
  refine lv_if_lt (tgt := 38) hx hb dX11_four_3 (by decide) (fun h => absurd h (by decide)) (fun _ => ?_)
  refine lv_aload_n hx hb dX11_four_6 rfl (lv_at hl 1 rfl) ?_
  refine h_getr (C := RX11) (T := TX11) (N := 23) hx hb hts inX11 hown hK hT6 (hM.o rfl) rfl 7 rfl wF_X11_13 rfl dX11_four_7 ?_
  refine lv_aload_n hx hb dX11_four_10 rfl (lv_at hl 1 rfl) ?_
  refine h_geti (C := RX11) (T := TX11) (N := 23) hx hb hts inX11 hown hK hT6 (hM.o rfl) rfl 10 rfl wF_X11_168 rfl dX11_four_11 (fun p17 => ?_)
  refine h_top (v := 7) (h_pu hu6) ?_
  refine lv_iload_n hx hb dX11_four_14 rfl (lv_at hl 2 rfl) ?_
  refine lv_bipush (v := 8) hx hb dX11_four_15 (by decide) ?_
  refine lv_iload_n hx hb dX11_four_17 rfl (lv_at hl 0 rfl) ?_
  refine lv_imul hx hb dX11_four_18 ?_
  refine h_top (v := 0) (by decide) ?_
  refine lv_ishr hx hb dX11_four_19 ?_
  refine lv_topi (fun x18 ex18 => ?_)
  refine lv_i2b hx hb dX11_four_20 rfl ?_
  refine lv_topi (fun x19 ex19 => ?_)
  refine h_bast hx hb hK hT6 (fun _ h => h) hS6 (hM.at 2 rfl) (h_inc (by decide)) trivial dX11_four_21 (fun H7 locs hT7 hS7 hu7 => ?_)
  refine lv_aload_n hx hb dX11_four_22 rfl (lv_at hl 1 rfl) ?_
  refine lv_dup hx hb dX11_four_23 rfl ?_
  refine h_geti (C := RX11) (T := TX11) (N := 23) hx hb hts inX11 hown hK hT7 (hM.o rfl) rfl 10 rfl wF_X11_168 rfl dX11_four_24 (fun p20 => ?_)
  refine h_top (v := 7) ((h_gi_same (hu7.2.1 _ (by omega))).trans (h_pu hu6)) ?_
  refine lv_iconst (v := 1) hx hb dX11_four_27 (by decide) ?_
  refine lv_iadd hx hb dX11_four_28 ?_
  refine h_top (v := 8) (by decide) ?_
  refine h_puti (C := RX11) (T := TX11) (N := 23) hx hb hts inX11 tyX11 tyX11_ok nmX11 hown hK hT7 (fun _ h => h) hS7 (hM.o rfl) rfl 10 rfl wF_X11_168 rfl rfl trivial rfl rfl dX11_four_29 (fun H8 locs hT8 hS8 hu8 => ?_)
  refine lv_iinc (v := (-1)) (lv' := [(2, .int (-1)), (0, .ref (o)), (1, .int u1)]) hx hb dX11_four_32 hl (k := 0) rfl (by decide) (by decide) rfl (fun ls hl => ?_)
  refine lv_goto (tgt := 2) hx hb dX11_four_35 (by decide) ?_
  refine lv_iload_n hx hb dX11_four_2 rfl (lv_at hl 0 rfl) ?_
  refine lv_if_lt (tgt := 38) hx hb dX11_four_3 (by decide) (fun _ => ?_) (fun h => absurd (by decide) h)
  exact hret _ _ _ _ hT8 hS8 (h_pu hu8) dX11_four_38
set_option maxHeartbeats 4000000 in
set_option maxRecDepth 100000 in
theorem c_four_8 (l : Launch) (G : hG) (Y : hW) (o : Nat) (hM : h_On Y o (modE tF o)) (u1 : Int32) : hMv l yX11_four cX11_four 3 none 0 0 G Y [.ref (o), .int u1] (fun H => h_gi G H 11 o 10 = 8) (fun H H1 => h_gi G H1 11 o 10 = 12) := by
  refine h_ofv (by decide +kernel) (Nat.le_of_ble_eq_true rfl) ?_
  intro p e s m args below meth c H0 ls Q hx hb hts hown hml hK hT0 hpr hS0 hl hret
  have hl : lv_has ls 3 [(0, .ref (o)), (1, .int u1)] := hl
  refine lv_iconst (v := 3) hx hb dX11_four_0 (by decide) ?_
  refine lv_istore_n (lv' := [(2, .int 3), (0, .ref (o)), (1, .int u1)]) hx hb dX11_four_1 rfl hl (by decide) rfl (fun ls hl => ?_)
  refine lv_iload_n hx hb dX11_four_2 rfl (lv_at hl 0 rfl) ?_
  refine lv_if_lt (tgt := 38) hx hb dX11_four_3 (by decide) (fun h => absurd h (by decide)) (fun _ => ?_)
  refine lv_aload_n hx hb dX11_four_6 rfl (lv_at hl 1 rfl) ?_
  refine h_getr (C := RX11) (T := TX11) (N := 23) hx hb hts inX11 hown hK hT0 (hM.o rfl) rfl 7 rfl wF_X11_13 rfl dX11_four_7 ?_
  refine lv_aload_n hx hb dX11_four_10 rfl (lv_at hl 1 rfl) ?_
  refine h_geti (C := RX11) (T := TX11) (N := 23) hx hb hts inX11 hown hK hT0 (hM.o rfl) rfl 10 rfl wF_X11_168 rfl dX11_four_11 (fun p2 => ?_)
  refine h_top (v := 8) hpr ?_
  refine lv_iload_n hx hb dX11_four_14 rfl (lv_at hl 2 rfl) ?_
  refine lv_bipush (v := 8) hx hb dX11_four_15 (by decide) ?_
  refine lv_iload_n hx hb dX11_four_17 rfl (lv_at hl 0 rfl) ?_
  refine lv_imul hx hb dX11_four_18 ?_
  refine h_top (v := 24) (by decide) ?_
  refine lv_ishr hx hb dX11_four_19 ?_
  refine lv_topi (fun x3 ex3 => ?_)
  refine lv_i2b hx hb dX11_four_20 rfl ?_
  refine lv_topi (fun x4 ex4 => ?_)
  refine h_bast hx hb hK hT0 (fun _ h => h) hS0 (hM.at 2 rfl) (h_inc (by decide)) trivial dX11_four_21 (fun H1 locs hT1 hS1 hu1 => ?_)
  refine lv_aload_n hx hb dX11_four_22 rfl (lv_at hl 1 rfl) ?_
  refine lv_dup hx hb dX11_four_23 rfl ?_
  refine h_geti (C := RX11) (T := TX11) (N := 23) hx hb hts inX11 hown hK hT1 (hM.o rfl) rfl 10 rfl wF_X11_168 rfl dX11_four_24 (fun p5 => ?_)
  refine h_top (v := 8) ((h_gi_same (hu1.2.1 _ (by omega))).trans hpr) ?_
  refine lv_iconst (v := 1) hx hb dX11_four_27 (by decide) ?_
  refine lv_iadd hx hb dX11_four_28 ?_
  refine h_top (v := 9) (by decide) ?_
  refine h_puti (C := RX11) (T := TX11) (N := 23) hx hb hts inX11 tyX11 tyX11_ok nmX11 hown hK hT1 (fun _ h => h) hS1 (hM.o rfl) rfl 10 rfl wF_X11_168 rfl rfl trivial rfl rfl dX11_four_29 (fun H2 locs hT2 hS2 hu2 => ?_)
  refine lv_iinc (v := 2) (lv' := [(2, .int 2), (0, .ref (o)), (1, .int u1)]) hx hb dX11_four_32 hl (k := 0) rfl (by decide) (by decide) rfl (fun ls hl => ?_)
  refine lv_goto (tgt := 2) hx hb dX11_four_35 (by decide) ?_
  refine lv_iload_n hx hb dX11_four_2 rfl (lv_at hl 0 rfl) ?_
  refine lv_if_lt (tgt := 38) hx hb dX11_four_3 (by decide) (fun h => absurd h (by decide)) (fun _ => ?_)
  refine lv_aload_n hx hb dX11_four_6 rfl (lv_at hl 1 rfl) ?_
  refine h_getr (C := RX11) (T := TX11) (N := 23) hx hb hts inX11 hown hK hT2 (hM.o rfl) rfl 7 rfl wF_X11_13 rfl dX11_four_7 ?_
  refine lv_aload_n hx hb dX11_four_10 rfl (lv_at hl 1 rfl) ?_
  refine h_geti (C := RX11) (T := TX11) (N := 23) hx hb hts inX11 hown hK hT2 (hM.o rfl) rfl 10 rfl wF_X11_168 rfl dX11_four_11 (fun p7 => ?_)
  refine h_top (v := 9) (h_pu hu2) ?_
  refine lv_iload_n hx hb dX11_four_14 rfl (lv_at hl 2 rfl) ?_
  refine lv_bipush (v := 8) hx hb dX11_four_15 (by decide) ?_
  refine lv_iload_n hx hb dX11_four_17 rfl (lv_at hl 0 rfl) ?_
  refine lv_imul hx hb dX11_four_18 ?_
  refine h_top (v := 16) (by decide) ?_
  refine lv_ishr hx hb dX11_four_19 ?_
  refine lv_topi (fun x8 ex8 => ?_)
  refine lv_i2b hx hb dX11_four_20 rfl ?_
  refine lv_topi (fun x9 ex9 => ?_)
  refine h_bast hx hb hK hT2 (fun _ h => h) hS2 (hM.at 2 rfl) (h_inc (by decide)) trivial dX11_four_21 (fun H3 locs hT3 hS3 hu3 => ?_)
  refine lv_aload_n hx hb dX11_four_22 rfl (lv_at hl 1 rfl) ?_
  refine lv_dup hx hb dX11_four_23 rfl ?_
  refine h_geti (C := RX11) (T := TX11) (N := 23) hx hb hts inX11 hown hK hT3 (hM.o rfl) rfl 10 rfl wF_X11_168 rfl dX11_four_24 (fun p10 => ?_)
  refine h_top (v := 9) ((h_gi_same (hu3.2.1 _ (by omega))).trans (h_pu hu2)) ?_
  refine lv_iconst (v := 1) hx hb dX11_four_27 (by decide) ?_
  refine lv_iadd hx hb dX11_four_28 ?_
  refine h_top (v := 10) (by decide) ?_
  refine h_puti (C := RX11) (T := TX11) (N := 23) hx hb hts inX11 tyX11 tyX11_ok nmX11 hown hK hT3 (fun _ h => h) hS3 (hM.o rfl) rfl 10 rfl wF_X11_168 rfl rfl trivial rfl rfl dX11_four_29 (fun H4 locs hT4 hS4 hu4 => ?_)
  refine lv_iinc (v := 1) (lv' := [(2, .int 1), (0, .ref (o)), (1, .int u1)]) hx hb dX11_four_32 hl (k := 0) rfl (by decide) (by decide) rfl (fun ls hl => ?_)
  refine lv_goto (tgt := 2) hx hb dX11_four_35 (by decide) ?_
  refine lv_iload_n hx hb dX11_four_2 rfl (lv_at hl 0 rfl) ?_
  refine lv_if_lt (tgt := 38) hx hb dX11_four_3 (by decide) (fun h => absurd h (by decide)) (fun _ => ?_)
  refine lv_aload_n hx hb dX11_four_6 rfl (lv_at hl 1 rfl) ?_
  refine h_getr (C := RX11) (T := TX11) (N := 23) hx hb hts inX11 hown hK hT4 (hM.o rfl) rfl 7 rfl wF_X11_13 rfl dX11_four_7 ?_
  refine lv_aload_n hx hb dX11_four_10 rfl (lv_at hl 1 rfl) ?_
  refine h_geti (C := RX11) (T := TX11) (N := 23) hx hb hts inX11 hown hK hT4 (hM.o rfl) rfl 10 rfl wF_X11_168 rfl dX11_four_11 (fun p12 => ?_)
  refine h_top (v := 10) (h_pu hu4) ?_
  refine lv_iload_n hx hb dX11_four_14 rfl (lv_at hl 2 rfl) ?_
  refine lv_bipush (v := 8) hx hb dX11_four_15 (by decide) ?_
  refine lv_iload_n hx hb dX11_four_17 rfl (lv_at hl 0 rfl) ?_
  refine lv_imul hx hb dX11_four_18 ?_
  refine h_top (v := 8) (by decide) ?_
  refine lv_ishr hx hb dX11_four_19 ?_
  refine lv_topi (fun x13 ex13 => ?_)
  refine lv_i2b hx hb dX11_four_20 rfl ?_
  refine lv_topi (fun x14 ex14 => ?_)
  refine h_bast hx hb hK hT4 (fun _ h => h) hS4 (hM.at 2 rfl) (h_inc (by decide)) trivial dX11_four_21 (fun H5 locs hT5 hS5 hu5 => ?_)
  refine lv_aload_n hx hb dX11_four_22 rfl (lv_at hl 1 rfl) ?_
  refine lv_dup hx hb dX11_four_23 rfl ?_
  refine h_geti (C := RX11) (T := TX11) (N := 23) hx hb hts inX11 hown hK hT5 (hM.o rfl) rfl 10 rfl wF_X11_168 rfl dX11_four_24 (fun p15 => ?_)
  refine h_top (v := 10) ((h_gi_same (hu5.2.1 _ (by omega))).trans (h_pu hu4)) ?_
  refine lv_iconst (v := 1) hx hb dX11_four_27 (by decide) ?_
  refine lv_iadd hx hb dX11_four_28 ?_
  refine h_top (v := 11) (by decide) ?_
  refine h_puti (C := RX11) (T := TX11) (N := 23) hx hb hts inX11 tyX11 tyX11_ok nmX11 hown hK hT5 (fun _ h => h) hS5 (hM.o rfl) rfl 10 rfl wF_X11_168 rfl rfl trivial rfl rfl dX11_four_29 (fun H6 locs hT6 hS6 hu6 => ?_)
  refine lv_iinc (v := 0) (lv' := [(2, .int 0), (0, .ref (o)), (1, .int u1)]) hx hb dX11_four_32 hl (k := 0) rfl (by decide) (by decide) rfl (fun ls hl => ?_)
  refine lv_goto (tgt := 2) hx hb dX11_four_35 (by decide) ?_
  refine lv_iload_n hx hb dX11_four_2 rfl (lv_at hl 0 rfl) ?_
  refine lv_if_lt (tgt := 38) hx hb dX11_four_3 (by decide) (fun h => absurd h (by decide)) (fun _ => ?_)
  refine lv_aload_n hx hb dX11_four_6 rfl (lv_at hl 1 rfl) ?_
  refine h_getr (C := RX11) (T := TX11) (N := 23) hx hb hts inX11 hown hK hT6 (hM.o rfl) rfl 7 rfl wF_X11_13 rfl dX11_four_7 ?_
  refine lv_aload_n hx hb dX11_four_10 rfl (lv_at hl 1 rfl) ?_
  refine h_geti (C := RX11) (T := TX11) (N := 23) hx hb hts inX11 hown hK hT6 (hM.o rfl) rfl 10 rfl wF_X11_168 rfl dX11_four_11 (fun p17 => ?_)
  refine h_top (v := 11) (h_pu hu6) ?_
  refine lv_iload_n hx hb dX11_four_14 rfl (lv_at hl 2 rfl) ?_
  refine lv_bipush (v := 8) hx hb dX11_four_15 (by decide) ?_
  refine lv_iload_n hx hb dX11_four_17 rfl (lv_at hl 0 rfl) ?_
  refine lv_imul hx hb dX11_four_18 ?_
  refine h_top (v := 0) (by decide) ?_
  refine lv_ishr hx hb dX11_four_19 ?_
  refine lv_topi (fun x18 ex18 => ?_)
  refine lv_i2b hx hb dX11_four_20 rfl ?_
  refine lv_topi (fun x19 ex19 => ?_)
  refine h_bast hx hb hK hT6 (fun _ h => h) hS6 (hM.at 2 rfl) (h_inc (by decide)) trivial dX11_four_21 (fun H7 locs hT7 hS7 hu7 => ?_)
  refine lv_aload_n hx hb dX11_four_22 rfl (lv_at hl 1 rfl) ?_
  refine lv_dup hx hb dX11_four_23 rfl ?_
  refine h_geti (C := RX11) (T := TX11) (N := 23) hx hb hts inX11 hown hK hT7 (hM.o rfl) rfl 10 rfl wF_X11_168 rfl dX11_four_24 (fun p20 => ?_)
  refine h_top (v := 11) ((h_gi_same (hu7.2.1 _ (by omega))).trans (h_pu hu6)) ?_
  refine lv_iconst (v := 1) hx hb dX11_four_27 (by decide) ?_
  refine lv_iadd hx hb dX11_four_28 ?_
  refine h_top (v := 12) (by decide) ?_
  refine h_puti (C := RX11) (T := TX11) (N := 23) hx hb hts inX11 tyX11 tyX11_ok nmX11 hown hK hT7 (fun _ h => h) hS7 (hM.o rfl) rfl 10 rfl wF_X11_168 rfl rfl trivial rfl rfl dX11_four_29 (fun H8 locs hT8 hS8 hu8 => ?_)
  refine lv_iinc (v := (-1)) (lv' := [(2, .int (-1)), (0, .ref (o)), (1, .int u1)]) hx hb dX11_four_32 hl (k := 0) rfl (by decide) (by decide) rfl (fun ls hl => ?_)
  refine lv_goto (tgt := 2) hx hb dX11_four_35 (by decide) ?_
  refine lv_iload_n hx hb dX11_four_2 rfl (lv_at hl 0 rfl) ?_
  refine lv_if_lt (tgt := 38) hx hb dX11_four_3 (by decide) (fun _ => ?_) (fun h => absurd (by decide) h)
  exact hret _ _ _ _ hT8 hS8 (h_pu hu8) dX11_four_38
set_option maxHeartbeats 4000000 in
set_option maxRecDepth 100000 in
theorem c_four_12 (l : Launch) (G : hG) (Y : hW) (o : Nat) (hM : h_On Y o (modE tF o)) (u1 : Int32) : hMv l yX11_four cX11_four 3 none 0 0 G Y [.ref (o), .int u1] (fun H => h_gi G H 11 o 10 = 12) (fun H H1 => h_gi G H1 11 o 10 = 16) := by
  refine h_ofv (by decide +kernel) (Nat.le_of_ble_eq_true rfl) ?_
  intro p e s m args below meth c H0 ls Q hx hb hts hown hml hK hT0 hpr hS0 hl hret
  have hl : lv_has ls 3 [(0, .ref (o)), (1, .int u1)] := hl
  refine lv_iconst (v := 3) hx hb dX11_four_0 (by decide) ?_
  refine lv_istore_n (lv' := [(2, .int 3), (0, .ref (o)), (1, .int u1)]) hx hb dX11_four_1 rfl hl (by decide) rfl (fun ls hl => ?_)
  refine lv_iload_n hx hb dX11_four_2 rfl (lv_at hl 0 rfl) ?_
  refine lv_if_lt (tgt := 38) hx hb dX11_four_3 (by decide) (fun h => absurd h (by decide)) (fun _ => ?_)
  refine lv_aload_n hx hb dX11_four_6 rfl (lv_at hl 1 rfl) ?_
  refine h_getr (C := RX11) (T := TX11) (N := 23) hx hb hts inX11 hown hK hT0 (hM.o rfl) rfl 7 rfl wF_X11_13 rfl dX11_four_7 ?_
  refine lv_aload_n hx hb dX11_four_10 rfl (lv_at hl 1 rfl) ?_
  refine h_geti (C := RX11) (T := TX11) (N := 23) hx hb hts inX11 hown hK hT0 (hM.o rfl) rfl 10 rfl wF_X11_168 rfl dX11_four_11 (fun p2 => ?_)
  refine h_top (v := 12) hpr ?_
  refine lv_iload_n hx hb dX11_four_14 rfl (lv_at hl 2 rfl) ?_
  refine lv_bipush (v := 8) hx hb dX11_four_15 (by decide) ?_
  refine lv_iload_n hx hb dX11_four_17 rfl (lv_at hl 0 rfl) ?_
  refine lv_imul hx hb dX11_four_18 ?_
  refine h_top (v := 24) (by decide) ?_
  refine lv_ishr hx hb dX11_four_19 ?_
  refine lv_topi (fun x3 ex3 => ?_)
  refine lv_i2b hx hb dX11_four_20 rfl ?_
  refine lv_topi (fun x4 ex4 => ?_)
  refine h_bast hx hb hK hT0 (fun _ h => h) hS0 (hM.at 2 rfl) (h_inc (by decide)) trivial dX11_four_21 (fun H1 locs hT1 hS1 hu1 => ?_)
  refine lv_aload_n hx hb dX11_four_22 rfl (lv_at hl 1 rfl) ?_
  refine lv_dup hx hb dX11_four_23 rfl ?_
  refine h_geti (C := RX11) (T := TX11) (N := 23) hx hb hts inX11 hown hK hT1 (hM.o rfl) rfl 10 rfl wF_X11_168 rfl dX11_four_24 (fun p5 => ?_)
  refine h_top (v := 12) ((h_gi_same (hu1.2.1 _ (by omega))).trans hpr) ?_
  refine lv_iconst (v := 1) hx hb dX11_four_27 (by decide) ?_
  refine lv_iadd hx hb dX11_four_28 ?_
  refine h_top (v := 13) (by decide) ?_
  refine h_puti (C := RX11) (T := TX11) (N := 23) hx hb hts inX11 tyX11 tyX11_ok nmX11 hown hK hT1 (fun _ h => h) hS1 (hM.o rfl) rfl 10 rfl wF_X11_168 rfl rfl trivial rfl rfl dX11_four_29 (fun H2 locs hT2 hS2 hu2 => ?_)
  refine lv_iinc (v := 2) (lv' := [(2, .int 2), (0, .ref (o)), (1, .int u1)]) hx hb dX11_four_32 hl (k := 0) rfl (by decide) (by decide) rfl (fun ls hl => ?_)
  refine lv_goto (tgt := 2) hx hb dX11_four_35 (by decide) ?_
  refine lv_iload_n hx hb dX11_four_2 rfl (lv_at hl 0 rfl) ?_
  refine lv_if_lt (tgt := 38) hx hb dX11_four_3 (by decide) (fun h => absurd h (by decide)) (fun _ => ?_)
  refine lv_aload_n hx hb dX11_four_6 rfl (lv_at hl 1 rfl) ?_
  refine h_getr (C := RX11) (T := TX11) (N := 23) hx hb hts inX11 hown hK hT2 (hM.o rfl) rfl 7 rfl wF_X11_13 rfl dX11_four_7 ?_
  refine lv_aload_n hx hb dX11_four_10 rfl (lv_at hl 1 rfl) ?_
  refine h_geti (C := RX11) (T := TX11) (N := 23) hx hb hts inX11 hown hK hT2 (hM.o rfl) rfl 10 rfl wF_X11_168 rfl dX11_four_11 (fun p7 => ?_)
  refine h_top (v := 13) (h_pu hu2) ?_
  refine lv_iload_n hx hb dX11_four_14 rfl (lv_at hl 2 rfl) ?_
  refine lv_bipush (v := 8) hx hb dX11_four_15 (by decide) ?_
  refine lv_iload_n hx hb dX11_four_17 rfl (lv_at hl 0 rfl) ?_
  refine lv_imul hx hb dX11_four_18 ?_
  refine h_top (v := 16) (by decide) ?_
  refine lv_ishr hx hb dX11_four_19 ?_
  refine lv_topi (fun x8 ex8 => ?_)
  refine lv_i2b hx hb dX11_four_20 rfl ?_
  refine lv_topi (fun x9 ex9 => ?_)
  refine h_bast hx hb hK hT2 (fun _ h => h) hS2 (hM.at 2 rfl) (h_inc (by decide)) trivial dX11_four_21 (fun H3 locs hT3 hS3 hu3 => ?_)
  refine lv_aload_n hx hb dX11_four_22 rfl (lv_at hl 1 rfl) ?_
  refine lv_dup hx hb dX11_four_23 rfl ?_
  refine h_geti (C := RX11) (T := TX11) (N := 23) hx hb hts inX11 hown hK hT3 (hM.o rfl) rfl 10 rfl wF_X11_168 rfl dX11_four_24 (fun p10 => ?_)
  refine h_top (v := 13) ((h_gi_same (hu3.2.1 _ (by omega))).trans (h_pu hu2)) ?_
  refine lv_iconst (v := 1) hx hb dX11_four_27 (by decide) ?_
  refine lv_iadd hx hb dX11_four_28 ?_
  refine h_top (v := 14) (by decide) ?_
  refine h_puti (C := RX11) (T := TX11) (N := 23) hx hb hts inX11 tyX11 tyX11_ok nmX11 hown hK hT3 (fun _ h => h) hS3 (hM.o rfl) rfl 10 rfl wF_X11_168 rfl rfl trivial rfl rfl dX11_four_29 (fun H4 locs hT4 hS4 hu4 => ?_)
  refine lv_iinc (v := 1) (lv' := [(2, .int 1), (0, .ref (o)), (1, .int u1)]) hx hb dX11_four_32 hl (k := 0) rfl (by decide) (by decide) rfl (fun ls hl => ?_)
  refine lv_goto (tgt := 2) hx hb dX11_four_35 (by decide) ?_
  refine lv_iload_n hx hb dX11_four_2 rfl (lv_at hl 0 rfl) ?_
  refine lv_if_lt (tgt := 38) hx hb dX11_four_3 (by decide) (fun h => absurd h (by decide)) (fun _ => ?_)
  refine lv_aload_n hx hb dX11_four_6 rfl (lv_at hl 1 rfl) ?_
  refine h_getr (C := RX11) (T := TX11) (N := 23) hx hb hts inX11 hown hK hT4 (hM.o rfl) rfl 7 rfl wF_X11_13 rfl dX11_four_7 ?_
  refine lv_aload_n hx hb dX11_four_10 rfl (lv_at hl 1 rfl) ?_
  refine h_geti (C := RX11) (T := TX11) (N := 23) hx hb hts inX11 hown hK hT4 (hM.o rfl) rfl 10 rfl wF_X11_168 rfl dX11_four_11 (fun p12 => ?_)
  refine h_top (v := 14) (h_pu hu4) ?_
  refine lv_iload_n hx hb dX11_four_14 rfl (lv_at hl 2 rfl) ?_
  refine lv_bipush (v := 8) hx hb dX11_four_15 (by decide) ?_
  refine lv_iload_n hx hb dX11_four_17 rfl (lv_at hl 0 rfl) ?_
  refine lv_imul hx hb dX11_four_18 ?_
  refine h_top (v := 8) (by decide) ?_
  refine lv_ishr hx hb dX11_four_19 ?_
  refine lv_topi (fun x13 ex13 => ?_)
  refine lv_i2b hx hb dX11_four_20 rfl ?_
  refine lv_topi (fun x14 ex14 => ?_)
  refine h_bast hx hb hK hT4 (fun _ h => h) hS4 (hM.at 2 rfl) (h_inc (by decide)) trivial dX11_four_21 (fun H5 locs hT5 hS5 hu5 => ?_)
  refine lv_aload_n hx hb dX11_four_22 rfl (lv_at hl 1 rfl) ?_
  refine lv_dup hx hb dX11_four_23 rfl ?_
  refine h_geti (C := RX11) (T := TX11) (N := 23) hx hb hts inX11 hown hK hT5 (hM.o rfl) rfl 10 rfl wF_X11_168 rfl dX11_four_24 (fun p15 => ?_)
  refine h_top (v := 14) ((h_gi_same (hu5.2.1 _ (by omega))).trans (h_pu hu4)) ?_
  refine lv_iconst (v := 1) hx hb dX11_four_27 (by decide) ?_
  refine lv_iadd hx hb dX11_four_28 ?_
  refine h_top (v := 15) (by decide) ?_
  refine h_puti (C := RX11) (T := TX11) (N := 23) hx hb hts inX11 tyX11 tyX11_ok nmX11 hown hK hT5 (fun _ h => h) hS5 (hM.o rfl) rfl 10 rfl wF_X11_168 rfl rfl trivial rfl rfl dX11_four_29 (fun H6 locs hT6 hS6 hu6 => ?_)
  refine lv_iinc (v := 0) (lv' := [(2, .int 0), (0, .ref (o)), (1, .int u1)]) hx hb dX11_four_32 hl (k := 0) rfl (by decide) (by decide) rfl (fun ls hl => ?_)
  refine lv_goto (tgt := 2) hx hb dX11_four_35 (by decide) ?_
  refine lv_iload_n hx hb dX11_four_2 rfl (lv_at hl 0 rfl) ?_
  refine lv_if_lt (tgt := 38) hx hb dX11_four_3 (by decide) (fun h => absurd h (by decide)) (fun _ => ?_)
  refine lv_aload_n hx hb dX11_four_6 rfl (lv_at hl 1 rfl) ?_
  refine h_getr (C := RX11) (T := TX11) (N := 23) hx hb hts inX11 hown hK hT6 (hM.o rfl) rfl 7 rfl wF_X11_13 rfl dX11_four_7 ?_
  refine lv_aload_n hx hb dX11_four_10 rfl (lv_at hl 1 rfl) ?_
  refine h_geti (C := RX11) (T := TX11) (N := 23) hx hb hts inX11 hown hK hT6 (hM.o rfl) rfl 10 rfl wF_X11_168 rfl dX11_four_11 (fun p17 => ?_)
  refine h_top (v := 15) (h_pu hu6) ?_
  refine lv_iload_n hx hb dX11_four_14 rfl (lv_at hl 2 rfl) ?_
  refine lv_bipush (v := 8) hx hb dX11_four_15 (by decide) ?_
  refine lv_iload_n hx hb dX11_four_17 rfl (lv_at hl 0 rfl) ?_
  refine lv_imul hx hb dX11_four_18 ?_
  refine h_top (v := 0) (by decide) ?_
  refine lv_ishr hx hb dX11_four_19 ?_
  refine lv_topi (fun x18 ex18 => ?_)
  refine lv_i2b hx hb dX11_four_20 rfl ?_
  refine lv_topi (fun x19 ex19 => ?_)
  refine h_bast hx hb hK hT6 (fun _ h => h) hS6 (hM.at 2 rfl) (h_inc (by decide)) trivial dX11_four_21 (fun H7 locs hT7 hS7 hu7 => ?_)
  refine lv_aload_n hx hb dX11_four_22 rfl (lv_at hl 1 rfl) ?_
  refine lv_dup hx hb dX11_four_23 rfl ?_
  refine h_geti (C := RX11) (T := TX11) (N := 23) hx hb hts inX11 hown hK hT7 (hM.o rfl) rfl 10 rfl wF_X11_168 rfl dX11_four_24 (fun p20 => ?_)
  refine h_top (v := 15) ((h_gi_same (hu7.2.1 _ (by omega))).trans (h_pu hu6)) ?_
  refine lv_iconst (v := 1) hx hb dX11_four_27 (by decide) ?_
  refine lv_iadd hx hb dX11_four_28 ?_
  refine h_top (v := 16) (by decide) ?_
  refine h_puti (C := RX11) (T := TX11) (N := 23) hx hb hts inX11 tyX11 tyX11_ok nmX11 hown hK hT7 (fun _ h => h) hS7 (hM.o rfl) rfl 10 rfl wF_X11_168 rfl rfl trivial rfl rfl dX11_four_29 (fun H8 locs hT8 hS8 hu8 => ?_)
  refine lv_iinc (v := (-1)) (lv' := [(2, .int (-1)), (0, .ref (o)), (1, .int u1)]) hx hb dX11_four_32 hl (k := 0) rfl (by decide) (by decide) rfl (fun ls hl => ?_)
  refine lv_goto (tgt := 2) hx hb dX11_four_35 (by decide) ?_
  refine lv_iload_n hx hb dX11_four_2 rfl (lv_at hl 0 rfl) ?_
  refine lv_if_lt (tgt := 38) hx hb dX11_four_3 (by decide) (fun _ => ?_) (fun h => absurd (by decide) h)
  exact hret _ _ _ _ hT8 hS8 (h_pu hu8) dX11_four_38
set_option maxHeartbeats 4000000 in
set_option maxRecDepth 100000 in
theorem c_four_16 (l : Launch) (G : hG) (Y : hW) (o : Nat) (hM : h_On Y o (modE tF o)) (u1 : Int32) : hMv l yX11_four cX11_four 3 none 0 0 G Y [.ref (o), .int u1] (fun H => h_gi G H 11 o 10 = 16) (fun H H1 => h_gi G H1 11 o 10 = 20) := by
  refine h_ofv (by decide +kernel) (Nat.le_of_ble_eq_true rfl) ?_
  intro p e s m args below meth c H0 ls Q hx hb hts hown hml hK hT0 hpr hS0 hl hret
  have hl : lv_has ls 3 [(0, .ref (o)), (1, .int u1)] := hl
  refine lv_iconst (v := 3) hx hb dX11_four_0 (by decide) ?_
  refine lv_istore_n (lv' := [(2, .int 3), (0, .ref (o)), (1, .int u1)]) hx hb dX11_four_1 rfl hl (by decide) rfl (fun ls hl => ?_)
  refine lv_iload_n hx hb dX11_four_2 rfl (lv_at hl 0 rfl) ?_
  refine lv_if_lt (tgt := 38) hx hb dX11_four_3 (by decide) (fun h => absurd h (by decide)) (fun _ => ?_)
  refine lv_aload_n hx hb dX11_four_6 rfl (lv_at hl 1 rfl) ?_
  refine h_getr (C := RX11) (T := TX11) (N := 23) hx hb hts inX11 hown hK hT0 (hM.o rfl) rfl 7 rfl wF_X11_13 rfl dX11_four_7 ?_
  refine lv_aload_n hx hb dX11_four_10 rfl (lv_at hl 1 rfl) ?_
  refine h_geti (C := RX11) (T := TX11) (N := 23) hx hb hts inX11 hown hK hT0 (hM.o rfl) rfl 10 rfl wF_X11_168 rfl dX11_four_11 (fun p2 => ?_)
  refine h_top (v := 16) hpr ?_
  refine lv_iload_n hx hb dX11_four_14 rfl (lv_at hl 2 rfl) ?_
  refine lv_bipush (v := 8) hx hb dX11_four_15 (by decide) ?_
  refine lv_iload_n hx hb dX11_four_17 rfl (lv_at hl 0 rfl) ?_
  refine lv_imul hx hb dX11_four_18 ?_
  refine h_top (v := 24) (by decide) ?_
  refine lv_ishr hx hb dX11_four_19 ?_
  refine lv_topi (fun x3 ex3 => ?_)
  refine lv_i2b hx hb dX11_four_20 rfl ?_
  refine lv_topi (fun x4 ex4 => ?_)
  refine h_bast hx hb hK hT0 (fun _ h => h) hS0 (hM.at 2 rfl) (h_inc (by decide)) trivial dX11_four_21 (fun H1 locs hT1 hS1 hu1 => ?_)
  refine lv_aload_n hx hb dX11_four_22 rfl (lv_at hl 1 rfl) ?_
  refine lv_dup hx hb dX11_four_23 rfl ?_
  refine h_geti (C := RX11) (T := TX11) (N := 23) hx hb hts inX11 hown hK hT1 (hM.o rfl) rfl 10 rfl wF_X11_168 rfl dX11_four_24 (fun p5 => ?_)
  refine h_top (v := 16) ((h_gi_same (hu1.2.1 _ (by omega))).trans hpr) ?_
  refine lv_iconst (v := 1) hx hb dX11_four_27 (by decide) ?_
  refine lv_iadd hx hb dX11_four_28 ?_
  refine h_top (v := 17) (by decide) ?_
  refine h_puti (C := RX11) (T := TX11) (N := 23) hx hb hts inX11 tyX11 tyX11_ok nmX11 hown hK hT1 (fun _ h => h) hS1 (hM.o rfl) rfl 10 rfl wF_X11_168 rfl rfl trivial rfl rfl dX11_four_29 (fun H2 locs hT2 hS2 hu2 => ?_)
  refine lv_iinc (v := 2) (lv' := [(2, .int 2), (0, .ref (o)), (1, .int u1)]) hx hb dX11_four_32 hl (k := 0) rfl (by decide) (by decide) rfl (fun ls hl => ?_)
  refine lv_goto (tgt := 2) hx hb dX11_four_35 (by decide) ?_
  refine lv_iload_n hx hb dX11_four_2 rfl (lv_at hl 0 rfl) ?_
  refine lv_if_lt (tgt := 38) hx hb dX11_four_3 (by decide) (fun h => absurd h (by decide)) (fun _ => ?_)
  refine lv_aload_n hx hb dX11_four_6 rfl (lv_at hl 1 rfl) ?_
  refine h_getr (C := RX11) (T := TX11) (N := 23) hx hb hts inX11 hown hK hT2 (hM.o rfl) rfl 7 rfl wF_X11_13 rfl dX11_four_7 ?_
  refine lv_aload_n hx hb dX11_four_10 rfl (lv_at hl 1 rfl) ?_
  refine h_geti (C := RX11) (T := TX11) (N := 23) hx hb hts inX11 hown hK hT2 (hM.o rfl) rfl 10 rfl wF_X11_168 rfl dX11_four_11 (fun p7 => ?_)
  refine h_top (v := 17) (h_pu hu2) ?_
  refine lv_iload_n hx hb dX11_four_14 rfl (lv_at hl 2 rfl) ?_
  refine lv_bipush (v := 8) hx hb dX11_four_15 (by decide) ?_
  refine lv_iload_n hx hb dX11_four_17 rfl (lv_at hl 0 rfl) ?_
  refine lv_imul hx hb dX11_four_18 ?_
  refine h_top (v := 16) (by decide) ?_
  refine lv_ishr hx hb dX11_four_19 ?_
  refine lv_topi (fun x8 ex8 => ?_)
  refine lv_i2b hx hb dX11_four_20 rfl ?_
  refine lv_topi (fun x9 ex9 => ?_)
  refine h_bast hx hb hK hT2 (fun _ h => h) hS2 (hM.at 2 rfl) (h_inc (by decide)) trivial dX11_four_21 (fun H3 locs hT3 hS3 hu3 => ?_)
  refine lv_aload_n hx hb dX11_four_22 rfl (lv_at hl 1 rfl) ?_
  refine lv_dup hx hb dX11_four_23 rfl ?_
  refine h_geti (C := RX11) (T := TX11) (N := 23) hx hb hts inX11 hown hK hT3 (hM.o rfl) rfl 10 rfl wF_X11_168 rfl dX11_four_24 (fun p10 => ?_)
  refine h_top (v := 17) ((h_gi_same (hu3.2.1 _ (by omega))).trans (h_pu hu2)) ?_
  refine lv_iconst (v := 1) hx hb dX11_four_27 (by decide) ?_
  refine lv_iadd hx hb dX11_four_28 ?_
  refine h_top (v := 18) (by decide) ?_
  refine h_puti (C := RX11) (T := TX11) (N := 23) hx hb hts inX11 tyX11 tyX11_ok nmX11 hown hK hT3 (fun _ h => h) hS3 (hM.o rfl) rfl 10 rfl wF_X11_168 rfl rfl trivial rfl rfl dX11_four_29 (fun H4 locs hT4 hS4 hu4 => ?_)
  refine lv_iinc (v := 1) (lv' := [(2, .int 1), (0, .ref (o)), (1, .int u1)]) hx hb dX11_four_32 hl (k := 0) rfl (by decide) (by decide) rfl (fun ls hl => ?_)
  refine lv_goto (tgt := 2) hx hb dX11_four_35 (by decide) ?_
  refine lv_iload_n hx hb dX11_four_2 rfl (lv_at hl 0 rfl) ?_
  refine lv_if_lt (tgt := 38) hx hb dX11_four_3 (by decide) (fun h => absurd h (by decide)) (fun _ => ?_)
  refine lv_aload_n hx hb dX11_four_6 rfl (lv_at hl 1 rfl) ?_
  refine h_getr (C := RX11) (T := TX11) (N := 23) hx hb hts inX11 hown hK hT4 (hM.o rfl) rfl 7 rfl wF_X11_13 rfl dX11_four_7 ?_
  refine lv_aload_n hx hb dX11_four_10 rfl (lv_at hl 1 rfl) ?_
  refine h_geti (C := RX11) (T := TX11) (N := 23) hx hb hts inX11 hown hK hT4 (hM.o rfl) rfl 10 rfl wF_X11_168 rfl dX11_four_11 (fun p12 => ?_)
  refine h_top (v := 18) (h_pu hu4) ?_
  refine lv_iload_n hx hb dX11_four_14 rfl (lv_at hl 2 rfl) ?_
  refine lv_bipush (v := 8) hx hb dX11_four_15 (by decide) ?_
  refine lv_iload_n hx hb dX11_four_17 rfl (lv_at hl 0 rfl) ?_
  refine lv_imul hx hb dX11_four_18 ?_
  refine h_top (v := 8) (by decide) ?_
  refine lv_ishr hx hb dX11_four_19 ?_
  refine lv_topi (fun x13 ex13 => ?_)
  refine lv_i2b hx hb dX11_four_20 rfl ?_
  refine lv_topi (fun x14 ex14 => ?_)
  refine h_bast hx hb hK hT4 (fun _ h => h) hS4 (hM.at 2 rfl) (h_inc (by decide)) trivial dX11_four_21 (fun H5 locs hT5 hS5 hu5 => ?_)
  refine lv_aload_n hx hb dX11_four_22 rfl (lv_at hl 1 rfl) ?_
  refine lv_dup hx hb dX11_four_23 rfl ?_
  refine h_geti (C := RX11) (T := TX11) (N := 23) hx hb hts inX11 hown hK hT5 (hM.o rfl) rfl 10 rfl wF_X11_168 rfl dX11_four_24 (fun p15 => ?_)
  refine h_top (v := 18) ((h_gi_same (hu5.2.1 _ (by omega))).trans (h_pu hu4)) ?_
  refine lv_iconst (v := 1) hx hb dX11_four_27 (by decide) ?_
  refine lv_iadd hx hb dX11_four_28 ?_
  refine h_top (v := 19) (by decide) ?_
  refine h_puti (C := RX11) (T := TX11) (N := 23) hx hb hts inX11 tyX11 tyX11_ok nmX11 hown hK hT5 (fun _ h => h) hS5 (hM.o rfl) rfl 10 rfl wF_X11_168 rfl rfl trivial rfl rfl dX11_four_29 (fun H6 locs hT6 hS6 hu6 => ?_)
  refine lv_iinc (v := 0) (lv' := [(2, .int 0), (0, .ref (o)), (1, .int u1)]) hx hb dX11_four_32 hl (k := 0) rfl (by decide) (by decide) rfl (fun ls hl => ?_)
  refine lv_goto (tgt := 2) hx hb dX11_four_35 (by decide) ?_
  refine lv_iload_n hx hb dX11_four_2 rfl (lv_at hl 0 rfl) ?_
  refine lv_if_lt (tgt := 38) hx hb dX11_four_3 (by decide) (fun h => absurd h (by decide)) (fun _ => ?_)
  refine lv_aload_n hx hb dX11_four_6 rfl (lv_at hl 1 rfl) ?_
  refine h_getr (C := RX11) (T := TX11) (N := 23) hx hb hts inX11 hown hK hT6 (hM.o rfl) rfl 7 rfl wF_X11_13 rfl dX11_four_7 ?_
  refine lv_aload_n hx hb dX11_four_10 rfl (lv_at hl 1 rfl) ?_
  refine h_geti (C := RX11) (T := TX11) (N := 23) hx hb hts inX11 hown hK hT6 (hM.o rfl) rfl 10 rfl wF_X11_168 rfl dX11_four_11 (fun p17 => ?_)
  refine h_top (v := 19) (h_pu hu6) ?_
  refine lv_iload_n hx hb dX11_four_14 rfl (lv_at hl 2 rfl) ?_
  refine lv_bipush (v := 8) hx hb dX11_four_15 (by decide) ?_
  refine lv_iload_n hx hb dX11_four_17 rfl (lv_at hl 0 rfl) ?_
  refine lv_imul hx hb dX11_four_18 ?_
  refine h_top (v := 0) (by decide) ?_
  refine lv_ishr hx hb dX11_four_19 ?_
  refine lv_topi (fun x18 ex18 => ?_)
  refine lv_i2b hx hb dX11_four_20 rfl ?_
  refine lv_topi (fun x19 ex19 => ?_)
  refine h_bast hx hb hK hT6 (fun _ h => h) hS6 (hM.at 2 rfl) (h_inc (by decide)) trivial dX11_four_21 (fun H7 locs hT7 hS7 hu7 => ?_)
  refine lv_aload_n hx hb dX11_four_22 rfl (lv_at hl 1 rfl) ?_
  refine lv_dup hx hb dX11_four_23 rfl ?_
  refine h_geti (C := RX11) (T := TX11) (N := 23) hx hb hts inX11 hown hK hT7 (hM.o rfl) rfl 10 rfl wF_X11_168 rfl dX11_four_24 (fun p20 => ?_)
  refine h_top (v := 19) ((h_gi_same (hu7.2.1 _ (by omega))).trans (h_pu hu6)) ?_
  refine lv_iconst (v := 1) hx hb dX11_four_27 (by decide) ?_
  refine lv_iadd hx hb dX11_four_28 ?_
  refine h_top (v := 20) (by decide) ?_
  refine h_puti (C := RX11) (T := TX11) (N := 23) hx hb hts inX11 tyX11 tyX11_ok nmX11 hown hK hT7 (fun _ h => h) hS7 (hM.o rfl) rfl 10 rfl wF_X11_168 rfl rfl trivial rfl rfl dX11_four_29 (fun H8 locs hT8 hS8 hu8 => ?_)
  refine lv_iinc (v := (-1)) (lv' := [(2, .int (-1)), (0, .ref (o)), (1, .int u1)]) hx hb dX11_four_32 hl (k := 0) rfl (by decide) (by decide) rfl (fun ls hl => ?_)
  refine lv_goto (tgt := 2) hx hb dX11_four_35 (by decide) ?_
  refine lv_iload_n hx hb dX11_four_2 rfl (lv_at hl 0 rfl) ?_
  refine lv_if_lt (tgt := 38) hx hb dX11_four_3 (by decide) (fun _ => ?_) (fun h => absurd (by decide) h)
  exact hret _ _ _ _ hT8 hS8 (h_pu hu8) dX11_four_38
set_option maxHeartbeats 4000000 in
set_option maxRecDepth 100000 in
theorem c_X11_feed (l : Launch) (G : hG) (Y : hW) (o : Nat) (hM : h_On Y o (modE tF o)) (u1 u2 u3 u4 u5 : Int32) : hMi l yX11_feed cX11_feed 6 (some .int) 1 22 G Y [.ref (o), .int u1, .int u2, .int u3, .int u4, .int u5] (fun H => h_gi G H 11 o 10 = 0) (fun H r H1 => r = 20) := by
  refine h_ofi (by decide +kernel) (Nat.le_of_ble_eq_true rfl) ?_
  intro p e s m args below meth c H0 ls Q hx hb hts hown hml hK hT0 hpr hS0 hl hret
  have hl : lv_has ls 6 [(0, .ref (o)), (1, .int u1), (2, .int u2), (3, .int u3), (4, .int u4), (5, .int u5)] := hl
  refine lv_aload_n hx hb dX11_feed_0 rfl (lv_at hl 0 rfl) ?_
  refine h_geti (C := RX11) (T := TX11) (N := 23) hx hb hts inX11 hown hK hT0 (hM.o rfl) rfl 10 rfl wF_X11_168 rfl dX11_feed_1 (fun p1 => ?_)
  refine h_top (v := 0) hpr ?_
  refine lv_sipush (v := 480) hx hb dX11_feed_4 (by decide) ?_
  refine lv_icmp_le (tgt := 12) hx hb dX11_feed_7 (by decide) (fun _ => ?_) (fun h => absurd (by decide) h)
  refine lv_aload_n hx hb dX11_feed_12 rfl (lv_at hl 0 rfl) ?_
  refine lv_iload_n hx hb dX11_feed_13 rfl (lv_at hl 1 rfl) ?_
  refine h_callVv (T := TX11) (rest := []) (As := [.int u1]) hx hb hml hown hts hK hT0 (fun _ h => h) hS0 (c_four_0 l G Y (o) hM u1) hpr wd_X11_four wV_X11_four wL_X11_171 (hM.o rfl) rfl rfl hl.1 rfl (Nat.le_of_ble_eq_true rfl) dX11_feed_14 ⟨Nat.le_of_ble_eq_true rfl, Nat.le_of_ble_eq_true rfl⟩ ⟨Nat.zero_le _, Nat.zero_le _⟩ (fun H1 locs hp1 hT1 hS1 hk1 => ?_)
  refine lv_aload_n hx hb dX11_feed_17 rfl (lv_at hl 0 rfl) ?_
  refine lv_iload_n hx hb dX11_feed_18 rfl (lv_at hl 2 rfl) ?_
  refine h_callVv (T := TX11) (rest := []) (As := [.int u2]) hx hb hml hown hts hK hT1 (fun _ h => h) hS1 (c_four_4 l G Y (o) hM u2) hp1 wd_X11_four wV_X11_four wL_X11_171 (hM.o rfl) rfl rfl hl.1 rfl (Nat.le_of_ble_eq_true rfl) dX11_feed_19 ⟨Nat.le_of_ble_eq_true rfl, Nat.le_of_ble_eq_true rfl⟩ ⟨Nat.zero_le _, Nat.zero_le _⟩ (fun H2 locs hp2 hT2 hS2 hk2 => ?_)
  refine lv_aload_n hx hb dX11_feed_22 rfl (lv_at hl 0 rfl) ?_
  refine lv_iload_n hx hb dX11_feed_23 rfl (lv_at hl 3 rfl) ?_
  refine h_callVv (T := TX11) (rest := []) (As := [.int u3]) hx hb hml hown hts hK hT2 (fun _ h => h) hS2 (c_four_8 l G Y (o) hM u3) hp2 wd_X11_four wV_X11_four wL_X11_171 (hM.o rfl) rfl rfl hl.1 rfl (Nat.le_of_ble_eq_true rfl) dX11_feed_24 ⟨Nat.le_of_ble_eq_true rfl, Nat.le_of_ble_eq_true rfl⟩ ⟨Nat.zero_le _, Nat.zero_le _⟩ (fun H3 locs hp3 hT3 hS3 hk3 => ?_)
  refine lv_aload_n hx hb dX11_feed_27 rfl (lv_at hl 0 rfl) ?_
  refine lv_iload hx hb dX11_feed_28 (lv_at hl 4 rfl) ?_
  refine h_callVv (T := TX11) (rest := []) (As := [.int u4]) hx hb hml hown hts hK hT3 (fun _ h => h) hS3 (c_four_12 l G Y (o) hM u4) hp3 wd_X11_four wV_X11_four wL_X11_171 (hM.o rfl) rfl rfl hl.1 rfl (Nat.le_of_ble_eq_true rfl) dX11_feed_30 ⟨Nat.le_of_ble_eq_true rfl, Nat.le_of_ble_eq_true rfl⟩ ⟨Nat.zero_le _, Nat.zero_le _⟩ (fun H4 locs hp4 hT4 hS4 hk4 => ?_)
  refine lv_aload_n hx hb dX11_feed_33 rfl (lv_at hl 0 rfl) ?_
  refine lv_iload hx hb dX11_feed_34 (lv_at hl 5 rfl) ?_
  refine h_callVv (T := TX11) (rest := []) (As := [.int u5]) hx hb hml hown hts hK hT4 (fun _ h => h) hS4 (c_four_16 l G Y (o) hM u5) hp4 wd_X11_four wV_X11_four wL_X11_171 (hM.o rfl) rfl rfl hl.1 rfl (Nat.le_of_ble_eq_true rfl) dX11_feed_36 ⟨Nat.le_of_ble_eq_true rfl, Nat.le_of_ble_eq_true rfl⟩ ⟨Nat.zero_le _, Nat.zero_le _⟩ (fun H5 locs hp5 hT5 hS5 hk5 => ?_)
  refine lv_aload_n hx hb dX11_feed_39 rfl (lv_at hl 0 rfl) ?_
  refine h_geti (C := RX11) (T := TX11) (N := 23) hx hb hts inX11 hown hK hT5 (hM.o rfl) rfl 10 rfl wF_X11_168 rfl dX11_feed_40 (fun p3 => ?_)
  refine h_top (v := 20) hp5 ?_
  exact hret _ _ _ _ _ hT5 hS5 rfl dX11_feed_43
