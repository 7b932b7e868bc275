set_option maxHeartbeats 4000000 in
set_option maxRecDepth 100000 in
theorem c_hasCome_0 (l : Launch) (G : hG) (Y : hW) (pa o c0 : Nat) (hP : h_On Y pa (paE tF pa o c0)) (hY : h_On Y o (ringE tF o)) (hC : h_On Y c0 (ringE tF c0)) (u1 : Int32) : hMi l yX1_hasCome cX1_hasCome 3 (some .boolean) 1 21 G Y [.ref (pa), .int 0, .int u1] (fun H => True) (fun H r H1 => r = 1 ∧ H1 = H) := by
  refine h_ofz (by decide +kernel) (Nat.le_of_ble_eq_true rfl) ?_
  intro p e s m args below meth c H0 ls Q hx hb hts hown hml hK hT0 hpr hS0 hl hret
  have hl : lv_has ls 3 [(0, .ref (pa)), (1, .int 0), (2, .int u1)] := hl
  refine lv_iload_n hx hb dX1_hasCome_0 rfl (lv_at hl 1 rfl) ?_
  refine lv_tableIn (tgt := 40) hx hb dX1_hasCome_1 (by decide) (by decide) rfl (by decide) ?_
  refine lv_aload_n hx hb dX1_hasCome_40 rfl (lv_at hl 0 rfl) ?_
  refine h_getr (C := RX1) (T := TX1) (N := 4) hx hb hts inX1 hown hK hT0 (hP.o rfl) rfl 1 rfl wF_X1_22 rfl dX1_hasCome_41 ?_
  refine h_callVi (T := TX5) (rest := []) (As := []) hx hb hml hown hts hK hT0 (fun _ h => h) hS0 (c_X5_isQuiet l G Y (c0) hC) trivial wd_X5_isQuiet wV_X5_isQuiet wL_X1_39 (on_rg hC) rfl rfl hl.1 rfl (Nat.le_of_ble_eq_true rfl) dX1_hasCome_44 ⟨Nat.le_of_ble_eq_true rfl, Nat.le_of_ble_eq_true rfl⟩ ⟨Nat.zero_le _, Nat.zero_le _⟩ (fun r1 H1 locs hp1 hT1 hS1 hk1 => ?_)
  obtain ⟨hp1, he⟩ := hp1
  have he := he.symm
  subst he
  have hp1 : r1 = 1 := hp1
  subst hp1
  exact hret _ _ _ _ _ hT0 hS1 ⟨by decide, rfl, rfl⟩ dX1_hasCome_47
set_option maxHeartbeats 4000000 in
set_option maxRecDepth 100000 in
theorem c_hasCome_2 (l : Launch) (G : hG) (Y : hW) (pa o c0 : Nat) (hP : h_On Y pa (paE tF pa o c0)) (hY : h_On Y o (ringE tF o)) (hC : h_On Y c0 (ringE tF c0)) (u1 : Int32) : hMi l yX1_hasCome cX1_hasCome 3 (some .boolean) 1 21 G Y [.ref (pa), .int 2, .int u1] (fun H => True) (fun H r H1 => r = 1 ∧ H1 = H) := by
  refine h_ofz (by decide +kernel) (Nat.le_of_ble_eq_true rfl) ?_
  intro p e s m args below meth c H0 ls Q hx hb hts hown hml hK hT0 hpr hS0 hl hret
  have hl : lv_has ls 3 [(0, .ref (pa)), (1, .int 2), (2, .int u1)] := hl
  refine lv_iload_n hx hb dX1_hasCome_0 rfl (lv_at hl 1 rfl) ?_
  refine lv_tableIn (tgt := 65) hx hb dX1_hasCome_1 (by decide) (by decide) rfl (by decide) ?_
  refine lv_aload_n hx hb dX1_hasCome_65 rfl (lv_at hl 0 rfl) ?_
  refine h_getr (C := RX1) (T := TX1) (N := 4) hx hb hts inX1 hown hK hT0 (hP.o rfl) rfl 1 rfl wF_X1_22 rfl dX1_hasCome_66 ?_
  refine h_getr (C := RX5) (T := TX5) (N := 11) hx hb hts inX5 hown hK hT0 (on_rg hC) rfl 2 rfl wF_X1_47 rfl dX1_hasCome_69 ?_
  refine h_callVi (T := TX3) (rest := []) (As := []) hx hb hml hown hts hK hT0 (fun _ h => h) hS0 (c_X3_isEmpty l G Y (c0 + 13) (on_ra hC)) trivial wd_X3_isEmpty wV_X3_isEmpty wL_X1_51 ((on_ra hC).o rfl) rfl rfl hl.1 rfl (Nat.le_of_ble_eq_true rfl) dX1_hasCome_72 ⟨Nat.le_of_ble_eq_true rfl, Nat.le_of_ble_eq_true rfl⟩ ⟨Nat.zero_le _, Nat.zero_le _⟩ (fun r1 H1 locs hp1 hT1 hS1 hk1 => ?_)
  obtain ⟨hp1, he⟩ := hp1
  have he := he.symm
  subst he
  have hp1 : r1 = 1 := hp1
  subst hp1
  exact hret _ _ _ _ _ hT0 hS1 ⟨by decide, rfl, rfl⟩ dX1_hasCome_75
set_option maxHeartbeats 4000000 in
set_option maxRecDepth 100000 in
theorem c_hasCome_3 (l : Launch) (G : hG) (Y : hW) (pa o c0 : Nat) (hP : h_On Y pa (paE tF pa o c0)) (hY : h_On Y o (ringE tF o)) (hC : h_On Y c0 (ringE tF c0)) (u1 : Int32) : hMi l yX1_hasCome cX1_hasCome 3 (some .boolean) 0 0 G Y [.ref (pa), .int 3, .int u1] (fun H => True) (fun H r H1 => r = 0 ∧ H1 = H) := by
  refine h_ofz (by decide +kernel) (Nat.le_of_ble_eq_true rfl) ?_
  intro p e s m args below meth c H0 ls Q hx hb hts hown hml hK hT0 hpr hS0 hl hret
  have hl : lv_has ls 3 [(0, .ref (pa)), (1, .int 3), (2, .int u1)] := hl
  refine lv_iload_n hx hb dX1_hasCome_0 rfl (lv_at hl 1 rfl) ?_
  refine lv_tableIn (tgt := 76) hx hb dX1_hasCome_1 (by decide) (by decide) rfl (by decide) ?_
  refine lv_aload_n hx hb dX1_hasCome_76 rfl (lv_at hl 0 rfl) ?_
  refine h_getr (C := RX1) (T := TX1) (N := 4) hx hb hts inX1 hown hK hT0 (hP.o rfl) rfl 1 rfl wF_X1_22 rfl dX1_hasCome_77 ?_
  refine h_getr (C := RX5) (T := TX5) (N := 11) hx hb hts inX5 hown hK hT0 (on_rg hC) rfl 3 rfl wF_X1_56 rfl dX1_hasCome_80 ?_
  refine h_getc (v := 0) (C := RX9) (T := TX9) (N := 11) hx hb hts inX9 hown hK hT0 ((on_wa hC).o rfl) rfl 0 rfl wF_X1_60 rfl (fun _ h => h) dX1_hasCome_83 ?_
  refine lv_iconst (v := 1) hx hb dX1_hasCome_86 (by decide) ?_
  refine lv_icmp_ne (tgt := 94) hx hb dX1_hasCome_87 (by decide) (fun _ => ?_) (fun h => absurd h (by decide))
  refine lv_iconst (v := 0) hx hb dX1_hasCome_94 (by decide) ?_
  exact hret _ _ _ _ _ hT0 hS0 ⟨by decide, rfl, rfl⟩ dX1_hasCome_95
set_option maxHeartbeats 4000000 in
set_option maxRecDepth 100000 in
theorem c_hasCome_4 (l : Launch) (G : hG) (Y : hW) (pa o c0 : Nat) (hP : h_On Y pa (paE tF pa o c0)) (hY : h_On Y o (ringE tF o)) (hC : h_On Y c0 (ringE tF c0)) (u1 : Int32) : hMi l yX1_hasCome cX1_hasCome 3 (some .boolean) 0 0 G Y [.ref (pa), .int 4, .int u1] (fun H => True) (fun H r H1 => r = 0 ∧ H1 = H) := by
  refine h_ofz (by decide +kernel) (Nat.le_of_ble_eq_true rfl) ?_
  intro p e s m args below meth c H0 ls Q hx hb hts hown hml hK hT0 hpr hS0 hl hret
  have hl : lv_has ls 3 [(0, .ref (pa)), (1, .int 4), (2, .int u1)] := hl
  refine lv_iload_n hx hb dX1_hasCome_0 rfl (lv_at hl 1 rfl) ?_
  refine lv_tableIn (tgt := 96) hx hb dX1_hasCome_1 (by decide) (by decide) rfl (by decide) ?_
  refine lv_aload_n hx hb dX1_hasCome_96 rfl (lv_at hl 0 rfl) ?_
  refine h_getr (C := RX1) (T := TX1) (N := 4) hx hb hts inX1 hown hK hT0 (hP.o rfl) rfl 1 rfl wF_X1_22 rfl dX1_hasCome_97 ?_
  refine h_getc (v := 0) (C := RX5) (T := TX5) (N := 11) hx hb hts inX5 hown hK hT0 (on_rg hC) rfl 10 rfl wF_X1_65 rfl (fun _ h => h) dX1_hasCome_100 ?_
  exact hret _ _ _ _ _ hT0 hS0 ⟨by decide, rfl, rfl⟩ dX1_hasCome_103
set_option maxHeartbeats 4000000 in
set_option maxRecDepth 100000 in
theorem c_hasCome_5 (l : Launch) (G : hG) (Y : hW) (pa o c0 : Nat) (hP : h_On Y pa (paE tF pa o c0)) (hY : h_On Y o (ringE tF o)) (hC : h_On Y c0 (ringE tF c0)) (u1 : Int32) : hMi l yX1_hasCome cX1_hasCome 3 (some .boolean) 0 0 G Y [.ref (pa), .int 5, .int u1] (fun H => True) (fun H r H1 => r = 0 ∧ H1 = H) := by
  refine h_ofz (by decide +kernel) (Nat.le_of_ble_eq_true rfl) ?_
  intro p e s m args below meth c H0 ls Q hx hb hts hown hml hK hT0 hpr hS0 hl hret
  have hl : lv_has ls 3 [(0, .ref (pa)), (1, .int 5), (2, .int u1)] := hl
  refine lv_iload_n hx hb dX1_hasCome_0 rfl (lv_at hl 1 rfl) ?_
  refine lv_tableIn (tgt := 104) hx hb dX1_hasCome_1 (by decide) (by decide) rfl (by decide) ?_
  refine lv_aload_n hx hb dX1_hasCome_104 rfl (lv_at hl 0 rfl) ?_
  refine h_getr (C := RX1) (T := TX1) (N := 4) hx hb hts inX1 hown hK hT0 (hP.o rfl) rfl 1 rfl wF_X1_22 rfl dX1_hasCome_105 ?_
  refine h_getc (v := (-1)) (C := RX5) (T := TX5) (N := 11) hx hb hts inX5 hown hK hT0 (on_rg hC) rfl 9 rfl wF_X1_69 rfl (fun _ h => h) dX1_hasCome_108 ?_
  refine lv_iconst (v := (-1)) hx hb dX1_hasCome_111 (by decide) ?_
  refine lv_icmp_eq (tgt := 119) hx hb dX1_hasCome_112 (by decide) (fun _ => ?_) (fun h => absurd (by decide) h)
  refine lv_iconst (v := 0) hx hb dX1_hasCome_119 (by decide) ?_
  exact hret _ _ _ _ _ hT0 hS0 ⟨by decide, rfl, rfl⟩ dX1_hasCome_120
set_option maxHeartbeats 4000000 in
set_option maxRecDepth 100000 in
theorem c_ticksTill_0 (l : Launch) (G : hG) (Y : hW) (pa o c0 : Nat) (hP : h_On Y pa (paE tF pa o c0)) (hY : h_On Y o (ringE tF o)) (hC : h_On Y c0 (ringE tF c0)) (u1 u2 : Int32) : hMi l yX1_ticksTill cX1_ticksTill 5 (some .int) 3 102 G Y [.ref (pa), .int 0, .int u1, .int u2] (fun H => True) (fun H r H1 => r = 0) := by
  refine h_ofi (by decide +kernel) (Nat.le_of_ble_eq_true rfl) ?_
  intro p e s m args below meth c H0 ls Q hx hb hts hown hml hK hT0 hpr hS0 hl hret
  have hl : lv_has ls 5 [(0, .ref (pa)), (1, .int 0), (2, .int u1), (3, .int u2)] := hl
  refine lv_aload_n hx hb dX1_ticksTill_0 rfl (lv_at hl 0 rfl) ?_
  refine h_getr (C := RX1) (T := TX1) (N := 4) hx hb hts inX1 hown hK hT0 (hP.o rfl) rfl 1 rfl wF_X1_22 rfl dX1_ticksTill_1 ?_
  refine lv_aload_n hx hb dX1_ticksTill_4 rfl (lv_at hl 0 rfl) ?_
  refine h_getr (C := RX1) (T := TX1) (N := 4) hx hb hts inX1 hown hK hT0 (hP.o rfl) rfl 0 rfl wF_X1_18 rfl dX1_ticksTill_5 ?_
  refine h_callVv (T := TX5) (rest := []) (As := [.ref (o)]) hx hb hml hown hts hK hT0 (fun _ h => h) hS0 (c_X5_copyFrom l G Y (c0) (o) hC hY) trivial wd_X5_copyFrom wV_X5_copyFrom wL_X1_25 (on_rg hC) rfl rfl hl.1 rfl (Nat.le_of_ble_eq_true rfl) dX1_ticksTill_8 ⟨Nat.le_of_ble_eq_true rfl, Nat.le_of_ble_eq_true rfl⟩ ⟨Nat.zero_le _, Nat.zero_le _⟩ (fun H1 locs hp1 hT1 hS1 hk1 => ?_)
  refine lv_iconst (v := 0) hx hb dX1_ticksTill_11 (by decide) ?_
  refine lv_istore (lv' := [(4, .int 0), (0, .ref (pa)), (1, .int 0), (2, .int u1), (3, .int u2)]) hx hb dX1_ticksTill_12 hl (by decide) rfl (fun ls hl => ?_)
  refine lv_iload hx hb dX1_ticksTill_14 (lv_at hl 0 rfl) ?_
  refine lv_sipush (v := 3000) hx hb dX1_ticksTill_16 (by decide) ?_
  refine lv_icmp_gt (tgt := 48) hx hb dX1_ticksTill_19 (by decide) (fun h => absurd h (by decide)) (fun _ => ?_)
  refine lv_aload_n hx hb dX1_ticksTill_22 rfl (lv_at hl 1 rfl) ?_
  refine lv_iload_n hx hb dX1_ticksTill_23 rfl (lv_at hl 2 rfl) ?_
  refine lv_iload_n hx hb dX1_ticksTill_24 rfl (lv_at hl 3 rfl) ?_
  refine h_callVi (T := TX1) (rest := []) (As := [.int 0, .int u1]) hx hb hml hown hts hK hT1 (fun _ h => h) hS1 (c_hasCome_0 l G Y (pa) (o) (c0) hP hY hC u1) trivial wd_X1_hasCome wV_X1_hasCome wL_X1_31 (hP.o rfl) rfl rfl hl.1 rfl (Nat.le_of_ble_eq_true rfl) dX1_ticksTill_25 ⟨Nat.le_of_ble_eq_true rfl, Nat.le_of_ble_eq_true rfl⟩ ⟨Nat.zero_le _, Nat.zero_le _⟩ (fun r2 H2 locs hp2 hT2 hS2 hk2 => ?_)
  obtain ⟨hp2, he⟩ := hp2
  have he := he.symm
  subst he
  have hp2 : r2 = 1 := hp2
  subst hp2
  refine lv_if_eq (tgt := 34) hx hb dX1_ticksTill_28 (by decide) (fun h => absurd h (by decide)) (fun _ => ?_)
  refine lv_iload hx hb dX1_ticksTill_31 (lv_at hl 0 rfl) ?_
  exact hret _ _ _ _ _ hT1 hS2 rfl dX1_ticksTill_33
set_option maxHeartbeats 4000000 in
set_option maxRecDepth 100000 in
theorem c_ticksTill_2 (l : Launch) (G : hG) (Y : hW) (pa o c0 : Nat) (hP : h_On Y pa (paE tF pa o c0)) (hY : h_On Y o (ringE tF o)) (hC : h_On Y c0 (ringE tF c0)) (u1 u2 : Int32) : hMi l yX1_ticksTill cX1_ticksTill 5 (some .int) 3 102 G Y [.ref (pa), .int 2, .int u1, .int u2] (fun H => True) (fun H r H1 => r = 0) := by
  refine h_ofi (by decide +kernel) (Nat.le_of_ble_eq_true rfl) ?_
  intro p e s m args below meth c H0 ls Q hx hb hts hown hml hK hT0 hpr hS0 hl hret
  have hl : lv_has ls 5 [(0, .ref (pa)), (1, .int 2), (2, .int u1), (3, .int u2)] := hl
  refine lv_aload_n hx hb dX1_ticksTill_0 rfl (lv_at hl 0 rfl) ?_
  refine h_getr (C := RX1) (T := TX1) (N := 4) hx hb hts inX1 hown hK hT0 (hP.o rfl) rfl 1 rfl wF_X1_22 rfl dX1_ticksTill_1 ?_
  refine lv_aload_n hx hb dX1_ticksTill_4 rfl (lv_at hl 0 rfl) ?_
  refine h_getr (C := RX1) (T := TX1) (N := 4) hx hb hts inX1 hown hK hT0 (hP.o rfl) rfl 0 rfl wF_X1_18 rfl dX1_ticksTill_5 ?_
  refine h_callVv (T := TX5) (rest := []) (As := [.ref (o)]) hx hb hml hown hts hK hT0 (fun _ h => h) hS0 (c_X5_copyFrom l G Y (c0) (o) hC hY) trivial wd_X5_copyFrom wV_X5_copyFrom wL_X1_25 (on_rg hC) rfl rfl hl.1 rfl (Nat.le_of_ble_eq_true rfl) dX1_ticksTill_8 ⟨Nat.le_of_ble_eq_true rfl, Nat.le_of_ble_eq_true rfl⟩ ⟨Nat.zero_le _, Nat.zero_le _⟩ (fun H1 locs hp1 hT1 hS1 hk1 => ?_)
  refine lv_iconst (v := 0) hx hb dX1_ticksTill_11 (by decide) ?_
  refine lv_istore (lv' := [(4, .int 0), (0, .ref (pa)), (1, .int 2), (2, .int u1), (3, .int u2)]) hx hb dX1_ticksTill_12 hl (by decide) rfl (fun ls hl => ?_)
  refine lv_iload hx hb dX1_ticksTill_14 (lv_at hl 0 rfl) ?_
  refine lv_sipush (v := 3000) hx hb dX1_ticksTill_16 (by decide) ?_
  refine lv_icmp_gt (tgt := 48) hx hb dX1_ticksTill_19 (by decide) (fun h => absurd h (by decide)) (fun _ => ?_)
  refine lv_aload_n hx hb dX1_ticksTill_22 rfl (lv_at hl 1 rfl) ?_
  refine lv_iload_n hx hb dX1_ticksTill_23 rfl (lv_at hl 2 rfl) ?_
  refine lv_iload_n hx hb dX1_ticksTill_24 rfl (lv_at hl 3 rfl) ?_
  refine h_callVi (T := TX1) (rest := []) (As := [.int 2, .int u1]) hx hb hml hown hts hK hT1 (fun _ h => h) hS1 (c_hasCome_2 l G Y (pa) (o) (c0) hP hY hC u1) trivial wd_X1_hasCome wV_X1_hasCome wL_X1_31 (hP.o rfl) rfl rfl hl.1 rfl (Nat.le_of_ble_eq_true rfl) dX1_ticksTill_25 ⟨Nat.le_of_ble_eq_true rfl, Nat.le_of_ble_eq_true rfl⟩ ⟨Nat.zero_le _, Nat.zero_le _⟩ (fun r2 H2 locs hp2 hT2 hS2 hk2 => ?_)
  obtain ⟨hp2, he⟩ := hp2
  have he := he.symm
  subst he
  have hp2 : r2 = 1 := hp2
  subst hp2
  refine lv_if_eq (tgt := 34) hx hb dX1_ticksTill_28 (by decide) (fun h => absurd h (by decide)) (fun _ => ?_)
  refine lv_iload hx hb dX1_ticksTill_31 (lv_at hl 0 rfl) ?_
  exact hret _ _ _ _ _ hT1 hS2 rfl dX1_ticksTill_33
set_option maxHeartbeats 4000000 in
set_option maxRecDepth 100000 in
theorem c_ticksTill_3 (l : Launch) (G : hG) (Y : hW) (pa o c0 : Nat) (hP : h_On Y pa (paE tF pa o c0)) (hY : h_On Y o (ringE tF o)) (hC : h_On Y c0 (ringE tF c0)) (u1 u2 : Int32) : hMi l yX1_ticksTill cX1_ticksTill 5 (some .int) 4 102 G Y [.ref (pa), .int 3, .int u1, .int u2] (fun H => True) (fun H r H1 => r = (-1)) := by
  refine h_ofi (by decide +kernel) (Nat.le_of_ble_eq_true rfl) ?_
  intro p e s m args below meth c H0 ls Q hx hb hts hown hml hK hT0 hpr hS0 hl hret
  have hl : lv_has ls 5 [(0, .ref (pa)), (1, .int 3), (2, .int u1), (3, .int u2)] := hl
  refine lv_aload_n hx hb dX1_ticksTill_0 rfl (lv_at hl 0 rfl) ?_
  refine h_getr (C := RX1) (T := TX1) (N := 4) hx hb hts inX1 hown hK hT0 (hP.o rfl) rfl 1 rfl wF_X1_22 rfl dX1_ticksTill_1 ?_
  refine lv_aload_n hx hb dX1_ticksTill_4 rfl (lv_at hl 0 rfl) ?_
  refine h_getr (C := RX1) (T := TX1) (N := 4) hx hb hts inX1 hown hK hT0 (hP.o rfl) rfl 0 rfl wF_X1_18 rfl dX1_ticksTill_5 ?_
  refine h_callVv (T := TX5) (rest := []) (As := [.ref (o)]) hx hb hml hown hts hK hT0 (fun _ h => h) hS0 (c_X5_copyFrom l G Y (c0) (o) hC hY) trivial wd_X5_copyFrom wV_X5_copyFrom wL_X1_25 (on_rg hC) rfl rfl hl.1 rfl (Nat.le_of_ble_eq_true rfl) dX1_ticksTill_8 ⟨Nat.le_of_ble_eq_true rfl, Nat.le_of_ble_eq_true rfl⟩ ⟨Nat.zero_le _, Nat.zero_le _⟩ (fun H1 locs hp1 hT1 hS1 hk1 => ?_)
  refine lv_iconst (v := 0) hx hb dX1_ticksTill_11 (by decide) ?_
  refine lv_istore (lv' := [(4, .int 0), (0, .ref (pa)), (1, .int 3), (2, .int u1), (3, .int u2)]) hx hb dX1_ticksTill_12 hl (by decide) rfl (fun ls hl => ?_)
  have LP : ∀ (q k : Nat), q + k = 3001 → ∀ (H0 : Heap) (locs : List Loc) (ls : Array Slot), hT G Y H0 → va_S (h_A Y) s.heap H0 locs → lv_has ls 5 [(4, .int (nI k)), (0, .ref (pa)), (1, .int 3), (2, .int u1), (3, .int u2)] → W p l e (h_rm 4 102) s m args below meth c H0 locs 0 0 Q (F0 m 14 ls []) := by
    intro q
    induction q with
    | zero =>
      intro k hk H0 locs ls  hT0 hS0  hl
      obtain rfl : k = 3001 := by omega
      refine lv_iload hx hb dX1_ticksTill_14 (lv_at hl 0 rfl) ?_
      refine lv_sipush (v := 3000) hx hb dX1_ticksTill_16 (by decide) ?_
      refine lv_icmp_gt (tgt := 48) hx hb dX1_ticksTill_19 (by decide) (fun _ => ?_) (fun h => absurd (by decide) h)
      refine lv_iconst (v := (-1)) hx hb dX1_ticksTill_48 (by decide) ?_
      exact hret _ _ _ _ _ hT0 hS0 rfl dX1_ticksTill_49
    | succ q ih =>
      intro k hk H0 locs ls  hT0 hS0  hl
      refine lv_iload hx hb dX1_ticksTill_14 (lv_at hl 0 rfl) ?_
      refine lv_sipush (v := 3000) hx hb dX1_ticksTill_16 (by decide) ?_
      refine lv_icmp_gt (tgt := 48) hx hb dX1_ticksTill_19 (by decide) (fun h => absurd h (by have h9 := nI_toInt (n := k) (by omega); have h8 : (3000 : Int32).toInt = 3000 := rfl; simp only [Int32.lt_iff_toInt_lt, Int32.le_iff_toInt_le, h9, h8]; omega)) (fun _ => ?_)
      refine lv_aload_n hx hb dX1_ticksTill_22 rfl (lv_at hl 1 rfl) ?_
      refine lv_iload_n hx hb dX1_ticksTill_23 rfl (lv_at hl 2 rfl) ?_
      refine lv_iload_n hx hb dX1_ticksTill_24 rfl (lv_at hl 3 rfl) ?_
      refine h_callVi (T := TX1) (rest := []) (As := [.int 3, .int u1]) hx hb hml hown hts hK hT0 (fun _ h => h) hS0 (c_hasCome_3 l G Y (pa) (o) (c0) hP hY hC u1) trivial wd_X1_hasCome wV_X1_hasCome wL_X1_31 (hP.o rfl) rfl rfl hl.1 rfl (Nat.le_of_ble_eq_true rfl) dX1_ticksTill_25 ⟨Nat.le_of_ble_eq_true rfl, Nat.le_of_ble_eq_true rfl⟩ ⟨Nat.zero_le _, Nat.zero_le _⟩ (fun r1 H1 locs hp1 hT1 hS1 hk1 => ?_)
      obtain ⟨hp1, he⟩ := hp1
      have he := he.symm
      subst he
      have hp1 : r1 = 0 := hp1
      subst hp1
      refine lv_if_eq (tgt := 34) hx hb dX1_ticksTill_28 (by decide) (fun _ => ?_) (fun h => absurd (by decide) h)
      refine lv_aload_n hx hb dX1_ticksTill_34 rfl (lv_at hl 1 rfl) ?_
      refine h_getr (C := RX1) (T := TX1) (N := 4) hx hb hts inX1 hown hK hT0 (hP.o rfl) rfl 1 rfl wF_X1_22 rfl dX1_ticksTill_35 ?_
      refine lv_iload_n hx hb dX1_ticksTill_38 rfl (lv_at hl 4 rfl) ?_
      refine h_callVv (T := TX5) (rest := []) (As := [.int u2]) hx hb hml hown hts hK hT0 (fun _ h => h) hS1 (c_X5_passTick l G Y (c0) hC u2 _) rfl wd_X5_passTick wV_X5_passTick wL_X1_35 (on_rg hC) rfl rfl hl.1 rfl (Nat.le_of_ble_eq_true rfl) dX1_ticksTill_39 ⟨Nat.le_of_ble_eq_true rfl, Nat.le_of_ble_eq_true rfl⟩ ⟨Nat.zero_le _, Nat.zero_le _⟩ (fun H2 locs hp2 hT2 hS2 hk2 => ?_)
      refine lv_iinc (v := (nI (k + 1))) (lv' := [(4, .int (nI (k + 1))), (0, .ref (pa)), (1, .int 3), (2, .int u1), (3, .int u2)]) hx hb dX1_ticksTill_42 hl (k := 0) rfl (nI_1 k) (by decide) rfl (fun ls hl => ?_)
      refine lv_goto (tgt := 14) hx hb dX1_ticksTill_45 (by decide) ?_
      exact ih (k + 1) (by omega) _ _ _  hT2 hS2 (lv_sub hl [0, 1, 2, 3, 4] rfl)
  exact LP 3001 0 (by omega) _ _ _  hT1 hS1 (lv_sub hl [0, 1, 2, 3, 4] rfl)
set_option maxHeartbeats 4000000 in
set_option maxRecDepth 100000 in
theorem c_ticksTill_4 (l : Launch) (G : hG) (Y : hW) (pa o c0 : Nat) (hP : h_On Y pa (paE tF pa o c0)) (hY : h_On Y o (ringE tF o)) (hC : h_On Y c0 (ringE tF c0)) (u1 u2 : Int32) : hMi l yX1_ticksTill cX1_ticksTill 5 (some .int) 4 102 G Y [.ref (pa), .int 4, .int u1, .int u2] (fun H => True) (fun H r H1 => r = (-1)) := by
  refine h_ofi (by decide +kernel) (Nat.le_of_ble_eq_true rfl) ?_
  intro p e s m args below meth c H0 ls Q hx hb hts hown hml hK hT0 hpr hS0 hl hret
  have hl : lv_has ls 5 [(0, .ref (pa)), (1, .int 4), (2, .int u1), (3, .int u2)] := hl
  refine lv_aload_n hx hb dX1_ticksTill_0 rfl (lv_at hl 0 rfl) ?_
  refine h_getr (C := RX1) (T := TX1) (N := 4) hx hb hts inX1 hown hK hT0 (hP.o rfl) rfl 1 rfl wF_X1_22 rfl dX1_ticksTill_1 ?_
  refine lv_aload_n hx hb dX1_ticksTill_4 rfl (lv_at hl 0 rfl) ?_
  refine h_getr (C := RX1) (T := TX1) (N := 4) hx hb hts inX1 hown hK hT0 (hP.o rfl) rfl 0 rfl wF_X1_18 rfl dX1_ticksTill_5 ?_
  refine h_callVv (T := TX5) (rest := []) (As := [.ref (o)]) hx hb hml hown hts hK hT0 (fun _ h => h) hS0 (c_X5_copyFrom l G Y (c0) (o) hC hY) trivial wd_X5_copyFrom wV_X5_copyFrom wL_X1_25 (on_rg hC) rfl rfl hl.1 rfl (Nat.le_of_ble_eq_true rfl) dX1_ticksTill_8 ⟨Nat.le_of_ble_eq_true rfl, Nat.le_of_ble_eq_true rfl⟩ ⟨Nat.zero_le _, Nat.zero_le _⟩ (fun H1 locs hp1 hT1 hS1 hk1 => ?_)
  refine lv_iconst (v := 0) hx hb dX1_ticksTill_11 (by decide) ?_
  refine lv_istore (lv' := [(4, .int 0), (0, .ref (pa)), (1, .int 4), (2, .int u1), (3, .int u2)]) hx hb dX1_ticksTill_12 hl (by decide) rfl (fun ls hl => ?_)
  have LP : ∀ (q k : Nat), q + k = 3001 → ∀ (H0 : Heap) (locs : List Loc) (ls : Array Slot), hT G Y H0 → va_S (h_A Y) s.heap H0 locs → lv_has ls 5 [(4, .int (nI k)), (0, .ref (pa)), (1, .int 4), (2, .int u1), (3, .int u2)] → W p l e (h_rm 4 102) s m args below meth c H0 locs 0 0 Q (F0 m 14 ls []) := by
    intro q
    induction q with
    | zero =>
      intro k hk H0 locs ls  hT0 hS0  hl
      obtain rfl : k = 3001 := by omega
      refine lv_iload hx hb dX1_ticksTill_14 (lv_at hl 0 rfl) ?_
      refine lv_sipush (v := 3000) hx hb dX1_ticksTill_16 (by decide) ?_
      refine lv_icmp_gt (tgt := 48) hx hb dX1_ticksTill_19 (by decide) (fun _ => ?_) (fun h => absurd (by decide) h)
      refine lv_iconst (v := (-1)) hx hb dX1_ticksTill_48 (by decide) ?_
      exact hret _ _ _ _ _ hT0 hS0 rfl dX1_ticksTill_49
    | succ q ih =>
      intro k hk H0 locs ls  hT0 hS0  hl
      refine lv_iload hx hb dX1_ticksTill_14 (lv_at hl 0 rfl) ?_
      refine lv_sipush (v := 3000) hx hb dX1_ticksTill_16 (by decide) ?_
      refine lv_icmp_gt (tgt := 48) hx hb dX1_ticksTill_19 (by decide) (fun h => absurd h (by have h9 := nI_toInt (n := k) (by omega); have h8 : (3000 : Int32).toInt = 3000 := rfl; simp only [Int32.lt_iff_toInt_lt, Int32.le_iff_toInt_le, h9, h8]; omega)) (fun _ => ?_)
      refine lv_aload_n hx hb dX1_ticksTill_22 rfl (lv_at hl 1 rfl) ?_
      refine lv_iload_n hx hb dX1_ticksTill_23 rfl (lv_at hl 2 rfl) ?_
      refine lv_iload_n hx hb dX1_ticksTill_24 rfl (lv_at hl 3 rfl) ?_
      refine h_callVi (T := TX1) (rest := []) (As := [.int 4, .int u1]) hx hb hml hown hts hK hT0 (fun _ h => h) hS0 (c_hasCome_4 l G Y (pa) (o) (c0) hP hY hC u1) trivial wd_X1_hasCome wV_X1_hasCome wL_X1_31 (hP.o rfl) rfl rfl hl.1 rfl (Nat.le_of_ble_eq_true rfl) dX1_ticksTill_25 ⟨Nat.le_of_ble_eq_true rfl, Nat.le_of_ble_eq_true rfl⟩ ⟨Nat.zero_le _, Nat.zero_le _⟩ (fun r1 H1 locs hp1 hT1 hS1 hk1 => ?_)
      obtain ⟨hp1, he⟩ := hp1
      have he := he.symm
      subst he
      have hp1 : r1 = 0 := hp1
      subst hp1
      refine lv_if_eq (tgt := 34) hx hb dX1_ticksTill_28 (by decide) (fun _ => ?_) (fun h => absurd (by decide) h)
      refine lv_aload_n hx hb dX1_ticksTill_34 rfl (lv_at hl 1 rfl) ?_
      refine h_getr (C := RX1) (T := TX1) (N := 4) hx hb hts inX1 hown hK hT0 (hP.o rfl) rfl 1 rfl wF_X1_22 rfl dX1_ticksTill_35 ?_
      refine lv_iload_n hx hb dX1_ticksTill_38 rfl (lv_at hl 4 rfl) ?_
      refine h_callVv (T := TX5) (rest := []) (As := [.int u2]) hx hb hml hown hts hK hT0 (fun _ h => h) hS1 (c_X5_passTick l G Y (c0) hC u2 _) rfl wd_X5_passTick wV_X5_passTick wL_X1_35 (on_rg hC) rfl rfl hl.1 rfl (Nat.le_of_ble_eq_true rfl) dX1_ticksTill_39 ⟨Nat.le_of_ble_eq_true rfl, Nat.le_of_ble_eq_true rfl⟩ ⟨Nat.zero_le _, Nat.zero_le _⟩ (fun H2 locs hp2 hT2 hS2 hk2 => ?_)
      refine lv_iinc (v := (nI (k + 1))) (lv' := [(4, .int (nI (k + 1))), (0, .ref (pa)), (1, .int 4), (2, .int u1), (3, .int u2)]) hx hb dX1_ticksTill_42 hl (k := 0) rfl (nI_1 k) (by decide) rfl (fun ls hl => ?_)
      refine lv_goto (tgt := 14) hx hb dX1_ticksTill_45 (by decide) ?_
      exact ih (k + 1) (by omega) _ _ _  hT2 hS2 (lv_sub hl [0, 1, 2, 3, 4] rfl)
  exact LP 3001 0 (by omega) _ _ _  hT1 hS1 (lv_sub hl [0, 1, 2, 3, 4] rfl)
set_option maxHeartbeats 4000000 in
set_option maxRecDepth 100000 in
theorem c_ticksTill_5 (l : Launch) (G : hG) (Y : hW) (pa o c0 : Nat) (hP : h_On Y pa (paE tF pa o c0)) (hY : h_On Y o (ringE tF o)) (hC : h_On Y c0 (ringE tF c0)) (u1 u2 : Int32) : hMi l yX1_ticksTill cX1_ticksTill 5 (some .int) 4 102 G Y [.ref (pa), .int 5, .int u1, .int u2] (fun H => True) (fun H r H1 => r = (-1)) := by
  refine h_ofi (by decide +kernel) (Nat.le_of_ble_eq_true rfl) ?_
  intro p e s m args below meth c H0 ls Q hx hb hts hown hml hK hT0 hpr hS0 hl hret
  have hl : lv_has ls 5 [(0, .ref (pa)), (1, .int 5), (2, .int u1), (3, .int u2)] := hl
  refine lv_aload_n hx hb dX1_ticksTill_0 rfl (lv_at hl 0 rfl) ?_
  refine h_getr (C := RX1) (T := TX1) (N := 4) hx hb hts inX1 hown hK hT0 (hP.o rfl) rfl 1 rfl wF_X1_22 rfl dX1_ticksTill_1 ?_
  refine lv_aload_n hx hb dX1_ticksTill_4 rfl (lv_at hl 0 rfl) ?_
  refine h_getr (C := RX1) (T := TX1) (N := 4) hx hb hts inX1 hown hK hT0 (hP.o rfl) rfl 0 rfl wF_X1_18 rfl dX1_ticksTill_5 ?_
  refine h_callVv (T := TX5) (rest := []) (As := [.ref (o)]) hx hb hml hown hts hK hT0 (fun _ h => h) hS0 (c_X5_copyFrom l G Y (c0) (o) hC hY) trivial wd_X5_copyFrom wV_X5_copyFrom wL_X1_25 (on_rg hC) rfl rfl hl.1 rfl (Nat.le_of_ble_eq_true rfl) dX1_ticksTill_8 ⟨Nat.le_of_ble_eq_true rfl, Nat.le_of_ble_eq_true rfl⟩ ⟨Nat.zero_le _, Nat.zero_le _⟩ (fun H1 locs hp1 hT1 hS1 hk1 => ?_)
  refine lv_iconst (v := 0) hx hb dX1_ticksTill_11 (by decide) ?_
  refine lv_istore (lv' := [(4, .int 0), (0, .ref (pa)), (1, .int 5), (2, .int u1), (3, .int u2)]) hx hb dX1_ticksTill_12 hl (by decide) rfl (fun ls hl => ?_)
  have LP : ∀ (q k : Nat), q + k = 3001 → ∀ (H0 : Heap) (locs : List Loc) (ls : Array Slot), hT G Y H0 → va_S (h_A Y) s.heap H0 locs → lv_has ls 5 [(4, .int (nI k)), (0, .ref (pa)), (1, .int 5), (2, .int u1), (3, .int u2)] → W p l e (h_rm 4 102) s m args below meth c H0 locs 0 0 Q (F0 m 14 ls []) := by
    intro q
    induction q with
    | zero =>
      intro k hk H0 locs ls  hT0 hS0  hl
      obtain rfl : k = 3001 := by omega
      refine lv_iload hx hb dX1_ticksTill_14 (lv_at hl 0 rfl) ?_
      refine lv_sipush (v := 3000) hx hb dX1_ticksTill_16 (by decide) ?_
      refine lv_icmp_gt (tgt := 48) hx hb dX1_ticksTill_19 (by decide) (fun _ => ?_) (fun h => absurd (by decide) h)
      refine lv_iconst (v := (-1)) hx hb dX1_ticksTill_48 (by decide) ?_
      exact hret _ _ _ _ _ hT0 hS0 rfl dX1_ticksTill_49
    | succ q ih =>
      intro k hk H0 locs ls  hT0 hS0  hl
      refine lv_iload hx hb dX1_ticksTill_14 (lv_at hl 0 rfl) ?_
      refine lv_sipush (v := 3000) hx hb dX1_ticksTill_16 (by decide) ?_
      refine lv_icmp_gt (tgt := 48) hx hb dX1_ticksTill_19 (by decide) (fun h => absurd h (by have h9 := nI_toInt (n := k) (by omega); have h8 : (3000 : Int32).toInt = 3000 := rfl; simp only [Int32.lt_iff_toInt_lt, Int32.le_iff_toInt_le, h9, h8]; omega)) (fun _ => ?_)
      refine lv_aload_n hx hb dX1_ticksTill_22 rfl (lv_at hl 1 rfl) ?_
      refine lv_iload_n hx hb dX1_ticksTill_23 rfl (lv_at hl 2 rfl) ?_
      refine lv_iload_n hx hb dX1_ticksTill_24 rfl (lv_at hl 3 rfl) ?_
      refine h_callVi (T := TX1) (rest := []) (As := [.int 5, .int u1]) hx hb hml hown hts hK hT0 (fun _ h => h) hS0 (c_hasCome_5 l G Y (pa) (o) (c0) hP hY hC u1) trivial wd_X1_hasCome wV_X1_hasCome wL_X1_31 (hP.o rfl) rfl rfl hl.1 rfl (Nat.le_of_ble_eq_true rfl) dX1_ticksTill_25 ⟨Nat.le_of_ble_eq_true rfl, Nat.le_of_ble_eq_true rfl⟩ ⟨Nat.zero_le _, Nat.zero_le _⟩ (fun r1 H1 locs hp1 hT1 hS1 hk1 => ?_)
      obtain ⟨hp1, he⟩ := hp1
      have he := he.symm
      subst he
      have hp1 : r1 = 0 := hp1
      subst hp1
      refine lv_if_eq (tgt := 34) hx hb dX1_ticksTill_28 (by decide) (fun _ => ?_) (fun h => absurd (by decide) h)
      refine lv_aload_n hx hb dX1_ticksTill_34 rfl (lv_at hl 1 rfl) ?_
      refine h_getr (C := RX1) (T := TX1) (N := 4) hx hb hts inX1 hown hK hT0 (hP.o rfl) rfl 1 rfl wF_X1_22 rfl dX1_ticksTill_35 ?_
      refine lv_iload_n hx hb dX1_ticksTill_38 rfl (lv_at hl 4 rfl) ?_
      refine h_callVv (T := TX5) (rest := []) (As := [.int u2]) hx hb hml hown hts hK hT0 (fun _ h => h) hS1 (c_X5_passTick l G Y (c0) hC u2 _) rfl wd_X5_passTick wV_X5_passTick wL_X1_35 (on_rg hC) rfl rfl hl.1 rfl (Nat.le_of_ble_eq_true rfl) dX1_ticksTill_39 ⟨Nat.le_of_ble_eq_true rfl, Nat.le_of_ble_eq_true rfl⟩ ⟨Nat.zero_le _, Nat.zero_le _⟩ (fun H2 locs hp2 hT2 hS2 hk2 => ?_)
      refine lv_iinc (v := (nI (k + 1))) (lv' := [(4, .int (nI (k + 1))), (0, .ref (pa)), (1, .int 5), (2, .int u1), (3, .int u2)]) hx hb dX1_ticksTill_42 hl (k := 0) rfl (nI_1 k) (by decide) rfl (fun ls hl => ?_)
      refine lv_goto (tgt := 14) hx hb dX1_ticksTill_45 (by decide) ?_
      exact ih (k + 1) (by omega) _ _ _  hT2 hS2 (lv_sub hl [0, 1, 2, 3, 4] rfl)
  exact LP 3001 0 (by omega) _ _ _  hT1 hS1 (lv_sub hl [0, 1, 2, 3, 4] rfl)
set_option maxHeartbeats 4000000 in
set_option maxRecDepth 100000 in
theorem c_X1_numberGot (l : Launch) (G : hG) (Y : hW) (pa o c0 : Nat) (hP : h_On Y pa (paE tF pa o c0)) (hY : h_On Y o (ringE tF o)) (hC : h_On Y c0 (ringE tF c0)) (u1 u2 : Int32) : hMi l yX1_numberGot cX1_numberGot 5 (some .int) 4 102 G Y [.ref (pa), .int u1, .int u2] (fun H => True) (fun H r H1 => r = (-1)) := by
  refine h_ofi (by decide +kernel) (Nat.le_of_ble_eq_true rfl) ?_
  intro p e s m args below meth c H0 ls Q hx hb hts hown hml hK hT0 hpr hS0 hl hret
  have hl : lv_has ls 5 [(0, .ref (pa)), (1, .int u1), (2, .int u2)] := hl
  refine lv_aload_n hx hb dX1_numberGot_0 rfl (lv_at hl 0 rfl) ?_
  refine h_getr (C := RX1) (T := TX1) (N := 4) hx hb hts inX1 hown hK hT0 (hP.o rfl) rfl 1 rfl wF_X1_22 rfl dX1_numberGot_1 ?_
  refine lv_aload_n hx hb dX1_numberGot_4 rfl (lv_at hl 0 rfl) ?_
  refine h_getr (C := RX1) (T := TX1) (N := 4) hx hb hts inX1 hown hK hT0 (hP.o rfl) rfl 0 rfl wF_X1_18 rfl dX1_numberGot_5 ?_
  refine h_callVv (T := TX5) (rest := []) (As := [.ref (o)]) hx hb hml hown hts hK hT0 (fun _ h => h) hS0 (c_X5_copyFrom l G Y (c0) (o) hC hY) trivial wd_X5_copyFrom wV_X5_copyFrom wL_X1_25 (on_rg hC) rfl rfl hl.1 rfl (Nat.le_of_ble_eq_true rfl) dX1_numberGot_8 ⟨Nat.le_of_ble_eq_true rfl, Nat.le_of_ble_eq_true rfl⟩ ⟨Nat.zero_le _, Nat.zero_le _⟩ (fun H1 locs hp1 hT1 hS1 hk1 => ?_)
  refine lv_iconst (v := 0) hx hb dX1_numberGot_11 (by decide) ?_
  refine lv_istore_n (lv' := [(3, .int 0), (0, .ref (pa)), (1, .int u1), (2, .int u2)]) hx hb dX1_numberGot_12 rfl hl (by decide) rfl (fun ls hl => ?_)
  refine lv_iconst (v := 1) hx hb dX1_numberGot_13 (by decide) ?_
  refine lv_istore (lv' := [(4, .int 1), (3, .int 0), (0, .ref (pa)), (1, .int u1), (2, .int u2)]) hx hb dX1_numberGot_14 hl (by decide) rfl (fun ls hl => ?_)
  have LP : ∀ (q k : Nat), q + k = 3001 → ∀ (H0 : Heap) (locs : List Loc) (ls : Array Slot), hT G Y H0 → va_S (h_A Y) s.heap H0 locs → lv_has ls 5 [(4, .int (nI k)), (0, .ref (pa)), (1, .int u1), (2, .int u2), (3, .int 0)] → W p l e (h_rm 4 102) s m args below meth c H0 locs 0 0 Q (F0 m 16 ls []) := by
    intro q
    induction q with
    | zero =>
      intro k hk H0 locs ls  hT0 hS0  hl
      obtain rfl : k = 3001 := by omega
      refine lv_iload hx hb dX1_numberGot_16 (lv_at hl 0 rfl) ?_
      refine lv_sipush (v := 3000) hx hb dX1_numberGot_18 (by decide) ?_
      refine lv_icmp_gt (tgt := 65) hx hb dX1_numberGot_21 (by decide) (fun _ => ?_) (fun h => absurd (by decide) h)
      refine lv_iconst (v := (-1)) hx hb dX1_numberGot_65 (by decide) ?_
      exact hret _ _ _ _ _ hT0 hS0 rfl dX1_numberGot_66
    | succ q ih =>
      intro k hk H0 locs ls  hT0 hS0  hl
      refine lv_iload hx hb dX1_numberGot_16 (lv_at hl 0 rfl) ?_
      refine lv_sipush (v := 3000) hx hb dX1_numberGot_18 (by decide) ?_
      refine lv_icmp_gt (tgt := 65) hx hb dX1_numberGot_21 (by decide) (fun h => absurd h (by have h9 := nI_toInt (n := k) (by omega); have h8 : (3000 : Int32).toInt = 3000 := rfl; simp only [Int32.lt_iff_toInt_lt, Int32.le_iff_toInt_le, h9, h8]; omega)) (fun _ => ?_)
      refine lv_aload_n hx hb dX1_numberGot_24 rfl (lv_at hl 1 rfl) ?_
      refine h_getr (C := RX1) (T := TX1) (N := 4) hx hb hts inX1 hown hK hT0 (hP.o rfl) rfl 1 rfl wF_X1_22 rfl dX1_numberGot_25 ?_
      refine lv_iload_n hx hb dX1_numberGot_28 rfl (lv_at hl 3 rfl) ?_
      refine h_callVv (T := TX5) (rest := []) (As := [.int u2]) hx hb hml hown hts hK hT0 (fun _ h => h) hS0 (c_X5_passTick l G Y (c0) hC u2 _) rfl wd_X5_passTick wV_X5_passTick wL_X1_35 (on_rg hC) rfl rfl hl.1 rfl (Nat.le_of_ble_eq_true rfl) dX1_numberGot_29 ⟨Nat.le_of_ble_eq_true rfl, Nat.le_of_ble_eq_true rfl⟩ ⟨Nat.zero_le _, Nat.zero_le _⟩ (fun H1 locs hp1 hT1 hS1 hk1 => ?_)
      refine lv_aload_n hx hb dX1_numberGot_32 rfl (lv_at hl 1 rfl) ?_
      refine h_getr (C := RX1) (T := TX1) (N := 4) hx hb hts inX1 hown hK hT1 (hP.o rfl) rfl 1 rfl wF_X1_22 rfl dX1_numberGot_33 ?_
      refine h_getc (v := (-1)) (C := RX5) (T := TX5) (N := 11) hx hb hts inX5 hown hK hT1 (on_rg hC) rfl 8 rfl wF_X1_43 rfl (fun _ h => h) dX1_numberGot_36 ?_
      refine lv_iconst (v := (-1)) hx hb dX1_numberGot_39 (by decide) ?_
      refine lv_icmp_eq (tgt := 59) hx hb dX1_numberGot_40 (by decide) (fun _ => ?_) (fun h => absurd (by decide) h)
      refine lv_iinc (v := (nI (k + 1))) (lv' := [(4, .int (nI (k + 1))), (0, .ref (pa)), (1, .int u1), (2, .int u2), (3, .int 0)]) hx hb dX1_numberGot_59 hl (k := 0) rfl (nI_1 k) (by decide) rfl (fun ls hl => ?_)
      refine lv_goto (tgt := 16) hx hb dX1_numberGot_62 (by decide) ?_
      exact ih (k + 1) (by omega) _ _ _  hT1 hS1 (lv_sub hl [0, 1, 2, 3, 4] rfl)
  exact LP 3000 1 (by omega) _ _ _  hT1 hS1 (lv_sub hl [0, 2, 3, 4, 1] rfl)
set_option maxHeartbeats 4000000 in
set_option maxRecDepth 100000 in
theorem c_X1_greatestLevel (l : Launch) (G : hG) (Y : hW) (pa o c0 : Nat) (hP : h_On Y pa (paE tF pa o c0)) (hY : h_On Y o (ringE tF o)) (hC : h_On Y c0 (ringE tF c0)) : hMi l yX1_greatestLevel cX1_greatestLevel 3 (some .int) 3 102 G Y [.ref (pa)] (fun H => True) (fun H r H1 => r = 0) := by
  refine h_ofi (by decide +kernel) (Nat.le_of_ble_eq_true rfl) ?_
  intro p e s m args below meth c H0 ls Q hx hb hts hown hml hK hT0 hpr hS0 hl hret
  have hl : lv_has ls 3 [(0, .ref (pa))] := hl
  refine lv_aload_n hx hb dX1_greatestLevel_0 rfl (lv_at hl 0 rfl) ?_
  refine h_getr (C := RX1) (T := TX1) (N := 4) hx hb hts inX1 hown hK hT0 (hP.o rfl) rfl 1 rfl wF_X1_22 rfl dX1_greatestLevel_1 ?_
  refine lv_aload_n hx hb dX1_greatestLevel_4 rfl (lv_at hl 0 rfl) ?_
  refine h_getr (C := RX1) (T := TX1) (N := 4) hx hb hts inX1 hown hK hT0 (hP.o rfl) rfl 0 rfl wF_X1_18 rfl dX1_greatestLevel_5 ?_
  refine h_callVv (T := TX5) (rest := []) (As := [.ref (o)]) hx hb hml hown hts hK hT0 (fun _ h => h) hS0 (c_X5_copyFrom l G Y (c0) (o) hC hY) trivial wd_X5_copyFrom wV_X5_copyFrom wL_X1_25 (on_rg hC) rfl rfl hl.1 rfl (Nat.le_of_ble_eq_true rfl) dX1_greatestLevel_8 ⟨Nat.le_of_ble_eq_true rfl, Nat.le_of_ble_eq_true rfl⟩ ⟨Nat.zero_le _, Nat.zero_le _⟩ (fun H1 locs hp1 hT1 hS1 hk1 => ?_)
  refine lv_iconst (v := 0) hx hb dX1_greatestLevel_11 (by decide) ?_
  refine lv_istore_n (lv' := [(1, .int 0), (0, .ref (pa))]) hx hb dX1_greatestLevel_12 rfl hl (by decide) rfl (fun ls hl => ?_)
  refine lv_iconst (v := 0) hx hb dX1_greatestLevel_13 (by decide) ?_
  refine lv_istore_n (lv' := [(2, .int 0), (1, .int 0), (0, .ref (pa))]) hx hb dX1_greatestLevel_14 rfl hl (by decide) rfl (fun ls hl => ?_)
  refine lv_iload_n hx hb dX1_greatestLevel_15 rfl (lv_at hl 0 rfl) ?_
  refine lv_sipush (v := 3000) hx hb dX1_greatestLevel_16 (by decide) ?_
  refine lv_icmp_gt (tgt := 76) hx hb dX1_greatestLevel_19 (by decide) (fun h => absurd h (by decide)) (fun _ => ?_)
  refine lv_aload_n hx hb dX1_greatestLevel_22 rfl (lv_at hl 2 rfl) ?_
  refine h_getr (C := RX1) (T := TX1) (N := 4) hx hb hts inX1 hown hK hT1 (hP.o rfl) rfl 1 rfl wF_X1_22 rfl dX1_greatestLevel_23 ?_
  refine h_getr (C := RX5) (T := TX5) (N := 11) hx hb hts inX5 hown hK hT1 (on_rg hC) rfl 3 rfl wF_X1_56 rfl dX1_greatestLevel_26 ?_
  refine h_getc (v := 0) (C := RX9) (T := TX9) (N := 11) hx hb hts inX9 hown hK hT1 ((on_wa hC).o rfl) rfl 0 rfl wF_X1_60 rfl (fun _ h => h) dX1_greatestLevel_29 ?_
  refine lv_if_eq (tgt := 50) hx hb dX1_greatestLevel_32 (by decide) (fun _ => ?_) (fun h => absurd (by decide) h)
  refine lv_aload_n hx hb dX1_greatestLevel_50 rfl (lv_at hl 2 rfl) ?_
  refine h_getr (C := RX1) (T := TX1) (N := 4) hx hb hts inX1 hown hK hT1 (hP.o rfl) rfl 1 rfl wF_X1_22 rfl dX1_greatestLevel_51 ?_
  refine h_callVi (T := TX5) (rest := []) (As := []) hx hb hml hown hts hK hT1 (fun _ h => h) hS1 (c_X5_isQuiet l G Y (c0) hC) trivial wd_X5_isQuiet wV_X5_isQuiet wL_X1_39 (on_rg hC) rfl rfl hl.1 rfl (Nat.le_of_ble_eq_true rfl) dX1_greatestLevel_54 ⟨Nat.le_of_ble_eq_true rfl, Nat.le_of_ble_eq_true rfl⟩ ⟨Nat.zero_le _, Nat.zero_le _⟩ (fun r3 H2 locs hp2 hT2 hS2 hk2 => ?_)
  obtain ⟨hp2, he⟩ := hp2
  have he := he.symm
  subst he
  have hp2 : r3 = 1 := hp2
  subst hp2
  refine lv_if_eq (tgt := 62) hx hb dX1_greatestLevel_57 (by decide) (fun h => absurd h (by decide)) (fun _ => ?_)
  refine lv_iload_n hx hb dX1_greatestLevel_60 rfl (lv_at hl 1 rfl) ?_
  exact hret _ _ _ _ _ hT1 hS2 rfl dX1_greatestLevel_61
set_option maxHeartbeats 4000000 in
set_option maxRecDepth 100000 in
theorem c_X1_noteGot (l : Launch) (G : hG) (Y : hW) (pa o c0 : Nat) (hP : h_On Y pa (paE tF pa o c0)) (hY : h_On Y o (ringE tF o)) (hC : h_On Y c0 (ringE tF c0)) (u1 : Int32) : hMv l yX1_noteGot cX1_noteGot 5 none 4 102 G Y [.ref (pa), .int u1] (fun H => True) (fun H H1 => True) := by
  refine h_ofv (by decide +kernel) (Nat.le_of_ble_eq_true rfl) ?_
  intro p e s m args below meth c H0 ls Q hx hb hts hown hml hK hT0 hpr hS0 hl hret
  have hl : lv_has ls 5 [(0, .ref (pa)), (1, .int u1)] := hl
  refine lv_iload_n hx hb dX1_noteGot_0 rfl (lv_at hl 1 rfl) ?_
  refine lv_if_eq (tgt := 11) hx hb dX1_noteGot_1 (by decide) (fun c1 => ?_) (fun c1 => ?_)
  · skip
    refine lv_aload_n hx hb dX1_noteGot_11 rfl (lv_at hl 0 rfl) ?_
    refine h_getr (C := RX1) (T := TX1) (N := 4) hx hb hts inX1 hown hK hT0 (hP.o rfl) rfl 2 rfl wF_X1_9 rfl dX1_noteGot_12 ?_
    refine lv_astore_n (lv' := [(2, .ref (pa + 1)), (0, .ref (pa)), (1, .int u1)]) hx hb dX1_noteGot_15 rfl hl (by decide) rfl (fun ls hl => ?_)
    refine lv_aload_n hx hb dX1_noteGot_16 rfl (lv_at hl 0 rfl) ?_
    refine lv_iconst (v := (-1)) hx hb dX1_noteGot_17 (by decide) ?_
    refine h_callSv (rest := []) (As := [.ref (pa + 1), .int (-1)]) hx hb hml hown hts hK hT0 (fun _ h => h) hS0 (c_fill l G Y (pa + 1) 48 _ (-1) (hP.at 1 rfl) (by decide) (fun _ _ => (Or.inr rfl))) trivial wd_J7_fill_53178 wS_J7_fill_53178 wL_X1_81 rfl hl.1 rfl (Nat.le_of_ble_eq_true rfl) dX1_noteGot_18 ⟨Nat.le_of_ble_eq_true rfl, Nat.le_of_ble_eq_true rfl⟩ ⟨Nat.zero_le _, Nat.zero_le _⟩ (fun H1 locs hp1 hT1 hS1 hk1 => ?_)
    refine lv_aload_n hx hb dX1_noteGot_21 rfl (lv_at hl 1 rfl) ?_
    refine h_getr (C := RX1) (T := TX1) (N := 4) hx hb hts inX1 hown hK hT1 (hP.o rfl) rfl 1 rfl wF_X1_22 rfl dX1_noteGot_22 ?_
    refine lv_aload_n hx hb dX1_noteGot_25 rfl (lv_at hl 1 rfl) ?_
    refine h_getr (C := RX1) (T := TX1) (N := 4) hx hb hts inX1 hown hK hT1 (hP.o rfl) rfl 0 rfl wF_X1_18 rfl dX1_noteGot_26 ?_
    refine h_callVv (T := TX5) (rest := []) (As := [.ref (o)]) hx hb hml hown hts hK hT1 (fun _ h => h) hS1 (c_X5_copyFrom l G Y (c0) (o) hC hY) trivial wd_X5_copyFrom wV_X5_copyFrom wL_X1_25 (on_rg hC) rfl rfl hl.1 rfl (Nat.le_of_ble_eq_true rfl) dX1_noteGot_29 ⟨Nat.le_of_ble_eq_true rfl, Nat.le_of_ble_eq_true rfl⟩ ⟨Nat.zero_le _, Nat.zero_le _⟩ (fun H2 locs hp2 hT2 hS2 hk2 => ?_)
    refine lv_iconst (v := 1) hx hb dX1_noteGot_32 (by decide) ?_
    refine lv_istore_n (lv' := [(3, .int 1), (2, .ref (pa + 1)), (0, .ref (pa)), (1, .int u1)]) hx hb dX1_noteGot_33 rfl hl (by decide) rfl (fun ls hl => ?_)
    have LP : ∀ (q k : Nat), q + k = 3001 → ∀ (H0 : Heap) (locs : List Loc) (ls : Array Slot), hT G Y H0 → va_S (h_A Y) s.heap H0 locs → lv_has ls 5 [(3, .int (nI k)), (0, .ref (pa)), (1, .int u1), (2, .ref (pa + 1))] → W p l e (h_rm 4 102) s m args below meth c H0 locs 0 0 Q (F0 m 34 ls []) := by
      intro q
      induction q with
      | zero =>
        intro k hk H0 locs ls  hT0 hS0  hl
        obtain rfl : k = 3001 := by omega
        refine lv_iload_n hx hb dX1_noteGot_34 rfl (lv_at hl 0 rfl) ?_
        refine lv_sipush (v := 3000) hx hb dX1_noteGot_35 (by decide) ?_
        refine lv_icmp_gt (tgt := 106) hx hb dX1_noteGot_38 (by decide) (fun _ => ?_) (fun h => absurd (by decide) h)
        exact hret _ _ _ _ hT0 hS0 trivial dX1_noteGot_106
      | succ q ih =>
        intro k hk H0 locs ls  hT0 hS0  hl
        refine lv_iload_n hx hb dX1_noteGot_34 rfl (lv_at hl 0 rfl) ?_
        refine lv_sipush (v := 3000) hx hb dX1_noteGot_35 (by decide) ?_
        refine lv_icmp_gt (tgt := 106) hx hb dX1_noteGot_38 (by decide) (fun h => absurd h (by have h9 := nI_toInt (n := k) (by omega); have h8 : (3000 : Int32).toInt = 3000 := rfl; simp only [Int32.lt_iff_toInt_lt, Int32.le_iff_toInt_le, h9, h8]; omega)) (fun _ => ?_)
        refine lv_aload_n hx hb dX1_noteGot_41 rfl (lv_at hl 1 rfl) ?_
        refine h_getr (C := RX1) (T := TX1) (N := 4) hx hb hts inX1 hown hK hT0 (hP.o rfl) rfl 1 rfl wF_X1_22 rfl dX1_noteGot_42 ?_
        refine lv_iload_n hx hb dX1_noteGot_45 rfl (lv_at hl 2 rfl) ?_
        refine h_callVv (T := TX5) (rest := []) (As := [.int u1]) hx hb hml hown hts hK hT0 (fun _ h => h) hS0 (c_X5_passTick l G Y (c0) hC u1 _) rfl wd_X5_passTick wV_X5_passTick wL_X1_35 (on_rg hC) rfl rfl hl.1 rfl (Nat.le_of_ble_eq_true rfl) dX1_noteGot_46 ⟨Nat.le_of_ble_eq_true rfl, Nat.le_of_ble_eq_true rfl⟩ ⟨Nat.zero_le _, Nat.zero_le _⟩ (fun H1 locs hp1 hT1 hS1 hk1 => ?_)
        refine lv_aload_n hx hb dX1_noteGot_49 rfl (lv_at hl 1 rfl) ?_
        refine h_getr (C := RX1) (T := TX1) (N := 4) hx hb hts inX1 hown hK hT1 (hP.o rfl) rfl 1 rfl wF_X1_22 rfl dX1_noteGot_50 ?_
        refine h_getc (v := (-1)) (C := RX5) (T := TX5) (N := 11) hx hb hts inX5 hown hK hT1 (on_rg hC) rfl 8 rfl wF_X1_43 rfl (fun _ h => h) dX1_noteGot_53 ?_
        refine lv_iconst (v := (-1)) hx hb dX1_noteGot_56 (by decide) ?_
        refine lv_icmp_ne (tgt := 64) hx hb dX1_noteGot_57 (by decide) (fun h => absurd (by decide) h) (fun _ => ?_)
        refine lv_iconst (v := (-1)) hx hb dX1_noteGot_60 (by decide) ?_
        refine lv_goto (tgt := 81) hx hb dX1_noteGot_61 (by decide) ?_
        refine lv_istore (lv' := [(4, .int (-1)), (3, .int (nI k)), (0, .ref (pa)), (1, .int u1), (2, .ref (pa + 1))]) hx hb dX1_noteGot_81 hl (by decide) rfl (fun ls hl => ?_)
        refine lv_iload hx hb dX1_noteGot_83 (lv_at hl 0 rfl) ?_
        refine lv_if_lt (tgt := 100) hx hb dX1_noteGot_85 (by decide) (fun _ => ?_) (fun h => absurd (by decide) h)
        refine lv_iinc (v := (nI (k + 1))) (lv' := [(3, .int (nI (k + 1))), (4, .int (-1)), (0, .ref (pa)), (1, .int u1), (2, .ref (pa + 1))]) hx hb dX1_noteGot_100 hl (k := 1) rfl (nI_1 k) (by decide) rfl (fun ls hl => ?_)
        refine lv_goto (tgt := 34) hx hb dX1_noteGot_103 (by decide) ?_
        exact ih (k + 1) (by omega) _ _ _  hT1 hS1 (lv_sub hl [0, 2, 3, 4] rfl)
    exact LP 3000 1 (by omega) _ _ _  hT2 hS2 (lv_sub hl [0, 2, 3, 1] rfl)
  · skip
    refine lv_aload_n hx hb dX1_noteGot_4 rfl (lv_at hl 0 rfl) ?_
    refine h_getr (C := RX1) (T := TX1) (N := 4) hx hb hts inX1 hown hK hT0 (hP.o rfl) rfl 3 rfl wF_X1_15 rfl dX1_noteGot_5 ?_
    refine lv_goto (tgt := 15) hx hb dX1_noteGot_8 (by decide) ?_
    refine lv_astore_n (lv' := [(2, .ref (pa + 2)), (0, .ref (pa)), (1, .int u1)]) hx hb dX1_noteGot_15 rfl hl (by decide) rfl (fun ls hl => ?_)
    refine lv_aload_n hx hb dX1_noteGot_16 rfl (lv_at hl 0 rfl) ?_
    refine lv_iconst (v := (-1)) hx hb dX1_noteGot_17 (by decide) ?_
    refine h_callSv (rest := []) (As := [.ref (pa + 2), .int (-1)]) hx hb hml hown hts hK hT0 (fun _ h => h) hS0 (c_fill l G Y (pa + 2) 48 _ (-1) (hP.at 2 rfl) (by decide) (fun _ _ => (Or.inr rfl))) trivial wd_J7_fill_53178 wS_J7_fill_53178 wL_X1_81 rfl hl.1 rfl (Nat.le_of_ble_eq_true rfl) dX1_noteGot_18 ⟨Nat.le_of_ble_eq_true rfl, Nat.le_of_ble_eq_true rfl⟩ ⟨Nat.zero_le _, Nat.zero_le _⟩ (fun H3 locs hp3 hT3 hS3 hk3 => ?_)
    refine lv_aload_n hx hb dX1_noteGot_21 rfl (lv_at hl 1 rfl) ?_
    refine h_getr (C := RX1) (T := TX1) (N := 4) hx hb hts inX1 hown hK hT3 (hP.o rfl) rfl 1 rfl wF_X1_22 rfl dX1_noteGot_22 ?_
    refine lv_aload_n hx hb dX1_noteGot_25 rfl (lv_at hl 1 rfl) ?_
    refine h_getr (C := RX1) (T := TX1) (N := 4) hx hb hts inX1 hown hK hT3 (hP.o rfl) rfl 0 rfl wF_X1_18 rfl dX1_noteGot_26 ?_
    refine h_callVv (T := TX5) (rest := []) (As := [.ref (o)]) hx hb hml hown hts hK hT3 (fun _ h => h) hS3 (c_X5_copyFrom l G Y (c0) (o) hC hY) trivial wd_X5_copyFrom wV_X5_copyFrom wL_X1_25 (on_rg hC) rfl rfl hl.1 rfl (Nat.le_of_ble_eq_true rfl) dX1_noteGot_29 ⟨Nat.le_of_ble_eq_true rfl, Nat.le_of_ble_eq_true rfl⟩ ⟨Nat.zero_le _, Nat.zero_le _⟩ (fun H4 locs hp4 hT4 hS4 hk4 => ?_)
    refine lv_iconst (v := 1) hx hb dX1_noteGot_32 (by decide) ?_
    refine lv_istore_n (lv' := [(3, .int 1), (2, .ref (pa + 2)), (0, .ref (pa)), (1, .int u1)]) hx hb dX1_noteGot_33 rfl hl (by decide) rfl (fun ls hl => ?_)
    have LP : ∀ (q k : Nat), q + k = 3001 → ∀ (H0 : Heap) (locs : List Loc) (ls : Array Slot), hT G Y H0 → va_S (h_A Y) s.heap H0 locs → lv_has ls 5 [(3, .int (nI k)), (0, .ref (pa)), (1, .int u1), (2, .ref (pa + 2))] → W p l e (h_rm 4 102) s m args below meth c H0 locs 0 0 Q (F0 m 34 ls []) := by
      intro q
      induction q with
      | zero =>
        intro k hk H0 locs ls  hT0 hS0  hl
        obtain rfl : k = 3001 := by omega
        refine lv_iload_n hx hb dX1_noteGot_34 rfl (lv_at hl 0 rfl) ?_
        refine lv_sipush (v := 3000) hx hb dX1_noteGot_35 (by decide) ?_
        refine lv_icmp_gt (tgt := 106) hx hb dX1_noteGot_38 (by decide) (fun _ => ?_) (fun h => absurd (by decide) h)
        exact hret _ _ _ _ hT0 hS0 trivial dX1_noteGot_106
      | succ q ih =>
        intro k hk H0 locs ls  hT0 hS0  hl
        refine lv_iload_n hx hb dX1_noteGot_34 rfl (lv_at hl 0 rfl) ?_
        refine lv_sipush (v := 3000) hx hb dX1_noteGot_35 (by decide) ?_
        refine lv_icmp_gt (tgt := 106) hx hb dX1_noteGot_38 (by decide) (fun h => absurd h (by have h9 := nI_toInt (n := k) (by omega); have h8 : (3000 : Int32).toInt = 3000 := rfl; simp only [Int32.lt_iff_toInt_lt, Int32.le_iff_toInt_le, h9, h8]; omega)) (fun _ => ?_)
        refine lv_aload_n hx hb dX1_noteGot_41 rfl (lv_at hl 1 rfl) ?_
        refine h_getr (C := RX1) (T := TX1) (N := 4) hx hb hts inX1 hown hK hT0 (hP.o rfl) rfl 1 rfl wF_X1_22 rfl dX1_noteGot_42 ?_
        refine lv_iload_n hx hb dX1_noteGot_45 rfl (lv_at hl 2 rfl) ?_
        refine h_callVv (T := TX5) (rest := []) (As := [.int u1]) hx hb hml hown hts hK hT0 (fun _ h => h) hS0 (c_X5_passTick l G Y (c0) hC u1 _) rfl wd_X5_passTick wV_X5_passTick wL_X1_35 (on_rg hC) rfl rfl hl.1 rfl (Nat.le_of_ble_eq_true rfl) dX1_noteGot_46 ⟨Nat.le_of_ble_eq_true rfl, Nat.le_of_ble_eq_true rfl⟩ ⟨Nat.zero_le _, Nat.zero_le _⟩ (fun H1 locs hp1 hT1 hS1 hk1 => ?_)
        refine lv_aload_n hx hb dX1_noteGot_49 rfl (lv_at hl 1 rfl) ?_
        refine h_getr (C := RX1) (T := TX1) (N := 4) hx hb hts inX1 hown hK hT1 (hP.o rfl) rfl 1 rfl wF_X1_22 rfl dX1_noteGot_50 ?_
        refine h_getc (v := (-1)) (C := RX5) (T := TX5) (N := 11) hx hb hts inX5 hown hK hT1 (on_rg hC) rfl 8 rfl wF_X1_43 rfl (fun _ h => h) dX1_noteGot_53 ?_
        refine lv_iconst (v := (-1)) hx hb dX1_noteGot_56 (by decide) ?_
        refine lv_icmp_ne (tgt := 64) hx hb dX1_noteGot_57 (by decide) (fun h => absurd (by decide) h) (fun _ => ?_)
        refine lv_iconst (v := (-1)) hx hb dX1_noteGot_60 (by decide) ?_
        refine lv_goto (tgt := 81) hx hb dX1_noteGot_61 (by decide) ?_
        refine lv_istore (lv' := [(4, .int (-1)), (3, .int (nI k)), (0, .ref (pa)), (1, .int u1), (2, .ref (pa + 2))]) hx hb dX1_noteGot_81 hl (by decide) rfl (fun ls hl => ?_)
        refine lv_iload hx hb dX1_noteGot_83 (lv_at hl 0 rfl) ?_
        refine lv_if_lt (tgt := 100) hx hb dX1_noteGot_85 (by decide) (fun _ => ?_) (fun h => absurd (by decide) h)
        refine lv_iinc (v := (nI (k + 1))) (lv' := [(3, .int (nI (k + 1))), (4, .int (-1)), (0, .ref (pa)), (1, .int u1), (2, .ref (pa + 2))]) hx hb dX1_noteGot_100 hl (k := 1) rfl (nI_1 k) (by decide) rfl (fun ls hl => ?_)
        refine lv_goto (tgt := 34) hx hb dX1_noteGot_103 (by decide) ?_
        exact ih (k + 1) (by omega) _ _ _  hT1 hS1 (lv_sub hl [0, 2, 3, 4] rfl)
    exact LP 3000 1 (by omega) _ _ _  hT4 hS4 (lv_sub hl [0, 2, 3, 1] rfl)
set_option maxHeartbeats 4000000 in
set_option maxRecDepth 100000 in
theorem c_X1_ticksGained (l : Launch) (G : hG) (Y : hW) (pa o c0 : Nat) (hP : h_On Y pa (paE tF pa o c0)) (hY : h_On Y o (ringE tF o)) (hC : h_On Y c0 (ringE tF c0)) : hMi l yX1_ticksGained cX1_ticksGained 3 (some .int) 0 0 G Y [.ref (pa)] (fun H => True) (fun H r H1 => r = 0) := by
  refine h_ofi (by decide +kernel) (Nat.le_of_ble_eq_true rfl) ?_
  intro p e s m args below meth c H0 ls Q hx hb hts hown hml hK hT0 hpr hS0 hl hret
  have hl : lv_has ls 3 [(0, .ref (pa))] := hl
  refine lv_iconst (v := 0) hx hb dX1_ticksGained_0 (by decide) ?_
  refine lv_istore_n (lv' := [(1, .int 0), (0, .ref (pa))]) hx hb dX1_ticksGained_1 rfl hl (by decide) rfl (fun ls hl => ?_)
  refine lv_iconst (v := 0) hx hb dX1_ticksGained_2 (by decide) ?_
  refine lv_istore_n (lv' := [(2, .int 0), (1, .int 0), (0, .ref (pa))]) hx hb dX1_ticksGained_3 rfl hl (by decide) rfl (fun ls hl => ?_)
  have LP : ∀ (q k : Nat), q + k = 48 → ∀ (H0 : Heap) (locs : List Loc) (ls : Array Slot), hT G Y H0 → va_S (h_A Y) s.heap H0 locs → lv_has ls 3 [(2, .int (nI k)), (0, .ref (pa)), (1, .int 0)] → W p l e (h_rm 0 0) s m args below meth c H0 locs 0 0 Q (F0 m 4 ls []) := by
    intro q
    induction q with
    | zero =>
      intro k hk H0 locs ls  hT0 hS0  hl
      obtain rfl : k = 48 := by omega
      refine lv_iload_n hx hb dX1_ticksGained_4 rfl (lv_at hl 0 rfl) ?_
      refine lv_bipush (v := 48) hx hb dX1_ticksGained_5 (by decide) ?_
      refine lv_icmp_ge (tgt := 52) hx hb dX1_ticksGained_7 (by decide) (fun _ => ?_) (fun h => absurd (by decide) h)
      refine lv_iload_n hx hb dX1_ticksGained_52 rfl (lv_at hl 2 rfl) ?_
      exact hret _ _ _ _ _ hT0 hS0 rfl dX1_ticksGained_53
    | succ q ih =>
      intro k hk H0 locs ls  hT0 hS0  hl
      refine lv_iload_n hx hb dX1_ticksGained_4 rfl (lv_at hl 0 rfl) ?_
      refine lv_bipush (v := 48) hx hb dX1_ticksGained_5 (by decide) ?_
      refine lv_icmp_ge (tgt := 52) hx hb dX1_ticksGained_7 (by decide) (fun h => absurd h (by have h9 := nI_toInt (n := k) (by omega); have h8 : (48 : Int32).toInt = 48 := rfl; simp only [Int32.lt_iff_toInt_lt, Int32.le_iff_toInt_le, h9, h8]; omega)) (fun _ => ?_)
      refine lv_aload_n hx hb dX1_ticksGained_10 rfl (lv_at hl 1 rfl) ?_
      refine h_getr (C := RX1) (T := TX1) (N := 4) hx hb hts inX1 hown hK hT0 (hP.o rfl) rfl 2 rfl wF_X1_9 rfl dX1_ticksGained_11 ?_
      refine lv_iload_n hx hb dX1_ticksGained_14 rfl (lv_at hl 0 rfl) ?_
      refine h_iald hx hb hK hT0 (hP.at 1 rfl) (vp_in_nI (by omega) (by decide)) dX1_ticksGained_15 (fun p1 => ?_)
      refine lv_topi (fun x2 ex2 => ?_)
      refine lv_iconst (v := (-1)) hx hb dX1_ticksGained_16 (by decide) ?_
      refine lv_icmp_eq (tgt := 46) hx hb dX1_ticksGained_17 (by decide) (fun c3 => ?_) (fun c3 => ?_)
      · skip
        refine lv_iinc (v := (nI (k + 1))) (lv' := [(2, .int (nI (k + 1))), (0, .ref (pa)), (1, .int 0)]) hx hb dX1_ticksGained_46 hl (k := 0) rfl (nI_1 k) (by decide) rfl (fun ls hl => ?_)
        refine lv_goto (tgt := 4) hx hb dX1_ticksGained_49 (by decide) ?_
        exact ih (k + 1) (by omega) _ _ _  hT0 hS0 (lv_sub hl [0, 1, 2] rfl)
      · skip
        refine lv_aload_n hx hb dX1_ticksGained_20 rfl (lv_at hl 1 rfl) ?_
        refine h_getr (C := RX1) (T := TX1) (N := 4) hx hb hts inX1 hown hK hT0 (hP.o rfl) rfl 3 rfl wF_X1_15 rfl dX1_ticksGained_21 ?_
        refine lv_iload_n hx hb dX1_ticksGained_24 rfl (lv_at hl 0 rfl) ?_
        refine h_iald hx hb hK hT0 (hP.at 2 rfl) (vp_in_nI (by omega) (by decide)) dX1_ticksGained_25 (fun p4 => ?_)
        refine lv_topi (fun x5 ex5 => ?_)
        refine lv_iconst (v := (-1)) hx hb dX1_ticksGained_26 (by decide) ?_
        refine lv_icmp_eq (tgt := 46) hx hb dX1_ticksGained_27 (by decide) (fun c6 => ?_) (fun c6 => ?_)
        · skip
          refine lv_iinc (v := (nI (k + 1))) (lv' := [(2, .int (nI (k + 1))), (0, .ref (pa)), (1, .int 0)]) hx hb dX1_ticksGained_46 hl (k := 0) rfl (nI_1 k) (by decide) rfl (fun ls hl => ?_)
          refine lv_goto (tgt := 4) hx hb dX1_ticksGained_49 (by decide) ?_
          exact ih (k + 1) (by omega) _ _ _  hT0 hS0 (lv_sub hl [0, 1, 2] rfl)
        · skip
          refine lv_iload_n hx hb dX1_ticksGained_30 rfl (lv_at hl 2 rfl) ?_
          refine lv_aload_n hx hb dX1_ticksGained_31 rfl (lv_at hl 1 rfl) ?_
          refine h_getr (C := RX1) (T := TX1) (N := 4) hx hb hts inX1 hown hK hT0 (hP.o rfl) rfl 3 rfl wF_X1_15 rfl dX1_ticksGained_32 ?_
          refine lv_iload_n hx hb dX1_ticksGained_35 rfl (lv_at hl 0 rfl) ?_
          refine h_iald hx hb hK hT0 (hP.at 2 rfl) (vp_in_nI (by omega) (by decide)) dX1_ticksGained_36 (fun p7 => ?_)
          refine lv_topi (fun x8 ex8 => ?_)
          refine lv_aload_n hx hb dX1_ticksGained_37 rfl (lv_at hl 1 rfl) ?_
          refine h_getr (C := RX1) (T := TX1) (N := 4) hx hb hts inX1 hown hK hT0 (hP.o rfl) rfl 2 rfl wF_X1_9 rfl dX1_ticksGained_38 ?_
          refine lv_iload_n hx hb dX1_ticksGained_41 rfl (lv_at hl 0 rfl) ?_
          refine h_iald hx hb hK hT0 (hP.at 1 rfl) (vp_in_nI (by omega) (by decide)) dX1_ticksGained_42 (fun p9 => ?_)
          refine lv_topi (fun x10 ex10 => ?_)
          refine lv_isub hx hb dX1_ticksGained_43 ?_
          refine lv_topi (fun x11 ex11 => ?_)
          refine lv_iadd hx hb dX1_ticksGained_44 ?_
          have g1 : x2 = 0 := ex2.trans (p1.resolve_right (fun h => c3 (ex2.trans h)))
          have g2 : x5 = 0 := ex5.trans (p4.resolve_right (fun h => c6 (ex5.trans h)))
          have g3 : x8 = 0 := ex8.trans (ex5.symm.trans g2)
          have g4 : x10 = 0 := ex10.trans (ex2.symm.trans g1)
          refine h_top (v := 0) (by rw [ex11, g3, g4]; rfl) ?_
          refine lv_istore_n (lv' := [(1, .int 0), (2, .int (nI k)), (0, .ref (pa))]) hx hb dX1_ticksGained_45 rfl hl (by decide) rfl (fun ls hl => ?_)
          refine lv_iinc (v := (nI (k + 1))) (lv' := [(2, .int (nI (k + 1))), (1, .int 0), (0, .ref (pa))]) hx hb dX1_ticksGained_46 hl (k := 1) rfl (nI_1 k) (by decide) rfl (fun ls hl => ?_)
          refine lv_goto (tgt := 4) hx hb dX1_ticksGained_49 (by decide) ?_
          exact ih (k + 1) (by omega) _ _ _  hT0 hS0 (lv_sub hl [0, 2, 1] rfl)
  exact LP 48 0 (by omega) _ _ _  hT0 hS0 (lv_sub hl [0, 2, 1] rfl)
