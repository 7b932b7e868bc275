set_option maxHeartbeats 4000000 in
set_option maxRecDepth 100000 in
theorem c_begins (l : Launch) (G : hG) (Y : hW) (o : Nat) (hM : h_On Y o (modE tA o)) : hMv l yX11_begins cX11_begins 2 none 1 22 G Y [.ref (o)] (fun H => True) (fun H H1 => (∀ j, j < 600 → h_ai H1 (o + 1) j = if j = 1 ∨ j = 16 then -1 else 0) ∧ (∀ j, 600 ≤ j → h_ai H1 (o + 1) j = h_ai H (o + 1) j) ∧ ∀ q : Nat, q ≠ o + 1 → H1[q]? = H[q]?) := by
  refine h_ofv (by decide +kernel) (Nat.le_of_ble_eq_true rfl) ?_
  intro p e s m args below meth c H0 ls Q hx hb hts hown hml hK hT0 hpr hS0 hl hret
  have hl : lv_has ls 2 [(0, .ref (o))] := hl
  refine lv_iconst (v := 0) hx hb dX11_begins_0 (by decide) ?_
  refine lv_istore_n (lv' := [(1, .int 0), (0, .ref (o))]) hx hb dX11_begins_1 rfl hl (by decide) rfl (fun ls hl => ?_)
  obtain ⟨Hs, hHs⟩ : ∃ Hs : Heap, Hs = H0 := ⟨_, rfl⟩
  subst hHs
  have LP : ∀ (q k : Nat), q + k = 600 → ∀ (H0 : Heap) (locs : List Loc) (ls : Array Slot), hT G Y H0 → va_S (h_A Y) s.heap H0 locs → ((∀ j, j < k → h_ai H0 (o + 1) j = 0) ∧ (∀ j, 600 ≤ j → h_ai H0 (o + 1) j = h_ai Hs (o + 1) j) ∧ ∀ q : Nat, q ≠ o + 1 → H0[q]? = Hs[q]?) → lv_has ls 2 [(1, .int (nI k)), (0, .ref (o))] → W p l e (h_rm 1 22) s m args below meth c H0 locs 0 0 Q (F0 m 2 ls []) := by
    intro q
    induction q with
    | zero =>
      intro k hk H0 locs ls hT0 hS0 hi hl
      obtain rfl : k = 600 := by omega
      refine lv_iload_n hx hb dX11_begins_2 rfl (lv_at hl 0 rfl) ?_
      refine lv_sipush (v := 600) hx hb dX11_begins_3 (by decide) ?_
      refine lv_icmp_ge (tgt := 21) hx hb dX11_begins_6 (by decide) (fun _ => ?_) (fun h => absurd (by decide) h)
      refine lv_aload_n hx hb dX11_begins_21 rfl (lv_at hl 1 rfl) ?_
      refine lv_iconst (v := 1) hx hb dX11_begins_22 (by decide) ?_
      refine lv_iconst (v := (-1)) hx hb dX11_begins_23 (by decide) ?_
      refine h_callVv (T := TX11) (rest := []) (As := [.int 1, .int (-1)]) hx hb hml hown hts hK hT0 (fun _ h => h) hS0 (c_puts l G Y tA (o) hM 1 (-1) 1 (by decide) (h_inc (by decide)) trivial) trivial wd_X11_puts wV_X11_puts wL_X11_43 (hM.o rfl) rfl rfl hl.1 rfl (Nat.le_of_ble_eq_true rfl) dX11_begins_24 ⟨Nat.le_of_ble_eq_true rfl, Nat.le_of_ble_eq_true rfl⟩ ⟨Nat.zero_le _, Nat.zero_le _⟩ (fun H1 locs hp1 hT1 hS1 hk1 => ?_)
      refine lv_aload_n hx hb dX11_begins_27 rfl (lv_at hl 1 rfl) ?_
      refine lv_bipush (v := 16) hx hb dX11_begins_28 (by decide) ?_
      refine lv_iconst (v := (-1)) hx hb dX11_begins_30 (by decide) ?_
      refine h_callVv (T := TX11) (rest := []) (As := [.int 16, .int (-1)]) hx hb hml hown hts hK hT1 (fun _ h => h) hS1 (c_puts l G Y tA (o) hM 16 (-1) 16 (by decide) (h_inc (by decide)) trivial) trivial wd_X11_puts wV_X11_puts wL_X11_43 (hM.o rfl) rfl rfl hl.1 rfl (Nat.le_of_ble_eq_true rfl) dX11_begins_31 ⟨Nat.le_of_ble_eq_true rfl, Nat.le_of_ble_eq_true rfl⟩ ⟨Nat.zero_le _, Nat.zero_le _⟩ (fun H2 locs hp2 hT2 hS2 hk2 => ?_)
      exact hret _ _ _ _ hT2 hS2 ⟨fun j hj => by
      rcases Classical.em (j = 16) with h16 | h16
      · subst h16; rw [h_aps hp2]; rfl
      rcases Classical.em (j = 1) with h1 | h1
      · subst h1; rw [h_apn hp2 (by decide), h_aps hp1]; rfl
      rw [h_apn hp2 h16, h_apn hp1 h1, hi.1 j hj, if_neg (by omega)], fun j hj => ((h_apn hp2 (by omega)).trans (h_apn hp1 (by omega))).trans (hi.2.1 j hj), fun q hq => ((hp2.2.1 q hq).trans (hp1.2.1 q hq)).trans (hi.2.2 q hq)⟩ dX11_begins_34
    | succ q ih =>
      intro k hk H0 locs ls hT0 hS0 hi hl
      refine lv_iload_n hx hb dX11_begins_2 rfl (lv_at hl 0 rfl) ?_
      refine lv_sipush (v := 600) hx hb dX11_begins_3 (by decide) ?_
      refine lv_icmp_ge (tgt := 21) hx hb dX11_begins_6 (by decide) (fun h => absurd h (nI_ge (b := 600) (by omega) (by decide))) (fun _ => ?_)
      refine lv_aload_n hx hb dX11_begins_9 rfl (lv_at hl 1 rfl) ?_
      refine lv_iload_n hx hb dX11_begins_10 rfl (lv_at hl 0 rfl) ?_
      refine lv_iconst (v := 0) hx hb dX11_begins_11 (by decide) ?_
      refine h_callVv (T := TX11) (rest := []) (As := [.int (nI k), .int 0]) hx hb hml hown hts hK hT0 (fun _ h => h) hS0 (c_puts l G Y tA (o) hM (nI k) 0 k (nI_clamp (by omega)) (vp_in_nI (by omega) (by decide)) trivial) trivial wd_X11_puts wV_X11_puts wL_X11_43 (hM.o rfl) rfl rfl hl.1 rfl (Nat.le_of_ble_eq_true rfl) dX11_begins_12 ⟨Nat.le_of_ble_eq_true rfl, Nat.le_of_ble_eq_true rfl⟩ ⟨Nat.zero_le _, Nat.zero_le _⟩ (fun H1 locs hp1 hT1 hS1 hk1 => ?_)
      refine lv_iinc (v := (nI (k + 1))) (lv' := [(1, .int (nI (k + 1))), (0, .ref (o))]) hx hb dX11_begins_15 hl (k := 0) rfl (nI_1 k) (by decide) rfl (fun ls hl => ?_)
      refine lv_goto (tgt := 2) hx hb dX11_begins_18 (by decide) ?_
      have hi2 : (∀ j, j < k + 1 → h_ai H1 (o + 1) j = 0) ∧ (∀ j, 600 ≤ j → h_ai H1 (o + 1) j = h_ai Hs (o + 1) j) ∧ ∀ q : Nat, q ≠ o + 1 → H1[q]? = Hs[q]? := by
        refine ⟨fun j hj => ?_, fun j hj => (h_apn hp1 (by omega)).trans (hi.2.1 j hj), fun q hq => (hp1.2.1 q hq).trans (hi.2.2 q hq)⟩
        rcases Classical.em (j = k) with hjk | hjk
        · subst hjk; exact h_aps hp1
        · rw [h_apn hp1 hjk]; exact hi.1 j (by omega)
      exact ih (k + 1) (by omega) _ _ _ hT1 hS1 hi2 (lv_sub hl [0, 1] rfl)
  exact LP 600 0 (by omega) _ _ _ hT0 hS0 ⟨fun j hj => absurd hj (by omega), fun _ _ => rfl, fun _ _ => rfl⟩ (lv_sub hl [0, 1] rfl)
set_option maxHeartbeats 4000000 in
set_option maxRecDepth 100000 in
theorem c_X11_byteAtA (l : Launch) (G : hG) (Y : hW) (o : Nat) (hM : h_On Y o (modE tA o)) : hMi l yX11_byteAt cX11_byteAt 2 (some .int) 0 0 G Y [.ref (o), .int 0] (fun H => h_gi G H 11 o 11 = 0) (fun H r H1 => r = -1 ∧ H1 = H) := by
  refine h_ofi (by decide +kernel) (Nat.le_of_ble_eq_true rfl) ?_
  intro p e s m args below meth c H0 ls Q hx hb hts hown hml hK hT0 hpr hS0 hl hret
  have hl : lv_has ls 2 [(0, .ref (o)), (1, .int 0)] := hl
  refine lv_iload_n hx hb dX11_byteAt_0 rfl (lv_at hl 1 rfl) ?_
  refine lv_aload_n hx hb dX11_byteAt_1 rfl (lv_at hl 0 rfl) ?_
  refine h_geti (C := RX11) (T := TX11) (N := 23) hx hb hts inX11 hown hK hT0 (hM.o rfl) rfl 11 rfl wF_X11_174 rfl dX11_byteAt_2 (fun p1 => ?_)
  refine h_top (v := 0) hpr ?_
  refine lv_icmp_ge (tgt := 21) hx hb dX11_byteAt_5 (by decide) (fun _ => ?_) (fun h => absurd (by decide) h)
  refine lv_iconst (v := (-1)) hx hb dX11_byteAt_21 (by decide) ?_
  exact hret _ _ _ _ _ hT0 hS0 ⟨rfl, rfl⟩ dX11_byteAt_22
set_option maxHeartbeats 4000000 in
set_option maxRecDepth 100000 in
theorem c_X11_aheadA (l : Launch) (G : hG) (Y : hW) (o : Nat) (hM : h_On Y o (modE tA o)) : hMv l yX11_ahead cX11_ahead 2 none 1 21 G Y [.ref (o)] (fun H => h_gi G H 11 o 11 = 0 ∧ h_gi G H 11 o 14 = 0 ∧ h_gi G H 11 o 16 = 0) (fun H H1 => h_gi G H1 11 o 12 = 0 ∧ h_gi G H1 11 o 16 = 0 ∧ ∀ q : Nat, q ≠ o → H1[q]? = H[q]?) := by
  refine h_ofv (by decide +kernel) (Nat.le_of_ble_eq_true rfl) ?_
  intro p e s m args below meth c H0 ls Q hx hb hts hown hml hK hT0 hpr hS0 hl hret
  have hl : lv_has ls 2 [(0, .ref (o))] := hl
  refine lv_aload_n hx hb dX11_ahead_0 rfl (lv_at hl 0 rfl) ?_
  refine lv_aload_n hx hb dX11_ahead_1 rfl (lv_at hl 0 rfl) ?_
  refine h_geti (C := RX11) (T := TX11) (N := 23) hx hb hts inX11 hown hK hT0 (hM.o rfl) rfl 14 rfl wF_X11_177 rfl dX11_ahead_2 (fun p1 => ?_)
  refine h_top (v := 0) hpr.2.1 ?_
  refine h_callVi (T := TX11) (rest := []) (As := [.int 0]) hx hb hml hown hts hK hT0 (fun _ h => h) hS0 (c_X11_byteAtA l G Y (o) hM) hpr.1 wd_X11_byteAt wV_X11_byteAt wL_X11_180 (hM.o rfl) rfl rfl hl.1 rfl (Nat.le_of_ble_eq_true rfl) dX11_ahead_5 ⟨Nat.le_of_ble_eq_true rfl, Nat.le_of_ble_eq_true rfl⟩ ⟨Nat.zero_le _, Nat.zero_le _⟩ (fun r2 H1 locs hp1 hT1 hS1 hk1 => ?_)
  obtain ⟨hp1, he⟩ := hp1
  have he := he.symm
  subst he
  have hp1 : r2 = (-1) := hp1
  subst hp1
  refine lv_bipush (v := 32) hx hb dX11_ahead_8 (by decide) ?_
  refine lv_icmp_eq (tgt := 26) hx hb dX11_ahead_10 (by decide) (fun h => absurd h (by decide)) (fun _ => ?_)
  refine lv_aload_n hx hb dX11_ahead_13 rfl (lv_at hl 0 rfl) ?_
  refine lv_aload_n hx hb dX11_ahead_14 rfl (lv_at hl 0 rfl) ?_
  refine h_geti (C := RX11) (T := TX11) (N := 23) hx hb hts inX11 hown hK hT0 (hM.o rfl) rfl 14 rfl wF_X11_177 rfl dX11_ahead_15 (fun p4 => ?_)
  refine h_top (v := 0) hpr.2.1 ?_
  refine h_callVi (T := TX11) (rest := []) (As := [.int 0]) hx hb hml hown hts hK hT0 (fun _ h => h) hS1 (c_X11_byteAtA l G Y (o) hM) hpr.1 wd_X11_byteAt wV_X11_byteAt wL_X11_180 (hM.o rfl) rfl rfl hl.1 rfl (Nat.le_of_ble_eq_true rfl) dX11_ahead_18 ⟨Nat.le_of_ble_eq_true rfl, Nat.le_of_ble_eq_true rfl⟩ ⟨Nat.zero_le _, Nat.zero_le _⟩ (fun r5 H2 locs hp2 hT2 hS2 hk2 => ?_)
  obtain ⟨hp2, he⟩ := hp2
  have he := he.symm
  subst he
  have hp2 : r5 = (-1) := hp2
  subst hp2
  refine lv_bipush (v := 10) hx hb dX11_ahead_21 (by decide) ?_
  refine lv_icmp_ne (tgt := 39) hx hb dX11_ahead_23 (by decide) (fun _ => ?_) (fun h => absurd h (by decide))
  refine lv_aload_n hx hb dX11_ahead_39 rfl (lv_at hl 0 rfl) ?_
  refine lv_aload_n hx hb dX11_ahead_40 rfl (lv_at hl 0 rfl) ?_
  refine h_geti (C := RX11) (T := TX11) (N := 23) hx hb hts inX11 hown hK hT0 (hM.o rfl) rfl 14 rfl wF_X11_177 rfl dX11_ahead_41 (fun p7 => ?_)
  refine h_top (v := 0) hpr.2.1 ?_
  refine h_puti (C := RX11) (T := TX11) (N := 23) hx hb hts inX11 tyX11 tyX11_ok nmX11 hown hK hT0 (fun _ h => h) hS2 (hM.o rfl) rfl 13 rfl wF_X11_183 rfl rfl trivial rfl rfl dX11_ahead_44 (fun H3 locs hT3 hS3 hu3 => ?_)
  refine lv_aload_n hx hb dX11_ahead_47 rfl (lv_at hl 0 rfl) ?_
  refine lv_aload_n hx hb dX11_ahead_48 rfl (lv_at hl 0 rfl) ?_
  refine h_geti (C := RX11) (T := TX11) (N := 23) hx hb hts inX11 hown hK hT3 (hM.o rfl) rfl 14 rfl wF_X11_177 rfl dX11_ahead_49 (fun p8 => ?_)
  refine h_top (v := 0) ((h_ps hu3 rfl (by decide) (by decide)).trans hpr.2.1) ?_
  refine h_callVi (T := TX11) (rest := []) (As := [.int 0]) hx hb hml hown hts hK hT3 (fun _ h => h) hS3 (c_X11_byteAtA l G Y (o) hM) ((h_ps hu3 rfl (by decide) (by decide)).trans hpr.1) wd_X11_byteAt wV_X11_byteAt wL_X11_180 (hM.o rfl) rfl rfl hl.1 rfl (Nat.le_of_ble_eq_true rfl) dX11_ahead_52 ⟨Nat.le_of_ble_eq_true rfl, Nat.le_of_ble_eq_true rfl⟩ ⟨Nat.zero_le _, Nat.zero_le _⟩ (fun r9 H4 locs hp4 hT4 hS4 hk4 => ?_)
  obtain ⟨hp4, he⟩ := hp4
  have he := he.symm
  subst he
  have hp4 : r9 = (-1) := hp4
  subst hp4
  refine lv_istore_n (lv' := [(1, .int (-1)), (0, .ref (o))]) hx hb dX11_ahead_55 rfl hl (by decide) rfl (fun ls hl => ?_)
  refine lv_iload_n hx hb dX11_ahead_56 rfl (lv_at hl 0 rfl) ?_
  refine lv_iconst (v := (-1)) hx hb dX11_ahead_57 (by decide) ?_
  refine lv_icmp_ne (tgt := 69) hx hb dX11_ahead_58 (by decide) (fun h => absurd (by decide) h) (fun _ => ?_)
  refine lv_aload_n hx hb dX11_ahead_61 rfl (lv_at hl 1 rfl) ?_
  refine lv_iconst (v := 0) hx hb dX11_ahead_62 (by decide) ?_
  refine h_puti (C := RX11) (T := TX11) (N := 23) hx hb hts inX11 tyX11 tyX11_ok nmX11 hown hK hT3 (fun _ h => h) hS4 (hM.o rfl) rfl 12 rfl wF_X11_186 rfl rfl trivial rfl rfl dX11_ahead_63 (fun H5 locs hT5 hS5 hu5 => ?_)
  refine lv_goto (tgt := 228) hx hb dX11_ahead_66 (by decide) ?_
  exact hret _ _ _ _ hT5 hS5 ⟨(h_pu hu5), ((h_ps hu5 rfl (by decide) (by decide)).trans ((h_ps hu3 rfl (by decide) (by decide)).trans hpr.2.2)), (fun q hq => ((hu5.2.1 q hq).trans (hu3.2.1 q hq)))⟩ dX11_ahead_228
set_option maxHeartbeats 4000000 in
set_option maxRecDepth 100000 in
theorem c_X11_loadA (l : Launch) (G : hG) (Y : hW) (o : Nat) (hM : h_On Y o (modE tA o)) (u1 : Int32) : hMi l yX11_load cX11_load 3 (some .int) 2 43 G Y [.ref (o), .int u1] (fun H => h_gi G H 11 o 10 = 0) (fun H r H1 => ((u1.toInt = 0) → r = 0) ∧ (¬ (u1.toInt = 0) → r = -1)) := by
  refine h_ofi (by decide +kernel) (Nat.le_of_ble_eq_true rfl) ?_
  intro p e s m args below meth c H0 ls Q hx hb hts hown hml hK hT0 hpr hS0 hl hret
  have hl : lv_has ls 3 [(0, .ref (o)), (1, .int u1)] := hl
  refine lv_iload_n hx hb dX11_load_0 rfl (lv_at hl 1 rfl) ?_
  refine lv_iconst (v := 0) hx hb dX11_load_1 (by decide) ?_
  refine lv_aload_n hx hb dX11_load_2 rfl (lv_at hl 0 rfl) ?_
  refine h_geti (C := RX11) (T := TX11) (N := 23) hx hb hts inX11 hown hK hT0 (hM.o rfl) rfl 10 rfl wF_X11_168 rfl dX11_load_3 (fun p1 => ?_)
  refine h_top (v := 0) hpr ?_
  refine h_callSi (rest := []) (As := [.int u1, .int 0, .int 0]) hx hb hml hown hts hK hT0 (fun _ h => h) hS0 (c_isFrom l G Y u1 0 0) trivial wd_X11_isFrom wS_X11_isFrom wL_X11_228 rfl hl.1 rfl (Nat.le_of_ble_eq_true rfl) dX11_load_6 ⟨Nat.le_of_ble_eq_true rfl, Nat.le_of_ble_eq_true rfl⟩ ⟨Nat.zero_le _, Nat.zero_le _⟩ (fun r2 H1 locs hp1 hT1 hS1 hk1 => ?_)
  obtain ⟨hp1, he⟩ := hp1
  have he := he.symm
  subst he
  rcases Classical.em (0 ≤ u1.toInt ∧ u1.toInt ≤ 0) with f3 | f3
  · have hp1 : r2 = 1 := hp1.1 f3
    subst hp1
    refine lv_if_ne (tgt := 18) hx hb dX11_load_9 (by decide) (fun _ => ?_) (fun h => absurd h (by decide))
    obtain rfl : u1 = 0 := Int32.toInt_inj.mp (by have h0 : (0 : Int32).toInt = 0 := rfl; omega)
    refine lv_aload_n hx hb dX11_load_18 rfl (lv_at hl 0 rfl) ?_
    refine lv_iload_n hx hb dX11_load_19 rfl (lv_at hl 1 rfl) ?_
    refine h_puti (C := RX11) (T := TX11) (N := 23) hx hb hts inX11 tyX11 tyX11_ok nmX11 hown hK hT0 (fun _ h => h) hS1 (hM.o rfl) rfl 11 rfl wF_X11_174 rfl rfl trivial rfl rfl dX11_load_20 (fun H2 locs hT2 hS2 hu2 => ?_)
    refine lv_iconst (v := 0) hx hb dX11_load_23 (by decide) ?_
    refine lv_istore_n (lv' := [(2, .int 0), (0, .ref (o)), (1, .int 0)]) hx hb dX11_load_24 rfl hl (by decide) rfl (fun ls hl => ?_)
    refine lv_iload_n hx hb dX11_load_25 rfl (lv_at hl 0 rfl) ?_
    refine lv_iload_n hx hb dX11_load_26 rfl (lv_at hl 2 rfl) ?_
    refine lv_icmp_ge (tgt := 48) hx hb dX11_load_27 (by decide) (fun _ => ?_) (fun h => absurd (by decide) h)
    refine lv_aload_n hx hb dX11_load_48 rfl (lv_at hl 1 rfl) ?_
    refine lv_iconst (v := 0) hx hb dX11_load_49 (by decide) ?_
    refine h_puti (C := RX11) (T := TX11) (N := 23) hx hb hts inX11 tyX11 tyX11_ok nmX11 hown hK hT2 (fun _ h => h) hS2 (hM.o rfl) rfl 10 rfl wF_X11_168 rfl rfl trivial rfl rfl dX11_load_50 (fun H3 locs hT3 hS3 hu3 => ?_)
    refine lv_aload_n hx hb dX11_load_53 rfl (lv_at hl 1 rfl) ?_
    refine lv_iconst (v := 0) hx hb dX11_load_54 (by decide) ?_
    refine h_puti (C := RX11) (T := TX11) (N := 23) hx hb hts inX11 tyX11 tyX11_ok nmX11 hown hK hT3 (fun _ h => h) hS3 (hM.o rfl) rfl 16 rfl wF_X11_213 rfl rfl trivial rfl rfl dX11_load_55 (fun H4 locs hT4 hS4 hu4 => ?_)
    refine lv_aload_n hx hb dX11_load_58 rfl (lv_at hl 1 rfl) ?_
    refine lv_iconst (v := (-1)) hx hb dX11_load_59 (by decide) ?_
    refine h_puti (C := RX11) (T := TX11) (N := 23) hx hb hts inX11 tyX11 tyX11_ok nmX11 hown hK hT4 (fun _ h => h) hS4 (hM.o rfl) rfl 17 rfl wF_X11_24 rfl rfl trivial rfl rfl dX11_load_60 (fun H5 locs hT5 hS5 hu5 => ?_)
    refine lv_aload_n hx hb dX11_load_63 rfl (lv_at hl 1 rfl) ?_
    refine lv_iconst (v := 0) hx hb dX11_load_64 (by decide) ?_
    refine h_puti (C := RX11) (T := TX11) (N := 23) hx hb hts inX11 tyX11 tyX11_ok nmX11 hown hK hT5 (fun _ h => h) hS5 (hM.o rfl) rfl 14 rfl wF_X11_177 rfl rfl trivial rfl rfl dX11_load_65 (fun H6 locs hT6 hS6 hu6 => ?_)
    refine lv_aload_n hx hb dX11_load_68 rfl (lv_at hl 1 rfl) ?_
    refine lv_iconst (v := 0) hx hb dX11_load_69 (by decide) ?_
    refine lv_sipush (v := 600) hx hb dX11_load_70 (by decide) ?_
    refine h_callVv (T := TX11) (rest := []) (As := [.int 0, .int 600]) hx hb hml hown hts hK hT6 (fun _ h => h) hS6 (c_copies l G Y tA (o) hM 600 600 rfl (by decide) (fun _ _ _ => trivial)) trivial wd_X11_copies wV_X11_copies wL_X11_270 (hM.o rfl) rfl rfl hl.1 rfl (Nat.le_of_ble_eq_true rfl) dX11_load_73 ⟨Nat.le_of_ble_eq_true rfl, Nat.le_of_ble_eq_true rfl⟩ ⟨Nat.zero_le _, Nat.zero_le _⟩ (fun H7 locs hp7 hT7 hS7 hk7 => ?_)
    refine lv_aload_n hx hb dX11_load_76 rfl (lv_at hl 1 rfl) ?_
    refine h_callVv (T := TX11) (rest := []) (As := []) hx hb hml hown hts hK hT7 (fun _ h => h) hS7 (c_begins l G Y (o) hM) trivial wd_X11_begins wV_X11_begins wL_X11_37 (hM.o rfl) rfl rfl hl.1 rfl (Nat.le_of_ble_eq_true rfl) dX11_load_77 ⟨Nat.le_of_ble_eq_true rfl, Nat.le_of_ble_eq_true rfl⟩ ⟨Nat.zero_le _, Nat.zero_le _⟩ (fun H8 locs hp8 hT8 hS8 hk8 => ?_)
    refine lv_aload_n hx hb dX11_load_80 rfl (lv_at hl 1 rfl) ?_
    refine h_callVv (T := TX11) (rest := []) (As := []) hx hb hml hown hts hK hT8 (fun _ h => h) hS8 (c_X11_aheadA l G Y (o) hM) ⟨((h_gi_same (hp8.2.2 _ (by omega))).trans ((h_gi_same (hp7.2.2 _ (by omega))).trans ((h_ps hu6 rfl (by decide) (by decide)).trans ((h_ps hu5 rfl (by decide) (by decide)).trans ((h_ps hu4 rfl (by decide) (by decide)).trans ((h_ps hu3 rfl (by decide) (by decide)).trans (h_pu hu2))))))), ((h_gi_same (hp8.2.2 _ (by omega))).trans ((h_gi_same (hp7.2.2 _ (by omega))).trans (h_pu hu6))), ((h_gi_same (hp8.2.2 _ (by omega))).trans ((h_gi_same (hp7.2.2 _ (by omega))).trans ((h_ps hu6 rfl (by decide) (by decide)).trans ((h_ps hu5 rfl (by decide) (by decide)).trans (h_pu hu4)))))⟩ wd_X11_ahead wV_X11_ahead wL_X11_232 (hM.o rfl) rfl rfl hl.1 rfl (Nat.le_of_ble_eq_true rfl) dX11_load_81 ⟨Nat.le_of_ble_eq_true rfl, Nat.le_of_ble_eq_true rfl⟩ ⟨Nat.zero_le _, Nat.zero_le _⟩ (fun H9 locs hp9 hT9 hS9 hk9 => ?_)
    refine lv_iconst (v := 1) hx hb dX11_load_84 (by decide) ?_
    refine lv_istore_n (lv' := [(2, .int 1), (0, .ref (o)), (1, .int 0)]) hx hb dX11_load_85 rfl hl (by decide) rfl (fun ls hl => ?_)
    refine lv_iload_n hx hb dX11_load_86 rfl (lv_at hl 0 rfl) ?_
    refine lv_if_eq (tgt := 105) hx hb dX11_load_87 (by decide) (fun h => absurd h (by decide)) (fun _ => ?_)
    refine lv_aload_n hx hb dX11_load_90 rfl (lv_at hl 1 rfl) ?_
    refine h_geti (C := RX11) (T := TX11) (N := 23) hx hb hts inX11 hown hK hT9 (hM.o rfl) rfl 12 rfl wF_X11_186 rfl dX11_load_91 (fun p7 => ?_)
    refine h_top (v := 0) hp9.1 ?_
    refine lv_if_eq (tgt := 105) hx hb dX11_load_94 (by decide) (fun _ => ?_) (fun h => absurd (by decide) h)
    refine lv_aload_n hx hb dX11_load_105 rfl (lv_at hl 1 rfl) ?_
    refine lv_aload_n hx hb dX11_load_106 rfl (lv_at hl 1 rfl) ?_
    refine h_geti (C := RX11) (T := TX11) (N := 23) hx hb hts inX11 hown hK hT9 (hM.o rfl) rfl 16 rfl wF_X11_213 rfl dX11_load_107 (fun p9 => ?_)
    refine h_top (v := 0) hp9.2.1 ?_
    refine h_puti (C := RX11) (T := TX11) (N := 23) hx hb hts inX11 tyX11 tyX11_ok nmX11 hown hK hT9 (fun _ h => h) hS9 (hM.o rfl) rfl 18 rfl wF_X11_28 rfl rfl trivial rfl rfl dX11_load_110 (fun H10 locs hT10 hS10 hu10 => ?_)
    refine lv_aload_n hx hb dX11_load_113 rfl (lv_at hl 1 rfl) ?_
    refine h_geti (C := RX11) (T := TX11) (N := 23) hx hb hts inX11 hown hK hT10 (hM.o rfl) rfl 16 rfl wF_X11_213 rfl dX11_load_114 (fun p10 => ?_)
    refine h_top (v := 0) ((h_ps hu10 rfl (by decide) (by decide)).trans hp9.2.1) ?_
    refine lv_if_le (tgt := 135) hx hb dX11_load_117 (by decide) (fun _ => ?_) (fun h => absurd (by decide) h)
    refine lv_aload_n hx hb dX11_load_135 rfl (lv_at hl 1 rfl) ?_
    refine lv_aload_n hx hb dX11_load_136 rfl (lv_at hl 1 rfl) ?_
    refine lv_iconst (v := 0) hx hb dX11_load_137 (by decide) ?_
    refine h_callVi (T := TX11) (rest := [.ref (o)]) (As := [.int 0]) hx hb hml hown hts hK hT10 (fun _ h => h) hS10 (c_of l G Y tA (o) hM 0 0 (by decide) (h_inc (by decide))) trivial wd_X11_of wV_X11_of wL_X11_47 (hM.o rfl) rfl rfl hl.1 rfl (Nat.le_of_ble_eq_true rfl) dX11_load_138 ⟨Nat.le_of_ble_eq_true rfl, Nat.le_of_ble_eq_true rfl⟩ ⟨Nat.zero_le _, Nat.zero_le _⟩ (fun r12 H11 locs hp11 hT11 hS11 hk11 => ?_)
    obtain ⟨hp11, he⟩ := hp11
    have he := he.symm
    subst he
    have hp11 : r12 = 0 := hp11.trans ((h_ai_same (hu10.2.1 _ (by omega))).trans ((h_ai_same (hp9.2.2 (o + 1) (by omega))).trans ((hp8.1 0 (by decide)).trans (by decide))))
    subst hp11
    refine h_callVi (T := TX11) (rest := []) (As := [.int 0]) hx hb hml hown hts hK hT10 (fun _ h => h) hS11 (c_X11_givesA l G Y (o) hM 0) trivial wd_X11_gives wV_X11_gives wL_X11_276 (hM.o rfl) rfl rfl hl.1 rfl (Nat.le_of_ble_eq_true rfl) dX11_load_141 ⟨Nat.le_of_ble_eq_true rfl, Nat.le_of_ble_eq_true rfl⟩ ⟨Nat.zero_le _, Nat.zero_le _⟩ (fun r13 H12 locs hp12 hT12 hS12 hk12 => ?_)
    have hp12 : r13 = 0 := hp12
    subst hp12
    exact hret _ _ _ _ _ hT12 hS12 (by refine ⟨fun h => ?_, fun h => ?_⟩ <;> first | rfl | exact absurd h (by decide) | (exfalso; omega)) dX11_load_144
  · have hp1 : r2 = 0 := hp1.2 f3
    subst hp1
    refine lv_if_ne (tgt := 18) hx hb dX11_load_9 (by decide) (fun h => absurd (by decide) h) (fun _ => ?_)
    refine lv_aload_n hx hb dX11_load_12 rfl (lv_at hl 0 rfl) ?_
    refine lv_iconst (v := 1) hx hb dX11_load_13 (by decide) ?_
    refine h_callVi (T := TX11) (rest := []) (As := [.int 1]) hx hb hml hown hts hK hT0 (fun _ h => h) hS1 (c_X11_refuseA l G Y (o) hM 1) trivial wd_X11_refuse wV_X11_refuse wL_X11_267 (hM.o rfl) rfl rfl hl.1 rfl (Nat.le_of_ble_eq_true rfl) dX11_load_14 ⟨Nat.le_of_ble_eq_true rfl, Nat.le_of_ble_eq_true rfl⟩ ⟨Nat.zero_le _, Nat.zero_le _⟩ (fun r15 H13 locs hp13 hT13 hS13 hk13 => ?_)
    have hp13 : r15 = (-1) := hp13
    subst hp13
    exact hret _ _ _ _ _ hT13 hS13 (by refine ⟨fun h => ?_, fun h => ?_⟩ <;> first | rfl | exact absurd h (by decide) | (exfalso; omega)) dX11_load_17
set_option maxHeartbeats 4000000 in
set_option maxRecDepth 100000 in
theorem c_X11_mark (l : Launch) (G : hG) (Y : hW) (o : Nat) (hM : h_On Y o (modE tF o)) : hMi l yX11_mark cX11_mark 1 (some .int) 1 23 G Y [.ref (o)] (fun H => h_gi G H 11 o 2 = 0) (fun H r H1 => r = 1) := by
  refine h_ofi (by decide +kernel) (Nat.le_of_ble_eq_true rfl) ?_
  intro p e s m args below meth c H0 ls Q hx hb hts hown hml hK hT0 hpr hS0 hl hret
  have hl : lv_has ls 1 [(0, .ref (o))] := hl
  refine lv_aload_n hx hb dX11_mark_0 rfl (lv_at hl 0 rfl) ?_
  refine h_geti (C := RX11) (T := TX11) (N := 23) hx hb hts inX11 hown hK hT0 (hM.o rfl) rfl 2 rfl wF_X11_285 rfl dX11_mark_1 (fun p1 => ?_)
  refine h_top (v := 0) hpr ?_
  refine lv_iconst (v := 4) hx hb dX11_mark_4 (by decide) ?_
  refine lv_icmp_ne (tgt := 14) hx hb dX11_mark_5 (by decide) (fun _ => ?_) (fun h => absurd h (by decide))
  refine lv_aload_n hx hb dX11_mark_14 rfl (lv_at hl 0 rfl) ?_
  refine lv_iconst (v := 0) hx hb dX11_mark_15 (by decide) ?_
  refine lv_sipush (v := 1200) hx hb dX11_mark_16 (by decide) ?_
  refine lv_sipush (v := 600) hx hb dX11_mark_19 (by decide) ?_
  refine lv_aload_n hx hb dX11_mark_22 rfl (lv_at hl 0 rfl) ?_
  refine h_geti (C := RX11) (T := TX11) (N := 23) hx hb hts inX11 hown hK hT0 (hM.o rfl) rfl 2 rfl wF_X11_285 rfl dX11_mark_23 (fun p3 => ?_)
  refine h_top (v := 0) hpr ?_
  refine lv_imul hx hb dX11_mark_26 ?_
  refine h_top (v := 0) (by decide) ?_
  refine lv_iadd hx hb dX11_mark_27 ?_
  refine h_top (v := 1200) (by decide) ?_
  refine h_callVv (T := TX11) (rest := []) (As := [.int 0, .int 1200]) hx hb hml hown hts hK hT0 (fun _ h => h) hS0 (c_copies l G Y tF (o) hM 1200 1200 rfl (by decide) (fun _ _ h h2 => absurd h2 (by omega))) trivial wd_X11_copies wV_X11_copies wL_X11_270 (hM.o rfl) rfl rfl hl.1 rfl (Nat.le_of_ble_eq_true rfl) dX11_mark_28 ⟨Nat.le_of_ble_eq_true rfl, Nat.le_of_ble_eq_true rfl⟩ ⟨Nat.zero_le _, Nat.zero_le _⟩ (fun H1 locs hp1 hT1 hS1 hk1 => ?_)
  refine lv_aload_n hx hb dX11_mark_31 rfl (lv_at hl 0 rfl) ?_
  refine lv_dup hx hb dX11_mark_32 rfl ?_
  refine h_geti (C := RX11) (T := TX11) (N := 23) hx hb hts inX11 hown hK hT1 (hM.o rfl) rfl 2 rfl wF_X11_285 rfl dX11_mark_33 (fun p4 => ?_)
  refine h_top (v := 0) ((h_gi_same (hp1.2.2 _ (by omega))).trans hpr) ?_
  refine lv_iconst (v := 1) hx hb dX11_mark_36 (by decide) ?_
  refine lv_iadd hx hb dX11_mark_37 ?_
  refine h_top (v := 1) (by decide) ?_
  refine h_puti (C := RX11) (T := TX11) (N := 23) hx hb hts inX11 tyX11 tyX11_ok nmX11 hown hK hT1 (fun _ h => h) hS1 (hM.o rfl) rfl 2 rfl wF_X11_285 rfl rfl trivial rfl rfl dX11_mark_38 (fun H2 locs hT2 hS2 hu2 => ?_)
  refine lv_aload_n hx hb dX11_mark_41 rfl (lv_at hl 0 rfl) ?_
  refine lv_aload_n hx hb dX11_mark_42 rfl (lv_at hl 0 rfl) ?_
  refine h_geti (C := RX11) (T := TX11) (N := 23) hx hb hts inX11 hown hK hT2 (hM.o rfl) rfl 2 rfl wF_X11_285 rfl dX11_mark_43 (fun p5 => ?_)
  refine h_top (v := 1) (h_pu hu2) ?_
  refine h_callVi (T := TX11) (rest := []) (As := [.int 1]) hx hb hml hown hts hK hT2 (fun _ h => h) hS2 (c_X11_gives l G Y (o) hM 1) trivial wd_X11_gives wV_X11_gives wL_X11_276 (hM.o rfl) rfl rfl hl.1 rfl (Nat.le_of_ble_eq_true rfl) dX11_mark_46 ⟨Nat.le_of_ble_eq_true rfl, Nat.le_of_ble_eq_true rfl⟩ ⟨Nat.zero_le _, Nat.zero_le _⟩ (fun r6 H3 locs hp3 hT3 hS3 hk3 => ?_)
  have hp3 : r6 = 1 := hp3
  subst hp3
  exact hret _ _ _ _ _ hT3 hS3 rfl dX11_mark_49
set_option maxHeartbeats 4000000 in
set_option maxRecDepth 100000 in
theorem c_X11_isTakenA (l : Launch) (G : hG) (Y : hW) (o : Nat) (hM : h_On Y o (modE tA o)) (u1 : Int32) : hMi l yX11_isTaken cX11_isTaken 3 (some .boolean) 1 21 G Y [.ref (o), .int u1] (fun H => h_ai H (o + 1) 0 = 0) (fun H r H1 => r = 0 ∧ H1 = H) := by
  refine h_ofz (by decide +kernel) (Nat.le_of_ble_eq_true rfl) ?_
  intro p e s m args below meth c H0 ls Q hx hb hts hown hml hK hT0 hpr hS0 hl hret
  have hl : lv_has ls 3 [(0, .ref (o)), (1, .int u1)] := hl
  refine lv_iconst (v := 0) hx hb dX11_isTaken_0 (by decide) ?_
  refine lv_istore_n (lv' := [(2, .int 0), (0, .ref (o)), (1, .int u1)]) hx hb dX11_isTaken_1 rfl hl (by decide) rfl (fun ls hl => ?_)
  refine lv_iload_n hx hb dX11_isTaken_2 rfl (lv_at hl 0 rfl) ?_
  refine lv_aload_n hx hb dX11_isTaken_3 rfl (lv_at hl 1 rfl) ?_
  refine lv_iconst (v := 0) hx hb dX11_isTaken_4 (by decide) ?_
  refine h_callVi (T := TX11) (rest := [.int 0]) (As := [.int 0]) hx hb hml hown hts hK hT0 (fun _ h => h) hS0 (c_of l G Y tA (o) hM 0 0 (by decide) (h_inc (by decide))) trivial wd_X11_of wV_X11_of wL_X11_47 (hM.o rfl) rfl rfl hl.1 rfl (Nat.le_of_ble_eq_true rfl) dX11_isTaken_5 ⟨Nat.le_of_ble_eq_true rfl, Nat.le_of_ble_eq_true rfl⟩ ⟨Nat.zero_le _, Nat.zero_le _⟩ (fun r1 H1 locs hp1 hT1 hS1 hk1 => ?_)
  obtain ⟨hp1, he⟩ := hp1
  have he := he.symm
  subst he
  have hp1 : r1 = 0 := hp1.trans hpr
  subst hp1
  refine lv_icmp_ge (tgt := 31) hx hb dX11_isTaken_8 (by decide) (fun _ => ?_) (fun h => absurd (by decide) h)
  refine lv_iconst (v := 0) hx hb dX11_isTaken_31 (by decide) ?_
  exact hret _ _ _ _ _ hT0 hS1 ⟨by decide, rfl, rfl⟩ dX11_isTaken_32
set_option maxHeartbeats 4000000 in
set_option maxRecDepth 100000 in
theorem c_X11_isSilentA (l : Launch) (G : hG) (Y : hW) (o : Nat) (hM : h_On Y o (modE tA o)) : hMv l yX11_isSilent cX11_isSilent 1 none 1 22 G Y [.ref (o)] (fun H => h_ai H (o + 1) 0 = 0) (fun H H1 => h_ai H1 (o + 1) 0 = 0) := by
  refine h_ofv (by decide +kernel) (Nat.le_of_ble_eq_true rfl) ?_
  intro p e s m args below meth c H0 ls Q hx hb hts hown hml hK hT0 hpr hS0 hl hret
  have hl : lv_has ls 1 [(0, .ref (o))] := hl
  refine lv_aload_n hx hb dX11_isSilent_0 rfl (lv_at hl 0 rfl) ?_
  refine lv_iconst (v := 5) hx hb dX11_isSilent_1 (by decide) ?_
  refine lv_iconst (v := 0) hx hb dX11_isSilent_2 (by decide) ?_
  refine h_callVv (T := TX11) (rest := []) (As := [.int 5, .int 0]) hx hb hml hown hts hK hT0 (fun _ h => h) hS0 (c_puts l G Y tA (o) hM 5 0 5 (by decide) (h_inc (by decide)) trivial) trivial wd_X11_puts wV_X11_puts wL_X11_43 (hM.o rfl) rfl rfl hl.1 rfl (Nat.le_of_ble_eq_true rfl) dX11_isSilent_3 ⟨Nat.le_of_ble_eq_true rfl, Nat.le_of_ble_eq_true rfl⟩ ⟨Nat.zero_le _, Nat.zero_le _⟩ (fun H1 locs hp1 hT1 hS1 hk1 => ?_)
  refine lv_aload_n hx hb dX11_isSilent_6 rfl (lv_at hl 0 rfl) ?_
  refine lv_iconst (v := 4) hx hb dX11_isSilent_7 (by decide) ?_
  refine lv_iconst (v := 0) hx hb dX11_isSilent_8 (by decide) ?_
  refine h_callVv (T := TX11) (rest := []) (As := [.int 4, .int 0]) hx hb hml hown hts hK hT1 (fun _ h => h) hS1 (c_puts l G Y tA (o) hM 4 0 4 (by decide) (h_inc (by decide)) trivial) trivial wd_X11_puts wV_X11_puts wL_X11_43 (hM.o rfl) rfl rfl hl.1 rfl (Nat.le_of_ble_eq_true rfl) dX11_isSilent_9 ⟨Nat.le_of_ble_eq_true rfl, Nat.le_of_ble_eq_true rfl⟩ ⟨Nat.zero_le _, Nat.zero_le _⟩ (fun H2 locs hp2 hT2 hS2 hk2 => ?_)
  refine lv_aload_n hx hb dX11_isSilent_12 rfl (lv_at hl 0 rfl) ?_
  refine lv_bipush (v := 18) hx hb dX11_isSilent_13 (by decide) ?_
  refine lv_iconst (v := 0) hx hb dX11_isSilent_15 (by decide) ?_
  refine h_callVv (T := TX11) (rest := []) (As := [.int 18, .int 0]) hx hb hml hown hts hK hT2 (fun _ h => h) hS2 (c_puts l G Y tA (o) hM 18 0 18 (by decide) (h_inc (by decide)) trivial) trivial wd_X11_puts wV_X11_puts wL_X11_43 (hM.o rfl) rfl rfl hl.1 rfl (Nat.le_of_ble_eq_true rfl) dX11_isSilent_16 ⟨Nat.le_of_ble_eq_true rfl, Nat.le_of_ble_eq_true rfl⟩ ⟨Nat.zero_le _, Nat.zero_le _⟩ (fun H3 locs hp3 hT3 hS3 hk3 => ?_)
  exact hret _ _ _ _ hT3 hS3 ((h_apn hp3 (by decide)).trans ((h_apn hp2 (by decide)).trans ((h_apn hp1 (by decide)).trans hpr))) dX11_isSilent_19
set_option maxHeartbeats 4000000 in
set_option maxRecDepth 100000 in
theorem c_X11_isAnewA (l : Launch) (G : hG) (Y : hW) (o : Nat) (hM : h_On Y o (modE tA o)) : hMv l yX11_isAnew cX11_isAnew 1 none 2 42 G Y [.ref (o)] (fun H => h_ai H (o + 1) 0 = 0 ∧ h_ai H (o + 1) 5 = 0) (fun H H1 => h_ai H1 (o + 1) 0 = 0) := by
  refine h_ofv (by decide +kernel) (Nat.le_of_ble_eq_true rfl) ?_
  intro p e s m args below meth c H0 ls Q hx hb hts hown hml hK hT0 hpr hS0 hl hret
  have hl : lv_has ls 1 [(0, .ref (o))] := hl
  refine lv_aload_n hx hb dX11_isAnew_0 rfl (lv_at hl 0 rfl) ?_
  refine lv_iconst (v := 5) hx hb dX11_isAnew_1 (by decide) ?_
  refine h_callVi (T := TX11) (rest := []) (As := [.int 5]) hx hb hml hown hts hK hT0 (fun _ h => h) hS0 (c_of l G Y tA (o) hM 5 5 (by decide) (h_inc (by decide))) trivial wd_X11_of wV_X11_of wL_X11_47 (hM.o rfl) rfl rfl hl.1 rfl (Nat.le_of_ble_eq_true rfl) dX11_isAnew_2 ⟨Nat.le_of_ble_eq_true rfl, Nat.le_of_ble_eq_true rfl⟩ ⟨Nat.zero_le _, Nat.zero_le _⟩ (fun r1 H1 locs hp1 hT1 hS1 hk1 => ?_)
  obtain ⟨hp1, he⟩ := hp1
  have he := he.symm
  subst he
  have hp1 : r1 = 0 := hp1.trans hpr.2
  subst hp1
  refine lv_if_ne (tgt := 12) hx hb dX11_isAnew_5 (by decide) (fun h => absurd (by decide) h) (fun _ => ?_)
  refine lv_aload_n hx hb dX11_isAnew_8 rfl (lv_at hl 0 rfl) ?_
  refine h_callVv (T := TX11) (rest := []) (As := []) hx hb hml hown hts hK hT0 (fun _ h => h) hS1 (c_X11_isSilentA l G Y (o) hM) hpr.1 wd_X11_isSilent wV_X11_isSilent wL_X11_128 (hM.o rfl) rfl rfl hl.1 rfl (Nat.le_of_ble_eq_true rfl) dX11_isAnew_9 ⟨Nat.le_of_ble_eq_true rfl, Nat.le_of_ble_eq_true rfl⟩ ⟨Nat.zero_le _, Nat.zero_le _⟩ (fun H2 locs hp2 hT2 hS2 hk2 => ?_)
  exact hret _ _ _ _ hT2 hS2 hp2 dX11_isAnew_12
set_option maxHeartbeats 4000000 in
set_option maxRecDepth 100000 in
theorem c_X11_comesA (l : Launch) (G : hG) (Y : hW) (o : Nat) (hM : h_On Y o (modE tA o)) (u1 : Int32) : hMi l yX11_comes cX11_comes 3 (some .int) 1 22 G Y [.ref (o), .int u1] (fun H => h_ai H (o + 1) 0 = 0) (fun H r H1 => r = 0) := by
  refine h_ofi (by decide +kernel) (Nat.le_of_ble_eq_true rfl) ?_
  intro p e s m args below meth c H0 ls Q hx hb hts hown hml hK hT0 hpr hS0 hl hret
  have hl : lv_has ls 3 [(0, .ref (o)), (1, .int u1)] := hl
  refine lv_aload_n hx hb dX11_comes_0 rfl (lv_at hl 0 rfl) ?_
  refine lv_iconst (v := 0) hx hb dX11_comes_1 (by decide) ?_
  refine h_callVi (T := TX11) (rest := []) (As := [.int 0]) hx hb hml hown hts hK hT0 (fun _ h => h) hS0 (c_of l G Y tA (o) hM 0 0 (by decide) (h_inc (by decide))) trivial wd_X11_of wV_X11_of wL_X11_47 (hM.o rfl) rfl rfl hl.1 rfl (Nat.le_of_ble_eq_true rfl) dX11_comes_2 ⟨Nat.le_of_ble_eq_true rfl, Nat.le_of_ble_eq_true rfl⟩ ⟨Nat.zero_le _, Nat.zero_le _⟩ (fun r1 H1 locs hp1 hT1 hS1 hk1 => ?_)
  obtain ⟨hp1, he⟩ := hp1
  have he := he.symm
  subst he
  have hp1 : r1 = 0 := hp1.trans hpr
  subst hp1
  refine lv_istore_n (lv' := [(2, .int 0), (0, .ref (o)), (1, .int u1)]) hx hb dX11_comes_5 rfl hl (by decide) rfl (fun ls hl => ?_)
  refine lv_aload_n hx hb dX11_comes_6 rfl (lv_at hl 1 rfl) ?_
  refine lv_bipush (v := 40) hx hb dX11_comes_7 (by decide) ?_
  refine lv_iload_n hx hb dX11_comes_9 rfl (lv_at hl 0 rfl) ?_
  refine lv_iadd hx hb dX11_comes_10 ?_
  refine h_top (v := 40) (by decide) ?_
  refine lv_iload_n hx hb dX11_comes_11 rfl (lv_at hl 2 rfl) ?_
  refine h_callVv (T := TX11) (rest := []) (As := [.int 40, .int u1]) hx hb hml hown hts hK hT0 (fun _ h => h) hS1 (c_puts l G Y tA (o) hM 40 u1 40 (by decide) (h_inc (by decide)) trivial) trivial wd_X11_puts wV_X11_puts wL_X11_43 (hM.o rfl) rfl rfl hl.1 rfl (Nat.le_of_ble_eq_true rfl) dX11_comes_12 ⟨Nat.le_of_ble_eq_true rfl, Nat.le_of_ble_eq_true rfl⟩ ⟨Nat.zero_le _, Nat.zero_le _⟩ (fun H2 locs hp2 hT2 hS2 hk2 => ?_)
  refine lv_aload_n hx hb dX11_comes_15 rfl (lv_at hl 1 rfl) ?_
  refine lv_bipush (v := 48) hx hb dX11_comes_16 (by decide) ?_
  refine lv_iload_n hx hb dX11_comes_18 rfl (lv_at hl 0 rfl) ?_
  refine lv_iadd hx hb dX11_comes_19 ?_
  refine h_top (v := 48) (by decide) ?_
  refine lv_iconst (v := 1) hx hb dX11_comes_20 (by decide) ?_
  refine h_callVv (T := TX11) (rest := []) (As := [.int 48, .int 1]) hx hb hml hown hts hK hT2 (fun _ h => h) hS2 (c_puts l G Y tA (o) hM 48 1 48 (by decide) (h_inc (by decide)) trivial) trivial wd_X11_puts wV_X11_puts wL_X11_43 (hM.o rfl) rfl rfl hl.1 rfl (Nat.le_of_ble_eq_true rfl) dX11_comes_21 ⟨Nat.le_of_ble_eq_true rfl, Nat.le_of_ble_eq_true rfl⟩ ⟨Nat.zero_le _, Nat.zero_le _⟩ (fun H3 locs hp3 hT3 hS3 hk3 => ?_)
  refine lv_aload_n hx hb dX11_comes_24 rfl (lv_at hl 1 rfl) ?_
  refine lv_bipush (v := 56) hx hb dX11_comes_25 (by decide) ?_
  refine lv_iload_n hx hb dX11_comes_27 rfl (lv_at hl 0 rfl) ?_
  refine lv_iadd hx hb dX11_comes_28 ?_
  refine h_top (v := 56) (by decide) ?_
  refine lv_iconst (v := (-1)) hx hb dX11_comes_29 (by decide) ?_
  refine h_callVv (T := TX11) (rest := []) (As := [.int 56, .int (-1)]) hx hb hml hown hts hK hT3 (fun _ h => h) hS3 (c_puts l G Y tA (o) hM 56 (-1) 56 (by decide) (h_inc (by decide)) trivial) trivial wd_X11_puts wV_X11_puts wL_X11_43 (hM.o rfl) rfl rfl hl.1 rfl (Nat.le_of_ble_eq_true rfl) dX11_comes_30 ⟨Nat.le_of_ble_eq_true rfl, Nat.le_of_ble_eq_true rfl⟩ ⟨Nat.zero_le _, Nat.zero_le _⟩ (fun H4 locs hp4 hT4 hS4 hk4 => ?_)
  refine lv_aload_n hx hb dX11_comes_33 rfl (lv_at hl 1 rfl) ?_
  refine lv_iconst (v := 0) hx hb dX11_comes_34 (by decide) ?_
  refine lv_iconst (v := 1) hx hb dX11_comes_35 (by decide) ?_
  refine h_callVv (T := TX11) (rest := []) (As := [.int 0, .int 1]) hx hb hml hown hts hK hT4 (fun _ h => h) hS4 (c_adds l G Y tA (o) hM 0 1 0 (by decide) (h_inc (by decide)) (fun _ => trivial)) trivial wd_X11_adds wV_X11_adds wL_X11_69 (hM.o rfl) rfl rfl hl.1 rfl (Nat.le_of_ble_eq_true rfl) dX11_comes_36 ⟨Nat.le_of_ble_eq_true rfl, Nat.le_of_ble_eq_true rfl⟩ ⟨Nat.zero_le _, Nat.zero_le _⟩ (fun H5 locs hp5 hT5 hS5 hk5 => ?_)
  refine lv_iload_n hx hb dX11_comes_39 rfl (lv_at hl 0 rfl) ?_
  exact hret _ _ _ _ _ hT5 hS5 rfl dX11_comes_40
set_option maxHeartbeats 4000000 in
set_option maxRecDepth 100000 in
theorem c_X11_addA (l : Launch) (G : hG) (Y : hW) (o : Nat) (hM : h_On Y o (modE tA o)) (u1 : Int32) : hMi l yX11_add cX11_add 2 (some .int) 3 62 G Y [.ref (o), .int u1] (fun H => h_ai H (o + 1) 0 = 0 ∧ h_ai H (o + 1) 5 = 0) (fun H r H1 => ((0 ≤ u1.toInt ∧ u1.toInt ≤ 99) → r = 0) ∧ (¬ (0 ≤ u1.toInt ∧ u1.toInt ≤ 99) → r = -1)) := by
  refine h_ofi (by decide +kernel) (Nat.le_of_ble_eq_true rfl) ?_
  intro p e s m args below meth c H0 ls Q hx hb hts hown hml hK hT0 hpr hS0 hl hret
  have hl : lv_has ls 2 [(0, .ref (o)), (1, .int u1)] := hl
  refine lv_iload_n hx hb dX11_add_0 rfl (lv_at hl 1 rfl) ?_
  refine lv_iconst (v := 0) hx hb dX11_add_1 (by decide) ?_
  refine lv_bipush (v := 99) hx hb dX11_add_2 (by decide) ?_
  refine h_callSi (rest := []) (As := [.int u1, .int 0, .int 99]) hx hb hml hown hts hK hT0 (fun _ h => h) hS0 (c_isFrom l G Y u1 0 99) trivial wd_X11_isFrom wS_X11_isFrom wL_X11_228 rfl hl.1 rfl (Nat.le_of_ble_eq_true rfl) dX11_add_4 ⟨Nat.le_of_ble_eq_true rfl, Nat.le_of_ble_eq_true rfl⟩ ⟨Nat.zero_le _, Nat.zero_le _⟩ (fun r1 H1 locs hp1 hT1 hS1 hk1 => ?_)
  obtain ⟨hp1, he⟩ := hp1
  have he := he.symm
  subst he
  rcases Classical.em (0 ≤ u1.toInt ∧ u1.toInt ≤ 99) with f2 | f2
  · have hp1 : r1 = 1 := hp1.1 f2
    subst hp1
    refine lv_if_ne (tgt := 16) hx hb dX11_add_7 (by decide) (fun _ => ?_) (fun h => absurd h (by decide))
    refine lv_aload_n hx hb dX11_add_16 rfl (lv_at hl 0 rfl) ?_
    refine lv_iconst (v := 0) hx hb dX11_add_17 (by decide) ?_
    refine h_callVi (T := TX11) (rest := []) (As := [.int 0]) hx hb hml hown hts hK hT0 (fun _ h => h) hS1 (c_of l G Y tA (o) hM 0 0 (by decide) (h_inc (by decide))) trivial wd_X11_of wV_X11_of wL_X11_47 (hM.o rfl) rfl rfl hl.1 rfl (Nat.le_of_ble_eq_true rfl) dX11_add_18 ⟨Nat.le_of_ble_eq_true rfl, Nat.le_of_ble_eq_true rfl⟩ ⟨Nat.zero_le _, Nat.zero_le _⟩ (fun r4 H2 locs hp2 hT2 hS2 hk2 => ?_)
    obtain ⟨hp2, he⟩ := hp2
    have he := he.symm
    subst he
    have hp2 : r4 = 0 := hp2.trans hpr.1
    subst hp2
    refine lv_bipush (v := 8) hx hb dX11_add_21 (by decide) ?_
    refine lv_icmp_ne (tgt := 32) hx hb dX11_add_23 (by decide) (fun _ => ?_) (fun h => absurd h (by decide))
    refine lv_aload_n hx hb dX11_add_32 rfl (lv_at hl 0 rfl) ?_
    refine lv_iload_n hx hb dX11_add_33 rfl (lv_at hl 1 rfl) ?_
    refine h_callVi (T := TX11) (rest := []) (As := [.int u1]) hx hb hml hown hts hK hT0 (fun _ h => h) hS2 (c_X11_isTakenA l G Y (o) hM u1) hpr.1 wd_X11_isTaken wV_X11_isTaken wL_X11_238 (hM.o rfl) rfl rfl hl.1 rfl (Nat.le_of_ble_eq_true rfl) dX11_add_34 ⟨Nat.le_of_ble_eq_true rfl, Nat.le_of_ble_eq_true rfl⟩ ⟨Nat.zero_le _, Nat.zero_le _⟩ (fun r6 H3 locs hp3 hT3 hS3 hk3 => ?_)
    obtain ⟨hp3, he⟩ := hp3
    have he := he.symm
    subst he
    have hp3 : r6 = 0 := hp3
    subst hp3
    refine lv_if_eq (tgt := 47) hx hb dX11_add_37 (by decide) (fun _ => ?_) (fun h => absurd (by decide) h)
    refine lv_aload_n hx hb dX11_add_47 rfl (lv_at hl 0 rfl) ?_
    refine h_callVv (T := TX11) (rest := []) (As := []) hx hb hml hown hts hK hT0 (fun _ h => h) hS3 (c_X11_isAnewA l G Y (o) hM) ⟨hpr.1, hpr.2⟩ wd_X11_isAnew wV_X11_isAnew wL_X11_291 (hM.o rfl) rfl rfl hl.1 rfl (Nat.le_of_ble_eq_true rfl) dX11_add_48 ⟨Nat.le_of_ble_eq_true rfl, Nat.le_of_ble_eq_true rfl⟩ ⟨Nat.zero_le _, Nat.zero_le _⟩ (fun H4 locs hp4 hT4 hS4 hk4 => ?_)
    refine lv_aload_n hx hb dX11_add_51 rfl (lv_at hl 0 rfl) ?_
    refine lv_aload_n hx hb dX11_add_52 rfl (lv_at hl 0 rfl) ?_
    refine lv_iload_n hx hb dX11_add_53 rfl (lv_at hl 1 rfl) ?_
    refine h_callVi (T := TX11) (rest := [.ref (o)]) (As := [.int u1]) hx hb hml hown hts hK hT4 (fun _ h => h) hS4 (c_X11_comesA l G Y (o) hM u1) hp4 wd_X11_comes wV_X11_comes wL_X11_241 (hM.o rfl) rfl rfl hl.1 rfl (Nat.le_of_ble_eq_true rfl) dX11_add_54 ⟨Nat.le_of_ble_eq_true rfl, Nat.le_of_ble_eq_true rfl⟩ ⟨Nat.zero_le _, Nat.zero_le _⟩ (fun r8 H5 locs hp5 hT5 hS5 hk5 => ?_)
    have hp5 : r8 = 0 := hp5
    subst hp5
    refine h_callVi (T := TX11) (rest := []) (As := [.int 0]) hx hb hml hown hts hK hT5 (fun _ h => h) hS5 (c_X11_givesA l G Y (o) hM 0) trivial wd_X11_gives wV_X11_gives wL_X11_276 (hM.o rfl) rfl rfl hl.1 rfl (Nat.le_of_ble_eq_true rfl) dX11_add_57 ⟨Nat.le_of_ble_eq_true rfl, Nat.le_of_ble_eq_true rfl⟩ ⟨Nat.zero_le _, Nat.zero_le _⟩ (fun r9 H6 locs hp6 hT6 hS6 hk6 => ?_)
    have hp6 : r9 = 0 := hp6
    subst hp6
    exact hret _ _ _ _ _ hT6 hS6 (by refine ⟨fun h => ?_, fun h => ?_⟩ <;> first | rfl | exact absurd h (by decide) | (exfalso; omega)) dX11_add_60
  · have hp1 : r1 = 0 := hp1.2 f2
    subst hp1
    refine lv_if_ne (tgt := 16) hx hb dX11_add_7 (by decide) (fun h => absurd (by decide) h) (fun _ => ?_)
    refine lv_aload_n hx hb dX11_add_10 rfl (lv_at hl 0 rfl) ?_
    refine lv_iconst (v := 1) hx hb dX11_add_11 (by decide) ?_
    refine h_callVi (T := TX11) (rest := []) (As := [.int 1]) hx hb hml hown hts hK hT0 (fun _ h => h) hS1 (c_X11_refuseA l G Y (o) hM 1) trivial wd_X11_refuse wV_X11_refuse wL_X11_267 (hM.o rfl) rfl rfl hl.1 rfl (Nat.le_of_ble_eq_true rfl) dX11_add_12 ⟨Nat.le_of_ble_eq_true rfl, Nat.le_of_ble_eq_true rfl⟩ ⟨Nat.zero_le _, Nat.zero_le _⟩ (fun r11 H7 locs hp7 hT7 hS7 hk7 => ?_)
    have hp7 : r11 = (-1) := hp7
    subst hp7
    exact hret _ _ _ _ _ hT7 hS7 (by refine ⟨fun h => ?_, fun h => ?_⟩ <;> first | rfl | exact absurd h (by decide) | (exfalso; omega)) dX11_add_15
set_option maxHeartbeats 4000000 in
set_option maxRecDepth 100000 in
theorem c_X11_tick (l : Launch) (G : hG) (Y : hW) (o : Nat) (hM : h_On Y o (modE tF o)) (u1 : Int32) : hMi l yX11_tick cX11_tick 3 (some .int) 4 85 G Y [.ref (o), .int u1] (fun H => h_ai H (o + 1) 3 = 0) (fun H r H1 => ((1 ≤ u1.toInt ∧ u1.toInt ≤ 500) → r = u1) ∧ (¬ (1 ≤ u1.toInt ∧ u1.toInt ≤ 500) → r = -1)) := by
  refine h_ofi (by decide +kernel) (Nat.le_of_ble_eq_true rfl) ?_
  intro p e s m args below meth c H0 ls Q hx hb hts hown hml hK hT0 hpr hS0 hl hret
  have hl : lv_has ls 3 [(0, .ref (o)), (1, .int u1)] := hl
  refine lv_iload_n hx hb dX11_tick_0 rfl (lv_at hl 1 rfl) ?_
  refine lv_iconst (v := 1) hx hb dX11_tick_1 (by decide) ?_
  refine lv_sipush (v := 500) hx hb dX11_tick_2 (by decide) ?_
  refine h_callSi (rest := []) (As := [.int u1, .int 1, .int 500]) hx hb hml hown hts hK hT0 (fun _ h => h) hS0 (c_isFrom l G Y u1 1 500) trivial wd_X11_isFrom wS_X11_isFrom wL_X11_228 rfl hl.1 rfl (Nat.le_of_ble_eq_true rfl) dX11_tick_5 ⟨Nat.le_of_ble_eq_true rfl, Nat.le_of_ble_eq_true rfl⟩ ⟨Nat.zero_le _, Nat.zero_le _⟩ (fun r1 H1 locs hp1 hT1 hS1 hk1 => ?_)
  obtain ⟨hp1, he⟩ := hp1
  have he := he.symm
  subst he
  rcases Classical.em (1 ≤ u1.toInt ∧ u1.toInt ≤ 500) with f2 | f2
  · have hp1 : r1 = 1 := hp1.1 f2
    subst hp1
    refine lv_if_ne (tgt := 17) hx hb dX11_tick_8 (by decide) (fun _ => ?_) (fun h => absurd h (by decide))
    refine lv_iconst (v := 0) hx hb dX11_tick_17 (by decide) ?_
    refine lv_istore_n (lv' := [(2, .int 0), (0, .ref (o)), (1, .int u1)]) hx hb dX11_tick_18 rfl hl (by decide) rfl (fun ls hl => ?_)
    have hcond : 1 ≤ u1.toInt ∧ u1.toInt ≤ 500 := by omega
    obtain ⟨M, hMl, hu⟩ : ∃ M : Nat, M ≤ 500 ∧ u1 = nI M := nI_of2 (M := 500) rfl (by simp only [Int32.lt_iff_toInt_lt]; have h0 : (0 : Int32).toInt = 0 := rfl; omega) (by simp only [Int32.le_iff_toInt_le]; have h0 : (500 : Int32).toInt = 500 := rfl; omega)
    subst hu
    have LP : ∀ (q k : Nat), q + k = M → ∀ (H0 : Heap) (locs : List Loc) (ls : Array Slot), hT G Y H0 → va_S (h_A Y) s.heap H0 locs → h_ai H0 (o + 1) 3 = nI k → lv_has ls 3 [(2, .int (nI k)), (0, .ref (o)), (1, .int (nI M))] → W p l e (h_rm 4 85) s m args below meth c H0 locs 0 0 Q (F0 m 19 ls []) := by
      intro q
      induction q with
      | zero =>
        intro k hk H0 locs ls  hT0 hS0 hf0 hl
        have hkM : k = M := by omega
        subst hkM
        refine lv_iload_n hx hb dX11_tick_19 rfl (lv_at hl 0 rfl) ?_
        refine lv_iload_n hx hb dX11_tick_20 rfl (lv_at hl 2 rfl) ?_
        refine lv_icmp_ge (tgt := 34) hx hb dX11_tick_21 (by decide) (fun _ => ?_) (fun h => absurd (Int32.le_refl _) h)
        refine lv_aload_n hx hb dX11_tick_34 rfl (lv_at hl 1 rfl) ?_
        refine lv_aload_n hx hb dX11_tick_35 rfl (lv_at hl 1 rfl) ?_
        refine lv_iconst (v := 3) hx hb dX11_tick_36 (by decide) ?_
        refine h_callVi (T := TX11) (rest := [.ref (o)]) (As := [.int 3]) hx hb hml hown hts hK hT0 (fun _ h => h) hS0 (c_of l G Y tF (o) hM 3 3 (by decide) (h_inc (by decide))) trivial wd_X11_of wV_X11_of wL_X11_47 (hM.o rfl) rfl rfl hl.1 rfl (Nat.le_of_ble_eq_true rfl) dX11_tick_37 ⟨Nat.le_of_ble_eq_true rfl, Nat.le_of_ble_eq_true rfl⟩ ⟨Nat.zero_le _, Nat.zero_le _⟩ (fun r4 H1 locs hp1 hT1 hS1 hk1 => ?_)
        obtain ⟨hp1, he⟩ := hp1
        have he := he.symm
        subst he
        have hp1 : r4 = (nI k) := hp1.trans hf0
        subst hp1
        refine h_callVi (T := TX11) (rest := []) (As := [.int (nI k)]) hx hb hml hown hts hK hT0 (fun _ h => h) hS1 (c_X11_gives l G Y (o) hM (nI k)) trivial wd_X11_gives wV_X11_gives wL_X11_276 (hM.o rfl) rfl rfl hl.1 rfl (Nat.le_of_ble_eq_true rfl) dX11_tick_40 ⟨Nat.le_of_ble_eq_true rfl, Nat.le_of_ble_eq_true rfl⟩ ⟨Nat.zero_le _, Nat.zero_le _⟩ (fun r5 H2 locs hp2 hT2 hS2 hk2 => ?_)
        have hp2 : r5 = (nI k) := hp2
        subst hp2
        exact hret _ _ _ _ _ hT2 hS2 ⟨fun _ => rfl, fun h => absurd hcond h⟩ dX11_tick_43
      | succ q ih =>
        intro k hk H0 locs ls  hT0 hS0 hf0 hl
        refine lv_iload_n hx hb dX11_tick_19 rfl (lv_at hl 0 rfl) ?_
        refine lv_iload_n hx hb dX11_tick_20 rfl (lv_at hl 2 rfl) ?_
        refine lv_icmp_ge (tgt := 34) hx hb dX11_tick_21 (by decide) (fun h => absurd h (nI_ge (by omega) (by omega))) (fun _ => ?_)
        refine lv_aload_n hx hb dX11_tick_24 rfl (lv_at hl 1 rfl) ?_
        refine h_callVv (T := TX11) (rest := []) (As := []) hx hb hml hown hts hK hT0 (fun _ h => h) hS0 (c_X11_ticks l G Y (o) hM (nI k) _) ⟨hf0, rfl⟩ wd_X11_ticks wV_X11_ticks wL_X11_297 (hM.o rfl) rfl rfl hl.1 rfl (Nat.le_of_ble_eq_true rfl) dX11_tick_25 ⟨Nat.le_of_ble_eq_true rfl, Nat.le_of_ble_eq_true rfl⟩ ⟨Nat.zero_le _, Nat.zero_le _⟩ (fun H1 locs hp1 hT1 hS1 hk1 => ?_)
        refine lv_iinc (v := (nI (k + 1))) (lv' := [(2, .int (nI (k + 1))), (0, .ref (o)), (1, .int (nI M))]) hx hb dX11_tick_28 hl (k := 0) rfl (nI_1 k) (by decide) rfl (fun ls hl => ?_)
        refine lv_goto (tgt := 19) hx hb dX11_tick_31 (by decide) ?_
        exact ih (k + 1) (by omega) _ _ _  hT1 hS1 (hp1.1.trans (nI_1 _)) (lv_sub hl [0, 1, 2] rfl)
    exact LP M 0 (by omega) _ _ _  hT0 hS1 hpr (lv_sub hl [0, 1, 2] rfl)
  · have hp1 : r1 = 0 := hp1.2 f2
    subst hp1
    refine lv_if_ne (tgt := 17) hx hb dX11_tick_8 (by decide) (fun h => absurd (by decide) h) (fun _ => ?_)
    refine lv_aload_n hx hb dX11_tick_11 rfl (lv_at hl 0 rfl) ?_
    refine lv_iconst (v := 1) hx hb dX11_tick_12 (by decide) ?_
    refine h_callVi (T := TX11) (rest := []) (As := [.int 1]) hx hb hml hown hts hK hT0 (fun _ h => h) hS1 (c_X11_refuse l G Y (o) hM 1) trivial wd_X11_refuse wV_X11_refuse wL_X11_267 (hM.o rfl) rfl rfl hl.1 rfl (Nat.le_of_ble_eq_true rfl) dX11_tick_13 ⟨Nat.le_of_ble_eq_true rfl, Nat.le_of_ble_eq_true rfl⟩ ⟨Nat.zero_le _, Nat.zero_le _⟩ (fun r7 H2 locs hp2 hT2 hS2 hk2 => ?_)
    have hp2 : r7 = (-1) := hp2
    subst hp2
    exact hret _ _ _ _ _ hT2 hS2 (by refine ⟨fun h => ?_, fun h => ?_⟩ <;> first | rfl | exact absurd h (by decide) | (exfalso; omega)) dX11_tick_16
set_option maxHeartbeats 4000000 in
set_option maxRecDepth 100000 in
theorem c_X11_drawBy (l : Launch) (G : hG) (Y : hW) (o : Nat) (hM : h_On Y o (modE tF o)) (u1 : Int32) : hMi l yX11_drawBy cX11_drawBy 2 (some .int) 0 0 G Y [.ref (o), .int u1] (fun H => True) (fun H r H1 => True) := by
  refine h_ofi (by decide +kernel) (Nat.le_of_ble_eq_true rfl) ?_
  intro p e s m args below meth c H0 ls Q hx hb hts hown hml hK hT0 hpr hS0 hl hret
  have hl : lv_has ls 2 [(0, .ref (o)), (1, .int u1)] := hl
  refine lv_aload_n hx hb dX11_drawBy_0 rfl (lv_at hl 0 rfl) ?_
  refine lv_aload_n hx hb dX11_drawBy_1 rfl (lv_at hl 0 rfl) ?_
  refine h_geti (C := RX11) (T := TX11) (N := 23) hx hb hts inX11 hown hK hT0 (hM.o rfl) rfl 19 rfl wF_X11_300 rfl dX11_drawBy_2 (fun p1 => ?_)
  refine lv_topi (fun x2 ex2 => ?_)
  refine lv_sipush (v := 3877) hx hb dX11_drawBy_5 (by decide) ?_
  refine lv_imul hx hb dX11_drawBy_8 ?_
  refine lv_topi (fun x3 ex3 => ?_)
  refine lv_sipush (v := 29573) hx hb dX11_drawBy_9 (by decide) ?_
  refine lv_iadd hx hb dX11_drawBy_12 ?_
  refine lv_topi (fun x4 ex4 => ?_)
  refine lv_ldcw (v := 139968) hx hb hown (hts _ wC_X11_303) dX11_drawBy_13 ?_
  refine lv_irem hx hb dX11_drawBy_16 (by decide) ?_
  refine lv_topi (fun x5 ex5 => ?_)
  refine h_puti (C := RX11) (T := TX11) (N := 23) hx hb hts inX11 tyX11 tyX11_ok nmX11 hown hK hT0 (fun _ h => h) hS0 (hM.o rfl) rfl 19 rfl wF_X11_300 rfl rfl trivial rfl rfl dX11_drawBy_17 (fun H1 locs hT1 hS1 hu1 => ?_)
  refine lv_aload_n hx hb dX11_drawBy_20 rfl (lv_at hl 0 rfl) ?_
  refine h_geti (C := RX11) (T := TX11) (N := 23) hx hb hts inX11 hown hK hT1 (hM.o rfl) rfl 19 rfl wF_X11_300 rfl dX11_drawBy_21 (fun p6 => ?_)
  refine lv_topi (fun x7 ex7 => ?_)
  refine lv_iload_n hx hb dX11_drawBy_24 rfl (lv_at hl 1 rfl) ?_
  refine lv_imul hx hb dX11_drawBy_25 ?_
  refine lv_topi (fun x8 ex8 => ?_)
  refine lv_ldcw (v := 139968) hx hb hown (hts _ wC_X11_303) dX11_drawBy_26 ?_
  refine lv_idiv hx hb dX11_drawBy_29 (by decide) ?_
  refine lv_topi (fun x9 ex9 => ?_)
  exact hret _ _ _ _ _ hT1 hS1 trivial dX11_drawBy_30
set_option maxHeartbeats 4000000 in
set_option maxRecDepth 100000 in
theorem c_X11_draws (l : Launch) (G : hG) (Y : hW) (o : Nat) (hM : h_On Y o (modE tF o)) (u1 : Int32) : hMv l yX11_draws cX11_draws 5 none 1 21 G Y [.ref (o), .int u1] (fun H => True) (fun H H1 => True) := by
  refine h_ofv (by decide +kernel) (Nat.le_of_ble_eq_true rfl) ?_
  intro p e s m args below meth c H0 ls Q hx hb hts hown hml hK hT0 hpr hS0 hl hret
  have hl : lv_has ls 5 [(0, .ref (o)), (1, .int u1)] := hl
  refine lv_aload_n hx hb dX11_draws_0 rfl (lv_at hl 0 rfl) ?_
  refine lv_bipush (v := 16) hx hb dX11_draws_1 (by decide) ?_
  refine h_callVi (T := TX11) (rest := []) (As := [.int 16]) hx hb hml hown hts hK hT0 (fun _ h => h) hS0 (c_X11_drawBy l G Y (o) hM 16) trivial wd_X11_drawBy wV_X11_drawBy wL_X11_304 (hM.o rfl) rfl rfl hl.1 rfl (Nat.le_of_ble_eq_true rfl) dX11_draws_3 ⟨Nat.le_of_ble_eq_true rfl, Nat.le_of_ble_eq_true rfl⟩ ⟨Nat.zero_le _, Nat.zero_le _⟩ (fun r1 H1 locs hp1 hT1 hS1 hk1 => ?_)
  refine lv_iload_n hx hb dX11_draws_6 rfl (lv_at hl 1 rfl) ?_
  refine lv_icmp_ge (tgt := 18) hx hb dX11_draws_7 (by decide) (fun c2 => ?_) (fun c2 => ?_)
  · skip
    exact hret _ _ _ _ hT1 hS1 trivial dX11_draws_18
  · skip
    refine lv_aload_n hx hb dX11_draws_10 rfl (lv_at hl 0 rfl) ?_
    refine lv_iconst (v := 0) hx hb dX11_draws_11 (by decide) ?_
    refine h_callVi (T := TX11) (rest := []) (As := [.int 0]) hx hb hml hown hts hK hT1 (fun _ h => h) hS1 (c_of l G Y tF (o) hM 0 0 (by decide) (h_inc (by decide))) trivial wd_X11_of wV_X11_of wL_X11_47 (hM.o rfl) rfl rfl hl.1 rfl (Nat.le_of_ble_eq_true rfl) dX11_draws_12 ⟨Nat.le_of_ble_eq_true rfl, Nat.le_of_ble_eq_true rfl⟩ ⟨Nat.zero_le _, Nat.zero_le _⟩ (fun r3 H2 locs hp2 hT2 hS2 hk2 => ?_)
    obtain ⟨hp2, he⟩ := hp2
    have he := he.symm
    subst he
    have hp2 : r3 = 0 := hp2.trans ((tF_all (hT1.ai (hM.at 1 rfl) (j := 0) (by decide)).1 (by decide) (by decide) (by decide)).trans (by decide))
    subst hp2
    refine lv_if_ne (tgt := 19) hx hb dX11_draws_15 (by decide) (fun h => absurd (by decide) h) (fun _ => ?_)
    exact hret _ _ _ _ hT1 hS2 trivial dX11_draws_18
set_option maxHeartbeats 4000000 in
set_option maxRecDepth 100000 in
theorem c_X11_run (l : Launch) (G : hG) (Y : hW) (o : Nat) (hM : h_On Y o (modE tF o)) (u1 u2 u3 : Int32) : hMi l yX11_run cX11_run 6 (some .int) 4 85 G Y [.ref (o), .int u1, .int u2, .int u3] (fun H => True) (fun H r H1 => (((1 ≤ u1.toInt ∧ u1.toInt ≤ 500) ∧ (0 ≤ u2.toInt ∧ u2.toInt ≤ 9999) ∧ (0 ≤ u3.toInt ∧ u3.toInt ≤ 16)) → r = 0) ∧ (¬ ((1 ≤ u1.toInt ∧ u1.toInt ≤ 500) ∧ (0 ≤ u2.toInt ∧ u2.toInt ≤ 9999) ∧ (0 ≤ u3.toInt ∧ u3.toInt ≤ 16)) → r = -1)) := by
  refine h_ofi (by decide +kernel) (Nat.le_of_ble_eq_true rfl) ?_
  intro p e s m args below meth c H0 ls Q hx hb hts hown hml hK hT0 hpr hS0 hl hret
  have hl : lv_has ls 6 [(0, .ref (o)), (1, .int u1), (2, .int u2), (3, .int u3)] := hl
  refine lv_iload_n hx hb dX11_run_0 rfl (lv_at hl 1 rfl) ?_
  refine lv_iconst (v := 1) hx hb dX11_run_1 (by decide) ?_
  refine lv_sipush (v := 500) hx hb dX11_run_2 (by decide) ?_
  refine h_callSi (rest := []) (As := [.int u1, .int 1, .int 500]) hx hb hml hown hts hK hT0 (fun _ h => h) hS0 (c_isFrom l G Y u1 1 500) trivial wd_X11_isFrom wS_X11_isFrom wL_X11_228 rfl hl.1 rfl (Nat.le_of_ble_eq_true rfl) dX11_run_5 ⟨Nat.le_of_ble_eq_true rfl, Nat.le_of_ble_eq_true rfl⟩ ⟨Nat.zero_le _, Nat.zero_le _⟩ (fun r1 H1 locs hp1 hT1 hS1 hk1 => ?_)
  obtain ⟨hp1, he⟩ := hp1
  have he := he.symm
  subst he
  rcases Classical.em (1 ≤ u1.toInt ∧ u1.toInt ≤ 500) with f2 | f2
  · have hp1 : r1 = 1 := hp1.1 f2
    subst hp1
    refine lv_if_eq (tgt := 32) hx hb dX11_run_8 (by decide) (fun h => absurd h (by decide)) (fun _ => ?_)
    refine lv_iload_n hx hb dX11_run_11 rfl (lv_at hl 2 rfl) ?_
    refine lv_iconst (v := 0) hx hb dX11_run_12 (by decide) ?_
    refine lv_sipush (v := 9999) hx hb dX11_run_13 (by decide) ?_
    refine h_callSi (rest := []) (As := [.int u2, .int 0, .int 9999]) hx hb hml hown hts hK hT0 (fun _ h => h) hS1 (c_isFrom l G Y u2 0 9999) trivial wd_X11_isFrom wS_X11_isFrom wL_X11_228 rfl hl.1 rfl (Nat.le_of_ble_eq_true rfl) dX11_run_16 ⟨Nat.le_of_ble_eq_true rfl, Nat.le_of_ble_eq_true rfl⟩ ⟨Nat.zero_le _, Nat.zero_le _⟩ (fun r4 H2 locs hp2 hT2 hS2 hk2 => ?_)
    obtain ⟨hp2, he⟩ := hp2
    have he := he.symm
    subst he
    rcases Classical.em (0 ≤ u2.toInt ∧ u2.toInt ≤ 9999) with f5 | f5
    · have hp2 : r4 = 1 := hp2.1 f5
      subst hp2
      refine lv_if_eq (tgt := 32) hx hb dX11_run_19 (by decide) (fun h => absurd h (by decide)) (fun _ => ?_)
      refine lv_iload_n hx hb dX11_run_22 rfl (lv_at hl 3 rfl) ?_
      refine lv_iconst (v := 0) hx hb dX11_run_23 (by decide) ?_
      refine lv_bipush (v := 16) hx hb dX11_run_24 (by decide) ?_
      refine h_callSi (rest := []) (As := [.int u3, .int 0, .int 16]) hx hb hml hown hts hK hT0 (fun _ h => h) hS2 (c_isFrom l G Y u3 0 16) trivial wd_X11_isFrom wS_X11_isFrom wL_X11_228 rfl hl.1 rfl (Nat.le_of_ble_eq_true rfl) dX11_run_26 ⟨Nat.le_of_ble_eq_true rfl, Nat.le_of_ble_eq_true rfl⟩ ⟨Nat.zero_le _, Nat.zero_le _⟩ (fun r7 H3 locs hp3 hT3 hS3 hk3 => ?_)
      obtain ⟨hp3, he⟩ := hp3
      have he := he.symm
      subst he
      rcases Classical.em (0 ≤ u3.toInt ∧ u3.toInt ≤ 16) with f8 | f8
      · have hp3 : r7 = 1 := hp3.1 f8
        subst hp3
        refine lv_if_ne (tgt := 38) hx hb dX11_run_29 (by decide) (fun _ => ?_) (fun h => absurd h (by decide))
        refine lv_iconst (v := 0) hx hb dX11_run_38 (by decide) ?_
        refine lv_istore (lv' := [(4, .int 0), (0, .ref (o)), (1, .int u1), (2, .int u2), (3, .int u3)]) hx hb dX11_run_39 hl (by decide) rfl (fun ls hl => ?_)
        refine lv_aload_n hx hb dX11_run_41 rfl (lv_at hl 1 rfl) ?_
        refine lv_iload_n hx hb dX11_run_42 rfl (lv_at hl 3 rfl) ?_
        refine h_puti (C := RX11) (T := TX11) (N := 23) hx hb hts inX11 tyX11 tyX11_ok nmX11 hown hK hT0 (fun _ h => h) hS3 (hM.o rfl) rfl 19 rfl wF_X11_300 rfl rfl trivial rfl rfl dX11_run_43 (fun H4 locs hT4 hS4 hu4 => ?_)
        refine lv_iconst (v := 0) hx hb dX11_run_46 (by decide) ?_
        refine lv_istore (lv' := [(5, .int 0), (4, .int 0), (0, .ref (o)), (1, .int u1), (2, .int u2), (3, .int u3)]) hx hb dX11_run_47 hl (by decide) rfl (fun ls hl => ?_)
        have hcond : (1 ≤ u1.toInt ∧ u1.toInt ≤ 500) ∧ (0 ≤ u2.toInt ∧ u2.toInt ≤ 9999) ∧ (0 ≤ u3.toInt ∧ u3.toInt ≤ 16) := by omega
        obtain ⟨M, hMl, hu⟩ : ∃ M : Nat, M ≤ 500 ∧ u1 = nI M := nI_of2 (M := 500) rfl (by simp only [Int32.lt_iff_toInt_lt]; have h0 : (0 : Int32).toInt = 0 := rfl; omega) (by simp only [Int32.le_iff_toInt_le]; have h0 : (500 : Int32).toInt = 500 := rfl; omega)
        subst hu
        have LP : ∀ (q k : Nat), q + k = M → ∀ (H0 : Heap) (locs : List Loc) (ls : Array Slot), hT G Y H0 → va_S (h_A Y) s.heap H0 locs → lv_has ls 6 [(5, .int (nI k)), (0, .ref (o)), (1, .int (nI M)), (3, .int u3), (4, .int 0)] → W p l e (h_rm 4 85) s m args below meth c H0 locs 0 0 Q (F0 m 49 ls []) := by
          intro q
          induction q with
          | zero =>
            intro k hk H0 locs ls  hT0 hS0  hl
            have hkM : k = M := by omega
            subst hkM
            refine lv_iload hx hb dX11_run_49 (lv_at hl 0 rfl) ?_
            refine lv_iload_n hx hb dX11_run_51 rfl (lv_at hl 2 rfl) ?_
            refine lv_icmp_ge (tgt := 88) hx hb dX11_run_52 (by decide) (fun _ => ?_) (fun h => absurd (Int32.le_refl _) h)
            refine lv_aload_n hx hb dX11_run_88 rfl (lv_at hl 1 rfl) ?_
            refine lv_iload hx hb dX11_run_89 (lv_at hl 4 rfl) ?_
            refine h_callVi (T := TX11) (rest := []) (As := [.int 0]) hx hb hml hown hts hK hT0 (fun _ h => h) hS0 (c_X11_gives l G Y (o) hM 0) trivial wd_X11_gives wV_X11_gives wL_X11_276 (hM.o rfl) rfl rfl hl.1 rfl (Nat.le_of_ble_eq_true rfl) dX11_run_91 ⟨Nat.le_of_ble_eq_true rfl, Nat.le_of_ble_eq_true rfl⟩ ⟨Nat.zero_le _, Nat.zero_le _⟩ (fun r10 H1 locs hp1 hT1 hS1 hk1 => ?_)
            have hp1 : r10 = 0 := hp1
            subst hp1
            exact hret _ _ _ _ _ hT1 hS1 ⟨fun _ => rfl, fun h => absurd hcond h⟩ dX11_run_94
          | succ q ih =>
            intro k hk H0 locs ls  hT0 hS0  hl
            refine lv_iload hx hb dX11_run_49 (lv_at hl 0 rfl) ?_
            refine lv_iload_n hx hb dX11_run_51 rfl (lv_at hl 2 rfl) ?_
            refine lv_icmp_ge (tgt := 88) hx hb dX11_run_52 (by decide) (fun h => absurd h (nI_ge (by omega) (by omega))) (fun _ => ?_)
            refine lv_aload_n hx hb dX11_run_55 rfl (lv_at hl 1 rfl) ?_
            refine lv_iload_n hx hb dX11_run_56 rfl (lv_at hl 3 rfl) ?_
            refine h_callVv (T := TX11) (rest := []) (As := [.int u3]) hx hb hml hown hts hK hT0 (fun _ h => h) hS0 (c_X11_draws l G Y (o) hM u3) trivial wd_X11_draws wV_X11_draws wL_X11_307 (hM.o rfl) rfl rfl hl.1 rfl (Nat.le_of_ble_eq_true rfl) dX11_run_57 ⟨Nat.le_of_ble_eq_true rfl, Nat.le_of_ble_eq_true rfl⟩ ⟨Nat.zero_le _, Nat.zero_le _⟩ (fun H1 locs hp1 hT1 hS1 hk1 => ?_)
            refine lv_aload_n hx hb dX11_run_60 rfl (lv_at hl 1 rfl) ?_
            refine h_callVv (T := TX11) (rest := []) (As := []) hx hb hml hown hts hK hT1 (fun _ h => h) hS1 (c_X11_ticks l G Y (o) hM _ _) ⟨rfl, rfl⟩ wd_X11_ticks wV_X11_ticks wL_X11_297 (hM.o rfl) rfl rfl hl.1 rfl (Nat.le_of_ble_eq_true rfl) dX11_run_61 ⟨Nat.le_of_ble_eq_true rfl, Nat.le_of_ble_eq_true rfl⟩ ⟨Nat.zero_le _, Nat.zero_le _⟩ (fun H2 locs hp2 hT2 hS2 hk2 => ?_)
            refine lv_iload hx hb dX11_run_64 (lv_at hl 4 rfl) ?_
            refine lv_aload_n hx hb dX11_run_66 rfl (lv_at hl 1 rfl) ?_
            refine h_geti (C := RX11) (T := TX11) (N := 23) hx hb hts inX11 hown hK hT2 (hM.o rfl) rfl 3 rfl wF_X11_112 rfl dX11_run_67 (fun p11 => ?_)
            refine h_top (v := (-1)) hp2.2.2.1 ?_
            refine lv_iconst (v := (-1)) hx hb dX11_run_70 (by decide) ?_
            refine lv_icmp_ne (tgt := 78) hx hb dX11_run_71 (by decide) (fun h => absurd (by decide) h) (fun _ => ?_)
            refine lv_iconst (v := 0) hx hb dX11_run_74 (by decide) ?_
            refine lv_goto (tgt := 79) hx hb dX11_run_75 (by decide) ?_
            refine lv_iadd hx hb dX11_run_79 ?_
            refine h_top (v := 0) (by decide) ?_
            refine lv_istore (lv' := [(4, .int 0), (5, .int (nI k)), (0, .ref (o)), (1, .int (nI M)), (3, .int u3)]) hx hb dX11_run_80 hl (by decide) rfl (fun ls hl => ?_)
            refine lv_iinc (v := (nI (k + 1))) (lv' := [(5, .int (nI (k + 1))), (4, .int 0), (0, .ref (o)), (1, .int (nI M)), (3, .int u3)]) hx hb dX11_run_82 hl (k := 1) rfl (nI_1 k) (by decide) rfl (fun ls hl => ?_)
            refine lv_goto (tgt := 49) hx hb dX11_run_85 (by decide) ?_
            exact ih (k + 1) (by omega) _ _ _  hT2 hS2 (lv_sub hl [0, 2, 3, 4, 1] rfl)
        exact LP M 0 (by omega) _ _ _  hT4 hS4 (lv_sub hl [0, 2, 3, 5, 1] rfl)
      · have hp3 : r7 = 0 := hp3.2 f8
        subst hp3
        refine lv_if_ne (tgt := 38) hx hb dX11_run_29 (by decide) (fun h => absurd (by decide) h) (fun _ => ?_)
        refine lv_aload_n hx hb dX11_run_32 rfl (lv_at hl 0 rfl) ?_
        refine lv_iconst (v := 1) hx hb dX11_run_33 (by decide) ?_
        refine h_callVi (T := TX11) (rest := []) (As := [.int 1]) hx hb hml hown hts hK hT0 (fun _ h => h) hS3 (c_X11_refuse l G Y (o) hM 1) trivial wd_X11_refuse wV_X11_refuse wL_X11_267 (hM.o rfl) rfl rfl hl.1 rfl (Nat.le_of_ble_eq_true rfl) dX11_run_34 ⟨Nat.le_of_ble_eq_true rfl, Nat.le_of_ble_eq_true rfl⟩ ⟨Nat.zero_le _, Nat.zero_le _⟩ (fun r14 H5 locs hp5 hT5 hS5 hk5 => ?_)
        have hp5 : r14 = (-1) := hp5
        subst hp5
        exact hret _ _ _ _ _ hT5 hS5 (by refine ⟨fun h => ?_, fun h => ?_⟩ <;> first | rfl | exact absurd h (by decide) | (exfalso; omega)) dX11_run_37
    · have hp2 : r4 = 0 := hp2.2 f5
      subst hp2
      refine lv_if_eq (tgt := 32) hx hb dX11_run_19 (by decide) (fun _ => ?_) (fun h => absurd (by decide) h)
      refine lv_aload_n hx hb dX11_run_32 rfl (lv_at hl 0 rfl) ?_
      refine lv_iconst (v := 1) hx hb dX11_run_33 (by decide) ?_
      refine h_callVi (T := TX11) (rest := []) (As := [.int 1]) hx hb hml hown hts hK hT0 (fun _ h => h) hS2 (c_X11_refuse l G Y (o) hM 1) trivial wd_X11_refuse wV_X11_refuse wL_X11_267 (hM.o rfl) rfl rfl hl.1 rfl (Nat.le_of_ble_eq_true rfl) dX11_run_34 ⟨Nat.le_of_ble_eq_true rfl, Nat.le_of_ble_eq_true rfl⟩ ⟨Nat.zero_le _, Nat.zero_le _⟩ (fun r16 H6 locs hp6 hT6 hS6 hk6 => ?_)
      have hp6 : r16 = (-1) := hp6
      subst hp6
      exact hret _ _ _ _ _ hT6 hS6 (by refine ⟨fun h => ?_, fun h => ?_⟩ <;> first | rfl | exact absurd h (by decide) | (exfalso; omega)) dX11_run_37
  · have hp1 : r1 = 0 := hp1.2 f2
    subst hp1
    refine lv_if_eq (tgt := 32) hx hb dX11_run_8 (by decide) (fun _ => ?_) (fun h => absurd (by decide) h)
    refine lv_aload_n hx hb dX11_run_32 rfl (lv_at hl 0 rfl) ?_
    refine lv_iconst (v := 1) hx hb dX11_run_33 (by decide) ?_
    refine h_callVi (T := TX11) (rest := []) (As := [.int 1]) hx hb hml hown hts hK hT0 (fun _ h => h) hS1 (c_X11_refuse l G Y (o) hM 1) trivial wd_X11_refuse wV_X11_refuse wL_X11_267 (hM.o rfl) rfl rfl hl.1 rfl (Nat.le_of_ble_eq_true rfl) dX11_run_34 ⟨Nat.le_of_ble_eq_true rfl, Nat.le_of_ble_eq_true rfl⟩ ⟨Nat.zero_le _, Nat.zero_le _⟩ (fun r18 H7 locs hp7 hT7 hS7 hk7 => ?_)
    have hp7 : r18 = (-1) := hp7
    subst hp7
    exact hret _ _ _ _ _ hT7 hS7 (by refine ⟨fun h => ?_, fun h => ?_⟩ <;> first | rfl | exact absurd h (by decide) | (exfalso; omega)) dX11_run_37
