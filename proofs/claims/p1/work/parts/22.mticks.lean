set_option maxHeartbeats 4000000 in
set_option maxRecDepth 100000 in
theorem c_copies (l : Launch) (G : hG) (Y : hW) (t : hTb) (o : Nat) (hM : h_On Y o (modE t o)) (u2 : Int32) (B : Nat) (hu : u2 = nI B) (hB : 600 ≤ B ∧ B + 600 ≤ 3600) (hP : ∀ (j : Nat) (x : Int32), 600 ≤ j → t.2 1100 j x) : hMv l yX11_copies cX11_copies 4 none 0 0 G Y [.ref (o), .int 0, .int u2] (fun H => True) (fun H H1 => (∀ j, j < 600 → h_ai H1 (o + 1) (B + j) = h_ai H (o + 1) j) ∧ (∀ j, j < 600 → h_ai H1 (o + 1) j = h_ai H (o + 1) j) ∧ ∀ q : Nat, q ≠ o + 1 → H1[q]? = H[q]?) := by
  refine h_ofv (by decide +kernel) (Nat.le_of_ble_eq_true rfl) ?_
  intro p e s m args below meth c H0 ls Q hx hb hts hown hml hK hT0 hpr hS0 hl hret
  have hl : lv_has ls 4 [(0, .ref (o)), (1, .int 0), (2, .int u2)] := hl
  refine lv_iconst (v := 0) hx hb dX11_copies_0 (by decide) ?_
  refine lv_istore_n (lv' := [(3, .int 0), (0, .ref (o)), (1, .int 0), (2, .int u2)]) hx hb dX11_copies_1 rfl hl (by decide) rfl (fun ls hl => ?_)
  obtain ⟨Hs, hHs⟩ : ∃ Hs : Heap, Hs = H0 := ⟨_, rfl⟩
  subst hHs
  have LP : ∀ (q k : Nat), q + k = 600 → ∀ (H0 : Heap) (locs : List Loc) (ls : Array Slot), hT G Y H0 → va_S (h_A Y) s.heap H0 locs → ((∀ j, j < k → h_ai H0 (o + 1) (B + j) = h_ai Hs (o + 1) j) ∧ (∀ j, j < 600 → h_ai H0 (o + 1) j = h_ai Hs (o + 1) j) ∧ ∀ q : Nat, q ≠ o + 1 → H0[q]? = Hs[q]?) → lv_has ls 4 [(3, .int (nI k)), (0, .ref (o)), (1, .int 0), (2, .int u2)] → W p l e (h_rm 0 0) s m args below meth c H0 locs 0 0 Q (F0 m 2 ls []) := by
    intro q
    induction q with
    | zero =>
      intro k hk H0 locs ls hT0 hS0 hi hl
      obtain rfl : k = 600 := by omega
      refine lv_iload_n hx hb dX11_copies_2 rfl (lv_at hl 0 rfl) ?_
      refine lv_sipush (v := 600) hx hb dX11_copies_3 (by decide) ?_
      refine lv_icmp_ge (tgt := 31) hx hb dX11_copies_6 (by decide) (fun _ => ?_) (fun h => absurd (by decide) h)
      exact hret _ _ _ _ hT0 hS0 hi dX11_copies_31
    | succ q ih =>
      intro k hk H0 locs ls hT0 hS0 hi hl
      refine lv_iload_n hx hb dX11_copies_2 rfl (lv_at hl 0 rfl) ?_
      refine lv_sipush (v := 600) hx hb dX11_copies_3 (by decide) ?_
      refine lv_icmp_ge (tgt := 31) hx hb dX11_copies_6 (by decide) (fun h => absurd h (nI_ge (b := 600) (by omega) (by decide))) (fun _ => ?_)
      refine lv_aload_n hx hb dX11_copies_9 rfl (lv_at hl 1 rfl) ?_
      refine h_getr (C := RX11) (T := TX11) (N := 23) hx hb hts inX11 hown hK hT0 (hM.o rfl) rfl 0 rfl wF_X11_7 rfl dX11_copies_10 ?_
      refine lv_iload_n hx hb dX11_copies_13 rfl (lv_at hl 3 rfl) ?_
      refine lv_iload_n hx hb dX11_copies_14 rfl (lv_at hl 0 rfl) ?_
      refine lv_iadd hx hb dX11_copies_15 ?_
      refine h_top (v := nI (B + k)) (by rw [hu]; exact nI_add B k) ?_
      refine lv_aload_n hx hb dX11_copies_16 rfl (lv_at hl 1 rfl) ?_
      refine h_getr (C := RX11) (T := TX11) (N := 23) hx hb hts inX11 hown hK hT0 (hM.o rfl) rfl 0 rfl wF_X11_7 rfl dX11_copies_17 ?_
      refine lv_iload_n hx hb dX11_copies_20 rfl (lv_at hl 2 rfl) ?_
      refine lv_iload_n hx hb dX11_copies_21 rfl (lv_at hl 0 rfl) ?_
      refine lv_iadd hx hb dX11_copies_22 ?_
      refine h_top (v := nI k) (by rw [show (0 : Int32) = nI 0 from rfl, nI_add, Nat.zero_add]) ?_
      refine h_iald hx hb hK hT0 (hM.at 1 rfl) (vp_in_nI (by omega) (by decide)) dX11_copies_23 (fun p1 => ?_)
      refine lv_topi (fun x2 ex2 => ?_)
      refine h_iast hx hb hK hT0 (fun _ h => h) hS0 (hM.at 1 rfl) (vp_in_nI (by omega) (by decide)) (by rw [nI_clamp (by omega)]; exact hP _ _ (by omega)) dX11_copies_24 (fun H1 locs hT1 hS1 hu1 => ?_)
      refine lv_iinc (v := (nI (k + 1))) (lv' := [(3, .int (nI (k + 1))), (0, .ref (o)), (1, .int 0), (2, .int u2)]) hx hb dX11_copies_25 hl (k := 0) rfl (nI_1 k) (by decide) rfl (fun ls hl => ?_)
      refine lv_goto (tgt := 2) hx hb dX11_copies_28 (by decide) ?_
      have hi2 : (∀ j, j < k + 1 → h_ai H1 (o + 1) (B + j) = h_ai Hs (o + 1) j) ∧ (∀ j, j < 600 → h_ai H1 (o + 1) j = h_ai Hs (o + 1) j) ∧ ∀ q : Nat, q ≠ o + 1 → H1[q]? = Hs[q]? := by
        have hcl : (nI (B + k)).toNatClampNeg = B + k := nI_clamp (by omega)
        rw [hcl] at hu1
        refine ⟨fun j hj => ?_, fun j hj => (h_apn hu1 (by omega)).trans (hi.2.1 j hj), fun q hq => (hu1.2.1 q hq).trans (hi.2.2 q hq)⟩
        rcases Classical.em (j = k) with hjk | hjk
        · subst hjk; rw [h_aps hu1, ex2, nI_clamp (by omega)]; exact hi.2.1 j (by omega)
        · rw [h_apn hu1 (by omega)]; exact hi.1 j (by omega)
      exact ih (k + 1) (by omega) _ _ _ hT1 hS1 hi2 (lv_sub hl [0, 1, 2, 3] rfl)
  exact LP 600 0 (by omega) _ _ _ hT0 hS0 ⟨fun j hj => absurd hj (by omega), fun _ _ => rfl, fun _ _ => rfl⟩ (lv_sub hl [0, 1, 2, 3] rfl)
set_option maxHeartbeats 4000000 in
set_option maxRecDepth 100000 in
theorem c_copiesB (l : Launch) (G : hG) (Y : hW) (o : Nat) (hM : h_On Y o (modE tF o)) : hMv l yX11_copies cX11_copies 4 none 0 0 G Y [.ref (o), .int 600, .int 0] (fun H => h_AS H o) (fun H H1 => ∀ q : Nat, q ≠ o + 1 → H1[q]? = H[q]?) := by
  refine h_ofv (by decide +kernel) (Nat.le_of_ble_eq_true rfl) ?_
  intro p e s m args below meth c H0 ls Q hx hb hts hown hml hK hT0 hpr hS0 hl hret
  have hl : lv_has ls 4 [(0, .ref (o)), (1, .int 600), (2, .int 0)] := hl
  refine lv_iconst (v := 0) hx hb dX11_copies_0 (by decide) ?_
  refine lv_istore_n (lv' := [(3, .int 0), (0, .ref (o)), (1, .int 600), (2, .int 0)]) hx hb dX11_copies_1 rfl hl (by decide) rfl (fun ls hl => ?_)
  obtain ⟨Hs, hHs⟩ : ∃ Hs : Heap, Hs = H0 := ⟨_, rfl⟩
  subst hHs
  have LP : ∀ (q k : Nat), q + k = 600 → ∀ (H0 : Heap) (locs : List Loc) (ls : Array Slot), hT G Y H0 → va_S (h_A Y) s.heap H0 locs → (h_AS H0 o ∧ ∀ q : Nat, q ≠ o + 1 → H0[q]? = Hs[q]?) → lv_has ls 4 [(3, .int (nI k)), (0, .ref (o)), (1, .int 600), (2, .int 0)] → W p l e (h_rm 0 0) s m args below meth c H0 locs 0 0 Q (F0 m 2 ls []) := by
    intro q
    induction q with
    | zero =>
      intro k hk H0 locs ls hT0 hS0 hi hl
      obtain rfl : k = 600 := by omega
      refine lv_iload_n hx hb dX11_copies_2 rfl (lv_at hl 0 rfl) ?_
      refine lv_sipush (v := 600) hx hb dX11_copies_3 (by decide) ?_
      refine lv_icmp_ge (tgt := 31) hx hb dX11_copies_6 (by decide) (fun _ => ?_) (fun h => absurd (by decide) h)
      exact hret _ _ _ _ hT0 hS0 hi.2 dX11_copies_31
    | succ q ih =>
      intro k hk H0 locs ls hT0 hS0 hi hl
      refine lv_iload_n hx hb dX11_copies_2 rfl (lv_at hl 0 rfl) ?_
      refine lv_sipush (v := 600) hx hb dX11_copies_3 (by decide) ?_
      refine lv_icmp_ge (tgt := 31) hx hb dX11_copies_6 (by decide) (fun h => absurd h (nI_ge (b := 600) (by omega) (by decide))) (fun _ => ?_)
      refine lv_aload_n hx hb dX11_copies_9 rfl (lv_at hl 1 rfl) ?_
      refine h_getr (C := RX11) (T := TX11) (N := 23) hx hb hts inX11 hown hK hT0 (hM.o rfl) rfl 0 rfl wF_X11_7 rfl dX11_copies_10 ?_
      refine lv_iload_n hx hb dX11_copies_13 rfl (lv_at hl 3 rfl) ?_
      refine lv_iload_n hx hb dX11_copies_14 rfl (lv_at hl 0 rfl) ?_
      refine lv_iadd hx hb dX11_copies_15 ?_
      refine h_top (v := nI k) (by rw [show (0 : Int32) = nI 0 from rfl, nI_add, Nat.zero_add]) ?_
      refine lv_aload_n hx hb dX11_copies_16 rfl (lv_at hl 1 rfl) ?_
      refine h_getr (C := RX11) (T := TX11) (N := 23) hx hb hts inX11 hown hK hT0 (hM.o rfl) rfl 0 rfl wF_X11_7 rfl dX11_copies_17 ?_
      refine lv_iload_n hx hb dX11_copies_20 rfl (lv_at hl 2 rfl) ?_
      refine lv_iload_n hx hb dX11_copies_21 rfl (lv_at hl 0 rfl) ?_
      refine lv_iadd hx hb dX11_copies_22 ?_
      refine h_top (v := nI (600 + k)) (nI_add 600 k) ?_
      refine h_iald hx hb hK hT0 (hM.at 1 rfl) (vp_in_nI (by omega) (by decide)) dX11_copies_23 (fun p1 => ?_)
      refine lv_topi (fun x2 ex2 => ?_)
      refine h_iast hx hb hK hT0 (fun _ h => h) hS0 (hM.at 1 rfl) (vp_in_nI (by omega) (by decide)) (by rw [nI_clamp (by omega), ex2, nI_clamp (by omega)]; exact hi.1 k (by omega)) dX11_copies_24 (fun H1 locs hT1 hS1 hu1 => ?_)
      refine lv_iinc (v := (nI (k + 1))) (lv' := [(3, .int (nI (k + 1))), (0, .ref (o)), (1, .int 600), (2, .int 0)]) hx hb dX11_copies_25 hl (k := 0) rfl (nI_1 k) (by decide) rfl (fun ls hl => ?_)
      refine lv_goto (tgt := 2) hx hb dX11_copies_28 (by decide) ?_
      have hi2 : h_AS H1 o ∧ ∀ q : Nat, q ≠ o + 1 → H1[q]? = Hs[q]? := by
        have hcl : (nI k).toNatClampNeg = k := nI_clamp (by omega)
        rw [hcl] at hu1
        exact ⟨hi.1.up (fun j hj => h_apn hu1 (by omega)), fun q hq => (hu1.2.1 q hq).trans (hi.2 q hq)⟩
      exact ih (k + 1) (by omega) _ _ _ hT1 hS1 hi2 (lv_sub hl [0, 1, 2, 3] rfl)
  exact LP 600 0 (by omega) _ _ _ hT0 hS0 ⟨hpr, fun _ _ => rfl⟩ (lv_sub hl [0, 1, 2, 3] rfl)
set_option maxHeartbeats 4000000 in
set_option maxRecDepth 100000 in
theorem c_X11_peaks (l : Launch) (G : hG) (Y : hW) (o : Nat) (hM : h_On Y o (modE tF o)) : hMv l yX11_peaks cX11_peaks 1 none 1 21 G Y [.ref (o)] (fun H => True) (fun H H1 => H1 = H) := by
  refine h_ofv (by decide +kernel) (Nat.le_of_ble_eq_true rfl) ?_
  intro p e s m args below meth c H0 ls Q hx hb hts hown hml hK hT0 hpr hS0 hl hret
  have hl : lv_has ls 1 [(0, .ref (o))] := hl
  refine lv_aload_n hx hb dX11_peaks_0 rfl (lv_at hl 0 rfl) ?_
  refine lv_iconst (v := 5) hx hb dX11_peaks_1 (by decide) ?_
  refine h_callVi (T := TX11) (rest := []) (As := [.int 5]) hx hb hml hown hts hK hT0 (fun _ h => h) hS0 (c_of l G Y tF (o) hM 5 5 (by decide) (h_inc (by decide))) trivial wd_X11_of wV_X11_of wL_X11_47 (hM.o rfl) rfl rfl hl.1 rfl (Nat.le_of_ble_eq_true rfl) dX11_peaks_2 ⟨Nat.le_of_ble_eq_true rfl, Nat.le_of_ble_eq_true rfl⟩ ⟨Nat.zero_le _, Nat.zero_le _⟩ (fun r1 H1 locs hp1 hT1 hS1 hk1 => ?_)
  obtain ⟨hp1, he⟩ := hp1
  have he := he.symm
  subst he
  have hp1 : r1 = 0 := hp1.trans ((tF_all (hT0.ai (hM.at 1 rfl) (j := 5) (by decide)).1 (by decide) (by decide) (by decide)).trans (by decide))
  subst hp1
  refine lv_if_eq (tgt := 25) hx hb dX11_peaks_5 (by decide) (fun _ => ?_) (fun h => absurd (by decide) h)
  exact hret _ _ _ _ hT0 hS1 rfl dX11_peaks_25
set_option maxHeartbeats 4000000 in
set_option maxRecDepth 100000 in
theorem c_X11_onPaper (l : Launch) (G : hG) (Y : hW) (o : Nat) (hM : h_On Y o (modE tF o)) (u1 : Int32) (hz1 : u1 = 0 ∨ u1 = 1) : hMv l yX11_onPaper cX11_onPaper 2 none 2 41 G Y [.ref (o), .int u1] (fun H => True) (fun H H1 => h_AS H1 o ∧ h_gi G H1 11 o 5 = 0 ∧ h_gi G H1 11 o 4 = -1 ∧ h_gi G H1 11 o 20 = 0) := by
  refine h_ofv (by decide +kernel) (Nat.le_of_ble_eq_true rfl) ?_
  intro p e s m args below meth c H0 ls Q hx hb hts hown hml hK hT0 hpr hS0 hl hret
  have hl : lv_has ls 2 [(0, .ref (o)), (1, .int u1)] := hl
  refine lv_aload_n hx hb dX11_onPaper_0 rfl (lv_at hl 0 rfl) ?_
  refine lv_iconst (v := 0) hx hb dX11_onPaper_1 (by decide) ?_
  refine lv_sipush (v := 600) hx hb dX11_onPaper_2 (by decide) ?_
  refine h_callVv (T := TX11) (rest := []) (As := [.int 0, .int 600]) hx hb hml hown hts hK hT0 (fun _ h => h) hS0 (c_copies l G Y tF (o) hM 600 600 rfl (by decide) (fun _ _ h h2 => absurd h2 (by omega))) trivial wd_X11_copies wV_X11_copies wL_X11_270 (hM.o rfl) rfl rfl hl.1 rfl (Nat.le_of_ble_eq_true rfl) dX11_onPaper_5 ⟨Nat.le_of_ble_eq_true rfl, Nat.le_of_ble_eq_true rfl⟩ ⟨Nat.zero_le _, Nat.zero_le _⟩ (fun H1 locs hp1 hT1 hS1 hk1 => ?_)
  refine lv_aload_n hx hb dX11_onPaper_8 rfl (lv_at hl 0 rfl) ?_
  refine lv_iload_n hx hb dX11_onPaper_9 rfl (lv_at hl 1 rfl) ?_
  refine h_puti (C := RX11) (T := TX11) (N := 23) hx hb hts inX11 tyX11 tyX11_ok nmX11 hown hK hT1 (fun _ h => h) hS1 (hM.o rfl) rfl 6 rfl wF_X11_94 rfl rfl hz1 (h_nz hz1) (h_fz hz1) dX11_onPaper_10 (fun H2 locs hT2 hS2 hu2 => ?_)
  refine lv_aload_n hx hb dX11_onPaper_13 rfl (lv_at hl 0 rfl) ?_
  refine lv_iconst (v := 0) hx hb dX11_onPaper_14 (by decide) ?_
  refine h_puti (C := RX11) (T := TX11) (N := 23) hx hb hts inX11 tyX11 tyX11_ok nmX11 hown hK hT2 (fun _ h => h) hS2 (hM.o rfl) rfl 5 rfl wF_X11_82 rfl rfl (Or.inl rfl) rfl rfl dX11_onPaper_15 (fun H3 locs hT3 hS3 hu3 => ?_)
  refine lv_aload_n hx hb dX11_onPaper_18 rfl (lv_at hl 0 rfl) ?_
  refine lv_iconst (v := (-1)) hx hb dX11_onPaper_19 (by decide) ?_
  refine h_puti (C := RX11) (T := TX11) (N := 23) hx hb hts inX11 tyX11 tyX11_ok nmX11 hown hK hT3 (fun _ h => h) hS3 (hM.o rfl) rfl 4 rfl wF_X11_143 rfl rfl trivial rfl rfl dX11_onPaper_20 (fun H4 locs hT4 hS4 hu4 => ?_)
  refine lv_aload_n hx hb dX11_onPaper_23 rfl (lv_at hl 0 rfl) ?_
  refine lv_iconst (v := 0) hx hb dX11_onPaper_24 (by decide) ?_
  refine h_puti (C := RX11) (T := TX11) (N := 23) hx hb hts inX11 tyX11 tyX11_ok nmX11 hown hK hT4 (fun _ h => h) hS4 (hM.o rfl) rfl 20 rfl wF_X11_316 rfl rfl trivial rfl rfl dX11_onPaper_25 (fun H5 locs hT5 hS5 hu5 => ?_)
  refine lv_aload_n hx hb dX11_onPaper_28 rfl (lv_at hl 0 rfl) ?_
  refine h_callVv (T := TX11) (rest := []) (As := []) hx hb hml hown hts hK hT5 (fun _ h => h) hS5 (c_X11_peaks l G Y (o) hM) trivial wd_X11_peaks wV_X11_peaks wL_X11_319 (hM.o rfl) rfl rfl hl.1 rfl (Nat.le_of_ble_eq_true rfl) dX11_onPaper_29 ⟨Nat.le_of_ble_eq_true rfl, Nat.le_of_ble_eq_true rfl⟩ ⟨Nat.zero_le _, Nat.zero_le _⟩ (fun H6 locs hp6 hT6 hS6 hk6 => ?_)
  have he := hp6.symm
  subst he
  exact hret _ _ _ _ hT5 hS6 ⟨(((((show h_AS H1 (o) from fun j hj => by rw [hp1.1 j hj]; exact (hT0.ai (hM.at 1 rfl) (by omega)).1).same (hu2.2.1 _ (by omega))).same (hu3.2.1 _ (by omega))).same (hu4.2.1 _ (by omega))).same (hu5.2.1 _ (by omega))), ((h_ps hu5 rfl (by decide) (by decide)).trans ((h_ps hu4 rfl (by decide) (by decide)).trans (h_pu hu3))), ((h_ps hu5 rfl (by decide) (by decide)).trans (h_pu hu4)), (h_pu hu5)⟩ dX11_onPaper_32
set_option maxHeartbeats 4000000 in
set_option maxRecDepth 100000 in
theorem c_X11_offPaper (l : Launch) (G : hG) (Y : hW) (o : Nat) (hM : h_On Y o (modE tF o)) (z : Int32) : hMv l yX11_offPaper cX11_offPaper 1 none 1 23 G Y [.ref (o)] (fun H => h_AS H o ∧ h_gi G H 11 o 20 = z) (fun H H1 => h_gi G H1 11 o 20 = z) := by
  refine h_ofv (by decide +kernel) (Nat.le_of_ble_eq_true rfl) ?_
  intro p e s m args below meth c H0 ls Q hx hb hts hown hml hK hT0 hpr hS0 hl hret
  have hl : lv_has ls 1 [(0, .ref (o))] := hl
  refine lv_aload_n hx hb dX11_offPaper_0 rfl (lv_at hl 0 rfl) ?_
  refine lv_sipush (v := 600) hx hb dX11_offPaper_1 (by decide) ?_
  refine lv_iconst (v := 0) hx hb dX11_offPaper_4 (by decide) ?_
  refine h_callVv (T := TX11) (rest := []) (As := [.int 600, .int 0]) hx hb hml hown hts hK hT0 (fun _ h => h) hS0 (c_copiesB l G Y (o) hM) hpr.1 wd_X11_copies wV_X11_copies wL_X11_270 (hM.o rfl) rfl rfl hl.1 rfl (Nat.le_of_ble_eq_true rfl) dX11_offPaper_5 ⟨Nat.le_of_ble_eq_true rfl, Nat.le_of_ble_eq_true rfl⟩ ⟨Nat.zero_le _, Nat.zero_le _⟩ (fun H1 locs hp1 hT1 hS1 hk1 => ?_)
  refine lv_aload_n hx hb dX11_offPaper_8 rfl (lv_at hl 0 rfl) ?_
  refine lv_iconst (v := 0) hx hb dX11_offPaper_9 (by decide) ?_
  refine h_puti (C := RX11) (T := TX11) (N := 23) hx hb hts inX11 tyX11 tyX11_ok nmX11 hown hK hT1 (fun _ h => h) hS1 (hM.o rfl) rfl 6 rfl wF_X11_94 rfl rfl (Or.inl rfl) rfl rfl dX11_offPaper_10 (fun H2 locs hT2 hS2 hu2 => ?_)
  exact hret _ _ _ _ hT2 hS2 ((h_ps hu2 rfl (by decide) (by decide)).trans ((h_gi_same (hp1 (o) (by omega))).trans hpr.2)) dX11_offPaper_13
set_option maxHeartbeats 4000000 in
set_option maxRecDepth 100000 in
theorem c_X11_isStill (l : Launch) (G : hG) (Y : hW) (o : Nat) (hM : h_On Y o (modE tF o)) (z : Int32) : hMv l yX11_isStill cX11_isStill 3 none 2 43 G Y [.ref (o)] (fun H => h_ai H (o + 1) 3 = z) (fun H H1 => h_ai H1 (o + 1) 3 = z ∧ (∀ j, 600 ≤ j → h_ai H1 (o + 1) j = h_ai H (o + 1) j) ∧ ∀ q : Nat, q ≠ o + 1 → H1[q]? = H[q]?) := by
  refine h_ofv (by decide +kernel) (Nat.le_of_ble_eq_true rfl) ?_
  intro p e s m args below meth c H0 ls Q hx hb hts hown hml hK hT0 hpr hS0 hl hret
  have hl : lv_has ls 3 [(0, .ref (o))] := hl
  refine lv_aload_n hx hb dX11_isStill_0 rfl (lv_at hl 0 rfl) ?_
  refine h_callVi (T := TX11) (rest := []) (As := []) hx hb hml hown hts hK hT0 (fun _ h => h) hS0 (c_X11_onMany l G Y (o) hM) trivial wd_X11_onMany wV_X11_onMany wL_X11_150 (hM.o rfl) rfl rfl hl.1 rfl (Nat.le_of_ble_eq_true rfl) dX11_isStill_1 ⟨Nat.le_of_ble_eq_true rfl, Nat.le_of_ble_eq_true rfl⟩ ⟨Nat.zero_le _, Nat.zero_le _⟩ (fun r1 H1 locs hp1 hT1 hS1 hk1 => ?_)
  obtain ⟨hp1, he⟩ := hp1
  have he := he.symm
  subst he
  have hp1 : r1 = 0 := hp1
  subst hp1
  refine lv_istore_n (lv' := [(1, .int 0), (0, .ref (o))]) hx hb dX11_isStill_4 rfl hl (by decide) rfl (fun ls hl => ?_)
  refine lv_aload_n hx hb dX11_isStill_5 rfl (lv_at hl 1 rfl) ?_
  refine lv_iconst (v := 4) hx hb dX11_isStill_6 (by decide) ?_
  refine lv_iconst (v := 1) hx hb dX11_isStill_7 (by decide) ?_
  refine h_callVv (T := TX11) (rest := []) (As := [.int 4, .int 1]) hx hb hml hown hts hK hT0 (fun _ h => h) hS1 (c_adds l G Y tF (o) hM 4 1 4 (by decide) (h_inc (by decide)) (fun _ => (fun _ _ h => absurd rfl h))) trivial wd_X11_adds wV_X11_adds wL_X11_69 (hM.o rfl) rfl rfl hl.1 rfl (Nat.le_of_ble_eq_true rfl) dX11_isStill_8 ⟨Nat.le_of_ble_eq_true rfl, Nat.le_of_ble_eq_true rfl⟩ ⟨Nat.zero_le _, Nat.zero_le _⟩ (fun H2 locs hp2 hT2 hS2 hk2 => ?_)
  refine lv_aload_n hx hb dX11_isStill_11 rfl (lv_at hl 1 rfl) ?_
  refine lv_iconst (v := 4) hx hb dX11_isStill_12 (by decide) ?_
  refine h_callVi (T := TX11) (rest := []) (As := [.int 4]) hx hb hml hown hts hK hT2 (fun _ h => h) hS2 (c_of l G Y tF (o) hM 4 4 (by decide) (h_inc (by decide))) trivial wd_X11_of wV_X11_of wL_X11_47 (hM.o rfl) rfl rfl hl.1 rfl (Nat.le_of_ble_eq_true rfl) dX11_isStill_13 ⟨Nat.le_of_ble_eq_true rfl, Nat.le_of_ble_eq_true rfl⟩ ⟨Nat.zero_le _, Nat.zero_le _⟩ (fun r2 H3 locs hp3 hT3 hS3 hk3 => ?_)
  obtain ⟨hp3, he⟩ := hp3
  have he := he.symm
  subst he
  refine lv_istore_n (lv' := [(2, .int r2), (1, .int 0), (0, .ref (o))]) hx hb dX11_isStill_16 rfl hl (by decide) rfl (fun ls hl => ?_)
  refine lv_iload_n hx hb dX11_isStill_17 rfl (lv_at hl 1 rfl) ?_
  refine lv_if_ne (tgt := 22) hx hb dX11_isStill_18 (by decide) (fun h => absurd (by decide) h) (fun _ => ?_)
  exact hret _ _ _ _ hT2 hS3 ⟨((h_apn hp2 (by decide)).trans hpr), (fun j hj => (h_apn hp2 (by omega))), (fun q hq => (hp2.2.1 q (by omega)))⟩ dX11_isStill_21
set_option maxHeartbeats 4000000 in
set_option maxRecDepth 100000 in
theorem c_X11_ticks (l : Launch) (G : hG) (Y : hW) (o : Nat) (hM : h_On Y o (modE tF o)) (z zp : Int32) : hMv l yX11_ticks cX11_ticks 1 none 3 65 G Y [.ref (o)] (fun H => h_ai H (o + 1) 3 = z ∧ h_gi G H 11 o 20 = zp) (fun H H1 => h_ai H1 (o + 1) 3 = z + 1 ∧ (∀ j, 600 ≤ j → h_ai H1 (o + 1) j = h_ai H (o + 1) j) ∧ h_gi G H1 11 o 3 = -1 ∧ h_gi G H1 11 o 4 = -1 ∧ h_gi G H1 11 o 5 = 0 ∧ h_gi G H1 11 o 20 = zp) := by
  refine h_ofv (by decide +kernel) (Nat.le_of_ble_eq_true rfl) ?_
  intro p e s m args below meth c H0 ls Q hx hb hts hown hml hK hT0 hpr hS0 hl hret
  have hl : lv_has ls 1 [(0, .ref (o))] := hl
  refine lv_aload_n hx hb dX11_ticks_0 rfl (lv_at hl 0 rfl) ?_
  refine lv_iconst (v := (-1)) hx hb dX11_ticks_1 (by decide) ?_
  refine h_puti (C := RX11) (T := TX11) (N := 23) hx hb hts inX11 tyX11 tyX11_ok nmX11 hown hK hT0 (fun _ h => h) hS0 (hM.o rfl) rfl 3 rfl wF_X11_112 rfl rfl trivial rfl rfl dX11_ticks_2 (fun H1 locs hT1 hS1 hu1 => ?_)
  refine lv_aload_n hx hb dX11_ticks_5 rfl (lv_at hl 0 rfl) ?_
  refine lv_iconst (v := (-1)) hx hb dX11_ticks_6 (by decide) ?_
  refine h_puti (C := RX11) (T := TX11) (N := 23) hx hb hts inX11 tyX11 tyX11_ok nmX11 hown hK hT1 (fun _ h => h) hS1 (hM.o rfl) rfl 4 rfl wF_X11_143 rfl rfl trivial rfl rfl dX11_ticks_7 (fun H2 locs hT2 hS2 hu2 => ?_)
  refine lv_aload_n hx hb dX11_ticks_10 rfl (lv_at hl 0 rfl) ?_
  refine lv_iconst (v := 0) hx hb dX11_ticks_11 (by decide) ?_
  refine h_puti (C := RX11) (T := TX11) (N := 23) hx hb hts inX11 tyX11 tyX11_ok nmX11 hown hK hT2 (fun _ h => h) hS2 (hM.o rfl) rfl 5 rfl wF_X11_82 rfl rfl (Or.inl rfl) rfl rfl dX11_ticks_12 (fun H3 locs hT3 hS3 hu3 => ?_)
  refine lv_aload_n hx hb dX11_ticks_15 rfl (lv_at hl 0 rfl) ?_
  refine lv_iconst (v := 3) hx hb dX11_ticks_16 (by decide) ?_
  refine lv_iconst (v := 1) hx hb dX11_ticks_17 (by decide) ?_
  refine h_callVv (T := TX11) (rest := []) (As := [.int 3, .int 1]) hx hb hml hown hts hK hT3 (fun _ h => h) hS3 (c_adds l G Y tF (o) hM 3 1 3 (by decide) (h_inc (by decide)) (fun _ => (fun _ h _ => absurd rfl h))) trivial wd_X11_adds wV_X11_adds wL_X11_69 (hM.o rfl) rfl rfl hl.1 rfl (Nat.le_of_ble_eq_true rfl) dX11_ticks_18 ⟨Nat.le_of_ble_eq_true rfl, Nat.le_of_ble_eq_true rfl⟩ ⟨Nat.zero_le _, Nat.zero_le _⟩ (fun H4 locs hp4 hT4 hS4 hk4 => ?_)
  refine lv_aload_n hx hb dX11_ticks_21 rfl (lv_at hl 0 rfl) ?_
  refine lv_iconst (v := 5) hx hb dX11_ticks_22 (by decide) ?_
  refine h_callVi (T := TX11) (rest := []) (As := [.int 5]) hx hb hml hown hts hK hT4 (fun _ h => h) hS4 (c_of l G Y tF (o) hM 5 5 (by decide) (h_inc (by decide))) trivial wd_X11_of wV_X11_of wL_X11_47 (hM.o rfl) rfl rfl hl.1 rfl (Nat.le_of_ble_eq_true rfl) dX11_ticks_23 ⟨Nat.le_of_ble_eq_true rfl, Nat.le_of_ble_eq_true rfl⟩ ⟨Nat.zero_le _, Nat.zero_le _⟩ (fun r1 H5 locs hp5 hT5 hS5 hk5 => ?_)
  obtain ⟨hp5, he⟩ := hp5
  have he := he.symm
  subst he
  have hp5 : r1 = 0 := hp5.trans ((tF_all (hT4.ai (hM.at 1 rfl) (j := 5) (by decide)).1 (by decide) (by decide) (by decide)).trans (by decide))
  subst hp5
  refine lv_if_ne (tgt := 36) hx hb dX11_ticks_26 (by decide) (fun h => absurd (by decide) h) (fun _ => ?_)
  refine lv_aload_n hx hb dX11_ticks_29 rfl (lv_at hl 0 rfl) ?_
  refine h_callVv (T := TX11) (rest := []) (As := []) hx hb hml hown hts hK hT4 (fun _ h => h) hS5 (c_X11_isStill l G Y (o) hM (z + 1)) ((h_aps hp4).trans (by rw [((h_ai_same (hu3.2.1 _ (by omega))).trans ((h_ai_same (hu2.2.1 _ (by omega))).trans ((h_ai_same (hu1.2.1 _ (by omega))).trans hpr.1)))])) wd_X11_isStill wV_X11_isStill wL_X11_162 (hM.o rfl) rfl rfl hl.1 rfl (Nat.le_of_ble_eq_true rfl) dX11_ticks_30 ⟨Nat.le_of_ble_eq_true rfl, Nat.le_of_ble_eq_true rfl⟩ ⟨Nat.zero_le _, Nat.zero_le _⟩ (fun H6 locs hp6 hT6 hS6 hk6 => ?_)
  refine lv_goto (tgt := 40) hx hb dX11_ticks_33 (by decide) ?_
  exact hret _ _ _ _ hT6 hS6 ⟨hp6.1, (fun j hj => ((hp6.2.1 j hj).trans ((h_apn hp4 (by omega)).trans ((h_ai_same (hu3.2.1 _ (by omega))).trans ((h_ai_same (hu2.2.1 _ (by omega))).trans (h_ai_same (hu1.2.1 _ (by omega)))))))), ((h_gi_same (hp6.2.2 (o) (by omega))).trans ((h_gi_same (hp4.2.1 _ (by omega))).trans ((h_ps hu3 rfl (by decide) (by decide)).trans ((h_ps hu2 rfl (by decide) (by decide)).trans (h_pu hu1))))), ((h_gi_same (hp6.2.2 (o) (by omega))).trans ((h_gi_same (hp4.2.1 _ (by omega))).trans ((h_ps hu3 rfl (by decide) (by decide)).trans (h_pu hu2)))), ((h_gi_same (hp6.2.2 (o) (by omega))).trans ((h_gi_same (hp4.2.1 _ (by omega))).trans (h_pu hu3))), ((h_gi_same (hp6.2.2 (o) (by omega))).trans ((h_gi_same (hp4.2.1 _ (by omega))).trans ((h_ps hu3 rfl (by decide) (by decide)).trans ((h_ps hu2 rfl (by decide) (by decide)).trans ((h_ps hu1 rfl (by decide) (by decide)).trans hpr.2)))))⟩ dX11_ticks_40
