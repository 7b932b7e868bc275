set_option maxHeartbeats 4000000 in
set_option maxRecDepth 100000 in
theorem c_of (l : Launch) (G : hG) (Y : hW) (P : Int32 → Prop) (o : Nat) (hM : h_On Y o (modE (tM P) o)) (u1 : Int32) (k : Nat) (hk : u1.toNatClampNeg = k) (hin : vp_in u1 3600) : hMi l yX11_of cX11_of 2 (some .int) 0 0 G Y [.ref (o), .int u1] (fun H => True) (fun H r H1 => (r = h_ai H (o + 1) k ∧ mP k r) ∧ H1 = H) := by
  refine h_ofi (by decide +kernel) (Nat.le_of_ble_eq_true rfl) ?_
  intro p e s m args below meth c H0 ls Q hx hb hts hown hml hK hZ hT0 hpr hS0 hl hret
  have hl : lv_has ls 2 [(0, .ref (o)), (1, .int u1)] := hl
  refine lv_aload_n hx hb dX11_of_0 rfl (lv_at hl 0 rfl) ?_
  refine h_getr (C := RX11) (T := TX11) (N := 23) hx hb hts inX11 hown hK hT0 (hM.o rfl) rfl 0 rfl wF_X11_7 rfl dX11_of_1 ?_
  refine lv_iload_n hx hb dX11_of_4 rfl (lv_at hl 1 rfl) ?_
  refine h_iald hx hb hK hT0 (hM.at 1 rfl) hin dX11_of_5 (fun p1 => ?_)
  refine lv_topi (fun x2 ex2 => ?_)
  rw [← ex2] at p1
  have p1 : mP u1.toNatClampNeg x2 := p1
  have nx2 : u1.toNatClampNeg = u1.toInt.toNat := rfl
  exact hret _ _ _ _ _ hT0 hS0 ⟨⟨by rw [ex2, hk], by rw [← hk]; exact p1⟩, rfl⟩ dX11_of_6
set_option maxHeartbeats 4000000 in
set_option maxRecDepth 100000 in
theorem c_puts (l : Launch) (G : hG) (Y : hW) (P : Int32 → Prop) (o : Nat) (hM : h_On Y o (modE (tM P) o)) (u1 u2 : Int32) (k : Nat) (hk : u1.toNatClampNeg = k) (hin : vp_in u1 3600) (hP : mP k u2) : hMv l yX11_puts cX11_puts 3 none 0 0 G Y [.ref (o), .int u1, .int u2] (fun H => True) (fun H H1 => (True) ∧ (h_apu H H1 (o + 1) k (.int u2))) := by
  refine h_ofv (by decide +kernel) (Nat.le_of_ble_eq_true rfl) ?_
  intro p e s m args below meth c H0 ls Q hx hb hts hown hml hK hZ hT0 hpr hS0 hl hret
  have hl : lv_has ls 3 [(0, .ref (o)), (1, .int u1), (2, .int u2)] := hl
  refine lv_aload_n hx hb dX11_puts_0 rfl (lv_at hl 0 rfl) ?_
  refine h_getr (C := RX11) (T := TX11) (N := 23) hx hb hts inX11 hown hK hT0 (hM.o rfl) rfl 0 rfl wF_X11_7 rfl dX11_puts_1 ?_
  refine lv_iload_n hx hb dX11_puts_4 rfl (lv_at hl 1 rfl) ?_
  refine lv_iload_n hx hb dX11_puts_5 rfl (lv_at hl 2 rfl) ?_
  refine h_iast hx hb hK hT0 (fun _ h => h) hS0 (hM.at 1 rfl) hin (by rw [hk]; exact hP) dX11_puts_6 (fun H1 locs hT1 hS1 hu1 => ?_)
  exact hret _ _ _ _ hT1 hS1 ⟨trivial, (hk ▸ hu1)⟩ dX11_puts_7
set_option maxHeartbeats 4000000 in
set_option maxRecDepth 100000 in
theorem c_adds (l : Launch) (G : hG) (Y : hW) (P : Int32 → Prop) (o : Nat) (hM : h_On Y o (modE (tM P) o)) (u1 u2 : Int32) (k : Nat) (hk : u1.toNatClampNeg = k) (hin : vp_in u1 3600) : hMv l yX11_adds cX11_adds 3 none 0 0 G Y [.ref (o), .int u1, .int u2] (fun H => mP k (h_ai H (o + 1) k + u2)) (fun H H1 => (True) ∧ (h_apu H H1 (o + 1) k (.int (h_ai H (o + 1) k + u2)))) := by
  refine h_ofv (by decide +kernel) (Nat.le_of_ble_eq_true rfl) ?_
  intro p e s m args below meth c H0 ls Q hx hb hts hown hml hK hZ hT0 hpr hS0 hl hret
  have hl : lv_has ls 3 [(0, .ref (o)), (1, .int u1), (2, .int u2)] := hl
  refine lv_aload_n hx hb dX11_adds_0 rfl (lv_at hl 0 rfl) ?_
  refine h_getr (C := RX11) (T := TX11) (N := 23) hx hb hts inX11 hown hK hT0 (hM.o rfl) rfl 0 rfl wF_X11_7 rfl dX11_adds_1 ?_
  refine lv_iload_n hx hb dX11_adds_4 rfl (lv_at hl 1 rfl) ?_
  refine lv_dup2_11 hx hb dX11_adds_5 rfl rfl ?_
  refine h_iald hx hb hK hT0 (hM.at 1 rfl) hin dX11_adds_6 (fun p1 => ?_)
  refine lv_topi (fun x2 ex2 => ?_)
  rw [← ex2] at p1
  have p1 : mP u1.toNatClampNeg x2 := p1
  have nx2 : u1.toNatClampNeg = u1.toInt.toNat := rfl
  refine lv_iload_n hx hb dX11_adds_7 rfl (lv_at hl 2 rfl) ?_
  refine lv_iadd hx hb dX11_adds_8 ?_
  refine lv_topi (fun x3 ex3 => ?_)
  refine h_iast hx hb hK hT0 (fun _ h => h) hS0 (hM.at 1 rfl) hin (by rw [ex3, ex2, hk]; exact hpr) dX11_adds_9 (fun H1 locs hT1 hS1 hu1 => ?_)
  exact hret _ _ _ _ hT1 hS1 ⟨trivial, (by have h9 := hu1; rw [ex3, ex2, hk] at h9; exact h9)⟩ dX11_adds_10
set_option maxHeartbeats 4000000 in
set_option maxRecDepth 100000 in
theorem c_X11_isFrom (l : Launch) (G : hG) (Y : hW)  (u1 u2 u3 : Int32) : hMi l yX11_isFrom cX11_isFrom 3 (some .boolean) 0 0 G Y [.int u1, .int u2, .int u3] (fun H => True) (fun H r H1 => ((r = 0 ∨ r = 1) ∧ ((r.toInt = 1 ∧ u2.toInt ≤ u1.toInt ∧ u1.toInt ≤ u3.toInt) ∨ (r.toInt = 0 ∧ ¬ (u2.toInt ≤ u1.toInt ∧ u1.toInt ≤ u3.toInt)))) ∧ H1 = H) := by
  refine h_ofz (by decide +kernel) (Nat.le_of_ble_eq_true rfl) ?_
  intro p e s m args below meth c H0 ls Q hx hb hts hown hml hK hZ hT0 hpr hS0 hl hret
  have hl : lv_has ls 3 [(0, .int u1), (1, .int u2), (2, .int u3)] := hl
  refine lv_iload_n hx hb dX11_isFrom_0 rfl (lv_at hl 0 rfl) ?_
  refine lv_iload_n hx hb dX11_isFrom_1 rfl (lv_at hl 1 rfl) ?_
  refine lv_icmp_lt (tgt := 14) hx hb dX11_isFrom_2 (by decide) (fun c1 => ?_) (fun c1 => ?_)
  · skip
    have c1 : u1.toInt < u2.toInt := Int32.lt_iff_toInt_lt.mp c1
    refine lv_iconst (v := 0) hx hb dX11_isFrom_14 (by decide) ?_
    exact hret _ _ _ _ _ hT0 hS0 ⟨(by decide), ⟨⟨(by decide), (show ((0 : Int) = 1 ∧ u2.toInt ≤ u1.toInt ∧ u1.toInt ≤ u3.toInt) ∨ ((0 : Int) = 0 ∧ ¬ (u2.toInt ≤ u1.toInt ∧ u1.toInt ≤ u3.toInt)) from by show ((0 : Int) = 1 ∧ u2.toInt ≤ u1.toInt ∧ u1.toInt ≤ u3.toInt) ∨ ((0 : Int) = 0 ∧ ¬ (u2.toInt ≤ u1.toInt ∧ u1.toInt ≤ u3.toInt)); omega)⟩, rfl⟩⟩ dX11_isFrom_15
  · skip
    have c1 : ¬ u1.toInt < u2.toInt := h_nltI c1
    refine lv_iload_n hx hb dX11_isFrom_5 rfl (lv_at hl 0 rfl) ?_
    refine lv_iload_n hx hb dX11_isFrom_6 rfl (lv_at hl 2 rfl) ?_
    refine lv_icmp_gt (tgt := 14) hx hb dX11_isFrom_7 (by decide) (fun c2 => ?_) (fun c2 => ?_)
    · skip
      have c2 : u3.toInt < u1.toInt := Int32.lt_iff_toInt_lt.mp c2
      refine lv_iconst (v := 0) hx hb dX11_isFrom_14 (by decide) ?_
      exact hret _ _ _ _ _ hT0 hS0 ⟨(by decide), ⟨⟨(by decide), (show ((0 : Int) = 1 ∧ u2.toInt ≤ u1.toInt ∧ u1.toInt ≤ u3.toInt) ∨ ((0 : Int) = 0 ∧ ¬ (u2.toInt ≤ u1.toInt ∧ u1.toInt ≤ u3.toInt)) from by show ((0 : Int) = 1 ∧ u2.toInt ≤ u1.toInt ∧ u1.toInt ≤ u3.toInt) ∨ ((0 : Int) = 0 ∧ ¬ (u2.toInt ≤ u1.toInt ∧ u1.toInt ≤ u3.toInt)); omega)⟩, rfl⟩⟩ dX11_isFrom_15
    · skip
      have c2 : ¬ u3.toInt < u1.toInt := h_nltI c2
      refine lv_iconst (v := 1) hx hb dX11_isFrom_10 (by decide) ?_
      refine lv_goto (tgt := 15) hx hb dX11_isFrom_11 (by decide) ?_
      exact hret _ _ _ _ _ hT0 hS0 ⟨(by decide), ⟨⟨(by decide), (show ((1 : Int) = 1 ∧ u2.toInt ≤ u1.toInt ∧ u1.toInt ≤ u3.toInt) ∨ ((1 : Int) = 0 ∧ ¬ (u2.toInt ≤ u1.toInt ∧ u1.toInt ≤ u3.toInt)) from by show ((1 : Int) = 1 ∧ u2.toInt ≤ u1.toInt ∧ u1.toInt ≤ u3.toInt) ∨ ((1 : Int) = 0 ∧ ¬ (u2.toInt ≤ u1.toInt ∧ u1.toInt ≤ u3.toInt)); omega)⟩, rfl⟩⟩ dX11_isFrom_15
set_option maxHeartbeats 4000000 in
set_option maxRecDepth 100000 in
theorem c_X11_waitAt (l : Launch) (G : hG) (Y : hW)  (u1 u2 : Int32) (hu1 : 0 ≤ u1.toInt ∧ u1.toInt ≤ 7) (hu2 : 0 ≤ u2.toInt ∧ u2.toInt ≤ 6) : hMi l yX11_waitAt cX11_waitAt 2 (some .int) 0 0 G Y [.int u1, .int u2] (fun H => True) (fun H r H1 => (r.toInt = 96 + 24 * u1.toInt + 4 * u2.toInt) ∧ H1 = H) := by
  refine h_ofi (by decide +kernel) (Nat.le_of_ble_eq_true rfl) ?_
  intro p e s m args below meth c H0 ls Q hx hb hts hown hml hK hZ hT0 hpr hS0 hl hret
  have hl : lv_has ls 2 [(0, .int u1), (1, .int u2)] := hl
  refine lv_bipush (v := 96) hx hb dX11_waitAt_0 (by decide) ?_
  refine lv_iconst (v := 4) hx hb dX11_waitAt_2 (by decide) ?_
  refine lv_bipush (v := 6) hx hb dX11_waitAt_3 (by decide) ?_
  refine lv_iload_n hx hb dX11_waitAt_5 rfl (lv_at hl 0 rfl) ?_
  refine lv_imul hx hb dX11_waitAt_6 ?_
  obtain ⟨x1, qx1, ix1⟩ := h_mulX 6 u1 (6 : Int) u1.toInt rfl rfl (by omega) (by omega)
  refine h_top (v := x1) qx1 ?_
  refine lv_iload_n hx hb dX11_waitAt_7 rfl (lv_at hl 1 rfl) ?_
  refine lv_iadd hx hb dX11_waitAt_8 ?_
  obtain ⟨x2, qx2, ix2⟩ := h_addX x1 u2 x1.toInt u2.toInt rfl rfl (by omega) (by omega)
  refine h_top (v := x2) qx2 ?_
  refine lv_imul hx hb dX11_waitAt_9 ?_
  obtain ⟨x3, qx3, ix3⟩ := h_mulX 4 x2 (4 : Int) x2.toInt rfl rfl (by omega) (by omega)
  refine h_top (v := x3) qx3 ?_
  refine lv_iadd hx hb dX11_waitAt_10 ?_
  obtain ⟨x4, qx4, ix4⟩ := h_addX 96 x3 (96 : Int) x3.toInt rfl rfl (by omega) (by omega)
  refine h_top (v := x4) qx4 ?_
  exact hret _ _ _ _ _ hT0 hS0 ⟨(show x4.toInt = 96 + 24 * u1.toInt + 4 * u2.toInt from by show x4.toInt = 96 + 24 * u1.toInt + 4 * u2.toInt; omega), rfl⟩ dX11_waitAt_11
set_option maxHeartbeats 4000000 in
set_option maxRecDepth 100000 in
theorem c_X11_raiseAt (l : Launch) (G : hG) (Y : hW)  (u1 u2 : Int32) (hu1 : 0 ≤ u1.toInt ∧ u1.toInt ≤ 7) (hu2 : (-1) ≤ u2.toInt ∧ u2.toInt ≤ 8) : hMi l yX11_raiseAt cX11_raiseAt 2 (some .int) 0 0 G Y [.int u1, .int u2] (fun H => True) (fun H r H1 => (r.toInt = 288 + 16 * u1.toInt + 2 * u2.toInt) ∧ H1 = H) := by
  refine h_ofi (by decide +kernel) (Nat.le_of_ble_eq_true rfl) ?_
  intro p e s m args below meth c H0 ls Q hx hb hts hown hml hK hZ hT0 hpr hS0 hl hret
  have hl : lv_has ls 2 [(0, .int u1), (1, .int u2)] := hl
  refine lv_sipush (v := 288) hx hb dX11_raiseAt_0 (by decide) ?_
  refine lv_iconst (v := 2) hx hb dX11_raiseAt_3 (by decide) ?_
  refine lv_bipush (v := 8) hx hb dX11_raiseAt_4 (by decide) ?_
  refine lv_iload_n hx hb dX11_raiseAt_6 rfl (lv_at hl 0 rfl) ?_
  refine lv_imul hx hb dX11_raiseAt_7 ?_
  obtain ⟨x1, qx1, ix1⟩ := h_mulX 8 u1 (8 : Int) u1.toInt rfl rfl (by omega) (by omega)
  refine h_top (v := x1) qx1 ?_
  refine lv_iload_n hx hb dX11_raiseAt_8 rfl (lv_at hl 1 rfl) ?_
  refine lv_iadd hx hb dX11_raiseAt_9 ?_
  obtain ⟨x2, qx2, ix2⟩ := h_addX x1 u2 x1.toInt u2.toInt rfl rfl (by omega) (by omega)
  refine h_top (v := x2) qx2 ?_
  refine lv_imul hx hb dX11_raiseAt_10 ?_
  obtain ⟨x3, qx3, ix3⟩ := h_mulX 2 x2 (2 : Int) x2.toInt rfl rfl (by omega) (by omega)
  refine h_top (v := x3) qx3 ?_
  refine lv_iadd hx hb dX11_raiseAt_11 ?_
  obtain ⟨x4, qx4, ix4⟩ := h_addX 288 x3 (288 : Int) x3.toInt rfl rfl (by omega) (by omega)
  refine h_top (v := x4) qx4 ?_
  exact hret _ _ _ _ _ hT0 hS0 ⟨(show x4.toInt = 288 + 16 * u1.toInt + 2 * u2.toInt from by show x4.toInt = 288 + 16 * u1.toInt + 2 * u2.toInt; omega), rfl⟩ dX11_raiseAt_12
set_option maxHeartbeats 4000000 in
set_option maxRecDepth 100000 in
theorem c_X11_isStation (l : Launch) (G : hG) (Y : hW) (P : Int32 → Prop) (o : Nat) (hM : h_On Y o (modE (tM P) o)) (u1 : Int32) : hMi l yX11_isStation cX11_isStation 2 (some .boolean) 1 21 G Y [.ref (o), .int u1] (fun H => True) (fun H r H1 => ((r = 0 ∨ r = 1) ∧ (r.toInt = 0 ∨ (0 ≤ u1.toInt ∧ u1.toInt < (h_ai H (o + 1) 0).toInt))) ∧ H1 = H) := by
  refine h_ofz (by decide +kernel) (Nat.le_of_ble_eq_true rfl) ?_
  intro p e s m args below meth c H0 ls Q hx hb hts hown hml hK hZ hT0 hpr hS0 hl hret
  have hl : lv_has ls 2 [(0, .ref (o)), (1, .int u1)] := hl
  refine lv_iload_n hx hb dX11_isStation_0 rfl (lv_at hl 1 rfl) ?_
  refine lv_if_lt (tgt := 17) hx hb dX11_isStation_1 (by decide) (fun c1 => ?_) (fun c1 => ?_)
  · skip
    have c1 : u1.toInt < (0 : Int) := Int32.lt_iff_toInt_lt.mp c1
    refine lv_iconst (v := 0) hx hb dX11_isStation_17 (by decide) ?_
    exact hret _ _ _ _ _ hT0 hS0 ⟨(by decide), ⟨⟨(by decide), (show (0 : Int) = 0 ∨ (0 ≤ u1.toInt ∧ u1.toInt < (h_ai H0 (o + 1) 0).toInt) from by show (0 : Int) = 0 ∨ (0 ≤ u1.toInt ∧ u1.toInt < (h_ai H0 (o + 1) 0).toInt); omega)⟩, rfl⟩⟩ dX11_isStation_18
  · skip
    have c1 : ¬ u1.toInt < (0 : Int) := h_nltI c1
    refine lv_iload_n hx hb dX11_isStation_4 rfl (lv_at hl 1 rfl) ?_
    refine lv_aload_n hx hb dX11_isStation_5 rfl (lv_at hl 0 rfl) ?_
    refine lv_iconst (v := 0) hx hb dX11_isStation_6 (by decide) ?_
    refine h_callVi (T := TX11) (rest := [.int u1]) (As := [.int 0]) hx hb hml hown hts hK hT0 hZ (fun _ h => h) hS0 (c_of l G Y P (o) hM 0 0 (by decide) (h_inc (by decide))) trivial wd_X11_of wV_X11_of wL_X11_47 (hM.o rfl) rfl rfl hl.1 rfl (Nat.le_of_ble_eq_true rfl) dX11_isStation_7 ⟨Nat.le_of_ble_eq_true rfl, Nat.le_of_ble_eq_true rfl⟩ ⟨Nat.zero_le _, Nat.zero_le _⟩ (fun r2 H1 locs hp1 hT1 hS1 hk1 => ?_)
    obtain ⟨hp1, he⟩ := hp1
    have he := he.symm
    subst he
    have mr2 : h_ai H0 (o + 1) 0 = r2 := hp1.1.symm
    have br2 := mP_N hp1.2 (by omega)
    refine lv_icmp_ge (tgt := 17) hx hb dX11_isStation_10 (by decide) (fun c3 => ?_) (fun c3 => ?_)
    · skip
      have c3 : r2.toInt ≤ u1.toInt := Int32.le_iff_toInt_le.mp c3
      refine lv_iconst (v := 0) hx hb dX11_isStation_17 (by decide) ?_
      exact hret _ _ _ _ _ hT0 hS1 ⟨(by decide), ⟨⟨(by decide), (show (0 : Int) = 0 ∨ (0 ≤ u1.toInt ∧ u1.toInt < (h_ai H0 (o + 1) 0).toInt) from by rw [mr2]; show (0 : Int) = 0 ∨ (0 ≤ u1.toInt ∧ u1.toInt < r2.toInt); omega)⟩, rfl⟩⟩ dX11_isStation_18
    · skip
      have c3 : ¬ r2.toInt ≤ u1.toInt := h_nleI c3
      refine lv_iconst (v := 1) hx hb dX11_isStation_13 (by decide) ?_
      refine lv_goto (tgt := 18) hx hb dX11_isStation_14 (by decide) ?_
      exact hret _ _ _ _ _ hT0 hS1 ⟨(by decide), ⟨⟨(by decide), (show (1 : Int) = 0 ∨ (0 ≤ u1.toInt ∧ u1.toInt < (h_ai H0 (o + 1) 0).toInt) from by rw [mr2]; show (1 : Int) = 0 ∨ (0 ≤ u1.toInt ∧ u1.toInt < r2.toInt); omega)⟩, rfl⟩⟩ dX11_isStation_18
set_option maxHeartbeats 4000000 in
set_option maxRecDepth 100000 in
theorem c_X11_isOn (l : Launch) (G : hG) (Y : hW) (P : Int32 → Prop) (o : Nat) (hM : h_On Y o (modE (tM P) o)) (u1 : Int32) : hMi l yX11_isOn cX11_isOn 2 (some .boolean) 2 42 G Y [.ref (o), .int u1] (fun H => True) (fun H r H1 => ((r = 0 ∨ r = 1) ∧ (r.toInt = 0 ∨ (0 ≤ u1.toInt ∧ u1.toInt < (h_ai H (o + 1) 0).toInt))) ∧ H1 = H) := by
  refine h_ofz (by decide +kernel) (Nat.le_of_ble_eq_true rfl) ?_
  intro p e s m args below meth c H0 ls Q hx hb hts hown hml hK hZ hT0 hpr hS0 hl hret
  have hl : lv_has ls 2 [(0, .ref (o)), (1, .int u1)] := hl
  refine lv_aload_n hx hb dX11_isOn_0 rfl (lv_at hl 0 rfl) ?_
  refine lv_iload_n hx hb dX11_isOn_1 rfl (lv_at hl 1 rfl) ?_
  obtain ⟨v1, mv1⟩ : ∃ x, h_ai H0 (o + 1) 0 = x := ⟨_, rfl⟩
  have bv1 := mP_N (mP_cell hM hT0 (j := 0) (by omega)) (by omega)
  rw [mv1] at bv1
  refine h_callVi (T := TX11) (rest := []) (As := [.int u1]) hx hb hml hown hts hK hT0 hZ (fun _ h => h) hS0 (c_X11_isStation l G Y P (o) hM u1) trivial wd_X11_isStation wV_X11_isStation wL_X11_51 (hM.o rfl) rfl rfl hl.1 rfl (Nat.le_of_ble_eq_true rfl) dX11_isOn_2 ⟨Nat.le_of_ble_eq_true rfl, Nat.le_of_ble_eq_true rfl⟩ ⟨Nat.zero_le _, Nat.zero_le _⟩ (fun r2 H1 locs hp1 hT1 hS1 hk1 => ?_)
  obtain ⟨hp1, he⟩ := hp1
  have he := he.symm
  subst he
  have f3 : r2.toInt = 0 ∨ (0 ≤ u1.toInt ∧ u1.toInt < v1.toInt) := by have q := hp1.2; rw [mv1] at q; exact q
  refine lv_if_eq (tgt := 24) hx hb dX11_isOn_5 (by decide) (fun c4 => ?_) (fun c4 => ?_)
  · skip
    have c4 : r2.toInt = (0 : Int) := congrArg Int32.toInt c4
    refine lv_iconst (v := 0) hx hb dX11_isOn_24 (by decide) ?_
    exact hret _ _ _ _ _ hT0 hS1 ⟨(by decide), ⟨⟨(by decide), (show (0 : Int) = 0 ∨ (0 ≤ u1.toInt ∧ u1.toInt < (h_ai H0 (o + 1) 0).toInt) from by rw [mv1]; show (0 : Int) = 0 ∨ (0 ≤ u1.toInt ∧ u1.toInt < v1.toInt); omega)⟩, rfl⟩⟩ dX11_isOn_25
  · skip
    have c4 : ¬ r2.toInt = (0 : Int) := h_neI c4
    refine lv_aload_n hx hb dX11_isOn_8 rfl (lv_at hl 0 rfl) ?_
    refine lv_bipush (v := 48) hx hb dX11_isOn_9 (by decide) ?_
    refine lv_iload_n hx hb dX11_isOn_11 rfl (lv_at hl 1 rfl) ?_
    refine lv_iadd hx hb dX11_isOn_12 ?_
    obtain ⟨x5, qx5, ix5⟩ := h_addX 48 u1 (48 : Int) u1.toInt rfl rfl (by omega) (by omega)
    refine h_top (v := x5) qx5 ?_
    refine h_callVi (T := TX11) (rest := []) (As := [.int x5]) hx hb hml hown hts hK hT0 hZ (fun _ h => h) hS1 (c_of l G Y P (o) hM x5 (48 + u1.toInt).toNat (show x5.toInt.toNat = (48 + u1.toInt).toNat from by omega) (h_vin (by omega) (by omega))) trivial wd_X11_of wV_X11_of wL_X11_47 (hM.o rfl) rfl rfl hl.1 rfl (Nat.le_of_ble_eq_true rfl) dX11_isOn_13 ⟨Nat.le_of_ble_eq_true rfl, Nat.le_of_ble_eq_true rfl⟩ ⟨Nat.zero_le _, Nat.zero_le _⟩ (fun r6 H2 locs hp2 hT2 hS2 hk2 => ?_)
    obtain ⟨hp2, he⟩ := hp2
    have he := he.symm
    subst he
    have mr6 : h_ai H0 (o + 1) (48 + u1.toInt).toNat = r6 := hp2.1.symm
    refine lv_iconst (v := 1) hx hb dX11_isOn_16 (by decide) ?_
    refine lv_icmp_ne (tgt := 24) hx hb dX11_isOn_17 (by decide) (fun c7 => ?_) (fun c7 => ?_)
    · skip
      have c7 : ¬ r6.toInt = (1 : Int) := h_neI c7
      refine lv_iconst (v := 0) hx hb dX11_isOn_24 (by decide) ?_
      exact hret _ _ _ _ _ hT0 hS2 ⟨(by decide), ⟨⟨(by decide), (show (0 : Int) = 0 ∨ (0 ≤ u1.toInt ∧ u1.toInt < (h_ai H0 (o + 1) 0).toInt) from by rw [mv1]; show (0 : Int) = 0 ∨ (0 ≤ u1.toInt ∧ u1.toInt < v1.toInt); omega)⟩, rfl⟩⟩ dX11_isOn_25
    · skip
      have c7 : r6.toInt = (1 : Int) := congrArg Int32.toInt c7
      refine lv_iconst (v := 1) hx hb dX11_isOn_20 (by decide) ?_
      refine lv_goto (tgt := 25) hx hb dX11_isOn_21 (by decide) ?_
      exact hret _ _ _ _ _ hT0 hS2 ⟨(by decide), ⟨⟨(by decide), (show (1 : Int) = 0 ∨ (0 ≤ u1.toInt ∧ u1.toInt < (h_ai H0 (o + 1) 0).toInt) from by rw [mv1]; show (1 : Int) = 0 ∨ (0 ≤ u1.toInt ∧ u1.toInt < v1.toInt); omega)⟩, rfl⟩⟩ dX11_isOn_25
set_option maxHeartbeats 4000000 in
set_option maxRecDepth 100000 in
theorem c_X11_onMany (l : Launch) (G : hG) (Y : hW) (P : Int32 → Prop) (o : Nat) (hM : h_On Y o (modE (tM P) o)) : hMi l yX11_onMany cX11_onMany 3 (some .int) 1 21 G Y [.ref (o)] (fun H => True) (fun H r H1 => (True) ∧ H1 = H) := by
  refine h_ofi (by decide +kernel) (Nat.le_of_ble_eq_true rfl) ?_
  intro p e s m args below meth c H0 ls Q hx hb hts hown hml hK hZ hT0 hpr hS0 hl hret
  have hl : lv_has ls 3 [(0, .ref (o))] := hl
  refine lv_iconst (v := 0) hx hb dX11_onMany_0 (by decide) ?_
  refine lv_istore_n (lv' := [(1, .int 0), (0, .ref (o))]) hx hb dX11_onMany_1 rfl hl (by decide) rfl (fun ls hl => ?_)
  refine lv_iconst (v := 0) hx hb dX11_onMany_2 (by decide) ?_
  refine lv_istore_n (lv' := [(2, .int 0), (1, .int 0), (0, .ref (o))]) hx hb dX11_onMany_3 rfl hl (by decide) rfl (fun ls hl => ?_)
  have LP1 : ∀ (n1 : Nat) (w1_2 : Int32) (w1_1 : Int32), (2147483647 - w1_2.toInt < (n1 : Int)) → (0 ≤ w1_2.toInt) → ∀ (locs : List Loc) (ls : Array Slot), va_S (h_A Y) s.heap H0 locs → lv_has ls 3 [(2, .int w1_2), (1, .int w1_1), (0, .ref (o))] → W p l e (h_rm 1 21) s m args below meth c H0 locs 0 0 Q (F0 m 4 ls []) := by
    intro n1
    induction n1 with
    | zero =>
      intro w1_2 w1_1 hm hlo1_2
      intros
      exfalso
      have := Int32.toInt_lt w1_2; have := Int32.le_toInt w1_2
      have := Int32.toInt_lt w1_1; have := Int32.le_toInt w1_1
      omega
    | succ n1 ih1 =>
      intro w1_2 w1_1 hm hlo1_2  locs ls hS2 hl
      refine lv_iload_n hx hb dX11_onMany_4 rfl (lv_at hl 0 rfl) ?_
      refine lv_aload_n hx hb dX11_onMany_5 rfl (lv_at hl 2 rfl) ?_
      refine lv_iconst (v := 0) hx hb dX11_onMany_6 (by decide) ?_
      refine h_callVi (T := TX11) (rest := [.int w1_2]) (As := [.int 0]) hx hb hml hown hts hK hT0 hZ (fun _ h => h) hS2 (c_of l G Y P (o) hM 0 0 (by decide) (h_inc (by decide))) trivial wd_X11_of wV_X11_of wL_X11_47 (hM.o rfl) rfl rfl hl.1 rfl (Nat.le_of_ble_eq_true rfl) dX11_onMany_7 ⟨Nat.le_of_ble_eq_true rfl, Nat.le_of_ble_eq_true rfl⟩ ⟨Nat.zero_le _, Nat.zero_le _⟩ (fun r1 H3 locs hp3 hT3 hS3 hk3 => ?_)
      obtain ⟨hp3, he⟩ := hp3
      have he := he.symm
      subst he
      have mr1 : h_ai H0 (o + 1) 0 = r1 := hp3.1.symm
      have br1 := mP_N hp3.2 (by omega)
      refine lv_icmp_ge (tgt := 30) hx hb dX11_onMany_10 (by decide) (fun c2 => ?_) (fun c2 => ?_)
      · skip
        have c2 : r1.toInt ≤ w1_2.toInt := Int32.le_iff_toInt_le.mp c2
        refine lv_iload_n hx hb dX11_onMany_30 rfl (lv_at hl 1 rfl) ?_
        exact hret _ _ _ _ _ hT0 hS3 ⟨trivial, rfl⟩ dX11_onMany_31
      · skip
        have c2 : ¬ r1.toInt ≤ w1_2.toInt := h_nleI c2
        refine lv_iload_n hx hb dX11_onMany_13 rfl (lv_at hl 1 rfl) ?_
        refine lv_aload_n hx hb dX11_onMany_14 rfl (lv_at hl 2 rfl) ?_
        refine lv_bipush (v := 48) hx hb dX11_onMany_15 (by decide) ?_
        refine lv_iload_n hx hb dX11_onMany_17 rfl (lv_at hl 0 rfl) ?_
        refine lv_iadd hx hb dX11_onMany_18 ?_
        obtain ⟨x3, qx3, ix3⟩ := h_addX 48 w1_2 (48 : Int) w1_2.toInt rfl rfl (by omega) (by omega)
        refine h_top (v := x3) qx3 ?_
        refine h_callVi (T := TX11) (rest := [.int w1_1]) (As := [.int x3]) hx hb hml hown hts hK hT0 hZ (fun _ h => h) hS3 (c_of l G Y P (o) hM x3 (48 + w1_2.toInt).toNat (show x3.toInt.toNat = (48 + w1_2.toInt).toNat from by omega) (h_vin (by omega) (by omega))) trivial wd_X11_of wV_X11_of wL_X11_47 (hM.o rfl) rfl rfl hl.1 rfl (Nat.le_of_ble_eq_true rfl) dX11_onMany_19 ⟨Nat.le_of_ble_eq_true rfl, Nat.le_of_ble_eq_true rfl⟩ ⟨Nat.zero_le _, Nat.zero_le _⟩ (fun r4 H4 locs hp4 hT4 hS4 hk4 => ?_)
        obtain ⟨hp4, he⟩ := hp4
        have he := he.symm
        subst he
        have mr4 : h_ai H0 (o + 1) (48 + w1_2.toInt).toNat = r4 := hp4.1.symm
        refine lv_iadd hx hb dX11_onMany_22 ?_
        refine lv_topi (fun x5 ex5 => ?_)
        refine lv_istore_n (lv' := [(1, .int x5), (2, .int w1_2), (0, .ref (o))]) hx hb dX11_onMany_23 rfl hl (by decide) rfl (fun ls hl => ?_)
        obtain ⟨x6, qx6, ix6⟩ := h_addX w1_2 1 w1_2.toInt (1 : Int) rfl rfl (by omega) (by omega)
        refine lv_iinc (v := x6) (lv' := [(2, .int x6), (1, .int x5), (0, .ref (o))]) hx hb dX11_onMany_24 hl (k := 1) rfl qx6 (by decide) rfl (fun ls hl => ?_)
        refine lv_goto (tgt := 4) hx hb dX11_onMany_27 (by decide) ?_
        exact ih1 x6 x5 (show 2147483647 - x6.toInt < (n1 : Int) from by omega) (show 0 ≤ x6.toInt from by omega) _ _ hS4 (lv_sub hl [0, 1, 2] rfl)
  exact LP1 4294967296 0 0 (show 2147483647 - (0 : Int) < ((4294967296 : Nat) : Int) from by omega) (show 0 ≤ (0 : Int) from by omega) _ _ hS0 (lv_sub hl [0, 1, 2] rfl)
set_option maxHeartbeats 4000000 in
set_option maxRecDepth 100000 in
theorem c_X11_onBits (l : Launch) (G : hG) (Y : hW) (P : Int32 → Prop) (o : Nat) (hM : h_On Y o (modE (tM P) o)) : hMi l yX11_onBits cX11_onBits 3 (some .int) 1 21 G Y [.ref (o)] (fun H => True) (fun H r H1 => (True) ∧ H1 = H) := by
  refine h_ofi (by decide +kernel) (Nat.le_of_ble_eq_true rfl) ?_
  intro p e s m args below meth c H0 ls Q hx hb hts hown hml hK hZ hT0 hpr hS0 hl hret
  have hl : lv_has ls 3 [(0, .ref (o))] := hl
  refine lv_iconst (v := 0) hx hb dX11_onBits_0 (by decide) ?_
  refine lv_istore_n (lv' := [(1, .int 0), (0, .ref (o))]) hx hb dX11_onBits_1 rfl hl (by decide) rfl (fun ls hl => ?_)
  refine lv_iconst (v := 0) hx hb dX11_onBits_2 (by decide) ?_
  refine lv_istore_n (lv' := [(2, .int 0), (1, .int 0), (0, .ref (o))]) hx hb dX11_onBits_3 rfl hl (by decide) rfl (fun ls hl => ?_)
  have LP1 : ∀ (n1 : Nat) (w1_2 : Int32) (w1_1 : Int32), (2147483647 - w1_2.toInt < (n1 : Int)) → (0 ≤ w1_2.toInt) → ∀ (locs : List Loc) (ls : Array Slot), va_S (h_A Y) s.heap H0 locs → lv_has ls 3 [(2, .int w1_2), (1, .int w1_1), (0, .ref (o))] → W p l e (h_rm 1 21) s m args below meth c H0 locs 0 0 Q (F0 m 4 ls []) := by
    intro n1
    induction n1 with
    | zero =>
      intro w1_2 w1_1 hm hlo1_2
      intros
      exfalso
      have := Int32.toInt_lt w1_2; have := Int32.le_toInt w1_2
      have := Int32.toInt_lt w1_1; have := Int32.le_toInt w1_1
      omega
    | succ n1 ih1 =>
      intro w1_2 w1_1 hm hlo1_2  locs ls hS2 hl
      refine lv_iload_n hx hb dX11_onBits_4 rfl (lv_at hl 0 rfl) ?_
      refine lv_aload_n hx hb dX11_onBits_5 rfl (lv_at hl 2 rfl) ?_
      refine lv_iconst (v := 0) hx hb dX11_onBits_6 (by decide) ?_
      refine h_callVi (T := TX11) (rest := [.int w1_2]) (As := [.int 0]) hx hb hml hown hts hK hT0 hZ (fun _ h => h) hS2 (c_of l G Y P (o) hM 0 0 (by decide) (h_inc (by decide))) trivial wd_X11_of wV_X11_of wL_X11_47 (hM.o rfl) rfl rfl hl.1 rfl (Nat.le_of_ble_eq_true rfl) dX11_onBits_7 ⟨Nat.le_of_ble_eq_true rfl, Nat.le_of_ble_eq_true rfl⟩ ⟨Nat.zero_le _, Nat.zero_le _⟩ (fun r1 H3 locs hp3 hT3 hS3 hk3 => ?_)
      obtain ⟨hp3, he⟩ := hp3
      have he := he.symm
      subst he
      have mr1 : h_ai H0 (o + 1) 0 = r1 := hp3.1.symm
      have br1 := mP_N hp3.2 (by omega)
      refine lv_icmp_ge (tgt := 32) hx hb dX11_onBits_10 (by decide) (fun c2 => ?_) (fun c2 => ?_)
      · skip
        have c2 : r1.toInt ≤ w1_2.toInt := Int32.le_iff_toInt_le.mp c2
        refine lv_iload_n hx hb dX11_onBits_32 rfl (lv_at hl 1 rfl) ?_
        exact hret _ _ _ _ _ hT0 hS3 ⟨trivial, rfl⟩ dX11_onBits_33
      · skip
        have c2 : ¬ r1.toInt ≤ w1_2.toInt := h_nleI c2
        refine lv_iload_n hx hb dX11_onBits_13 rfl (lv_at hl 1 rfl) ?_
        refine lv_aload_n hx hb dX11_onBits_14 rfl (lv_at hl 2 rfl) ?_
        refine lv_bipush (v := 48) hx hb dX11_onBits_15 (by decide) ?_
        refine lv_iload_n hx hb dX11_onBits_17 rfl (lv_at hl 0 rfl) ?_
        refine lv_iadd hx hb dX11_onBits_18 ?_
        obtain ⟨x3, qx3, ix3⟩ := h_addX 48 w1_2 (48 : Int) w1_2.toInt rfl rfl (by omega) (by omega)
        refine h_top (v := x3) qx3 ?_
        refine h_callVi (T := TX11) (rest := [.int w1_1]) (As := [.int x3]) hx hb hml hown hts hK hT0 hZ (fun _ h => h) hS3 (c_of l G Y P (o) hM x3 (48 + w1_2.toInt).toNat (show x3.toInt.toNat = (48 + w1_2.toInt).toNat from by omega) (h_vin (by omega) (by omega))) trivial wd_X11_of wV_X11_of wL_X11_47 (hM.o rfl) rfl rfl hl.1 rfl (Nat.le_of_ble_eq_true rfl) dX11_onBits_19 ⟨Nat.le_of_ble_eq_true rfl, Nat.le_of_ble_eq_true rfl⟩ ⟨Nat.zero_le _, Nat.zero_le _⟩ (fun r4 H4 locs hp4 hT4 hS4 hk4 => ?_)
        obtain ⟨hp4, he⟩ := hp4
        have he := he.symm
        subst he
        have mr4 : h_ai H0 (o + 1) (48 + w1_2.toInt).toNat = r4 := hp4.1.symm
        refine lv_iload_n hx hb dX11_onBits_22 rfl (lv_at hl 0 rfl) ?_
        refine lv_ishl hx hb dX11_onBits_23 ?_
        refine lv_topi (fun x5 ex5 => ?_)
        refine lv_ior hx hb dX11_onBits_24 ?_
        refine lv_topi (fun x6 ex6 => ?_)
        refine lv_istore_n (lv' := [(1, .int x6), (2, .int w1_2), (0, .ref (o))]) hx hb dX11_onBits_25 rfl hl (by decide) rfl (fun ls hl => ?_)
        obtain ⟨x7, qx7, ix7⟩ := h_addX w1_2 1 w1_2.toInt (1 : Int) rfl rfl (by omega) (by omega)
        refine lv_iinc (v := x7) (lv' := [(2, .int x7), (1, .int x6), (0, .ref (o))]) hx hb dX11_onBits_26 hl (k := 1) rfl qx7 (by decide) rfl (fun ls hl => ?_)
        refine lv_goto (tgt := 4) hx hb dX11_onBits_29 (by decide) ?_
        exact ih1 x7 x6 (show 2147483647 - x7.toInt < (n1 : Int) from by omega) (show 0 ≤ x7.toInt from by omega) _ _ hS4 (lv_sub hl [0, 1, 2] rfl)
  exact LP1 4294967296 0 0 (show 2147483647 - (0 : Int) < ((4294967296 : Nat) : Int) from by omega) (show 0 ≤ (0 : Int) from by omega) _ _ hS0 (lv_sub hl [0, 1, 2] rfl)
set_option maxHeartbeats 4000000 in
set_option maxRecDepth 100000 in
theorem c_X11_waitAll (l : Launch) (G : hG) (Y : hW) (P : Int32 → Prop) (o : Nat) (hM : h_On Y o (modE (tM P) o)) : hMi l yX11_waitAll cX11_waitAll 3 (some .int) 1 21 G Y [.ref (o)] (fun H => True) (fun H r H1 => (True) ∧ H1 = H) := by
  refine h_ofi (by decide +kernel) (Nat.le_of_ble_eq_true rfl) ?_
  intro p e s m args below meth c H0 ls Q hx hb hts hown hml hK hZ hT0 hpr hS0 hl hret
  have hl : lv_has ls 3 [(0, .ref (o))] := hl
  refine lv_iconst (v := 0) hx hb dX11_waitAll_0 (by decide) ?_
  refine lv_istore_n (lv' := [(1, .int 0), (0, .ref (o))]) hx hb dX11_waitAll_1 rfl hl (by decide) rfl (fun ls hl => ?_)
  refine lv_iconst (v := 0) hx hb dX11_waitAll_2 (by decide) ?_
  refine lv_istore_n (lv' := [(2, .int 0), (1, .int 0), (0, .ref (o))]) hx hb dX11_waitAll_3 rfl hl (by decide) rfl (fun ls hl => ?_)
  have LP1 : ∀ (n1 : Nat) (w1_2 : Int32) (w1_1 : Int32), (2147483647 - w1_2.toInt < (n1 : Int)) → (0 ≤ w1_2.toInt) → ∀ (locs : List Loc) (ls : Array Slot), va_S (h_A Y) s.heap H0 locs → lv_has ls 3 [(2, .int w1_2), (1, .int w1_1), (0, .ref (o))] → W p l e (h_rm 1 21) s m args below meth c H0 locs 0 0 Q (F0 m 4 ls []) := by
    intro n1
    induction n1 with
    | zero =>
      intro w1_2 w1_1 hm hlo1_2
      intros
      exfalso
      have := Int32.toInt_lt w1_2; have := Int32.le_toInt w1_2
      have := Int32.toInt_lt w1_1; have := Int32.le_toInt w1_1
      omega
    | succ n1 ih1 =>
      intro w1_2 w1_1 hm hlo1_2  locs ls hS2 hl
      refine lv_iload_n hx hb dX11_waitAll_4 rfl (lv_at hl 0 rfl) ?_
      refine lv_aload_n hx hb dX11_waitAll_5 rfl (lv_at hl 2 rfl) ?_
      refine lv_iconst (v := 0) hx hb dX11_waitAll_6 (by decide) ?_
      refine h_callVi (T := TX11) (rest := [.int w1_2]) (As := [.int 0]) hx hb hml hown hts hK hT0 hZ (fun _ h => h) hS2 (c_of l G Y P (o) hM 0 0 (by decide) (h_inc (by decide))) trivial wd_X11_of wV_X11_of wL_X11_47 (hM.o rfl) rfl rfl hl.1 rfl (Nat.le_of_ble_eq_true rfl) dX11_waitAll_7 ⟨Nat.le_of_ble_eq_true rfl, Nat.le_of_ble_eq_true rfl⟩ ⟨Nat.zero_le _, Nat.zero_le _⟩ (fun r1 H3 locs hp3 hT3 hS3 hk3 => ?_)
      obtain ⟨hp3, he⟩ := hp3
      have he := he.symm
      subst he
      have mr1 : h_ai H0 (o + 1) 0 = r1 := hp3.1.symm
      have br1 := mP_N hp3.2 (by omega)
      refine lv_icmp_ge (tgt := 30) hx hb dX11_waitAll_10 (by decide) (fun c2 => ?_) (fun c2 => ?_)
      · skip
        have c2 : r1.toInt ≤ w1_2.toInt := Int32.le_iff_toInt_le.mp c2
        refine lv_iload_n hx hb dX11_waitAll_30 rfl (lv_at hl 1 rfl) ?_
        exact hret _ _ _ _ _ hT0 hS3 ⟨trivial, rfl⟩ dX11_waitAll_31
      · skip
        have c2 : ¬ r1.toInt ≤ w1_2.toInt := h_nleI c2
        refine lv_iload_n hx hb dX11_waitAll_13 rfl (lv_at hl 1 rfl) ?_
        refine lv_aload_n hx hb dX11_waitAll_14 rfl (lv_at hl 2 rfl) ?_
        refine lv_bipush (v := 80) hx hb dX11_waitAll_15 (by decide) ?_
        refine lv_iload_n hx hb dX11_waitAll_17 rfl (lv_at hl 0 rfl) ?_
        refine lv_iadd hx hb dX11_waitAll_18 ?_
        obtain ⟨x3, qx3, ix3⟩ := h_addX 80 w1_2 (80 : Int) w1_2.toInt rfl rfl (by omega) (by omega)
        refine h_top (v := x3) qx3 ?_
        refine h_callVi (T := TX11) (rest := [.int w1_1]) (As := [.int x3]) hx hb hml hown hts hK hT0 hZ (fun _ h => h) hS3 (c_of l G Y P (o) hM x3 (80 + w1_2.toInt).toNat (show x3.toInt.toNat = (80 + w1_2.toInt).toNat from by omega) (h_vin (by omega) (by omega))) trivial wd_X11_of wV_X11_of wL_X11_47 (hM.o rfl) rfl rfl hl.1 rfl (Nat.le_of_ble_eq_true rfl) dX11_waitAll_19 ⟨Nat.le_of_ble_eq_true rfl, Nat.le_of_ble_eq_true rfl⟩ ⟨Nat.zero_le _, Nat.zero_le _⟩ (fun r4 H4 locs hp4 hT4 hS4 hk4 => ?_)
        obtain ⟨hp4, he⟩ := hp4
        have he := he.symm
        subst he
        have mr4 : h_ai H0 (o + 1) (80 + w1_2.toInt).toNat = r4 := hp4.1.symm
        have br4 := mP_wm hp4.2 (by omega)
        refine lv_iadd hx hb dX11_waitAll_22 ?_
        refine lv_topi (fun x5 ex5 => ?_)
        refine lv_istore_n (lv' := [(1, .int x5), (2, .int w1_2), (0, .ref (o))]) hx hb dX11_waitAll_23 rfl hl (by decide) rfl (fun ls hl => ?_)
        obtain ⟨x6, qx6, ix6⟩ := h_addX w1_2 1 w1_2.toInt (1 : Int) rfl rfl (by omega) (by omega)
        refine lv_iinc (v := x6) (lv' := [(2, .int x6), (1, .int x5), (0, .ref (o))]) hx hb dX11_waitAll_24 hl (k := 1) rfl qx6 (by decide) rfl (fun ls hl => ?_)
        refine lv_goto (tgt := 4) hx hb dX11_waitAll_27 (by decide) ?_
        exact ih1 x6 x5 (show 2147483647 - x6.toInt < (n1 : Int) from by omega) (show 0 ≤ x6.toInt from by omega) _ _ hS4 (lv_sub hl [0, 1, 2] rfl)
  exact LP1 4294967296 0 0 (show 2147483647 - (0 : Int) < ((4294967296 : Nat) : Int) from by omega) (show 0 ≤ (0 : Int) from by omega) _ _ hS0 (lv_sub hl [0, 1, 2] rfl)
set_option maxHeartbeats 4000000 in
set_option maxRecDepth 100000 in
theorem c_X11_nextOn (l : Launch) (G : hG) (Y : hW) (P : Int32 → Prop) (o : Nat) (hM : h_On Y o (modE (tM P) o)) (u1 u2 : Int32) : hMi l yX11_nextOn cX11_nextOn 5 (some .int) 3 63 G Y [.ref (o), .int u1, .int u2] (fun H => True) (fun H r H1 => (r.toInt = -1 ∨ (0 ≤ r.toInt ∧ r.toInt < (h_ai H (o + 1) 0).toInt)) ∧ H1 = H) := by
  refine h_ofi (by decide +kernel) (Nat.le_of_ble_eq_true rfl) ?_
  intro p e s m args below meth c H0 ls Q hx hb hts hown hml hK hZ hT0 hpr hS0 hl hret
  have hl : lv_has ls 5 [(0, .ref (o)), (1, .int u1), (2, .int u2)] := hl
  refine lv_iconst (v := 1) hx hb dX11_nextOn_0 (by decide) ?_
  refine lv_istore_n (lv' := [(3, .int 1), (0, .ref (o)), (1, .int u1), (2, .int u2)]) hx hb dX11_nextOn_1 rfl hl (by decide) rfl (fun ls hl => ?_)
  have LP1 : ∀ (n1 : Nat) (w1_3 : Int32), (2147483647 - w1_3.toInt < (n1 : Int)) → (1 ≤ w1_3.toInt) → ∀ (locs : List Loc) (ls : Array Slot), va_S (h_A Y) s.heap H0 locs → lv_has ls 5 [(3, .int w1_3), (0, .ref (o)), (1, .int u1), (2, .int u2)] → W p l e (h_rm 3 63) s m args below meth c H0 locs 0 0 Q (F0 m 2 ls []) := by
    intro n1
    induction n1 with
    | zero =>
      intro w1_3 hm hlo1_3
      intros
      exfalso
      have := Int32.toInt_lt w1_3; have := Int32.le_toInt w1_3
      omega
    | succ n1 ih1 =>
      intro w1_3 hm hlo1_3  locs ls hS2 hl
      refine lv_iload_n hx hb dX11_nextOn_2 rfl (lv_at hl 0 rfl) ?_
      refine lv_aload_n hx hb dX11_nextOn_3 rfl (lv_at hl 1 rfl) ?_
      refine lv_iconst (v := 0) hx hb dX11_nextOn_4 (by decide) ?_
      refine h_callVi (T := TX11) (rest := [.int w1_3]) (As := [.int 0]) hx hb hml hown hts hK hT0 hZ (fun _ h => h) hS2 (c_of l G Y P (o) hM 0 0 (by decide) (h_inc (by decide))) trivial wd_X11_of wV_X11_of wL_X11_47 (hM.o rfl) rfl rfl hl.1 rfl (Nat.le_of_ble_eq_true rfl) dX11_nextOn_5 ⟨Nat.le_of_ble_eq_true rfl, Nat.le_of_ble_eq_true rfl⟩ ⟨Nat.zero_le _, Nat.zero_le _⟩ (fun r1 H3 locs hp3 hT3 hS3 hk3 => ?_)
      obtain ⟨hp3, he⟩ := hp3
      have he := he.symm
      subst he
      have mr1 : h_ai H0 (o + 1) 0 = r1 := hp3.1.symm
      have br1 := mP_N hp3.2 (by omega)
      refine lv_icmp_gt (tgt := 50) hx hb dX11_nextOn_8 (by decide) (fun c2 => ?_) (fun c2 => ?_)
      · skip
        have c2 : r1.toInt < w1_3.toInt := Int32.lt_iff_toInt_lt.mp c2
        refine lv_iconst (v := (-1)) hx hb dX11_nextOn_50 (by decide) ?_
        exact hret _ _ _ _ _ hT0 hS3 ⟨(show (-1 : Int) = -1 ∨ (0 ≤ (-1 : Int) ∧ (-1 : Int) < (h_ai H0 (o + 1) 0).toInt) from by rw [mr1]; show (-1 : Int) = -1 ∨ (0 ≤ (-1 : Int) ∧ (-1 : Int) < r1.toInt); omega), rfl⟩ dX11_nextOn_51
      · skip
        have c2 : ¬ r1.toInt < w1_3.toInt := h_nltI c2
        refine lv_iload_n hx hb dX11_nextOn_11 rfl (lv_at hl 2 rfl) ?_
        refine lv_iload_n hx hb dX11_nextOn_12 rfl (lv_at hl 3 rfl) ?_
        refine lv_iload_n hx hb dX11_nextOn_13 rfl (lv_at hl 0 rfl) ?_
        refine lv_imul hx hb dX11_nextOn_14 ?_
        refine lv_topi (fun x3 ex3 => ?_)
        refine lv_iadd hx hb dX11_nextOn_15 ?_
        refine lv_topi (fun x4 ex4 => ?_)
        refine lv_iload_n hx hb dX11_nextOn_16 rfl (lv_at hl 0 rfl) ?_
        refine lv_aload_n hx hb dX11_nextOn_17 rfl (lv_at hl 1 rfl) ?_
        refine lv_iconst (v := 0) hx hb dX11_nextOn_18 (by decide) ?_
        refine h_callVi (T := TX11) (rest := [.int w1_3, .int x4]) (As := [.int 0]) hx hb hml hown hts hK hT0 hZ (fun _ h => h) hS3 (c_of l G Y P (o) hM 0 0 (by decide) (h_inc (by decide))) trivial wd_X11_of wV_X11_of wL_X11_47 (hM.o rfl) rfl rfl hl.1 rfl (Nat.le_of_ble_eq_true rfl) dX11_nextOn_19 ⟨Nat.le_of_ble_eq_true rfl, Nat.le_of_ble_eq_true rfl⟩ ⟨Nat.zero_le _, Nat.zero_le _⟩ (fun r5 H4 locs hp4 hT4 hS4 hk4 => ?_)
        obtain ⟨hp4, he⟩ := hp4
        have he := he.symm
        subst he
        have hp4 : r1 = r5 := (hp4.1.trans mr1).symm
        subst hp4
        refine lv_imul hx hb dX11_nextOn_22 ?_
        refine lv_topi (fun x6 ex6 => ?_)
        refine lv_iadd hx hb dX11_nextOn_23 ?_
        refine lv_topi (fun x7 ex7 => ?_)
        refine lv_aload_n hx hb dX11_nextOn_24 rfl (lv_at hl 1 rfl) ?_
        refine lv_iconst (v := 0) hx hb dX11_nextOn_25 (by decide) ?_
        refine h_callVi (T := TX11) (rest := [.int x7]) (As := [.int 0]) hx hb hml hown hts hK hT0 hZ (fun _ h => h) hS4 (c_of l G Y P (o) hM 0 0 (by decide) (h_inc (by decide))) trivial wd_X11_of wV_X11_of wL_X11_47 (hM.o rfl) rfl rfl hl.1 rfl (Nat.le_of_ble_eq_true rfl) dX11_nextOn_26 ⟨Nat.le_of_ble_eq_true rfl, Nat.le_of_ble_eq_true rfl⟩ ⟨Nat.zero_le _, Nat.zero_le _⟩ (fun r8 H5 locs hp5 hT5 hS5 hk5 => ?_)
        obtain ⟨hp5, he⟩ := hp5
        have he := he.symm
        subst he
        have hp5 : r1 = r8 := (hp5.1.trans mr1).symm
        subst hp5
        refine lv_irem hx hb dX11_nextOn_29 (fun q => absurd (congrArg Int32.toInt q) (show ¬ r1.toInt = 0 from by omega)) ?_
        refine lv_topi (fun x9 ex9 => ?_)
        refine lv_istore (lv' := [(4, .int x9), (3, .int w1_3), (0, .ref (o)), (1, .int u1), (2, .int u2)]) hx hb dX11_nextOn_30 hl (by decide) rfl (fun ls hl => ?_)
        refine lv_aload_n hx hb dX11_nextOn_32 rfl (lv_at hl 2 rfl) ?_
        refine lv_iload hx hb dX11_nextOn_33 (lv_at hl 0 rfl) ?_
        refine h_callVi (T := TX11) (rest := []) (As := [.int x9]) hx hb hml hown hts hK hT0 hZ (fun _ h => h) hS5 (c_X11_isOn l G Y P (o) hM x9) trivial wd_X11_isOn wV_X11_isOn wL_X11_55 (hM.o rfl) rfl rfl hl.1 rfl (Nat.le_of_ble_eq_true rfl) dX11_nextOn_35 ⟨Nat.le_of_ble_eq_true rfl, Nat.le_of_ble_eq_true rfl⟩ ⟨Nat.zero_le _, Nat.zero_le _⟩ (fun r10 H6 locs hp6 hT6 hS6 hk6 => ?_)
        obtain ⟨hp6, he⟩ := hp6
        have he := he.symm
        subst he
        have f11 : r10.toInt = 0 ∨ (0 ≤ x9.toInt ∧ x9.toInt < r1.toInt) := by have q := hp6.2; rw [mr1] at q; exact q
        refine lv_if_eq (tgt := 44) hx hb dX11_nextOn_38 (by decide) (fun c12 => ?_) (fun c12 => ?_)
        · skip
          have c12 : r10.toInt = (0 : Int) := congrArg Int32.toInt c12
          obtain ⟨x13, qx13, ix13⟩ := h_addX w1_3 1 w1_3.toInt (1 : Int) rfl rfl (by omega) (by omega)
          refine lv_iinc (v := x13) (lv' := [(3, .int x13), (4, .int x9), (0, .ref (o)), (1, .int u1), (2, .int u2)]) hx hb dX11_nextOn_44 hl (k := 1) rfl qx13 (by decide) rfl (fun ls hl => ?_)
          refine lv_goto (tgt := 2) hx hb dX11_nextOn_47 (by decide) ?_
          exact ih1 x13 (show 2147483647 - x13.toInt < (n1 : Int) from by omega) (show 1 ≤ x13.toInt from by omega) _ _ hS6 (lv_sub hl [0, 2, 3, 4] rfl)
        · skip
          have c12 : ¬ r10.toInt = (0 : Int) := h_neI c12
          refine lv_iload hx hb dX11_nextOn_41 (lv_at hl 0 rfl) ?_
          exact hret _ _ _ _ _ hT0 hS6 ⟨(show x9.toInt = -1 ∨ (0 ≤ x9.toInt ∧ x9.toInt < (h_ai H0 (o + 1) 0).toInt) from by rw [mr1]; show x9.toInt = -1 ∨ (0 ≤ x9.toInt ∧ x9.toInt < r1.toInt); omega), rfl⟩ dX11_nextOn_43
  exact LP1 4294967296 1 (show 2147483647 - (1 : Int) < ((4294967296 : Nat) : Int) from by omega) (show 1 ≤ (1 : Int) from by omega) _ _ hS0 (lv_sub hl [0, 1, 2, 3] rfl)
set_option maxHeartbeats 4000000 in
set_option maxRecDepth 100000 in
theorem c_X11_doesCount (l : Launch) (G : hG) (Y : hW) (P : Int32 → Prop) (o : Nat) (hM : h_On Y o (modE (tM P) o)) : hMi l yX11_doesCount cX11_doesCount 2 (some .boolean) 3 63 G Y [.ref (o)] (fun H => mR o H) (fun H r H1 => ((r = 0 ∨ r = 1) ∧ (True)) ∧ H1 = H) := by
  refine h_ofz (by decide +kernel) (Nat.le_of_ble_eq_true rfl) ?_
  intro p e s m args below meth c H0 ls Q hx hb hts hown hml hK hZ hT0 hpr hS0 hl hret
  have hl : lv_has ls 2 [(0, .ref (o))] := hl
  obtain ⟨v1, mv1⟩ : ∃ x, h_ai H0 (o + 1) 0 = x := ⟨_, rfl⟩
  have bv1 := mP_N (mP_cell hM hT0 (j := 0) (by omega)) (by omega)
  rw [mv1] at bv1
  obtain ⟨v2, mv2⟩ : ∃ x, h_ai H0 (o + 1) 16 = x := ⟨_, rfl⟩
  have bv2 := mP_m1 (mP_cell hM hT0 (j := 16) (by omega)) (by omega)
  rw [mv2] at bv2
  have hbn : v2.toInt < v1.toInt := by have q : (h_ai H0 (o + 1) 16).toInt < (h_ai H0 (o + 1) 0).toInt := hpr.2; rw [mv2, mv1] at q; exact q
  refine lv_aload_n hx hb dX11_doesCount_0 rfl (lv_at hl 0 rfl) ?_
  refine lv_bipush (v := 16) hx hb dX11_doesCount_1 (by decide) ?_
  refine h_callVi (T := TX11) (rest := []) (As := [.int 16]) hx hb hml hown hts hK hT0 hZ (fun _ h => h) hS0 (c_of l G Y P (o) hM 16 16 (by decide) (h_inc (by decide))) trivial wd_X11_of wV_X11_of wL_X11_47 (hM.o rfl) rfl rfl hl.1 rfl (Nat.le_of_ble_eq_true rfl) dX11_doesCount_3 ⟨Nat.le_of_ble_eq_true rfl, Nat.le_of_ble_eq_true rfl⟩ ⟨Nat.zero_le _, Nat.zero_le _⟩ (fun r3 H1 locs hp1 hT1 hS1 hk1 => ?_)
  obtain ⟨hp1, he⟩ := hp1
  have he := he.symm
  subst he
  have hp1 : v2 = r3 := (hp1.1.trans mv2).symm
  subst hp1
  refine lv_istore_n (lv' := [(1, .int v2), (0, .ref (o))]) hx hb dX11_doesCount_6 rfl hl (by decide) rfl (fun ls hl => ?_)
  refine lv_iload_n hx hb dX11_doesCount_7 rfl (lv_at hl 0 rfl) ?_
  refine lv_iconst (v := (-1)) hx hb dX11_doesCount_8 (by decide) ?_
  refine lv_icmp_ne (tgt := 14) hx hb dX11_doesCount_9 (by decide) (fun c4 => ?_) (fun c4 => ?_)
  · skip
    have c4 : ¬ v2.toInt = (-1 : Int) := h_neI c4
    refine lv_aload_n hx hb dX11_doesCount_14 rfl (lv_at hl 1 rfl) ?_
    refine lv_bipush (v := 17) hx hb dX11_doesCount_15 (by decide) ?_
    refine h_callVi (T := TX11) (rest := []) (As := [.int 17]) hx hb hml hown hts hK hT0 hZ (fun _ h => h) hS1 (c_of l G Y P (o) hM 17 17 (by decide) (h_inc (by decide))) trivial wd_X11_of wV_X11_of wL_X11_47 (hM.o rfl) rfl rfl hl.1 rfl (Nat.le_of_ble_eq_true rfl) dX11_doesCount_17 ⟨Nat.le_of_ble_eq_true rfl, Nat.le_of_ble_eq_true rfl⟩ ⟨Nat.zero_le _, Nat.zero_le _⟩ (fun r5 H2 locs hp2 hT2 hS2 hk2 => ?_)
    obtain ⟨hp2, he⟩ := hp2
    have he := he.symm
    subst he
    have mr5 : h_ai H0 (o + 1) 17 = r5 := hp2.1.symm
    refine lv_if_ne (tgt := 31) hx hb dX11_doesCount_20 (by decide) (fun c6 => ?_) (fun c6 => ?_)
    · skip
      have c6 : ¬ r5.toInt = (0 : Int) := h_neI c6
      refine lv_aload_n hx hb dX11_doesCount_31 rfl (lv_at hl 1 rfl) ?_
      refine lv_bipush (v := 17) hx hb dX11_doesCount_32 (by decide) ?_
      refine h_callVi (T := TX11) (rest := []) (As := [.int 17]) hx hb hml hown hts hK hT0 hZ (fun _ h => h) hS2 (c_of l G Y P (o) hM 17 17 (by decide) (h_inc (by decide))) trivial wd_X11_of wV_X11_of wL_X11_47 (hM.o rfl) rfl rfl hl.1 rfl (Nat.le_of_ble_eq_true rfl) dX11_doesCount_34 ⟨Nat.le_of_ble_eq_true rfl, Nat.le_of_ble_eq_true rfl⟩ ⟨Nat.zero_le _, Nat.zero_le _⟩ (fun r7 H3 locs hp3 hT3 hS3 hk3 => ?_)
      obtain ⟨hp3, he⟩ := hp3
      have he := he.symm
      subst he
      have hp3 : r5 = r7 := (hp3.1.trans mr5).symm
      subst hp3
      refine lv_iconst (v := 1) hx hb dX11_doesCount_37 (by decide) ?_
      refine lv_icmp_ne (tgt := 57) hx hb dX11_doesCount_38 (by decide) (fun c8 => ?_) (fun c8 => ?_)
      · skip
        have c8 : ¬ r5.toInt = (1 : Int) := h_neI c8
        refine lv_iconst (v := 1) hx hb dX11_doesCount_57 (by decide) ?_
        refine lv_goto (tgt := 62) hx hb dX11_doesCount_58 (by decide) ?_
        exact hret _ _ _ _ _ hT0 hS3 ⟨(by decide), ⟨⟨(by decide), trivial⟩, rfl⟩⟩ dX11_doesCount_62
      · skip
        have c8 : r5.toInt = (1 : Int) := congrArg Int32.toInt c8
        refine lv_aload_n hx hb dX11_doesCount_41 rfl (lv_at hl 1 rfl) ?_
        refine lv_iload_n hx hb dX11_doesCount_42 rfl (lv_at hl 0 rfl) ?_
        refine lv_iconst (v := 1) hx hb dX11_doesCount_43 (by decide) ?_
        refine lv_iadd hx hb dX11_doesCount_44 ?_
        obtain ⟨x9, qx9, ix9⟩ := h_addX v2 1 v2.toInt (1 : Int) rfl rfl (by omega) (by omega)
        refine h_top (v := x9) qx9 ?_
        refine lv_aload_n hx hb dX11_doesCount_45 rfl (lv_at hl 1 rfl) ?_
        refine lv_iconst (v := 0) hx hb dX11_doesCount_46 (by decide) ?_
        refine h_callVi (T := TX11) (rest := [.int x9, .ref (o)]) (As := [.int 0]) hx hb hml hown hts hK hT0 hZ (fun _ h => h) hS3 (c_of l G Y P (o) hM 0 0 (by decide) (h_inc (by decide))) trivial wd_X11_of wV_X11_of wL_X11_47 (hM.o rfl) rfl rfl hl.1 rfl (Nat.le_of_ble_eq_true rfl) dX11_doesCount_47 ⟨Nat.le_of_ble_eq_true rfl, Nat.le_of_ble_eq_true rfl⟩ ⟨Nat.zero_le _, Nat.zero_le _⟩ (fun r10 H4 locs hp4 hT4 hS4 hk4 => ?_)
        obtain ⟨hp4, he⟩ := hp4
        have he := he.symm
        subst he
        have hp4 : v1 = r10 := (hp4.1.trans mv1).symm
        subst hp4
        refine lv_irem hx hb dX11_doesCount_50 (fun q => absurd (congrArg Int32.toInt q) (show ¬ v1.toInt = 0 from by omega)) ?_
        refine lv_topi (fun x11 ex11 => ?_)
        refine h_callVi (T := TX11) (rest := []) (As := [.int x11]) hx hb hml hown hts hK hT0 hZ (fun _ h => h) hS4 (c_X11_isOn l G Y P (o) hM x11) trivial wd_X11_isOn wV_X11_isOn wL_X11_55 (hM.o rfl) rfl rfl hl.1 rfl (Nat.le_of_ble_eq_true rfl) dX11_doesCount_51 ⟨Nat.le_of_ble_eq_true rfl, Nat.le_of_ble_eq_true rfl⟩ ⟨Nat.zero_le _, Nat.zero_le _⟩ (fun r12 H5 locs hp5 hT5 hS5 hk5 => ?_)
        obtain ⟨hp5, he⟩ := hp5
        have he := he.symm
        subst he
        have f13 : r12.toInt = 0 ∨ (0 ≤ x11.toInt ∧ x11.toInt < v1.toInt) := by have q := hp5.2; rw [mv1] at q; exact q
        refine lv_if_eq (tgt := 61) hx hb dX11_doesCount_54 (by decide) (fun c14 => ?_) (fun c14 => ?_)
        · skip
          have c14 : r12.toInt = (0 : Int) := congrArg Int32.toInt c14
          refine lv_iconst (v := 0) hx hb dX11_doesCount_61 (by decide) ?_
          exact hret _ _ _ _ _ hT0 hS5 ⟨(by decide), ⟨⟨(by decide), trivial⟩, rfl⟩⟩ dX11_doesCount_62
        · skip
          have c14 : ¬ r12.toInt = (0 : Int) := h_neI c14
          refine lv_iconst (v := 1) hx hb dX11_doesCount_57 (by decide) ?_
          refine lv_goto (tgt := 62) hx hb dX11_doesCount_58 (by decide) ?_
          exact hret _ _ _ _ _ hT0 hS5 ⟨(by decide), ⟨⟨(by decide), trivial⟩, rfl⟩⟩ dX11_doesCount_62
    · skip
      have c6 : r5.toInt = (0 : Int) := congrArg Int32.toInt c6
      refine lv_aload_n hx hb dX11_doesCount_23 rfl (lv_at hl 1 rfl) ?_
      refine lv_iload_n hx hb dX11_doesCount_24 rfl (lv_at hl 0 rfl) ?_
      refine h_callVi (T := TX11) (rest := []) (As := [.int v2]) hx hb hml hown hts hK hT0 hZ (fun _ h => h) hS2 (c_X11_isOn l G Y P (o) hM v2) trivial wd_X11_isOn wV_X11_isOn wL_X11_55 (hM.o rfl) rfl rfl hl.1 rfl (Nat.le_of_ble_eq_true rfl) dX11_doesCount_25 ⟨Nat.le_of_ble_eq_true rfl, Nat.le_of_ble_eq_true rfl⟩ ⟨Nat.zero_le _, Nat.zero_le _⟩ (fun r15 H6 locs hp6 hT6 hS6 hk6 => ?_)
      obtain ⟨hp6, he⟩ := hp6
      have he := he.symm
      subst he
      have f16 : r15.toInt = 0 ∨ (0 ≤ v2.toInt ∧ v2.toInt < v1.toInt) := by have q := hp6.2; rw [mv1] at q; exact q
      refine lv_if_eq (tgt := 61) hx hb dX11_doesCount_28 (by decide) (fun c17 => ?_) (fun c17 => ?_)
      · skip
        have c17 : r15.toInt = (0 : Int) := congrArg Int32.toInt c17
        refine lv_iconst (v := 0) hx hb dX11_doesCount_61 (by decide) ?_
        exact hret _ _ _ _ _ hT0 hS6 ⟨(by decide), ⟨⟨(by decide), trivial⟩, rfl⟩⟩ dX11_doesCount_62
      · skip
        have c17 : ¬ r15.toInt = (0 : Int) := h_neI c17
        refine lv_aload_n hx hb dX11_doesCount_31 rfl (lv_at hl 1 rfl) ?_
        refine lv_bipush (v := 17) hx hb dX11_doesCount_32 (by decide) ?_
        refine h_callVi (T := TX11) (rest := []) (As := [.int 17]) hx hb hml hown hts hK hT0 hZ (fun _ h => h) hS6 (c_of l G Y P (o) hM 17 17 (by decide) (h_inc (by decide))) trivial wd_X11_of wV_X11_of wL_X11_47 (hM.o rfl) rfl rfl hl.1 rfl (Nat.le_of_ble_eq_true rfl) dX11_doesCount_34 ⟨Nat.le_of_ble_eq_true rfl, Nat.le_of_ble_eq_true rfl⟩ ⟨Nat.zero_le _, Nat.zero_le _⟩ (fun r18 H7 locs hp7 hT7 hS7 hk7 => ?_)
        obtain ⟨hp7, he⟩ := hp7
        have he := he.symm
        subst he
        have hp7 : r5 = r18 := (hp7.1.trans mr5).symm
        subst hp7
        refine lv_iconst (v := 1) hx hb dX11_doesCount_37 (by decide) ?_
        refine lv_icmp_ne (tgt := 57) hx hb dX11_doesCount_38 (by decide) (fun _ => ?_) (fun h => absurd h (fun q => absurd (congrArg Int32.toInt q) (show ¬ r5.toInt = (1 : Int) from by omega)))
        refine lv_iconst (v := 1) hx hb dX11_doesCount_57 (by decide) ?_
        refine lv_goto (tgt := 62) hx hb dX11_doesCount_58 (by decide) ?_
        exact hret _ _ _ _ _ hT0 hS7 ⟨(by decide), ⟨⟨(by decide), trivial⟩, rfl⟩⟩ dX11_doesCount_62
  · skip
    have c4 : v2.toInt = (-1 : Int) := congrArg Int32.toInt c4
    refine lv_iconst (v := 0) hx hb dX11_doesCount_12 (by decide) ?_
    exact hret _ _ _ _ _ hT0 hS1 ⟨(by decide), ⟨⟨(by decide), trivial⟩, rfl⟩⟩ dX11_doesCount_13
set_option maxHeartbeats 4000000 in
set_option maxRecDepth 100000 in
theorem c_X11_heirNow (l : Launch) (G : hG) (Y : hW) (P : Int32 → Prop) (o : Nat) (hM : h_On Y o (modE (tM P) o)) : hMi l yX11_heirNow cX11_heirNow 3 (some .int) 3 63 G Y [.ref (o)] (fun H => True) (fun H r H1 => (r.toInt = -1 ∨ (0 ≤ r.toInt ∧ r.toInt < (h_ai H (o + 1) 0).toInt)) ∧ H1 = H) := by
  refine h_ofi (by decide +kernel) (Nat.le_of_ble_eq_true rfl) ?_
  intro p e s m args below meth c H0 ls Q hx hb hts hown hml hK hZ hT0 hpr hS0 hl hret
  have hl : lv_has ls 3 [(0, .ref (o))] := hl
  refine lv_iconst (v := (-1)) hx hb dX11_heirNow_0 (by decide) ?_
  refine lv_istore_n (lv' := [(1, .int (-1)), (0, .ref (o))]) hx hb dX11_heirNow_1 rfl hl (by decide) rfl (fun ls hl => ?_)
  refine lv_iconst (v := 0) hx hb dX11_heirNow_2 (by decide) ?_
  refine lv_istore_n (lv' := [(2, .int 0), (1, .int (-1)), (0, .ref (o))]) hx hb dX11_heirNow_3 rfl hl (by decide) rfl (fun ls hl => ?_)
  obtain ⟨v1, mv1⟩ : ∃ x, h_ai H0 (o + 1) 0 = x := ⟨_, rfl⟩
  have bv1 := mP_N (mP_cell hM hT0 (j := 0) (by omega)) (by omega)
  rw [mv1] at bv1
  have LP1 : ∀ (n1 : Nat) (w1_2 : Int32) (w1_1 : Int32), (2147483647 - w1_2.toInt < (n1 : Int)) → (0 ≤ w1_2.toInt) → (-1 ≤ w1_1.toInt ∧ w1_1.toInt < v1.toInt) → ∀ (locs : List Loc) (ls : Array Slot), va_S (h_A Y) s.heap H0 locs → lv_has ls 3 [(2, .int w1_2), (1, .int w1_1), (0, .ref (o))] → W p l e (h_rm 3 63) s m args below meth c H0 locs 0 0 Q (F0 m 4 ls []) := by
    intro n1
    induction n1 with
    | zero =>
      intro w1_2 w1_1 hm hlo1_2 hv1_0
      intros
      exfalso
      have := Int32.toInt_lt w1_2; have := Int32.le_toInt w1_2
      have := Int32.toInt_lt w1_1; have := Int32.le_toInt w1_1
      omega
    | succ n1 ih1 =>
      intro w1_2 w1_1 hm hlo1_2 hv1_0  locs ls hS2 hl
      refine lv_iload_n hx hb dX11_heirNow_4 rfl (lv_at hl 0 rfl) ?_
      refine lv_aload_n hx hb dX11_heirNow_5 rfl (lv_at hl 2 rfl) ?_
      refine lv_iconst (v := 0) hx hb dX11_heirNow_6 (by decide) ?_
      refine h_callVi (T := TX11) (rest := [.int w1_2]) (As := [.int 0]) hx hb hml hown hts hK hT0 hZ (fun _ h => h) hS2 (c_of l G Y P (o) hM 0 0 (by decide) (h_inc (by decide))) trivial wd_X11_of wV_X11_of wL_X11_47 (hM.o rfl) rfl rfl hl.1 rfl (Nat.le_of_ble_eq_true rfl) dX11_heirNow_7 ⟨Nat.le_of_ble_eq_true rfl, Nat.le_of_ble_eq_true rfl⟩ ⟨Nat.zero_le _, Nat.zero_le _⟩ (fun r2 H3 locs hp3 hT3 hS3 hk3 => ?_)
      obtain ⟨hp3, he⟩ := hp3
      have he := he.symm
      subst he
      have hp3 : v1 = r2 := (hp3.1.trans mv1).symm
      subst hp3
      refine lv_icmp_ge (tgt := 53) hx hb dX11_heirNow_10 (by decide) (fun c3 => ?_) (fun c3 => ?_)
      · skip
        have c3 : v1.toInt ≤ w1_2.toInt := Int32.le_iff_toInt_le.mp c3
        refine lv_iload_n hx hb dX11_heirNow_53 rfl (lv_at hl 1 rfl) ?_
        exact hret _ _ _ _ _ hT0 hS3 ⟨(show w1_1.toInt = -1 ∨ (0 ≤ w1_1.toInt ∧ w1_1.toInt < (h_ai H0 (o + 1) 0).toInt) from by rw [mv1]; show w1_1.toInt = -1 ∨ (0 ≤ w1_1.toInt ∧ w1_1.toInt < v1.toInt); omega), rfl⟩ dX11_heirNow_54
      · skip
        have c3 : ¬ v1.toInt ≤ w1_2.toInt := h_nleI c3
        refine lv_aload_n hx hb dX11_heirNow_13 rfl (lv_at hl 2 rfl) ?_
        refine lv_iload_n hx hb dX11_heirNow_14 rfl (lv_at hl 0 rfl) ?_
        refine h_callVi (T := TX11) (rest := []) (As := [.int w1_2]) hx hb hml hown hts hK hT0 hZ (fun _ h => h) hS3 (c_X11_isOn l G Y P (o) hM w1_2) trivial wd_X11_isOn wV_X11_isOn wL_X11_55 (hM.o rfl) rfl rfl hl.1 rfl (Nat.le_of_ble_eq_true rfl) dX11_heirNow_15 ⟨Nat.le_of_ble_eq_true rfl, Nat.le_of_ble_eq_true rfl⟩ ⟨Nat.zero_le _, Nat.zero_le _⟩ (fun r4 H4 locs hp4 hT4 hS4 hk4 => ?_)
        obtain ⟨hp4, he⟩ := hp4
        have he := he.symm
        subst he
        have f5 : r4.toInt = 0 ∨ (0 ≤ w1_2.toInt ∧ w1_2.toInt < v1.toInt) := by have q := hp4.2; rw [mv1] at q; exact q
        refine lv_if_eq (tgt := 47) hx hb dX11_heirNow_18 (by decide) (fun c6 => ?_) (fun c6 => ?_)
        · skip
          have c6 : r4.toInt = (0 : Int) := congrArg Int32.toInt c6
          obtain ⟨x7, qx7, ix7⟩ := h_addX w1_2 1 w1_2.toInt (1 : Int) rfl rfl (by omega) (by omega)
          refine lv_iinc (v := x7) (lv' := [(2, .int x7), (1, .int w1_1), (0, .ref (o))]) hx hb dX11_heirNow_47 hl (k := 0) rfl qx7 (by decide) rfl (fun ls hl => ?_)
          refine lv_goto (tgt := 4) hx hb dX11_heirNow_50 (by decide) ?_
          exact ih1 x7 w1_1 (show 2147483647 - x7.toInt < (n1 : Int) from by omega) (show 0 ≤ x7.toInt from by omega) (show -1 ≤ w1_1.toInt ∧ w1_1.toInt < v1.toInt from by omega) _ _ hS4 (lv_sub hl [0, 1, 2] rfl)
        · skip
          have c6 : ¬ r4.toInt = (0 : Int) := h_neI c6
          refine lv_iload_n hx hb dX11_heirNow_21 rfl (lv_at hl 1 rfl) ?_
          refine lv_iconst (v := (-1)) hx hb dX11_heirNow_22 (by decide) ?_
          refine lv_icmp_eq (tgt := 45) hx hb dX11_heirNow_23 (by decide) (fun c8 => ?_) (fun c8 => ?_)
          · skip
            have c8 : w1_1.toInt = (-1 : Int) := congrArg Int32.toInt c8
            refine lv_iload_n hx hb dX11_heirNow_45 rfl (lv_at hl 0 rfl) ?_
            refine lv_istore_n (lv' := [(1, .int w1_2), (2, .int w1_2), (0, .ref (o))]) hx hb dX11_heirNow_46 rfl hl (by decide) rfl (fun ls hl => ?_)
            obtain ⟨x9, qx9, ix9⟩ := h_addX w1_2 1 w1_2.toInt (1 : Int) rfl rfl (by omega) (by omega)
            refine lv_iinc (v := x9) (lv' := [(2, .int x9), (1, .int w1_2), (0, .ref (o))]) hx hb dX11_heirNow_47 hl (k := 1) rfl qx9 (by decide) rfl (fun ls hl => ?_)
            refine lv_goto (tgt := 4) hx hb dX11_heirNow_50 (by decide) ?_
            exact ih1 x9 w1_2 (show 2147483647 - x9.toInt < (n1 : Int) from by omega) (show 0 ≤ x9.toInt from by omega) (show -1 ≤ w1_2.toInt ∧ w1_2.toInt < v1.toInt from by omega) _ _ hS4 (lv_sub hl [0, 1, 2] rfl)
          · skip
            have c8 : ¬ w1_1.toInt = (-1 : Int) := h_neI c8
            refine lv_aload_n hx hb dX11_heirNow_26 rfl (lv_at hl 2 rfl) ?_
            refine lv_bipush (v := 40) hx hb dX11_heirNow_27 (by decide) ?_
            refine lv_iload_n hx hb dX11_heirNow_29 rfl (lv_at hl 0 rfl) ?_
            refine lv_iadd hx hb dX11_heirNow_30 ?_
            obtain ⟨x10, qx10, ix10⟩ := h_addX 40 w1_2 (40 : Int) w1_2.toInt rfl rfl (by omega) (by omega)
            refine h_top (v := x10) qx10 ?_
            refine h_callVi (T := TX11) (rest := []) (As := [.int x10]) hx hb hml hown hts hK hT0 hZ (fun _ h => h) hS4 (c_of l G Y P (o) hM x10 (40 + w1_2.toInt).toNat (show x10.toInt.toNat = (40 + w1_2.toInt).toNat from by omega) (h_vin (by omega) (by omega))) trivial wd_X11_of wV_X11_of wL_X11_47 (hM.o rfl) rfl rfl hl.1 rfl (Nat.le_of_ble_eq_true rfl) dX11_heirNow_31 ⟨Nat.le_of_ble_eq_true rfl, Nat.le_of_ble_eq_true rfl⟩ ⟨Nat.zero_le _, Nat.zero_le _⟩ (fun r11 H5 locs hp5 hT5 hS5 hk5 => ?_)
            obtain ⟨hp5, he⟩ := hp5
            have he := he.symm
            subst he
            have mr11 : h_ai H0 (o + 1) (40 + w1_2.toInt).toNat = r11 := hp5.1.symm
            refine lv_aload_n hx hb dX11_heirNow_34 rfl (lv_at hl 2 rfl) ?_
            refine lv_bipush (v := 40) hx hb dX11_heirNow_35 (by decide) ?_
            refine lv_iload_n hx hb dX11_heirNow_37 rfl (lv_at hl 1 rfl) ?_
            refine lv_iadd hx hb dX11_heirNow_38 ?_
            obtain ⟨x12, qx12, ix12⟩ := h_addX 40 w1_1 (40 : Int) w1_1.toInt rfl rfl (by omega) (by omega)
            refine h_top (v := x12) qx12 ?_
            refine h_callVi (T := TX11) (rest := [.int r11]) (As := [.int x12]) hx hb hml hown hts hK hT0 hZ (fun _ h => h) hS5 (c_of l G Y P (o) hM x12 (40 + w1_1.toInt).toNat (show x12.toInt.toNat = (40 + w1_1.toInt).toNat from by omega) (h_vin (by omega) (by omega))) trivial wd_X11_of wV_X11_of wL_X11_47 (hM.o rfl) rfl rfl hl.1 rfl (Nat.le_of_ble_eq_true rfl) dX11_heirNow_39 ⟨Nat.le_of_ble_eq_true rfl, Nat.le_of_ble_eq_true rfl⟩ ⟨Nat.zero_le _, Nat.zero_le _⟩ (fun r13 H6 locs hp6 hT6 hS6 hk6 => ?_)
            obtain ⟨hp6, he⟩ := hp6
            have he := he.symm
            subst he
            have mr13 : h_ai H0 (o + 1) (40 + w1_1.toInt).toNat = r13 := hp6.1.symm
            refine lv_icmp_le (tgt := 47) hx hb dX11_heirNow_42 (by decide) (fun c14 => ?_) (fun c14 => ?_)
            · skip
              have c14 : r11.toInt ≤ r13.toInt := Int32.le_iff_toInt_le.mp c14
              obtain ⟨x15, qx15, ix15⟩ := h_addX w1_2 1 w1_2.toInt (1 : Int) rfl rfl (by omega) (by omega)
              refine lv_iinc (v := x15) (lv' := [(2, .int x15), (1, .int w1_1), (0, .ref (o))]) hx hb dX11_heirNow_47 hl (k := 0) rfl qx15 (by decide) rfl (fun ls hl => ?_)
              refine lv_goto (tgt := 4) hx hb dX11_heirNow_50 (by decide) ?_
              exact ih1 x15 w1_1 (show 2147483647 - x15.toInt < (n1 : Int) from by omega) (show 0 ≤ x15.toInt from by omega) (show -1 ≤ w1_1.toInt ∧ w1_1.toInt < v1.toInt from by omega) _ _ hS6 (lv_sub hl [0, 1, 2] rfl)
            · skip
              have c14 : ¬ r11.toInt ≤ r13.toInt := h_nleI c14
              refine lv_iload_n hx hb dX11_heirNow_45 rfl (lv_at hl 0 rfl) ?_
              refine lv_istore_n (lv' := [(1, .int w1_2), (2, .int w1_2), (0, .ref (o))]) hx hb dX11_heirNow_46 rfl hl (by decide) rfl (fun ls hl => ?_)
              obtain ⟨x16, qx16, ix16⟩ := h_addX w1_2 1 w1_2.toInt (1 : Int) rfl rfl (by omega) (by omega)
              refine lv_iinc (v := x16) (lv' := [(2, .int x16), (1, .int w1_2), (0, .ref (o))]) hx hb dX11_heirNow_47 hl (k := 1) rfl qx16 (by decide) rfl (fun ls hl => ?_)
              refine lv_goto (tgt := 4) hx hb dX11_heirNow_50 (by decide) ?_
              exact ih1 x16 w1_2 (show 2147483647 - x16.toInt < (n1 : Int) from by omega) (show 0 ≤ x16.toInt from by omega) (show -1 ≤ w1_2.toInt ∧ w1_2.toInt < v1.toInt from by omega) _ _ hS6 (lv_sub hl [0, 1, 2] rfl)
  exact LP1 4294967296 0 (-1) (show 2147483647 - (0 : Int) < ((4294967296 : Nat) : Int) from by omega) (show 0 ≤ (0 : Int) from by omega) (show -1 ≤ (-1 : Int) ∧ (-1 : Int) < v1.toInt from by omega) _ _ hS0 (lv_sub hl [0, 1, 2] rfl)
set_option maxHeartbeats 4000000 in
set_option maxRecDepth 100000 in
theorem c_X11_firstOf (l : Launch) (G : hG) (Y : hW) (P : Int32 → Prop) (o : Nat) (hM : h_On Y o (modE (tM P) o)) (u1 : Int32) (hu1 : 0 ≤ u1.toInt ∧ u1.toInt ≤ 7) : hMi l yX11_firstOf cX11_firstOf 4 (some .int) 1 21 G Y [.ref (o), .int u1] (fun H => True) (fun H r H1 => ((r.toInt = -1 ∧ (h_ai H (o + 1) (80 + u1.toInt).toNat).toInt ≤ 0) ∨ (0 ≤ r.toInt ∧ r.toInt < (h_ai H (o + 1) (80 + u1.toInt).toNat).toInt)) ∧ H1 = H) := by
  refine h_ofi (by decide +kernel) (Nat.le_of_ble_eq_true rfl) ?_
  intro p e s m args below meth c H0 ls Q hx hb hts hown hml hK hZ hT0 hpr hS0 hl hret
  have hl : lv_has ls 4 [(0, .ref (o)), (1, .int u1)] := hl
  refine lv_iconst (v := (-1)) hx hb dX11_firstOf_0 (by decide) ?_
  refine lv_istore_n (lv' := [(2, .int (-1)), (0, .ref (o)), (1, .int u1)]) hx hb dX11_firstOf_1 rfl hl (by decide) rfl (fun ls hl => ?_)
  refine lv_iconst (v := 0) hx hb dX11_firstOf_2 (by decide) ?_
  refine lv_istore_n (lv' := [(3, .int 0), (2, .int (-1)), (0, .ref (o)), (1, .int u1)]) hx hb dX11_firstOf_3 rfl hl (by decide) rfl (fun ls hl => ?_)
  obtain ⟨v1, mv1⟩ : ∃ x, h_ai H0 (o + 1) (80 + u1.toInt).toNat = x := ⟨_, rfl⟩
  have bv1 := mP_wm (mP_cell hM hT0 (j := (80 + u1.toInt).toNat) (by omega)) (by omega)
  rw [mv1] at bv1
  have LP1 : ∀ (n1 : Nat) (w1_3 : Int32) (w1_2 : Int32), (2147483647 - w1_3.toInt < (n1 : Int)) → (0 ≤ w1_3.toInt) → ((w1_3.toInt = 0 ∧ w1_2.toInt = -1) ∨ (0 ≤ w1_2.toInt ∧ w1_2.toInt < w1_3.toInt)) → (w1_3.toInt ≤ v1.toInt) → ∀ (locs : List Loc) (ls : Array Slot), va_S (h_A Y) s.heap H0 locs → lv_has ls 4 [(3, .int w1_3), (2, .int w1_2), (0, .ref (o)), (1, .int u1)] → W p l e (h_rm 1 21) s m args below meth c H0 locs 0 0 Q (F0 m 4 ls []) := by
    intro n1
    induction n1 with
    | zero =>
      intro w1_3 w1_2 hm hlo1_3 hv1_0 hv1_1
      intros
      exfalso
      have := Int32.toInt_lt w1_3; have := Int32.le_toInt w1_3
      have := Int32.toInt_lt w1_2; have := Int32.le_toInt w1_2
      omega
    | succ n1 ih1 =>
      intro w1_3 w1_2 hm hlo1_3 hv1_0 hv1_1  locs ls hS2 hl
      refine lv_iload_n hx hb dX11_firstOf_4 rfl (lv_at hl 0 rfl) ?_
      refine lv_aload_n hx hb dX11_firstOf_5 rfl (lv_at hl 2 rfl) ?_
      refine lv_bipush (v := 80) hx hb dX11_firstOf_6 (by decide) ?_
      refine lv_iload_n hx hb dX11_firstOf_8 rfl (lv_at hl 3 rfl) ?_
      refine lv_iadd hx hb dX11_firstOf_9 ?_
      obtain ⟨x2, qx2, ix2⟩ := h_addX 80 u1 (80 : Int) u1.toInt rfl rfl (by omega) (by omega)
      refine h_top (v := x2) qx2 ?_
      refine h_callVi (T := TX11) (rest := [.int w1_3]) (As := [.int x2]) hx hb hml hown hts hK hT0 hZ (fun _ h => h) hS2 (c_of l G Y P (o) hM x2 (80 + u1.toInt).toNat (show x2.toInt.toNat = (80 + u1.toInt).toNat from by omega) (h_vin (by omega) (by omega))) trivial wd_X11_of wV_X11_of wL_X11_47 (hM.o rfl) rfl rfl hl.1 rfl (Nat.le_of_ble_eq_true rfl) dX11_firstOf_10 ⟨Nat.le_of_ble_eq_true rfl, Nat.le_of_ble_eq_true rfl⟩ ⟨Nat.zero_le _, Nat.zero_le _⟩ (fun r3 H3 locs hp3 hT3 hS3 hk3 => ?_)
      obtain ⟨hp3, he⟩ := hp3
      have he := he.symm
      subst he
      have hp3 : v1 = r3 := (hp3.1.trans mv1).symm
      subst hp3
      refine lv_icmp_ge (tgt := 54) hx hb dX11_firstOf_13 (by decide) (fun c4 => ?_) (fun c4 => ?_)
      · skip
        have c4 : v1.toInt ≤ w1_3.toInt := Int32.le_iff_toInt_le.mp c4
        refine lv_iload_n hx hb dX11_firstOf_54 rfl (lv_at hl 1 rfl) ?_
        exact hret _ _ _ _ _ hT0 hS3 ⟨(show (w1_2.toInt = -1 ∧ (h_ai H0 (o + 1) (80 + u1.toInt).toNat).toInt ≤ 0) ∨ (0 ≤ w1_2.toInt ∧ w1_2.toInt < (h_ai H0 (o + 1) (80 + u1.toInt).toNat).toInt) from by rw [mv1]; show (w1_2.toInt = -1 ∧ v1.toInt ≤ 0) ∨ (0 ≤ w1_2.toInt ∧ w1_2.toInt < v1.toInt); omega), rfl⟩ dX11_firstOf_55
      · skip
        have c4 : ¬ v1.toInt ≤ w1_3.toInt := h_nleI c4
        refine lv_iload_n hx hb dX11_firstOf_16 rfl (lv_at hl 1 rfl) ?_
        refine lv_iconst (v := (-1)) hx hb dX11_firstOf_17 (by decide) ?_
        refine lv_icmp_eq (tgt := 46) hx hb dX11_firstOf_18 (by decide) (fun c5 => ?_) (fun c5 => ?_)
        · skip
          have c5 : w1_2.toInt = (-1 : Int) := congrArg Int32.toInt c5
          refine lv_iload_n hx hb dX11_firstOf_46 rfl (lv_at hl 0 rfl) ?_
          refine lv_istore_n (lv' := [(2, .int w1_3), (3, .int w1_3), (0, .ref (o)), (1, .int u1)]) hx hb dX11_firstOf_47 rfl hl (by decide) rfl (fun ls hl => ?_)
          obtain ⟨x6, qx6, ix6⟩ := h_addX w1_3 1 w1_3.toInt (1 : Int) rfl rfl (by omega) (by omega)
          refine lv_iinc (v := x6) (lv' := [(3, .int x6), (2, .int w1_3), (0, .ref (o)), (1, .int u1)]) hx hb dX11_firstOf_48 hl (k := 1) rfl qx6 (by decide) rfl (fun ls hl => ?_)
          refine lv_goto (tgt := 4) hx hb dX11_firstOf_51 (by decide) ?_
          exact ih1 x6 w1_3 (show 2147483647 - x6.toInt < (n1 : Int) from by omega) (show 0 ≤ x6.toInt from by omega) (show (x6.toInt = 0 ∧ w1_3.toInt = -1) ∨ (0 ≤ w1_3.toInt ∧ w1_3.toInt < x6.toInt) from by omega) (show x6.toInt ≤ v1.toInt from by omega) _ _ hS3 (lv_sub hl [0, 1, 2, 3] rfl)
        · skip
          have c5 : ¬ w1_2.toInt = (-1 : Int) := h_neI c5
          refine lv_aload_n hx hb dX11_firstOf_21 rfl (lv_at hl 2 rfl) ?_
          refine lv_iload_n hx hb dX11_firstOf_22 rfl (lv_at hl 3 rfl) ?_
          refine lv_iload_n hx hb dX11_firstOf_23 rfl (lv_at hl 0 rfl) ?_
          refine h_callSi (rest := [.ref (o)]) (As := [.int u1, .int w1_3]) hx hb hml hown hts hK hT0 hZ (fun _ h => h) hS3 (c_X11_waitAt l G Y u1 w1_3 (show 0 ≤ u1.toInt ∧ u1.toInt ≤ 7 from by omega) (show 0 ≤ w1_3.toInt ∧ w1_3.toInt ≤ 6 from by omega)) trivial wd_X11_waitAt wS_X11_waitAt wL_X11_62 rfl hl.1 rfl (Nat.le_of_ble_eq_true rfl) dX11_firstOf_24 ⟨Nat.le_of_ble_eq_true rfl, Nat.le_of_ble_eq_true rfl⟩ ⟨Nat.zero_le _, Nat.zero_le _⟩ (fun r7 H4 locs hp4 hT4 hS4 hk4 => ?_)
          obtain ⟨hp4, he⟩ := hp4
          have he := he.symm
          subst he
          have f8 : r7.toInt = 96 + 24 * u1.toInt + 4 * w1_3.toInt := by have q := hp4; exact q
          refine lv_iconst (v := 2) hx hb dX11_firstOf_27 (by decide) ?_
          refine lv_iadd hx hb dX11_firstOf_28 ?_
          obtain ⟨x9, qx9, ix9⟩ := h_addX r7 2 r7.toInt (2 : Int) rfl rfl (by omega) (by omega)
          refine h_top (v := x9) qx9 ?_
          refine h_callVi (T := TX11) (rest := []) (As := [.int x9]) hx hb hml hown hts hK hT0 hZ (fun _ h => h) hS4 (c_of l G Y P (o) hM x9 (98 + 24 * u1.toInt + 4 * w1_3.toInt).toNat (show x9.toInt.toNat = (98 + 24 * u1.toInt + 4 * w1_3.toInt).toNat from by omega) (h_vin (by omega) (by omega))) trivial wd_X11_of wV_X11_of wL_X11_47 (hM.o rfl) rfl rfl hl.1 rfl (Nat.le_of_ble_eq_true rfl) dX11_firstOf_29 ⟨Nat.le_of_ble_eq_true rfl, Nat.le_of_ble_eq_true rfl⟩ ⟨Nat.zero_le _, Nat.zero_le _⟩ (fun r10 H5 locs hp5 hT5 hS5 hk5 => ?_)
          obtain ⟨hp5, he⟩ := hp5
          have he := he.symm
          subst he
          have mr10 : h_ai H0 (o + 1) (98 + 24 * u1.toInt + 4 * w1_3.toInt).toNat = r10 := hp5.1.symm
          have br10 := mP_w hp5.2 (by omega)
          refine lv_aload_n hx hb dX11_firstOf_32 rfl (lv_at hl 2 rfl) ?_
          refine lv_iload_n hx hb dX11_firstOf_33 rfl (lv_at hl 3 rfl) ?_
          refine lv_iload_n hx hb dX11_firstOf_34 rfl (lv_at hl 1 rfl) ?_
          refine h_callSi (rest := [.ref (o), .int r10]) (As := [.int u1, .int w1_2]) hx hb hml hown hts hK hT0 hZ (fun _ h => h) hS5 (c_X11_waitAt l G Y u1 w1_2 (show 0 ≤ u1.toInt ∧ u1.toInt ≤ 7 from by omega) (show 0 ≤ w1_2.toInt ∧ w1_2.toInt ≤ 6 from by omega)) trivial wd_X11_waitAt wS_X11_waitAt wL_X11_62 rfl hl.1 rfl (Nat.le_of_ble_eq_true rfl) dX11_firstOf_35 ⟨Nat.le_of_ble_eq_true rfl, Nat.le_of_ble_eq_true rfl⟩ ⟨Nat.zero_le _, Nat.zero_le _⟩ (fun r11 H6 locs hp6 hT6 hS6 hk6 => ?_)
          obtain ⟨hp6, he⟩ := hp6
          have he := he.symm
          subst he
          have f12 : r11.toInt = 96 + 24 * u1.toInt + 4 * w1_2.toInt := by have q := hp6; exact q
          refine lv_iconst (v := 2) hx hb dX11_firstOf_38 (by decide) ?_
          refine lv_iadd hx hb dX11_firstOf_39 ?_
          obtain ⟨x13, qx13, ix13⟩ := h_addX r11 2 r11.toInt (2 : Int) rfl rfl (by omega) (by omega)
          refine h_top (v := x13) qx13 ?_
          refine h_callVi (T := TX11) (rest := [.int r10]) (As := [.int x13]) hx hb hml hown hts hK hT0 hZ (fun _ h => h) hS6 (c_of l G Y P (o) hM x13 (98 + 24 * u1.toInt + 4 * w1_2.toInt).toNat (show x13.toInt.toNat = (98 + 24 * u1.toInt + 4 * w1_2.toInt).toNat from by omega) (h_vin (by omega) (by omega))) trivial wd_X11_of wV_X11_of wL_X11_47 (hM.o rfl) rfl rfl hl.1 rfl (Nat.le_of_ble_eq_true rfl) dX11_firstOf_40 ⟨Nat.le_of_ble_eq_true rfl, Nat.le_of_ble_eq_true rfl⟩ ⟨Nat.zero_le _, Nat.zero_le _⟩ (fun r14 H7 locs hp7 hT7 hS7 hk7 => ?_)
          obtain ⟨hp7, he⟩ := hp7
          have he := he.symm
          subst he
          have mr14 : h_ai H0 (o + 1) (98 + 24 * u1.toInt + 4 * w1_2.toInt).toNat = r14 := hp7.1.symm
          have br14 := mP_w hp7.2 (by omega)
          refine lv_icmp_le (tgt := 48) hx hb dX11_firstOf_43 (by decide) (fun c15 => ?_) (fun c15 => ?_)
          · skip
            have c15 : r10.toInt ≤ r14.toInt := Int32.le_iff_toInt_le.mp c15
            obtain ⟨x16, qx16, ix16⟩ := h_addX w1_3 1 w1_3.toInt (1 : Int) rfl rfl (by omega) (by omega)
            refine lv_iinc (v := x16) (lv' := [(3, .int x16), (2, .int w1_2), (0, .ref (o)), (1, .int u1)]) hx hb dX11_firstOf_48 hl (k := 0) rfl qx16 (by decide) rfl (fun ls hl => ?_)
            refine lv_goto (tgt := 4) hx hb dX11_firstOf_51 (by decide) ?_
            exact ih1 x16 w1_2 (show 2147483647 - x16.toInt < (n1 : Int) from by omega) (show 0 ≤ x16.toInt from by omega) (show (x16.toInt = 0 ∧ w1_2.toInt = -1) ∨ (0 ≤ w1_2.toInt ∧ w1_2.toInt < x16.toInt) from by omega) (show x16.toInt ≤ v1.toInt from by omega) _ _ hS7 (lv_sub hl [0, 1, 2, 3] rfl)
          · skip
            have c15 : ¬ r10.toInt ≤ r14.toInt := h_nleI c15
            refine lv_iload_n hx hb dX11_firstOf_46 rfl (lv_at hl 0 rfl) ?_
            refine lv_istore_n (lv' := [(2, .int w1_3), (3, .int w1_3), (0, .ref (o)), (1, .int u1)]) hx hb dX11_firstOf_47 rfl hl (by decide) rfl (fun ls hl => ?_)
            obtain ⟨x17, qx17, ix17⟩ := h_addX w1_3 1 w1_3.toInt (1 : Int) rfl rfl (by omega) (by omega)
            refine lv_iinc (v := x17) (lv' := [(3, .int x17), (2, .int w1_3), (0, .ref (o)), (1, .int u1)]) hx hb dX11_firstOf_48 hl (k := 1) rfl qx17 (by decide) rfl (fun ls hl => ?_)
            refine lv_goto (tgt := 4) hx hb dX11_firstOf_51 (by decide) ?_
            exact ih1 x17 w1_3 (show 2147483647 - x17.toInt < (n1 : Int) from by omega) (show 0 ≤ x17.toInt from by omega) (show (x17.toInt = 0 ∧ w1_3.toInt = -1) ∨ (0 ≤ w1_3.toInt ∧ w1_3.toInt < x17.toInt) from by omega) (show x17.toInt ≤ v1.toInt from by omega) _ _ hS7 (lv_sub hl [0, 1, 2, 3] rfl)
  exact LP1 4294967296 0 (-1) (show 2147483647 - (0 : Int) < ((4294967296 : Nat) : Int) from by omega) (show 0 ≤ (0 : Int) from by omega) (show ((0 : Int) = 0 ∧ (-1 : Int) = -1) ∨ (0 ≤ (-1 : Int) ∧ (-1 : Int) < (0 : Int)) from by omega) (show (0 : Int) ≤ v1.toInt from by omega) _ _ hS0 (lv_sub hl [0, 1, 2, 3] rfl)
set_option maxHeartbeats 4000000 in
set_option maxRecDepth 100000 in
theorem c_X11_firstRank (l : Launch) (G : hG) (Y : hW) (P : Int32 → Prop) (o : Nat) (hM : h_On Y o (modE (tM P) o)) (u1 : Int32) (hu1 : 0 ≤ u1.toInt ∧ u1.toInt ≤ 7) : hMi l yX11_firstRank cX11_firstRank 2 (some .int) 2 44 G Y [.ref (o), .int u1] (fun H => True) (fun H r H1 => ((r.toInt = -1 ∧ (h_ai H (o + 1) (80 + u1.toInt).toNat).toInt ≤ 0) ∨ (0 ≤ r.toInt ∧ r.toInt ≤ 7 ∧ 1 ≤ (h_ai H (o + 1) (80 + u1.toInt).toNat).toInt)) ∧ H1 = H) := by
  refine h_ofi (by decide +kernel) (Nat.le_of_ble_eq_true rfl) ?_
  intro p e s m args below meth c H0 ls Q hx hb hts hown hml hK hZ hT0 hpr hS0 hl hret
  have hl : lv_has ls 2 [(0, .ref (o)), (1, .int u1)] := hl
  refine lv_aload_n hx hb dX11_firstRank_0 rfl (lv_at hl 0 rfl) ?_
  refine lv_iload_n hx hb dX11_firstRank_1 rfl (lv_at hl 1 rfl) ?_
  obtain ⟨v1, mv1⟩ : ∃ x, h_ai H0 (o + 1) (80 + u1.toInt).toNat = x := ⟨_, rfl⟩
  have bv1 := mP_wm (mP_cell hM hT0 (j := (80 + u1.toInt).toNat) (by omega)) (by omega)
  rw [mv1] at bv1
  refine h_callVi (T := TX11) (rest := []) (As := [.int u1]) hx hb hml hown hts hK hT0 hZ (fun _ h => h) hS0 (c_X11_firstOf l G Y P (o) hM u1 (show 0 ≤ u1.toInt ∧ u1.toInt ≤ 7 from by omega)) trivial wd_X11_firstOf wV_X11_firstOf wL_X11_66 (hM.o rfl) rfl rfl hl.1 rfl (Nat.le_of_ble_eq_true rfl) dX11_firstRank_2 ⟨Nat.le_of_ble_eq_true rfl, Nat.le_of_ble_eq_true rfl⟩ ⟨Nat.zero_le _, Nat.zero_le _⟩ (fun r2 H1 locs hp1 hT1 hS1 hk1 => ?_)
  obtain ⟨hp1, he⟩ := hp1
  have he := he.symm
  subst he
  have f3 : (r2.toInt = -1 ∧ v1.toInt ≤ 0) ∨ (0 ≤ r2.toInt ∧ r2.toInt < v1.toInt) := by have q := hp1; rw [mv1] at q; exact q
  refine lv_iconst (v := (-1)) hx hb dX11_firstRank_5 (by decide) ?_
  refine lv_icmp_ne (tgt := 13) hx hb dX11_firstRank_6 (by decide) (fun c4 => ?_) (fun c4 => ?_)
  · skip
    have c4 : ¬ r2.toInt = (-1 : Int) := h_neI c4
    refine lv_aload_n hx hb dX11_firstRank_13 rfl (lv_at hl 0 rfl) ?_
    refine lv_iload_n hx hb dX11_firstRank_14 rfl (lv_at hl 1 rfl) ?_
    refine lv_aload_n hx hb dX11_firstRank_15 rfl (lv_at hl 0 rfl) ?_
    refine lv_iload_n hx hb dX11_firstRank_16 rfl (lv_at hl 1 rfl) ?_
    refine h_callVi (T := TX11) (rest := [.int u1, .ref (o)]) (As := [.int u1]) hx hb hml hown hts hK hT0 hZ (fun _ h => h) hS1 (c_X11_firstOf l G Y P (o) hM u1 (show 0 ≤ u1.toInt ∧ u1.toInt ≤ 7 from by omega)) trivial wd_X11_firstOf wV_X11_firstOf wL_X11_66 (hM.o rfl) rfl rfl hl.1 rfl (Nat.le_of_ble_eq_true rfl) dX11_firstRank_17 ⟨Nat.le_of_ble_eq_true rfl, Nat.le_of_ble_eq_true rfl⟩ ⟨Nat.zero_le _, Nat.zero_le _⟩ (fun r5 H2 locs hp2 hT2 hS2 hk2 => ?_)
    obtain ⟨hp2, he⟩ := hp2
    have he := he.symm
    subst he
    have f6 : (r5.toInt = -1 ∧ v1.toInt ≤ 0) ∨ (0 ≤ r5.toInt ∧ r5.toInt < v1.toInt) := by have q := hp2; rw [mv1] at q; exact q
    refine h_callSi (rest := [.ref (o)]) (As := [.int u1, .int r5]) hx hb hml hown hts hK hT0 hZ (fun _ h => h) hS2 (c_X11_waitAt l G Y u1 r5 (show 0 ≤ u1.toInt ∧ u1.toInt ≤ 7 from by omega) (show 0 ≤ r5.toInt ∧ r5.toInt ≤ 6 from by omega)) trivial wd_X11_waitAt wS_X11_waitAt wL_X11_62 rfl hl.1 rfl (Nat.le_of_ble_eq_true rfl) dX11_firstRank_20 ⟨Nat.le_of_ble_eq_true rfl, Nat.le_of_ble_eq_true rfl⟩ ⟨Nat.zero_le _, Nat.zero_le _⟩ (fun r7 H3 locs hp3 hT3 hS3 hk3 => ?_)
    obtain ⟨hp3, he⟩ := hp3
    have he := he.symm
    subst he
    have f8 : r7.toInt = 96 + 24 * u1.toInt + 4 * r5.toInt := by have q := hp3; exact q
    refine lv_iconst (v := 2) hx hb dX11_firstRank_23 (by decide) ?_
    refine lv_iadd hx hb dX11_firstRank_24 ?_
    obtain ⟨x9, qx9, ix9⟩ := h_addX r7 2 r7.toInt (2 : Int) rfl rfl (by omega) (by omega)
    refine h_top (v := x9) qx9 ?_
    refine h_callVi (T := TX11) (rest := []) (As := [.int x9]) hx hb hml hown hts hK hT0 hZ (fun _ h => h) hS3 (c_of l G Y P (o) hM x9 (98 + 4 * r5.toInt + 24 * u1.toInt).toNat (show x9.toInt.toNat = (98 + 4 * r5.toInt + 24 * u1.toInt).toNat from by omega) (h_vin (by omega) (by omega))) trivial wd_X11_of wV_X11_of wL_X11_47 (hM.o rfl) rfl rfl hl.1 rfl (Nat.le_of_ble_eq_true rfl) dX11_firstRank_25 ⟨Nat.le_of_ble_eq_true rfl, Nat.le_of_ble_eq_true rfl⟩ ⟨Nat.zero_le _, Nat.zero_le _⟩ (fun r10 H4 locs hp4 hT4 hS4 hk4 => ?_)
    obtain ⟨hp4, he⟩ := hp4
    have he := he.symm
    subst he
    have mr10 : h_ai H0 (o + 1) (98 + 4 * r5.toInt + 24 * u1.toInt).toNat = r10 := hp4.1.symm
    have br10 := mP_w hp4.2 (by omega)
    exact hret _ _ _ _ _ hT0 hS4 ⟨(show (r10.toInt = -1 ∧ (h_ai H0 (o + 1) (80 + u1.toInt).toNat).toInt ≤ 0) ∨ (0 ≤ r10.toInt ∧ r10.toInt ≤ 7 ∧ 1 ≤ (h_ai H0 (o + 1) (80 + u1.toInt).toNat).toInt) from by rw [mv1]; show (r10.toInt = -1 ∧ v1.toInt ≤ 0) ∨ (0 ≤ r10.toInt ∧ r10.toInt ≤ 7 ∧ 1 ≤ v1.toInt); omega), rfl⟩ dX11_firstRank_28
  · skip
    have c4 : r2.toInt = (-1 : Int) := congrArg Int32.toInt c4
    refine lv_iconst (v := (-1)) hx hb dX11_firstRank_9 (by decide) ?_
    refine lv_goto (tgt := 28) hx hb dX11_firstRank_10 (by decide) ?_
    exact hret _ _ _ _ _ hT0 hS1 ⟨(show ((-1 : Int) = -1 ∧ (h_ai H0 (o + 1) (80 + u1.toInt).toNat).toInt ≤ 0) ∨ (0 ≤ (-1 : Int) ∧ (-1 : Int) ≤ 7 ∧ 1 ≤ (h_ai H0 (o + 1) (80 + u1.toInt).toNat).toInt) from by rw [mv1]; show ((-1 : Int) = -1 ∧ v1.toInt ≤ 0) ∨ (0 ≤ (-1 : Int) ∧ (-1 : Int) ≤ 7 ∧ 1 ≤ v1.toInt); omega), rfl⟩ dX11_firstRank_28
set_option maxHeartbeats 4000000 in
set_option maxRecDepth 100000 in
theorem c_X11_topRaise (l : Launch) (G : hG) (Y : hW) (P : Int32 → Prop) (o : Nat) (hM : h_On Y o (modE (tM P) o)) (u1 : Int32) (hu1 : 0 ≤ u1.toInt ∧ u1.toInt ≤ 7) : hMi l yX11_topRaise cX11_topRaise 3 (some .int) 1 21 G Y [.ref (o), .int u1] (fun H => True) (fun H r H1 => (r.toInt = -1 ∨ (r.toInt = 286 + 16 * u1.toInt + 2 * (h_ai H (o + 1) (88 + u1.toInt).toNat).toInt ∧ 1 ≤ (h_ai H (o + 1) (88 + u1.toInt).toNat).toInt ∧ (h_ai H (o + 1) (1 + r.toInt).toNat).toInt = (h_ai H (o + 1) 7).toInt)) ∧ H1 = H) := by
  refine h_ofi (by decide +kernel) (Nat.le_of_ble_eq_true rfl) ?_
  intro p e s m args below meth c H0 ls Q hx hb hts hown hml hK hZ hT0 hpr hS0 hl hret
  have hl : lv_has ls 3 [(0, .ref (o)), (1, .int u1)] := hl
  refine lv_iload_n hx hb dX11_topRaise_0 rfl (lv_at hl 1 rfl) ?_
  refine lv_aload_n hx hb dX11_topRaise_1 rfl (lv_at hl 0 rfl) ?_
  refine lv_bipush (v := 88) hx hb dX11_topRaise_2 (by decide) ?_
  refine lv_iload_n hx hb dX11_topRaise_4 rfl (lv_at hl 1 rfl) ?_
  refine lv_iadd hx hb dX11_topRaise_5 ?_
  obtain ⟨x1, qx1, ix1⟩ := h_addX 88 u1 (88 : Int) u1.toInt rfl rfl (by omega) (by omega)
  refine h_top (v := x1) qx1 ?_
  refine h_callVi (T := TX11) (rest := [.int u1]) (As := [.int x1]) hx hb hml hown hts hK hT0 hZ (fun _ h => h) hS0 (c_of l G Y P (o) hM x1 (88 + u1.toInt).toNat (show x1.toInt.toNat = (88 + u1.toInt).toNat from by omega) (h_vin (by omega) (by omega))) trivial wd_X11_of wV_X11_of wL_X11_47 (hM.o rfl) rfl rfl hl.1 rfl (Nat.le_of_ble_eq_true rfl) dX11_topRaise_6 ⟨Nat.le_of_ble_eq_true rfl, Nat.le_of_ble_eq_true rfl⟩ ⟨Nat.zero_le _, Nat.zero_le _⟩ (fun r2 H1 locs hp1 hT1 hS1 hk1 => ?_)
  obtain ⟨hp1, he⟩ := hp1
  have he := he.symm
  subst he
  have mr2 : h_ai H0 (o + 1) (88 + u1.toInt).toNat = r2 := hp1.1.symm
  have br2 := mP_rm hp1.2 (by omega)
  refine lv_iconst (v := 1) hx hb dX11_topRaise_9 (by decide) ?_
  refine lv_isub hx hb dX11_topRaise_10 ?_
  obtain ⟨x3, qx3, ix3⟩ := h_subX r2 1 r2.toInt (1 : Int) rfl rfl (by omega) (by omega)
  refine h_top (v := x3) qx3 ?_
  refine h_callSi (rest := []) (As := [.int u1, .int x3]) hx hb hml hown hts hK hT0 hZ (fun _ h => h) hS1 (c_X11_raiseAt l G Y u1 x3 (show 0 ≤ u1.toInt ∧ u1.toInt ≤ 7 from by omega) (show (-1) ≤ x3.toInt ∧ x3.toInt ≤ 8 from by omega)) trivial wd_X11_raiseAt wS_X11_raiseAt wL_X11_91 rfl hl.1 rfl (Nat.le_of_ble_eq_true rfl) dX11_topRaise_11 ⟨Nat.le_of_ble_eq_true rfl, Nat.le_of_ble_eq_true rfl⟩ ⟨Nat.zero_le _, Nat.zero_le _⟩ (fun r4 H2 locs hp2 hT2 hS2 hk2 => ?_)
  obtain ⟨hp2, he⟩ := hp2
  have he := he.symm
  subst he
  have f5 : r4.toInt = 288 + 16 * u1.toInt + 2 * x3.toInt := by have q := hp2; exact q
  refine lv_istore_n (lv' := [(2, .int r4), (0, .ref (o)), (1, .int u1)]) hx hb dX11_topRaise_14 rfl hl (by decide) rfl (fun ls hl => ?_)
  refine lv_aload_n hx hb dX11_topRaise_15 rfl (lv_at hl 1 rfl) ?_
  refine lv_bipush (v := 88) hx hb dX11_topRaise_16 (by decide) ?_
  refine lv_iload_n hx hb dX11_topRaise_18 rfl (lv_at hl 2 rfl) ?_
  refine lv_iadd hx hb dX11_topRaise_19 ?_
  refine h_top (v := x1) (h_addE 88 u1 x1 (88 : Int) u1.toInt rfl rfl (by omega) (by omega) (by omega)) ?_
  refine h_callVi (T := TX11) (rest := []) (As := [.int x1]) hx hb hml hown hts hK hT0 hZ (fun _ h => h) hS2 (c_of l G Y P (o) hM x1 (88 + u1.toInt).toNat (show x1.toInt.toNat = (88 + u1.toInt).toNat from by omega) (h_vin (by omega) (by omega))) trivial wd_X11_of wV_X11_of wL_X11_47 (hM.o rfl) rfl rfl hl.1 rfl (Nat.le_of_ble_eq_true rfl) dX11_topRaise_20 ⟨Nat.le_of_ble_eq_true rfl, Nat.le_of_ble_eq_true rfl⟩ ⟨Nat.zero_le _, Nat.zero_le _⟩ (fun r6 H3 locs hp3 hT3 hS3 hk3 => ?_)
  obtain ⟨hp3, he⟩ := hp3
  have he := he.symm
  subst he
  have hp3 : r2 = r6 := (hp3.1.trans mr2).symm
  subst hp3
  refine lv_if_le (tgt := 46) hx hb dX11_topRaise_23 (by decide) (fun c7 => ?_) (fun c7 => ?_)
  · skip
    have c7 : r2.toInt ≤ (0 : Int) := Int32.le_iff_toInt_le.mp c7
    refine lv_iconst (v := (-1)) hx hb dX11_topRaise_46 (by decide) ?_
    exact hret _ _ _ _ _ hT0 hS3 ⟨(Or.inl (by decide)), rfl⟩ dX11_topRaise_47
  · skip
    have c7 : ¬ r2.toInt ≤ (0 : Int) := h_nleI c7
    refine lv_aload_n hx hb dX11_topRaise_26 rfl (lv_at hl 1 rfl) ?_
    refine lv_iload_n hx hb dX11_topRaise_27 rfl (lv_at hl 0 rfl) ?_
    refine lv_iconst (v := 1) hx hb dX11_topRaise_28 (by decide) ?_
    refine lv_iadd hx hb dX11_topRaise_29 ?_
    obtain ⟨x8, qx8, ix8⟩ := h_addX r4 1 r4.toInt (1 : Int) rfl rfl (by omega) (by omega)
    refine h_top (v := x8) qx8 ?_
    refine h_callVi (T := TX11) (rest := []) (As := [.int x8]) hx hb hml hown hts hK hT0 hZ (fun _ h => h) hS3 (c_of l G Y P (o) hM x8 (287 + 2 * r2.toInt + 16 * u1.toInt).toNat (show x8.toInt.toNat = (287 + 2 * r2.toInt + 16 * u1.toInt).toNat from by omega) (h_vin (by omega) (by omega))) trivial wd_X11_of wV_X11_of wL_X11_47 (hM.o rfl) rfl rfl hl.1 rfl (Nat.le_of_ble_eq_true rfl) dX11_topRaise_30 ⟨Nat.le_of_ble_eq_true rfl, Nat.le_of_ble_eq_true rfl⟩ ⟨Nat.zero_le _, Nat.zero_le _⟩ (fun r9 H4 locs hp4 hT4 hS4 hk4 => ?_)
    obtain ⟨hp4, he⟩ := hp4
    have he := he.symm
    subst he
    have mr9 : h_ai H0 (o + 1) (287 + 2 * r2.toInt + 16 * u1.toInt).toNat = r9 := hp4.1.symm
    have br9 := mP_ra hp4.2 (by omega)
    refine lv_aload_n hx hb dX11_topRaise_33 rfl (lv_at hl 1 rfl) ?_
    refine lv_bipush (v := 7) hx hb dX11_topRaise_34 (by decide) ?_
    refine h_callVi (T := TX11) (rest := [.int r9]) (As := [.int 7]) hx hb hml hown hts hK hT0 hZ (fun _ h => h) hS4 (c_of l G Y P (o) hM 7 7 (by decide) (h_inc (by decide))) trivial wd_X11_of wV_X11_of wL_X11_47 (hM.o rfl) rfl rfl hl.1 rfl (Nat.le_of_ble_eq_true rfl) dX11_topRaise_36 ⟨Nat.le_of_ble_eq_true rfl, Nat.le_of_ble_eq_true rfl⟩ ⟨Nat.zero_le _, Nat.zero_le _⟩ (fun r10 H5 locs hp5 hT5 hS5 hk5 => ?_)
    obtain ⟨hp5, he⟩ := hp5
    have he := he.symm
    subst he
    have mr10 : h_ai H0 (o + 1) 7 = r10 := hp5.1.symm
    have br10 := mP_l hp5.2 (by omega)
    refine lv_icmp_ne (tgt := 46) hx hb dX11_topRaise_39 (by decide) (fun c11 => ?_) (fun c11 => ?_)
    · skip
      have c11 : ¬ r9.toInt = r10.toInt := h_neI c11
      refine lv_iconst (v := (-1)) hx hb dX11_topRaise_46 (by decide) ?_
      exact hret _ _ _ _ _ hT0 hS5 ⟨(Or.inl (by decide)), rfl⟩ dX11_topRaise_47
    · skip
      have c11 : r9.toInt = r10.toInt := congrArg Int32.toInt c11
      refine lv_iload_n hx hb dX11_topRaise_42 rfl (lv_at hl 0 rfl) ?_
      refine lv_goto (tgt := 47) hx hb dX11_topRaise_43 (by decide) ?_
      exact hret _ _ _ _ _ hT0 hS5 ⟨(Or.inr ⟨by rw [mr2]; omega, by rw [mr2]; omega, by rw [show (1 + r4.toInt).toNat = (287 + 2 * r2.toInt + 16 * u1.toInt).toNat from by omega, mr9, mr10]; omega⟩), rfl⟩ dX11_topRaise_47
set_option maxHeartbeats 4000000 in
set_option maxRecDepth 100000 in
theorem c_X11_isQuiet (l : Launch) (G : hG) (Y : hW) (P : Int32 → Prop) (o : Nat) (hM : h_On Y o (modE (tM P) o)) : hMi l yX11_isQuiet cX11_isQuiet 2 (some .boolean) 3 63 G Y [.ref (o)] (fun H => True) (fun H r H1 => ((r = 0 ∨ r = 1) ∧ (True)) ∧ H1 = H) := by
  refine h_ofz (by decide +kernel) (Nat.le_of_ble_eq_true rfl) ?_
  intro p e s m args below meth c H0 ls Q hx hb hts hown hml hK hZ hT0 hpr hS0 hl hret
  have hl : lv_has ls 2 [(0, .ref (o))] := hl
  refine lv_iconst (v := 0) hx hb dX11_isQuiet_0 (by decide) ?_
  refine lv_istore_n (lv' := [(1, .int 0), (0, .ref (o))]) hx hb dX11_isQuiet_1 rfl hl (by decide) rfl (fun ls hl => ?_)
  have LP1 : ∀ (n1 : Nat) (w1_1 : Int32), (2147483647 - w1_1.toInt < (n1 : Int)) → (0 ≤ w1_1.toInt) → ∀ (locs : List Loc) (ls : Array Slot), va_S (h_A Y) s.heap H0 locs → lv_has ls 2 [(1, .int w1_1), (0, .ref (o))] → W p l e (h_rm 3 63) s m args below meth c H0 locs 0 0 Q (F0 m 2 ls []) := by
    intro n1
    induction n1 with
    | zero =>
      intro w1_1 hm hlo1_1
      intros
      exfalso
      have := Int32.toInt_lt w1_1; have := Int32.le_toInt w1_1
      omega
    | succ n1 ih1 =>
      intro w1_1 hm hlo1_1  locs ls hS2 hl
      refine lv_iload_n hx hb dX11_isQuiet_2 rfl (lv_at hl 0 rfl) ?_
      refine lv_aload_n hx hb dX11_isQuiet_3 rfl (lv_at hl 1 rfl) ?_
      refine lv_iconst (v := 0) hx hb dX11_isQuiet_4 (by decide) ?_
      refine h_callVi (T := TX11) (rest := [.int w1_1]) (As := [.int 0]) hx hb hml hown hts hK hT0 hZ (fun _ h => h) hS2 (c_of l G Y P (o) hM 0 0 (by decide) (h_inc (by decide))) trivial wd_X11_of wV_X11_of wL_X11_47 (hM.o rfl) rfl rfl hl.1 rfl (Nat.le_of_ble_eq_true rfl) dX11_isQuiet_5 ⟨Nat.le_of_ble_eq_true rfl, Nat.le_of_ble_eq_true rfl⟩ ⟨Nat.zero_le _, Nat.zero_le _⟩ (fun r1 H3 locs hp3 hT3 hS3 hk3 => ?_)
      obtain ⟨hp3, he⟩ := hp3
      have he := he.symm
      subst he
      have mr1 : h_ai H0 (o + 1) 0 = r1 := hp3.1.symm
      have br1 := mP_N hp3.2 (by omega)
      refine lv_icmp_ge (tgt := 38) hx hb dX11_isQuiet_8 (by decide) (fun c2 => ?_) (fun c2 => ?_)
      · skip
        have c2 : r1.toInt ≤ w1_1.toInt := Int32.le_iff_toInt_le.mp c2
        refine lv_aload_n hx hb dX11_isQuiet_38 rfl (lv_at hl 1 rfl) ?_
        refine lv_iconst (v := 5) hx hb dX11_isQuiet_39 (by decide) ?_
        refine h_callVi (T := TX11) (rest := []) (As := [.int 5]) hx hb hml hown hts hK hT0 hZ (fun _ h => h) hS3 (c_of l G Y P (o) hM 5 5 (by decide) (h_inc (by decide))) trivial wd_X11_of wV_X11_of wL_X11_47 (hM.o rfl) rfl rfl hl.1 rfl (Nat.le_of_ble_eq_true rfl) dX11_isQuiet_40 ⟨Nat.le_of_ble_eq_true rfl, Nat.le_of_ble_eq_true rfl⟩ ⟨Nat.zero_le _, Nat.zero_le _⟩ (fun r3 H4 locs hp4 hT4 hS4 hk4 => ?_)
        obtain ⟨hp4, he⟩ := hp4
        have he := he.symm
        subst he
        have mr3 : h_ai H0 (o + 1) 5 = r3 := hp4.1.symm
        refine lv_iconst (v := 2) hx hb dX11_isQuiet_43 (by decide) ?_
        refine lv_icmp_eq (tgt := 51) hx hb dX11_isQuiet_44 (by decide) (fun c4 => ?_) (fun c4 => ?_)
        · skip
          have c4 : r3.toInt = (2 : Int) := congrArg Int32.toInt c4
          refine lv_iconst (v := 0) hx hb dX11_isQuiet_51 (by decide) ?_
          exact hret _ _ _ _ _ hT0 hS4 ⟨(by decide), ⟨⟨(by decide), trivial⟩, rfl⟩⟩ dX11_isQuiet_52
        · skip
          have c4 : ¬ r3.toInt = (2 : Int) := h_neI c4
          refine lv_iconst (v := 1) hx hb dX11_isQuiet_47 (by decide) ?_
          refine lv_goto (tgt := 52) hx hb dX11_isQuiet_48 (by decide) ?_
          exact hret _ _ _ _ _ hT0 hS4 ⟨(by decide), ⟨⟨(by decide), trivial⟩, rfl⟩⟩ dX11_isQuiet_52
      · skip
        have c2 : ¬ r1.toInt ≤ w1_1.toInt := h_nleI c2
        refine lv_aload_n hx hb dX11_isQuiet_11 rfl (lv_at hl 1 rfl) ?_
        refine lv_iload_n hx hb dX11_isQuiet_12 rfl (lv_at hl 0 rfl) ?_
        refine h_callVi (T := TX11) (rest := []) (As := [.int w1_1]) hx hb hml hown hts hK hT0 hZ (fun _ h => h) hS3 (c_X11_isOn l G Y P (o) hM w1_1) trivial wd_X11_isOn wV_X11_isOn wL_X11_55 (hM.o rfl) rfl rfl hl.1 rfl (Nat.le_of_ble_eq_true rfl) dX11_isQuiet_13 ⟨Nat.le_of_ble_eq_true rfl, Nat.le_of_ble_eq_true rfl⟩ ⟨Nat.zero_le _, Nat.zero_le _⟩ (fun r5 H5 locs hp5 hT5 hS5 hk5 => ?_)
        obtain ⟨hp5, he⟩ := hp5
        have he := he.symm
        subst he
        have f6 : r5.toInt = 0 ∨ (0 ≤ w1_1.toInt ∧ w1_1.toInt < r1.toInt) := by have q := hp5.2; rw [mr1] at q; exact q
        refine lv_if_eq (tgt := 32) hx hb dX11_isQuiet_16 (by decide) (fun c7 => ?_) (fun c7 => ?_)
        · skip
          have c7 : r5.toInt = (0 : Int) := congrArg Int32.toInt c7
          obtain ⟨x8, qx8, ix8⟩ := h_addX w1_1 1 w1_1.toInt (1 : Int) rfl rfl (by omega) (by omega)
          refine lv_iinc (v := x8) (lv' := [(1, .int x8), (0, .ref (o))]) hx hb dX11_isQuiet_32 hl (k := 0) rfl qx8 (by decide) rfl (fun ls hl => ?_)
          refine lv_goto (tgt := 2) hx hb dX11_isQuiet_35 (by decide) ?_
          exact ih1 x8 (show 2147483647 - x8.toInt < (n1 : Int) from by omega) (show 0 ≤ x8.toInt from by omega) _ _ hS5 (lv_sub hl [0, 1] rfl)
        · skip
          have c7 : ¬ r5.toInt = (0 : Int) := h_neI c7
          refine lv_aload_n hx hb dX11_isQuiet_19 rfl (lv_at hl 1 rfl) ?_
          refine lv_bipush (v := 80) hx hb dX11_isQuiet_20 (by decide) ?_
          refine lv_iload_n hx hb dX11_isQuiet_22 rfl (lv_at hl 0 rfl) ?_
          refine lv_iadd hx hb dX11_isQuiet_23 ?_
          obtain ⟨x9, qx9, ix9⟩ := h_addX 80 w1_1 (80 : Int) w1_1.toInt rfl rfl (by omega) (by omega)
          refine h_top (v := x9) qx9 ?_
          refine h_callVi (T := TX11) (rest := []) (As := [.int x9]) hx hb hml hown hts hK hT0 hZ (fun _ h => h) hS5 (c_of l G Y P (o) hM x9 (80 + w1_1.toInt).toNat (show x9.toInt.toNat = (80 + w1_1.toInt).toNat from by omega) (h_vin (by omega) (by omega))) trivial wd_X11_of wV_X11_of wL_X11_47 (hM.o rfl) rfl rfl hl.1 rfl (Nat.le_of_ble_eq_true rfl) dX11_isQuiet_24 ⟨Nat.le_of_ble_eq_true rfl, Nat.le_of_ble_eq_true rfl⟩ ⟨Nat.zero_le _, Nat.zero_le _⟩ (fun r10 H6 locs hp6 hT6 hS6 hk6 => ?_)
          obtain ⟨hp6, he⟩ := hp6
          have he := he.symm
          subst he
          have mr10 : h_ai H0 (o + 1) (80 + w1_1.toInt).toNat = r10 := hp6.1.symm
          have br10 := mP_wm hp6.2 (by omega)
          refine lv_if_le (tgt := 32) hx hb dX11_isQuiet_27 (by decide) (fun c11 => ?_) (fun c11 => ?_)
          · skip
            have c11 : r10.toInt ≤ (0 : Int) := Int32.le_iff_toInt_le.mp c11
            obtain ⟨x12, qx12, ix12⟩ := h_addX w1_1 1 w1_1.toInt (1 : Int) rfl rfl (by omega) (by omega)
            refine lv_iinc (v := x12) (lv' := [(1, .int x12), (0, .ref (o))]) hx hb dX11_isQuiet_32 hl (k := 0) rfl qx12 (by decide) rfl (fun ls hl => ?_)
            refine lv_goto (tgt := 2) hx hb dX11_isQuiet_35 (by decide) ?_
            exact ih1 x12 (show 2147483647 - x12.toInt < (n1 : Int) from by omega) (show 0 ≤ x12.toInt from by omega) _ _ hS6 (lv_sub hl [0, 1] rfl)
          · skip
            have c11 : ¬ r10.toInt ≤ (0 : Int) := h_nleI c11
            refine lv_iconst (v := 0) hx hb dX11_isQuiet_30 (by decide) ?_
            exact hret _ _ _ _ _ hT0 hS6 ⟨(by decide), ⟨⟨(by decide), trivial⟩, rfl⟩⟩ dX11_isQuiet_31
  exact LP1 4294967296 0 (show 2147483647 - (0 : Int) < ((4294967296 : Nat) : Int) from by omega) (show 0 ≤ (0 : Int) from by omega) _ _ hS0 (lv_sub hl [0, 1] rfl)
set_option maxHeartbeats 4000000 in
set_option maxRecDepth 100000 in
theorem c_X11_isLowered (l : Launch) (G : hG) (Y : hW) (P : Int32 → Prop) (o : Nat) (hM : h_On Y o (modE (tM P) o)) : hMi l yX11_isLowered cX11_isLowered 2 (some .boolean) 1 21 G Y [.ref (o)] (fun H => True) (fun H r H1 => ((r = 0 ∨ r = 1) ∧ (True)) ∧ H1 = H) := by
  refine h_ofz (by decide +kernel) (Nat.le_of_ble_eq_true rfl) ?_
  intro p e s m args below meth c H0 ls Q hx hb hts hown hml hK hZ hT0 hpr hS0 hl hret
  have hl : lv_has ls 2 [(0, .ref (o))] := hl
  refine lv_iconst (v := 0) hx hb dX11_isLowered_0 (by decide) ?_
  refine lv_istore_n (lv' := [(1, .int 0), (0, .ref (o))]) hx hb dX11_isLowered_1 rfl hl (by decide) rfl (fun ls hl => ?_)
  have LP1 : ∀ (n1 : Nat) (w1_1 : Int32), (2147483647 - w1_1.toInt < (n1 : Int)) → (0 ≤ w1_1.toInt) → ∀ (locs : List Loc) (ls : Array Slot), va_S (h_A Y) s.heap H0 locs → lv_has ls 2 [(1, .int w1_1), (0, .ref (o))] → W p l e (h_rm 1 21) s m args below meth c H0 locs 0 0 Q (F0 m 2 ls []) := by
    intro n1
    induction n1 with
    | zero =>
      intro w1_1 hm hlo1_1
      intros
      exfalso
      have := Int32.toInt_lt w1_1; have := Int32.le_toInt w1_1
      omega
    | succ n1 ih1 =>
      intro w1_1 hm hlo1_1  locs ls hS2 hl
      refine lv_iload_n hx hb dX11_isLowered_2 rfl (lv_at hl 0 rfl) ?_
      refine lv_aload_n hx hb dX11_isLowered_3 rfl (lv_at hl 1 rfl) ?_
      refine lv_iconst (v := 0) hx hb dX11_isLowered_4 (by decide) ?_
      refine h_callVi (T := TX11) (rest := [.int w1_1]) (As := [.int 0]) hx hb hml hown hts hK hT0 hZ (fun _ h => h) hS2 (c_of l G Y P (o) hM 0 0 (by decide) (h_inc (by decide))) trivial wd_X11_of wV_X11_of wL_X11_47 (hM.o rfl) rfl rfl hl.1 rfl (Nat.le_of_ble_eq_true rfl) dX11_isLowered_5 ⟨Nat.le_of_ble_eq_true rfl, Nat.le_of_ble_eq_true rfl⟩ ⟨Nat.zero_le _, Nat.zero_le _⟩ (fun r1 H3 locs hp3 hT3 hS3 hk3 => ?_)
      obtain ⟨hp3, he⟩ := hp3
      have he := he.symm
      subst he
      have mr1 : h_ai H0 (o + 1) 0 = r1 := hp3.1.symm
      have br1 := mP_N hp3.2 (by omega)
      refine lv_icmp_ge (tgt := 30) hx hb dX11_isLowered_8 (by decide) (fun c2 => ?_) (fun c2 => ?_)
      · skip
        have c2 : r1.toInt ≤ w1_1.toInt := Int32.le_iff_toInt_le.mp c2
        refine lv_iconst (v := 1) hx hb dX11_isLowered_30 (by decide) ?_
        exact hret _ _ _ _ _ hT0 hS3 ⟨(by decide), ⟨⟨(by decide), trivial⟩, rfl⟩⟩ dX11_isLowered_31
      · skip
        have c2 : ¬ r1.toInt ≤ w1_1.toInt := h_nleI c2
        refine lv_aload_n hx hb dX11_isLowered_11 rfl (lv_at hl 1 rfl) ?_
        refine lv_bipush (v := 88) hx hb dX11_isLowered_12 (by decide) ?_
        refine lv_iload_n hx hb dX11_isLowered_14 rfl (lv_at hl 0 rfl) ?_
        refine lv_iadd hx hb dX11_isLowered_15 ?_
        obtain ⟨x3, qx3, ix3⟩ := h_addX 88 w1_1 (88 : Int) w1_1.toInt rfl rfl (by omega) (by omega)
        refine h_top (v := x3) qx3 ?_
        refine h_callVi (T := TX11) (rest := []) (As := [.int x3]) hx hb hml hown hts hK hT0 hZ (fun _ h => h) hS3 (c_of l G Y P (o) hM x3 (88 + w1_1.toInt).toNat (show x3.toInt.toNat = (88 + w1_1.toInt).toNat from by omega) (h_vin (by omega) (by omega))) trivial wd_X11_of wV_X11_of wL_X11_47 (hM.o rfl) rfl rfl hl.1 rfl (Nat.le_of_ble_eq_true rfl) dX11_isLowered_16 ⟨Nat.le_of_ble_eq_true rfl, Nat.le_of_ble_eq_true rfl⟩ ⟨Nat.zero_le _, Nat.zero_le _⟩ (fun r4 H4 locs hp4 hT4 hS4 hk4 => ?_)
        obtain ⟨hp4, he⟩ := hp4
        have he := he.symm
        subst he
        have mr4 : h_ai H0 (o + 1) (88 + w1_1.toInt).toNat = r4 := hp4.1.symm
        have br4 := mP_rm hp4.2 (by omega)
        refine lv_if_le (tgt := 24) hx hb dX11_isLowered_19 (by decide) (fun c5 => ?_) (fun c5 => ?_)
        · skip
          have c5 : r4.toInt ≤ (0 : Int) := Int32.le_iff_toInt_le.mp c5
          obtain ⟨x6, qx6, ix6⟩ := h_addX w1_1 1 w1_1.toInt (1 : Int) rfl rfl (by omega) (by omega)
          refine lv_iinc (v := x6) (lv' := [(1, .int x6), (0, .ref (o))]) hx hb dX11_isLowered_24 hl (k := 0) rfl qx6 (by decide) rfl (fun ls hl => ?_)
          refine lv_goto (tgt := 2) hx hb dX11_isLowered_27 (by decide) ?_
          exact ih1 x6 (show 2147483647 - x6.toInt < (n1 : Int) from by omega) (show 0 ≤ x6.toInt from by omega) _ _ hS4 (lv_sub hl [0, 1] rfl)
        · skip
          have c5 : ¬ r4.toInt ≤ (0 : Int) := h_nleI c5
          refine lv_iconst (v := 0) hx hb dX11_isLowered_22 (by decide) ?_
          exact hret _ _ _ _ _ hT0 hS4 ⟨(by decide), ⟨⟨(by decide), trivial⟩, rfl⟩⟩ dX11_isLowered_23
  exact LP1 4294967296 0 (show 2147483647 - (0 : Int) < ((4294967296 : Nat) : Int) from by omega) (show 0 ≤ (0 : Int) from by omega) _ _ hS0 (lv_sub hl [0, 1] rfl)
set_option maxHeartbeats 4000000 in
set_option maxRecDepth 100000 in
theorem c_X11_isReached (l : Launch) (G : hG) (Y : hW) (P : Int32 → Prop) (o : Nat) (hM : h_On Y o (modE (tM P) o)) (u1 : Int32) : hMi l yX11_isReached cX11_isReached 2 (some .boolean) 4 84 G Y [.ref (o), .int u1] (fun H => True) (fun H r H1 => ((r = 0 ∨ r = 1) ∧ (True)) ∧ H1 = H) := by
  refine h_ofz (by decide +kernel) (Nat.le_of_ble_eq_true rfl) ?_
  intro p e s m args below meth c H0 ls Q hx hb hts hown hml hK hZ hT0 hpr hS0 hl hret
  have hl : lv_has ls 2 [(0, .ref (o)), (1, .int u1)] := hl
  refine lv_iload_n hx hb dX11_isReached_0 rfl (lv_at hl 1 rfl) ?_
  refine lv_if_ne (tgt := 11) hx hb dX11_isReached_1 (by decide) (fun c1 => ?_) (fun c1 => ?_)
  · skip
    have c1 : ¬ u1.toInt = (0 : Int) := h_neI c1
    refine lv_iload_n hx hb dX11_isReached_11 rfl (lv_at hl 1 rfl) ?_
    refine lv_iconst (v := 1) hx hb dX11_isReached_12 (by decide) ?_
    refine lv_icmp_ne (tgt := 23) hx hb dX11_isReached_13 (by decide) (fun c2 => ?_) (fun c2 => ?_)
    · skip
      have c2 : ¬ u1.toInt = (1 : Int) := h_neI c2
      refine lv_iload_n hx hb dX11_isReached_23 rfl (lv_at hl 1 rfl) ?_
      refine lv_iconst (v := 2) hx hb dX11_isReached_24 (by decide) ?_
      refine lv_icmp_ne (tgt := 45) hx hb dX11_isReached_25 (by decide) (fun c3 => ?_) (fun c3 => ?_)
      · skip
        have c3 : ¬ u1.toInt = (2 : Int) := h_neI c3
        refine lv_iload_n hx hb dX11_isReached_45 rfl (lv_at hl 1 rfl) ?_
        refine lv_iconst (v := 3) hx hb dX11_isReached_46 (by decide) ?_
        refine lv_icmp_ne (tgt := 57) hx hb dX11_isReached_47 (by decide) (fun c4 => ?_) (fun c4 => ?_)
        · skip
          have c4 : ¬ u1.toInt = (3 : Int) := h_neI c4
          refine lv_aload_n hx hb dX11_isReached_57 rfl (lv_at hl 0 rfl) ?_
          refine h_geti (C := RX11) (T := TX11) (N := 23) hx hb hts inX11 hown hK hT0 (hM.o rfl) rfl 4 rfl wF_X11_143 rfl dX11_isReached_58 (fun p5 => ?_)
          refine lv_topi (fun x6 ex6 => ?_)
          refine lv_iconst (v := (-1)) hx hb dX11_isReached_61 (by decide) ?_
          refine lv_icmp_eq (tgt := 69) hx hb dX11_isReached_62 (by decide) (fun c7 => ?_) (fun c7 => ?_)
          · skip
            have c7 : x6.toInt = (-1 : Int) := congrArg Int32.toInt c7
            refine lv_iconst (v := 0) hx hb dX11_isReached_69 (by decide) ?_
            exact hret _ _ _ _ _ hT0 hS0 ⟨(by decide), ⟨⟨(by decide), trivial⟩, rfl⟩⟩ dX11_isReached_70
          · skip
            have c7 : ¬ x6.toInt = (-1 : Int) := h_neI c7
            refine lv_iconst (v := 1) hx hb dX11_isReached_65 (by decide) ?_
            refine lv_goto (tgt := 70) hx hb dX11_isReached_66 (by decide) ?_
            exact hret _ _ _ _ _ hT0 hS0 ⟨(by decide), ⟨⟨(by decide), trivial⟩, rfl⟩⟩ dX11_isReached_70
        · skip
          have c4 : u1.toInt = (3 : Int) := congrArg Int32.toInt c4
          refine lv_aload_n hx hb dX11_isReached_50 rfl (lv_at hl 0 rfl) ?_
          refine h_geti (C := RX11) (T := TX11) (N := 23) hx hb hts inX11 hown hK hT0 (hM.o rfl) rfl 5 rfl wF_X11_82 rfl dX11_isReached_51 (fun p8 => ?_)
          refine lv_topi (fun x9 ex9 => ?_)
          refine lv_goto (tgt := 70) hx hb dX11_isReached_54 (by decide) ?_
          exact hret _ _ _ _ _ hT0 hS0 ⟨(by rw [ex9]; exact p8), ⟨⟨(by rw [ex9]; exact p8), trivial⟩, rfl⟩⟩ dX11_isReached_70
      · skip
        have c3 : u1.toInt = (2 : Int) := congrArg Int32.toInt c3
        refine lv_aload_n hx hb dX11_isReached_28 rfl (lv_at hl 0 rfl) ?_
        refine lv_iconst (v := 5) hx hb dX11_isReached_29 (by decide) ?_
        refine h_callVi (T := TX11) (rest := []) (As := [.int 5]) hx hb hml hown hts hK hT0 hZ (fun _ h => h) hS0 (c_of l G Y P (o) hM 5 5 (by decide) (h_inc (by decide))) trivial wd_X11_of wV_X11_of wL_X11_47 (hM.o rfl) rfl rfl hl.1 rfl (Nat.le_of_ble_eq_true rfl) dX11_isReached_30 ⟨Nat.le_of_ble_eq_true rfl, Nat.le_of_ble_eq_true rfl⟩ ⟨Nat.zero_le _, Nat.zero_le _⟩ (fun r10 H1 locs hp1 hT1 hS1 hk1 => ?_)
        obtain ⟨hp1, he⟩ := hp1
        have he := he.symm
        subst he
        have mr10 : h_ai H0 (o + 1) 5 = r10 := hp1.1.symm
        refine lv_iconst (v := 1) hx hb dX11_isReached_33 (by decide) ?_
        refine lv_icmp_ne (tgt := 41) hx hb dX11_isReached_34 (by decide) (fun c11 => ?_) (fun c11 => ?_)
        · skip
          have c11 : ¬ r10.toInt = (1 : Int) := h_neI c11
          refine lv_iconst (v := 0) hx hb dX11_isReached_41 (by decide) ?_
          refine lv_goto (tgt := 70) hx hb dX11_isReached_42 (by decide) ?_
          exact hret _ _ _ _ _ hT0 hS1 ⟨(by decide), ⟨⟨(by decide), trivial⟩, rfl⟩⟩ dX11_isReached_70
        · skip
          have c11 : r10.toInt = (1 : Int) := congrArg Int32.toInt c11
          refine lv_iconst (v := 1) hx hb dX11_isReached_37 (by decide) ?_
          refine lv_goto (tgt := 70) hx hb dX11_isReached_38 (by decide) ?_
          exact hret _ _ _ _ _ hT0 hS1 ⟨(by decide), ⟨⟨(by decide), trivial⟩, rfl⟩⟩ dX11_isReached_70
    · skip
      have c2 : u1.toInt = (1 : Int) := congrArg Int32.toInt c2
      refine lv_aload_n hx hb dX11_isReached_16 rfl (lv_at hl 0 rfl) ?_
      refine h_callVi (T := TX11) (rest := []) (As := []) hx hb hml hown hts hK hT0 hZ (fun _ h => h) hS0 (c_X11_isLowered l G Y P (o) hM) trivial wd_X11_isLowered wV_X11_isLowered wL_X11_313 (hM.o rfl) rfl rfl hl.1 rfl (Nat.le_of_ble_eq_true rfl) dX11_isReached_17 ⟨Nat.le_of_ble_eq_true rfl, Nat.le_of_ble_eq_true rfl⟩ ⟨Nat.zero_le _, Nat.zero_le _⟩ (fun r12 H2 locs hp2 hT2 hS2 hk2 => ?_)
      obtain ⟨hp2, he⟩ := hp2
      have he := he.symm
      subst he
      refine lv_goto (tgt := 70) hx hb dX11_isReached_20 (by decide) ?_
      exact hret _ _ _ _ _ hT0 hS2 ⟨hp2.1, ⟨⟨hp2.1, trivial⟩, rfl⟩⟩ dX11_isReached_70
  · skip
    have c1 : u1.toInt = (0 : Int) := congrArg Int32.toInt c1
    refine lv_aload_n hx hb dX11_isReached_4 rfl (lv_at hl 0 rfl) ?_
    refine h_callVi (T := TX11) (rest := []) (As := []) hx hb hml hown hts hK hT0 hZ (fun _ h => h) hS0 (c_X11_isQuiet l G Y P (o) hM) trivial wd_X11_isQuiet wV_X11_isQuiet wL_X11_310 (hM.o rfl) rfl rfl hl.1 rfl (Nat.le_of_ble_eq_true rfl) dX11_isReached_5 ⟨Nat.le_of_ble_eq_true rfl, Nat.le_of_ble_eq_true rfl⟩ ⟨Nat.zero_le _, Nat.zero_le _⟩ (fun r13 H3 locs hp3 hT3 hS3 hk3 => ?_)
    obtain ⟨hp3, he⟩ := hp3
    have he := he.symm
    subst he
    refine lv_goto (tgt := 70) hx hb dX11_isReached_8 (by decide) ?_
    exact hret _ _ _ _ _ hT0 hS3 ⟨hp3.1, ⟨⟨hp3.1, trivial⟩, rfl⟩⟩ dX11_isReached_70
set_option maxHeartbeats 4000000 in
set_option maxRecDepth 100000 in
theorem c_X11_isTaken (l : Launch) (G : hG) (Y : hW) (P : Int32 → Prop) (o : Nat) (hM : h_On Y o (modE (tM P) o)) (u1 : Int32) : hMi l yX11_isTaken cX11_isTaken 3 (some .boolean) 1 21 G Y [.ref (o), .int u1] (fun H => True) (fun H r H1 => ((r = 0 ∨ r = 1) ∧ (True)) ∧ H1 = H) := by
  refine h_ofz (by decide +kernel) (Nat.le_of_ble_eq_true rfl) ?_
  intro p e s m args below meth c H0 ls Q hx hb hts hown hml hK hZ hT0 hpr hS0 hl hret
  have hl : lv_has ls 3 [(0, .ref (o)), (1, .int u1)] := hl
  refine lv_iconst (v := 0) hx hb dX11_isTaken_0 (by decide) ?_
  refine lv_istore_n (lv' := [(2, .int 0), (0, .ref (o)), (1, .int u1)]) hx hb dX11_isTaken_1 rfl hl (by decide) rfl (fun ls hl => ?_)
  have LP1 : ∀ (n1 : Nat) (w1_2 : Int32), (2147483647 - w1_2.toInt < (n1 : Int)) → (0 ≤ w1_2.toInt) → ∀ (locs : List Loc) (ls : Array Slot), va_S (h_A Y) s.heap H0 locs → lv_has ls 3 [(2, .int w1_2), (0, .ref (o)), (1, .int u1)] → W p l e (h_rm 1 21) s m args below meth c H0 locs 0 0 Q (F0 m 2 ls []) := by
    intro n1
    induction n1 with
    | zero =>
      intro w1_2 hm hlo1_2
      intros
      exfalso
      have := Int32.toInt_lt w1_2; have := Int32.le_toInt w1_2
      omega
    | succ n1 ih1 =>
      intro w1_2 hm hlo1_2  locs ls hS2 hl
      refine lv_iload_n hx hb dX11_isTaken_2 rfl (lv_at hl 0 rfl) ?_
      refine lv_aload_n hx hb dX11_isTaken_3 rfl (lv_at hl 1 rfl) ?_
      refine lv_iconst (v := 0) hx hb dX11_isTaken_4 (by decide) ?_
      refine h_callVi (T := TX11) (rest := [.int w1_2]) (As := [.int 0]) hx hb hml hown hts hK hT0 hZ (fun _ h => h) hS2 (c_of l G Y P (o) hM 0 0 (by decide) (h_inc (by decide))) trivial wd_X11_of wV_X11_of wL_X11_47 (hM.o rfl) rfl rfl hl.1 rfl (Nat.le_of_ble_eq_true rfl) dX11_isTaken_5 ⟨Nat.le_of_ble_eq_true rfl, Nat.le_of_ble_eq_true rfl⟩ ⟨Nat.zero_le _, Nat.zero_le _⟩ (fun r1 H3 locs hp3 hT3 hS3 hk3 => ?_)
      obtain ⟨hp3, he⟩ := hp3
      have he := he.symm
      subst he
      have mr1 : h_ai H0 (o + 1) 0 = r1 := hp3.1.symm
      have br1 := mP_N hp3.2 (by omega)
      refine lv_icmp_ge (tgt := 31) hx hb dX11_isTaken_8 (by decide) (fun c2 => ?_) (fun c2 => ?_)
      · skip
        have c2 : r1.toInt ≤ w1_2.toInt := Int32.le_iff_toInt_le.mp c2
        refine lv_iconst (v := 0) hx hb dX11_isTaken_31 (by decide) ?_
        exact hret _ _ _ _ _ hT0 hS3 ⟨(by decide), ⟨⟨(by decide), trivial⟩, rfl⟩⟩ dX11_isTaken_32
      · skip
        have c2 : ¬ r1.toInt ≤ w1_2.toInt := h_nleI c2
        refine lv_aload_n hx hb dX11_isTaken_11 rfl (lv_at hl 1 rfl) ?_
        refine lv_bipush (v := 40) hx hb dX11_isTaken_12 (by decide) ?_
        refine lv_iload_n hx hb dX11_isTaken_14 rfl (lv_at hl 0 rfl) ?_
        refine lv_iadd hx hb dX11_isTaken_15 ?_
        obtain ⟨x3, qx3, ix3⟩ := h_addX 40 w1_2 (40 : Int) w1_2.toInt rfl rfl (by omega) (by omega)
        refine h_top (v := x3) qx3 ?_
        refine h_callVi (T := TX11) (rest := []) (As := [.int x3]) hx hb hml hown hts hK hT0 hZ (fun _ h => h) hS3 (c_of l G Y P (o) hM x3 (40 + w1_2.toInt).toNat (show x3.toInt.toNat = (40 + w1_2.toInt).toNat from by omega) (h_vin (by omega) (by omega))) trivial wd_X11_of wV_X11_of wL_X11_47 (hM.o rfl) rfl rfl hl.1 rfl (Nat.le_of_ble_eq_true rfl) dX11_isTaken_16 ⟨Nat.le_of_ble_eq_true rfl, Nat.le_of_ble_eq_true rfl⟩ ⟨Nat.zero_le _, Nat.zero_le _⟩ (fun r4 H4 locs hp4 hT4 hS4 hk4 => ?_)
        obtain ⟨hp4, he⟩ := hp4
        have he := he.symm
        subst he
        have mr4 : h_ai H0 (o + 1) (40 + w1_2.toInt).toNat = r4 := hp4.1.symm
        refine lv_iload_n hx hb dX11_isTaken_19 rfl (lv_at hl 2 rfl) ?_
        refine lv_icmp_ne (tgt := 25) hx hb dX11_isTaken_20 (by decide) (fun c5 => ?_) (fun c5 => ?_)
        · skip
          have c5 : ¬ r4.toInt = u1.toInt := h_neI c5
          obtain ⟨x6, qx6, ix6⟩ := h_addX w1_2 1 w1_2.toInt (1 : Int) rfl rfl (by omega) (by omega)
          refine lv_iinc (v := x6) (lv' := [(2, .int x6), (0, .ref (o)), (1, .int u1)]) hx hb dX11_isTaken_25 hl (k := 0) rfl qx6 (by decide) rfl (fun ls hl => ?_)
          refine lv_goto (tgt := 2) hx hb dX11_isTaken_28 (by decide) ?_
          exact ih1 x6 (show 2147483647 - x6.toInt < (n1 : Int) from by omega) (show 0 ≤ x6.toInt from by omega) _ _ hS4 (lv_sub hl [0, 1, 2] rfl)
        · skip
          have c5 : r4.toInt = u1.toInt := congrArg Int32.toInt c5
          refine lv_iconst (v := 1) hx hb dX11_isTaken_23 (by decide) ?_
          exact hret _ _ _ _ _ hT0 hS4 ⟨(by decide), ⟨⟨(by decide), trivial⟩, rfl⟩⟩ dX11_isTaken_24
  exact LP1 4294967296 0 (show 2147483647 - (0 : Int) < ((4294967296 : Nat) : Int) from by omega) (show 0 ≤ (0 : Int) from by omega) _ _ hS0 (lv_sub hl [0, 1, 2] rfl)
set_option maxHeartbeats 4000000 in
set_option maxRecDepth 100000 in
theorem c_X11_wrongStation (l : Launch) (G : hG) (Y : hW) (P : Int32 → Prop) (o : Nat) (hM : h_On Y o (modE (tM P) o)) (u1 : Int32) : hMi l yX11_wrongStation cX11_wrongStation 2 (some .int) 2 42 G Y [.ref (o), .int u1] (fun H => True) (fun H r H1 => ((r.toInt = 0 ∧ 0 ≤ u1.toInt ∧ u1.toInt < (h_ai H (o + 1) 0).toInt) ∨ r.toInt = 2) ∧ H1 = H) := by
  refine h_ofi (by decide +kernel) (Nat.le_of_ble_eq_true rfl) ?_
  intro p e s m args below meth c H0 ls Q hx hb hts hown hml hK hZ hT0 hpr hS0 hl hret
  have hl : lv_has ls 2 [(0, .ref (o)), (1, .int u1)] := hl
  refine lv_aload_n hx hb dX11_wrongStation_0 rfl (lv_at hl 0 rfl) ?_
  refine lv_iload_n hx hb dX11_wrongStation_1 rfl (lv_at hl 1 rfl) ?_
  obtain ⟨v1, mv1⟩ : ∃ x, h_ai H0 (o + 1) 0 = x := ⟨_, rfl⟩
  have bv1 := mP_N (mP_cell hM hT0 (j := 0) (by omega)) (by omega)
  rw [mv1] at bv1
  refine h_callVi (T := TX11) (rest := []) (As := [.int u1]) hx hb hml hown hts hK hT0 hZ (fun _ h => h) hS0 (c_X11_isStation l G Y P (o) hM u1) trivial wd_X11_isStation wV_X11_isStation wL_X11_51 (hM.o rfl) rfl rfl hl.1 rfl (Nat.le_of_ble_eq_true rfl) dX11_wrongStation_2 ⟨Nat.le_of_ble_eq_true rfl, Nat.le_of_ble_eq_true rfl⟩ ⟨Nat.zero_le _, Nat.zero_le _⟩ (fun r2 H1 locs hp1 hT1 hS1 hk1 => ?_)
  obtain ⟨hp1, he⟩ := hp1
  have he := he.symm
  subst he
  have f3 : r2.toInt = 0 ∨ (0 ≤ u1.toInt ∧ u1.toInt < v1.toInt) := by have q := hp1.2; rw [mv1] at q; exact q
  refine lv_if_eq (tgt := 12) hx hb dX11_wrongStation_5 (by decide) (fun c4 => ?_) (fun c4 => ?_)
  · skip
    have c4 : r2.toInt = (0 : Int) := congrArg Int32.toInt c4
    refine lv_iconst (v := 2) hx hb dX11_wrongStation_12 (by decide) ?_
    exact hret _ _ _ _ _ hT0 hS1 ⟨(show ((2 : Int) = 0 ∧ 0 ≤ u1.toInt ∧ u1.toInt < (h_ai H0 (o + 1) 0).toInt) ∨ (2 : Int) = 2 from by rw [mv1]; show ((2 : Int) = 0 ∧ 0 ≤ u1.toInt ∧ u1.toInt < v1.toInt) ∨ (2 : Int) = 2; omega), rfl⟩ dX11_wrongStation_13
  · skip
    have c4 : ¬ r2.toInt = (0 : Int) := h_neI c4
    refine lv_iconst (v := 0) hx hb dX11_wrongStation_8 (by decide) ?_
    refine lv_goto (tgt := 13) hx hb dX11_wrongStation_9 (by decide) ?_
    exact hret _ _ _ _ _ hT0 hS1 ⟨(show ((0 : Int) = 0 ∧ 0 ≤ u1.toInt ∧ u1.toInt < (h_ai H0 (o + 1) 0).toInt) ∨ (0 : Int) = 2 from by rw [mv1]; show ((0 : Int) = 0 ∧ 0 ≤ u1.toInt ∧ u1.toInt < v1.toInt) ∨ (0 : Int) = 2; omega), rfl⟩ dX11_wrongStation_13
set_option maxHeartbeats 4000000 in
set_option maxRecDepth 100000 in
theorem c_X11_isBroken (l : Launch) (G : hG) (Y : hW) (P : Int32 → Prop) (o : Nat) (hM : h_On Y o (modE (tM P) o)) (u1 u2 : Int32) (hu1 : (-1) ≤ u1.toInt ∧ u1.toInt ≤ 7) (hu2 : 0 ≤ u2.toInt ∧ u2.toInt ≤ 7) : hMi l yX11_isBroken cX11_isBroken 4 (some .boolean) 4 84 G Y [.ref (o), .int u1, .int u2] (fun H => (mR o H) ∧ (u2.toInt < (h_ai H (o + 1) 0).toInt)) (fun H r H1 => ((r = 0 ∨ r = 1) ∧ (True)) ∧ H1 = H) := by
  refine h_ofz (by decide +kernel) (Nat.le_of_ble_eq_true rfl) ?_
  intro p e s m args below meth c H0 ls Q hx hb hts hown hml hK hZ hT0 hpr hS0 hl hret
  have hl : lv_has ls 4 [(0, .ref (o)), (1, .int u1), (2, .int u2)] := hl
  obtain ⟨v1, mv1⟩ : ∃ x, h_ai H0 (o + 1) 0 = x := ⟨_, rfl⟩
  have bv1 := mP_N (mP_cell hM hT0 (j := 0) (by omega)) (by omega)
  rw [mv1] at bv1
  have g2 : u2.toInt < v1.toInt := by have q := hpr.2; rw [mv1] at q; exact q
  refine lv_aload_n hx hb dX11_isBroken_0 rfl (lv_at hl 0 rfl) ?_
  refine h_callVi (T := TX11) (rest := []) (As := []) hx hb hml hown hts hK hT0 hZ (fun _ h => h) hS0 (c_X11_doesCount l G Y P (o) hM) hpr.1 wd_X11_doesCount wV_X11_doesCount wL_X11_58 (hM.o rfl) rfl rfl hl.1 rfl (Nat.le_of_ble_eq_true rfl) dX11_isBroken_1 ⟨Nat.le_of_ble_eq_true rfl, Nat.le_of_ble_eq_true rfl⟩ ⟨Nat.zero_le _, Nat.zero_le _⟩ (fun r3 H1 locs hp1 hT1 hS1 hk1 => ?_)
  obtain ⟨hp1, he⟩ := hp1
  have he := he.symm
  subst he
  refine lv_if_ne (tgt := 9) hx hb dX11_isBroken_4 (by decide) (fun c4 => ?_) (fun c4 => ?_)
  · skip
    have c4 : ¬ r3.toInt = (0 : Int) := h_neI c4
    refine lv_iload_n hx hb dX11_isBroken_9 rfl (lv_at hl 1 rfl) ?_
    refine lv_istore_n (lv' := [(3, .int u1), (0, .ref (o)), (1, .int u1), (2, .int u2)]) hx hb dX11_isBroken_10 rfl hl (by decide) rfl (fun ls hl => ?_)
    have LP1 : ∀ (n1 : Nat) (w1_3 : Int32), (((w1_3.toInt < u2.toInt ∧ u2.toInt - w1_3.toInt < (n1 : Int)) ∨ (u2.toInt ≤ w1_3.toInt ∧ w1_3.toInt < v1.toInt ∧ u2.toInt - w1_3.toInt + 100 < (n1 : Int)) ∨ (v1.toInt ≤ w1_3.toInt ∧ u2.toInt ≤ w1_3.toInt ∧ u2.toInt - w1_3.toInt + 300 < (n1 : Int)))) → ((-1) ≤ w1_3.toInt) → (w1_3.toInt ≤ 7) → ∀ (locs : List Loc) (ls : Array Slot), va_S (h_A Y) s.heap H0 locs → lv_has ls 4 [(3, .int w1_3), (0, .ref (o)), (2, .int u2)] → W p l e (h_rm 4 84) s m args below meth c H0 locs 0 0 Q (F0 m 11 ls []) := by
      intro n1
      induction n1 with
      | zero =>
        intro w1_3 hm hlo1_3 hhi1_3
        intros
        exfalso
        have := Int32.toInt_lt w1_3; have := Int32.le_toInt w1_3
        omega
      | succ n1 ih1 =>
        intro w1_3 hm hlo1_3 hhi1_3  locs ls hS3 hl
        refine lv_iload_n hx hb dX11_isBroken_11 rfl (lv_at hl 0 rfl) ?_
        refine lv_aload_n hx hb dX11_isBroken_12 rfl (lv_at hl 1 rfl) ?_
        refine lv_bipush (v := 16) hx hb dX11_isBroken_13 (by decide) ?_
        refine h_callVi (T := TX11) (rest := [.int w1_3]) (As := [.int 16]) hx hb hml hown hts hK hT0 hZ (fun _ h => h) hS3 (c_of l G Y P (o) hM 16 16 (by decide) (h_inc (by decide))) trivial wd_X11_of wV_X11_of wL_X11_47 (hM.o rfl) rfl rfl hl.1 rfl (Nat.le_of_ble_eq_true rfl) dX11_isBroken_15 ⟨Nat.le_of_ble_eq_true rfl, Nat.le_of_ble_eq_true rfl⟩ ⟨Nat.zero_le _, Nat.zero_le _⟩ (fun r5 H4 locs hp4 hT4 hS4 hk4 => ?_)
        obtain ⟨hp4, he⟩ := hp4
        have he := he.symm
        subst he
        have mr5 : h_ai H0 (o + 1) 16 = r5 := hp4.1.symm
        have br5 := mP_m1 hp4.2 (by omega)
        refine lv_icmp_ne (tgt := 23) hx hb dX11_isBroken_18 (by decide) (fun c6 => ?_) (fun c6 => ?_)
        · skip
          have c6 : ¬ w1_3.toInt = r5.toInt := h_neI c6
          refine lv_iload_n hx hb dX11_isBroken_23 rfl (lv_at hl 0 rfl) ?_
          refine lv_iconst (v := 1) hx hb dX11_isBroken_24 (by decide) ?_
          refine lv_iadd hx hb dX11_isBroken_25 ?_
          obtain ⟨x7, qx7, ix7⟩ := h_addX w1_3 1 w1_3.toInt (1 : Int) rfl rfl (by omega) (by omega)
          refine h_top (v := x7) qx7 ?_
          refine lv_aload_n hx hb dX11_isBroken_26 rfl (lv_at hl 1 rfl) ?_
          refine lv_iconst (v := 0) hx hb dX11_isBroken_27 (by decide) ?_
          refine h_callVi (T := TX11) (rest := [.int x7]) (As := [.int 0]) hx hb hml hown hts hK hT0 hZ (fun _ h => h) hS4 (c_of l G Y P (o) hM 0 0 (by decide) (h_inc (by decide))) trivial wd_X11_of wV_X11_of wL_X11_47 (hM.o rfl) rfl rfl hl.1 rfl (Nat.le_of_ble_eq_true rfl) dX11_isBroken_28 ⟨Nat.le_of_ble_eq_true rfl, Nat.le_of_ble_eq_true rfl⟩ ⟨Nat.zero_le _, Nat.zero_le _⟩ (fun r8 H5 locs hp5 hT5 hS5 hk5 => ?_)
          obtain ⟨hp5, he⟩ := hp5
          have he := he.symm
          subst he
          have hp5 : v1 = r8 := (hp5.1.trans mv1).symm
          subst hp5
          refine lv_irem hx hb dX11_isBroken_31 (fun q => absurd (congrArg Int32.toInt q) (show ¬ v1.toInt = 0 from by omega)) ?_
          obtain ⟨x9, qx9, gx9⟩ := h_rem0 x7 v1 x7.toInt v1.toInt rfl rfl (by omega) (by omega)
          refine h_top (v := x9) qx9 ?_
          refine lv_istore_n (lv' := [(3, .int x9), (0, .ref (o)), (2, .int u2)]) hx hb dX11_isBroken_32 rfl hl (by decide) rfl (fun ls hl => ?_)
          refine lv_iload_n hx hb dX11_isBroken_33 rfl (lv_at hl 0 rfl) ?_
          refine lv_iload_n hx hb dX11_isBroken_34 rfl (lv_at hl 2 rfl) ?_
          refine lv_icmp_ne (tgt := 11) hx hb dX11_isBroken_35 (by decide) (fun c10 => ?_) (fun c10 => ?_)
          · skip
            have c10 : ¬ x9.toInt = u2.toInt := h_neI c10
            exact ih1 x9 (show ((x9.toInt < u2.toInt ∧ u2.toInt - x9.toInt < (n1 : Int)) ∨ (u2.toInt ≤ x9.toInt ∧ x9.toInt < v1.toInt ∧ u2.toInt - x9.toInt + 100 < (n1 : Int)) ∨ (v1.toInt ≤ x9.toInt ∧ u2.toInt ≤ x9.toInt ∧ u2.toInt - x9.toInt + 300 < (n1 : Int))) from by omega) (show (-1) ≤ x9.toInt from by omega) (show x9.toInt ≤ 7 from by omega) _ _ hS5 (lv_sub hl [0, 1, 2] rfl)
          · skip
            have c10 : x9.toInt = u2.toInt := congrArg Int32.toInt c10
            refine lv_iconst (v := 0) hx hb dX11_isBroken_38 (by decide) ?_
            exact hret _ _ _ _ _ hT0 hS5 ⟨(by decide), ⟨⟨(by decide), trivial⟩, rfl⟩⟩ dX11_isBroken_39
        · skip
          have c6 : w1_3.toInt = r5.toInt := congrArg Int32.toInt c6
          refine lv_iconst (v := 1) hx hb dX11_isBroken_21 (by decide) ?_
          exact hret _ _ _ _ _ hT0 hS4 ⟨(by decide), ⟨⟨(by decide), trivial⟩, rfl⟩⟩ dX11_isBroken_22
    exact LP1 4294967296 u1 (show ((u1.toInt < u2.toInt ∧ u2.toInt - u1.toInt < ((4294967296 : Nat) : Int)) ∨ (u2.toInt ≤ u1.toInt ∧ u1.toInt < v1.toInt ∧ u2.toInt - u1.toInt + 100 < ((4294967296 : Nat) : Int)) ∨ (v1.toInt ≤ u1.toInt ∧ u2.toInt ≤ u1.toInt ∧ u2.toInt - u1.toInt + 300 < ((4294967296 : Nat) : Int))) from by have := Int32.le_toInt u1; have := Int32.toInt_lt u1; omega) (show (-1) ≤ u1.toInt from by omega) (show u1.toInt ≤ 7 from by omega) _ _ hS1 (lv_sub hl [0, 1, 3] rfl)
  · skip
    have c4 : r3.toInt = (0 : Int) := congrArg Int32.toInt c4
    refine lv_iconst (v := 0) hx hb dX11_isBroken_7 (by decide) ?_
    exact hret _ _ _ _ _ hT0 hS1 ⟨(by decide), ⟨⟨(by decide), trivial⟩, rfl⟩⟩ dX11_isBroken_8
set_option maxHeartbeats 4000000 in
set_option maxRecDepth 100000 in
theorem c_X11_byteAt (l : Launch) (G : hG) (Y : hW) (P : Int32 → Prop) (o : Nat) (hM : h_On Y o (modE (tM P) o)) (u1 : Int32) (hu1 : 0 ≤ u1.toInt ∧ u1.toInt ≤ 1000) : hMi l yX11_byteAt cX11_byteAt 2 (some .int) 0 0 G Y [.ref (o), .int u1] (fun H => True) (fun H r H1 => (r.toInt = -1 ∨ u1.toInt ≤ 499) ∧ H1 = H) := by
  refine h_ofi (by decide +kernel) (Nat.le_of_ble_eq_true rfl) ?_
  intro p e s m args below meth c H0 ls Q hx hb hts hown hml hK hZ hT0 hpr hS0 hl hret
  have hl : lv_has ls 2 [(0, .ref (o)), (1, .int u1)] := hl
  refine lv_iload_n hx hb dX11_byteAt_0 rfl (lv_at hl 1 rfl) ?_
  refine lv_aload_n hx hb dX11_byteAt_1 rfl (lv_at hl 0 rfl) ?_
  refine h_geti (C := RX11) (T := TX11) (N := 23) hx hb hts inX11 hown hK hT0 (hM.o rfl) rfl 11 rfl wF_X11_174 rfl dX11_byteAt_2 (fun p1 => ?_)
  refine lv_topi (fun x2 ex2 => ?_)
  have bx2 : 0 ≤ x2.toInt ∧ x2.toInt ≤ 500 := by rw [ex2]; exact p1
  refine lv_icmp_ge (tgt := 21) hx hb dX11_byteAt_5 (by decide) (fun c3 => ?_) (fun c3 => ?_)
  · skip
    have c3 : x2.toInt ≤ u1.toInt := Int32.le_iff_toInt_le.mp c3
    refine lv_iconst (v := (-1)) hx hb dX11_byteAt_21 (by decide) ?_
    exact hret _ _ _ _ _ hT0 hS0 ⟨(show (-1 : Int) = -1 ∨ u1.toInt ≤ 499 from by show (-1 : Int) = -1 ∨ u1.toInt ≤ 499; omega), rfl⟩ dX11_byteAt_22
  · skip
    have c3 : ¬ x2.toInt ≤ u1.toInt := h_nleI c3
    refine lv_aload_n hx hb dX11_byteAt_8 rfl (lv_at hl 0 rfl) ?_
    refine h_getr (C := RX11) (T := TX11) (N := 23) hx hb hts inX11 hown hK hT0 (hM.o rfl) rfl 8 rfl wF_X11_17 rfl dX11_byteAt_9 ?_
    refine lv_iload_n hx hb dX11_byteAt_12 rfl (lv_at hl 1 rfl) ?_
    refine h_bald hx hb hK hT0 (hM.at 3 rfl) (h_vin (by omega) (by omega)) dX11_byteAt_13 (fun p4 => ?_)
    refine lv_topi (fun x5 ex5 => ?_)
    refine lv_sipush (v := 255) hx hb dX11_byteAt_14 (by decide) ?_
    refine lv_iand hx hb dX11_byteAt_17 ?_
    refine lv_topi (fun x6 ex6 => ?_)
    refine lv_goto (tgt := 22) hx hb dX11_byteAt_18 (by decide) ?_
    exact hret _ _ _ _ _ hT0 hS0 ⟨(show x6.toInt = -1 ∨ u1.toInt ≤ 499 from by show x6.toInt = -1 ∨ u1.toInt ≤ 499; omega), rfl⟩ dX11_byteAt_22
set_option maxHeartbeats 4000000 in
set_option maxRecDepth 100000 in
theorem c_X11_isSmall (l : Launch) (G : hG) (Y : hW)  (u1 : Int32) : hMi l yX11_isSmall cX11_isSmall 1 (some .boolean) 0 0 G Y [.int u1] (fun H => True) (fun H r H1 => ((r = 0 ∨ r = 1) ∧ (r.toInt = 0 ∨ 97 ≤ u1.toInt)) ∧ H1 = H) := by
  refine h_ofz (by decide +kernel) (Nat.le_of_ble_eq_true rfl) ?_
  intro p e s m args below meth c H0 ls Q hx hb hts hown hml hK hZ hT0 hpr hS0 hl hret
  have hl : lv_has ls 1 [(0, .int u1)] := hl
  refine lv_iload_n hx hb dX11_isSmall_0 rfl (lv_at hl 0 rfl) ?_
  refine lv_bipush (v := 97) hx hb dX11_isSmall_1 (by decide) ?_
  refine lv_icmp_lt (tgt := 16) hx hb dX11_isSmall_3 (by decide) (fun c1 => ?_) (fun c1 => ?_)
  · skip
    have c1 : u1.toInt < (97 : Int) := Int32.lt_iff_toInt_lt.mp c1
    refine lv_iconst (v := 0) hx hb dX11_isSmall_16 (by decide) ?_
    exact hret _ _ _ _ _ hT0 hS0 ⟨(by decide), ⟨⟨(by decide), (show (0 : Int) = 0 ∨ 97 ≤ u1.toInt from by show (0 : Int) = 0 ∨ 97 ≤ u1.toInt; omega)⟩, rfl⟩⟩ dX11_isSmall_17
  · skip
    have c1 : ¬ u1.toInt < (97 : Int) := h_nltI c1
    refine lv_iload_n hx hb dX11_isSmall_6 rfl (lv_at hl 0 rfl) ?_
    refine lv_bipush (v := 122) hx hb dX11_isSmall_7 (by decide) ?_
    refine lv_icmp_gt (tgt := 16) hx hb dX11_isSmall_9 (by decide) (fun c2 => ?_) (fun c2 => ?_)
    · skip
      have c2 : (122 : Int) < u1.toInt := Int32.lt_iff_toInt_lt.mp c2
      refine lv_iconst (v := 0) hx hb dX11_isSmall_16 (by decide) ?_
      exact hret _ _ _ _ _ hT0 hS0 ⟨(by decide), ⟨⟨(by decide), (show (0 : Int) = 0 ∨ 97 ≤ u1.toInt from by show (0 : Int) = 0 ∨ 97 ≤ u1.toInt; omega)⟩, rfl⟩⟩ dX11_isSmall_17
    · skip
      have c2 : ¬ (122 : Int) < u1.toInt := h_nltI c2
      refine lv_iconst (v := 1) hx hb dX11_isSmall_12 (by decide) ?_
      refine lv_goto (tgt := 17) hx hb dX11_isSmall_13 (by decide) ?_
      exact hret _ _ _ _ _ hT0 hS0 ⟨(by decide), ⟨⟨(by decide), (show (1 : Int) = 0 ∨ 97 ≤ u1.toInt from by show (1 : Int) = 0 ∨ 97 ≤ u1.toInt; omega)⟩, rfl⟩⟩ dX11_isSmall_17
set_option maxHeartbeats 4000000 in
set_option maxRecDepth 100000 in
theorem c_X11_isDigit (l : Launch) (G : hG) (Y : hW)  (u1 : Int32) : hMi l yX11_isDigit cX11_isDigit 1 (some .boolean) 0 0 G Y [.int u1] (fun H => True) (fun H r H1 => ((r = 0 ∨ r = 1) ∧ (r.toInt = 0 ∨ 48 ≤ u1.toInt)) ∧ H1 = H) := by
  refine h_ofz (by decide +kernel) (Nat.le_of_ble_eq_true rfl) ?_
  intro p e s m args below meth c H0 ls Q hx hb hts hown hml hK hZ hT0 hpr hS0 hl hret
  have hl : lv_has ls 1 [(0, .int u1)] := hl
  refine lv_iload_n hx hb dX11_isDigit_0 rfl (lv_at hl 0 rfl) ?_
  refine lv_bipush (v := 48) hx hb dX11_isDigit_1 (by decide) ?_
  refine lv_icmp_lt (tgt := 16) hx hb dX11_isDigit_3 (by decide) (fun c1 => ?_) (fun c1 => ?_)
  · skip
    have c1 : u1.toInt < (48 : Int) := Int32.lt_iff_toInt_lt.mp c1
    refine lv_iconst (v := 0) hx hb dX11_isDigit_16 (by decide) ?_
    exact hret _ _ _ _ _ hT0 hS0 ⟨(by decide), ⟨⟨(by decide), (show (0 : Int) = 0 ∨ 48 ≤ u1.toInt from by show (0 : Int) = 0 ∨ 48 ≤ u1.toInt; omega)⟩, rfl⟩⟩ dX11_isDigit_17
  · skip
    have c1 : ¬ u1.toInt < (48 : Int) := h_nltI c1
    refine lv_iload_n hx hb dX11_isDigit_6 rfl (lv_at hl 0 rfl) ?_
    refine lv_bipush (v := 57) hx hb dX11_isDigit_7 (by decide) ?_
    refine lv_icmp_gt (tgt := 16) hx hb dX11_isDigit_9 (by decide) (fun c2 => ?_) (fun c2 => ?_)
    · skip
      have c2 : (57 : Int) < u1.toInt := Int32.lt_iff_toInt_lt.mp c2
      refine lv_iconst (v := 0) hx hb dX11_isDigit_16 (by decide) ?_
      exact hret _ _ _ _ _ hT0 hS0 ⟨(by decide), ⟨⟨(by decide), (show (0 : Int) = 0 ∨ 48 ≤ u1.toInt from by show (0 : Int) = 0 ∨ 48 ≤ u1.toInt; omega)⟩, rfl⟩⟩ dX11_isDigit_17
    · skip
      have c2 : ¬ (57 : Int) < u1.toInt := h_nltI c2
      refine lv_iconst (v := 1) hx hb dX11_isDigit_12 (by decide) ?_
      refine lv_goto (tgt := 17) hx hb dX11_isDigit_13 (by decide) ?_
      exact hret _ _ _ _ _ hT0 hS0 ⟨(by decide), ⟨⟨(by decide), (show (1 : Int) = 0 ∨ 48 ≤ u1.toInt from by show (1 : Int) = 0 ∨ 48 ≤ u1.toInt; omega)⟩, rfl⟩⟩ dX11_isDigit_17
theorem h_chr31 (u : Int32) (h : u.toInt = 31) : (h_chr 5 u).toInt = 32 := by
  have e : u = 31 := Int32.toInt_inj.mp (by rw [h]; rfl)
  subst e; decide
set_option maxHeartbeats 4000000 in
set_option maxRecDepth 100000 in
theorem c_X11_key (l : Launch) (G : hG) (Y : hW) (P : Int32 → Prop) (o : Nat) (hM : h_On Y o (modE (tM P) o)) : hMi l yX11_key cX11_key 6 (some .int) 4 85 G Y [.ref (o)] (fun H => True) (fun H r H1 => (True) ∧ H1 = H) := by
  refine h_ofi (by decide +kernel) (Nat.le_of_ble_eq_true rfl) ?_
  intro p e s m args below meth c H0 ls Q hx hb hts hown hml hK hZ hT0 hpr hS0 hl hret
  have hl : lv_has ls 6 [(0, .ref (o))] := hl
  refine lv_aload_n hx hb dX11_key_0 rfl (lv_at hl 0 rfl) ?_
  refine h_geti (C := RX11) (T := TX11) (N := 23) hx hb hts inX11 hown hK hT0 (hM.o rfl) rfl 12 rfl wF_X11_186 rfl dX11_key_1 (fun p1 => ?_)
  refine lv_topi (fun x2 ex2 => ?_)
  refine lv_iconst (v := 2) hx hb dX11_key_4 (by decide) ?_
  refine lv_icmp_eq (tgt := 10) hx hb dX11_key_5 (by decide) (fun c3 => ?_) (fun c3 => ?_)
  · skip
    have c3 : x2.toInt = (2 : Int) := congrArg Int32.toInt c3
    refine lv_iconst (v := 0) hx hb dX11_key_10 (by decide) ?_
    refine lv_istore_n (lv' := [(1, .int 0), (0, .ref (o))]) hx hb dX11_key_11 rfl hl (by decide) rfl (fun ls hl => ?_)
    refine lv_iconst (v := 1) hx hb dX11_key_12 (by decide) ?_
    refine lv_istore_n (lv' := [(2, .int 1), (1, .int 0), (0, .ref (o))]) hx hb dX11_key_13 rfl hl (by decide) rfl (fun ls hl => ?_)
    have LP1 : ∀ (n1 : Nat) (w1_2 : Int32) (w1_1 : Int32), (32 - w1_2.toInt < (n1 : Int)) → (1 ≤ w1_2.toInt) → (w1_2.toInt ≤ 32) → ∀ (locs : List Loc) (ls : Array Slot), va_S (h_A Y) s.heap H0 locs → lv_has ls 6 [(2, .int w1_2), (1, .int w1_1), (0, .ref (o))] → W p l e (h_rm 4 85) s m args below meth c H0 locs 0 0 Q (F0 m 14 ls []) := by
      intro n1
      induction n1 with
      | zero =>
        intro w1_2 w1_1 hm hlo1_2 hhi1_2
        intros
        exfalso
        have := Int32.toInt_lt w1_2; have := Int32.le_toInt w1_2
        have := Int32.toInt_lt w1_1; have := Int32.le_toInt w1_1
        omega
      | succ n1 ih1 =>
        intro w1_2 w1_1 hm hlo1_2 hhi1_2  locs ls hS2 hl
        refine lv_iload_n hx hb dX11_key_14 rfl (lv_at hl 0 rfl) ?_
        refine va_ldcS hx hb hown (hZ.2.1 5 _ rfl) dX11_key_15 ?_
        refine h_callWi (rest := [.int w1_2]) (As := []) hx hb hml hown hts hK hT0 hZ (fun _ h => h) hS2 (c_length5 l G Y) trivial wd_J0_length_8abf5 wV_J0_length_8abf5 wL_X11_204 (vk_recv hZ.1 (i := 5) (by decide) hS2) rfl hl.1 rfl (Nat.le_of_ble_eq_true rfl) dX11_key_17 ⟨Nat.le_of_ble_eq_true rfl, Nat.le_of_ble_eq_true rfl⟩ ⟨Nat.zero_le _, Nat.zero_le _⟩ (fun r4 H3 locs hp3 hT3 hS3 hk3 => ?_)
        obtain ⟨hp3, he⟩ := hp3
        have he := he.symm
        subst he
        have hp3 : r4 = 32 := hp3
        subst hp3
        refine lv_icmp_ge (tgt := 133) hx hb dX11_key_20 (by decide) (fun c5 => ?_) (fun c5 => ?_)
        · skip
          have c5 : (32 : Int) ≤ w1_2.toInt := Int32.le_iff_toInt_le.mp c5
          refine lv_iconst (v := (-1)) hx hb dX11_key_133 (by decide) ?_
          exact hret _ _ _ _ _ hT0 hS3 ⟨trivial, rfl⟩ dX11_key_134
        · skip
          have c5 : ¬ (32 : Int) ≤ w1_2.toInt := h_nleI c5
          refine lv_iload_n hx hb dX11_key_23 rfl (lv_at hl 0 rfl) ?_
          refine lv_istore_n (lv' := [(3, .int w1_2), (2, .int w1_2), (1, .int w1_1), (0, .ref (o))]) hx hb dX11_key_24 rfl hl (by decide) rfl (fun ls hl => ?_)
          have LP2 : ∀ (n2 : Nat) (w2_3 : Int32), (31 - w2_3.toInt < (n2 : Int)) → (1 ≤ w2_3.toInt) → (w2_3.toInt ≤ 31) → (w1_2.toInt ≤ w2_3.toInt) → ∀ (locs : List Loc) (ls : Array Slot), va_S (h_A Y) s.heap H0 locs → lv_has ls 6 [(3, .int w2_3), (2, .int w1_2), (1, .int w1_1), (0, .ref (o))] → W p l e (h_rm 4 85) s m args below meth c H0 locs 0 0 Q (F0 m 25 ls []) := by
            intro n2
            induction n2 with
            | zero =>
              intro w2_3 hm hlo2_3 hhi2_3 hv2_0
              intros
              exfalso
              have := Int32.toInt_lt w2_3; have := Int32.le_toInt w2_3
              omega
            | succ n2 ih2 =>
              intro w2_3 hm hlo2_3 hhi2_3 hv2_0  locs ls hS5 hl
              refine va_ldcS hx hb hown (hZ.2.1 5 _ rfl) dX11_key_25 ?_
              refine lv_iload_n hx hb dX11_key_27 rfl (lv_at hl 0 rfl) ?_
              refine h_callWi (rest := []) (As := [.int w2_3]) hx hb hml hown hts hK hT0 hZ (fun _ h => h) hS5 (c_char5 l G Y w2_3 (fun q => absurd (Int32.lt_iff_toInt_lt.mp q) (show ¬ w2_3.toInt < 0 from by omega)) (Int32.lt_iff_toInt_lt.mpr (show w2_3.toInt < 32 from by omega))) trivial wd_J0_charAt_5068e wV_J0_charAt_5068e wL_X11_209 (vk_recv hZ.1 (i := 5) (by decide) hS5) rfl hl.1 rfl (Nat.le_of_ble_eq_true rfl) dX11_key_28 ⟨Nat.le_of_ble_eq_true rfl, Nat.le_of_ble_eq_true rfl⟩ ⟨Nat.zero_le _, Nat.zero_le _⟩ (fun r6 H6 locs hp6 hT6 hS6 hk6 => ?_)
              obtain ⟨hp6, he⟩ := hp6
              have he := he.symm
              subst he
              have hp6 : r6 = h_chr 5 w2_3 := hp6
              have fr6 : w2_3.toInt = 31 → r6.toInt = 32 := fun q => by rw [hp6]; exact h_chr31 _ q
              refine lv_bipush (v := 32) hx hb dX11_key_31 (by decide) ?_
              refine lv_icmp_eq (tgt := 42) hx hb dX11_key_33 (by decide) (fun c7 => ?_) (fun c7 => ?_)
              · skip
                have c7 : r6.toInt = (32 : Int) := congrArg Int32.toInt c7
                refine lv_iload_n hx hb dX11_key_42 rfl (lv_at hl 0 rfl) ?_
                refine lv_iload_n hx hb dX11_key_43 rfl (lv_at hl 1 rfl) ?_
                refine lv_isub hx hb dX11_key_44 ?_
                obtain ⟨x8, qx8, ix8⟩ := h_subX w2_3 w1_2 w2_3.toInt w1_2.toInt rfl rfl (by omega) (by omega)
                refine h_top (v := x8) qx8 ?_
                refine lv_aload_n hx hb dX11_key_45 rfl (lv_at hl 3 rfl) ?_
                refine h_geti (C := RX11) (T := TX11) (N := 23) hx hb hts inX11 hown hK hT0 (hM.o rfl) rfl 14 rfl wF_X11_177 rfl dX11_key_46 (fun p9 => ?_)
                refine lv_topi (fun x10 ex10 => ?_)
                have bx10 : 0 ≤ x10.toInt ∧ x10.toInt ≤ 500 := by rw [ex10]; exact p9
                refine lv_aload_n hx hb dX11_key_49 rfl (lv_at hl 3 rfl) ?_
                refine h_geti (C := RX11) (T := TX11) (N := 23) hx hb hts inX11 hown hK hT0 (hM.o rfl) rfl 13 rfl wF_X11_183 rfl dX11_key_50 (fun p11 => ?_)
                refine lv_topi (fun x12 ex12 => ?_)
                have bx12 : 0 ≤ x12.toInt ∧ x12.toInt ≤ 500 := by rw [ex12]; exact p11
                refine lv_isub hx hb dX11_key_53 ?_
                obtain ⟨x13, qx13, ix13⟩ := h_subX x10 x12 x10.toInt x12.toInt rfl rfl (by omega) (by omega)
                refine h_top (v := x13) qx13 ?_
                refine lv_icmp_ne (tgt := 61) hx hb dX11_key_54 (by decide) (fun c14 => ?_) (fun c14 => ?_)
                · skip
                  have c14 : ¬ x8.toInt = x13.toInt := h_neI c14
                  refine lv_iconst (v := 0) hx hb dX11_key_61 (by decide) ?_
                  refine lv_istore (lv' := [(4, .int 0), (3, .int w2_3), (2, .int w1_2), (1, .int w1_1), (0, .ref (o))]) hx hb dX11_key_62 hl (by decide) rfl (fun ls hl => ?_)
                  refine lv_iconst (v := 0) hx hb dX11_key_64 (by decide) ?_
                  refine lv_istore (lv' := [(5, .int 0), (4, .int 0), (3, .int w2_3), (2, .int w1_2), (1, .int w1_1), (0, .ref (o))]) hx hb dX11_key_65 hl (by decide) rfl (fun ls hl => ?_)
                  have LP3 : ∀ (n3 : Nat) (w3_5 : Int32) (w3_4 : Int32), (2147483647 - w3_5.toInt < (n3 : Int)) → (0 ≤ w3_5.toInt) → ∀ (locs : List Loc) (ls : Array Slot), va_S (h_A Y) s.heap H0 locs → lv_has ls 6 [(5, .int w3_5), (4, .int w3_4), (3, .int w2_3), (2, .int w1_2), (1, .int w1_1), (0, .ref (o))] → W p l e (h_rm 4 85) s m args below meth c H0 locs 0 0 Q (F0 m 67 ls []) := by
                    intro n3
                    induction n3 with
                    | zero =>
                      intro w3_5 w3_4 hm hlo3_5
                      intros
                      exfalso
                      have := Int32.toInt_lt w3_5; have := Int32.le_toInt w3_5
                      have := Int32.toInt_lt w3_4; have := Int32.le_toInt w3_4
                      omega
                    | succ n3 ih3 =>
                      intro w3_5 w3_4 hm hlo3_5  locs ls hS8 hl
                      refine lv_iload hx hb dX11_key_67 (lv_at hl 0 rfl) ?_
                      refine lv_iload_n hx hb dX11_key_69 rfl (lv_at hl 2 rfl) ?_
                      refine lv_iload_n hx hb dX11_key_70 rfl (lv_at hl 3 rfl) ?_
                      refine lv_isub hx hb dX11_key_71 ?_
                      refine h_top (v := x8) (h_subE w2_3 w1_2 x8 w2_3.toInt w1_2.toInt rfl rfl (by omega) (by omega) (by omega)) ?_
                      refine lv_icmp_ge (tgt := 116) hx hb dX11_key_72 (by decide) (fun c15 => ?_) (fun c15 => ?_)
                      · skip
                        have c15 : x8.toInt ≤ w3_5.toInt := Int32.le_iff_toInt_le.mp c15
                        refine lv_iload hx hb dX11_key_116 (lv_at hl 1 rfl) ?_
                        refine lv_if_eq (tgt := 123) hx hb dX11_key_118 (by decide) (fun c16 => ?_) (fun c16 => ?_)
                        · skip
                          have c16 : w3_4.toInt = (0 : Int) := congrArg Int32.toInt c16
                          obtain ⟨x17, ex17⟩ : ∃ y : Int32, y = w1_1 + 1 := ⟨_, rfl⟩
                          refine lv_iinc (v := x17) (lv' := [(1, .int x17), (5, .int w3_5), (4, .int w3_4), (3, .int w2_3), (2, .int w1_2), (0, .ref (o))]) hx hb dX11_key_123 hl (k := 4) rfl (by rw [ex17]; rfl) (by decide) rfl (fun ls hl => ?_)
                          refine lv_iload_n hx hb dX11_key_126 rfl (lv_at hl 3 rfl) ?_
                          refine lv_iconst (v := 1) hx hb dX11_key_127 (by decide) ?_
                          refine lv_iadd hx hb dX11_key_128 ?_
                          obtain ⟨x18, qx18, ix18⟩ := h_addX w2_3 1 w2_3.toInt (1 : Int) rfl rfl (by omega) (by omega)
                          refine h_top (v := x18) qx18 ?_
                          refine lv_istore_n (lv' := [(2, .int x18), (1, .int x17), (5, .int w3_5), (4, .int w3_4), (3, .int w2_3), (0, .ref (o))]) hx hb dX11_key_129 rfl hl (by decide) rfl (fun ls hl => ?_)
                          refine lv_goto (tgt := 14) hx hb dX11_key_130 (by decide) ?_
                          exact ih1 x18 x17 (show 32 - x18.toInt < (n1 : Int) from by omega) (show 1 ≤ x18.toInt from by omega) (show x18.toInt ≤ 32 from by omega) _ _ hS8 (lv_sub hl [0, 1, 5] rfl)
                        · skip
                          have c16 : ¬ w3_4.toInt = (0 : Int) := h_neI c16
                          refine lv_iload_n hx hb dX11_key_121 rfl (lv_at hl 4 rfl) ?_
                          exact hret _ _ _ _ _ hT0 hS8 ⟨trivial, rfl⟩ dX11_key_122
                      · skip
                        have c15 : ¬ x8.toInt ≤ w3_5.toInt := h_nleI c15
                        refine lv_iload hx hb dX11_key_75 (lv_at hl 1 rfl) ?_
                        refine lv_if_eq (tgt := 116) hx hb dX11_key_77 (by decide) (fun c19 => ?_) (fun c19 => ?_)
                        · skip
                          have c19 : w3_4.toInt = (0 : Int) := congrArg Int32.toInt c19
                          refine lv_iload hx hb dX11_key_116 (lv_at hl 1 rfl) ?_
                          refine lv_if_eq (tgt := 123) hx hb dX11_key_118 (by decide) (fun _ => ?_) (fun h => absurd (Int32.toInt_inj.mp (show w3_4.toInt = (0 : Int) from by omega)) h)
                          obtain ⟨x20, ex20⟩ : ∃ y : Int32, y = w1_1 + 1 := ⟨_, rfl⟩
                          refine lv_iinc (v := x20) (lv' := [(1, .int x20), (5, .int w3_5), (4, .int w3_4), (3, .int w2_3), (2, .int w1_2), (0, .ref (o))]) hx hb dX11_key_123 hl (k := 4) rfl (by rw [ex20]; rfl) (by decide) rfl (fun ls hl => ?_)
                          refine lv_iload_n hx hb dX11_key_126 rfl (lv_at hl 3 rfl) ?_
                          refine lv_iconst (v := 1) hx hb dX11_key_127 (by decide) ?_
                          refine lv_iadd hx hb dX11_key_128 ?_
                          obtain ⟨x21, qx21, ix21⟩ := h_addX w2_3 1 w2_3.toInt (1 : Int) rfl rfl (by omega) (by omega)
                          refine h_top (v := x21) qx21 ?_
                          refine lv_istore_n (lv' := [(2, .int x21), (1, .int x20), (5, .int w3_5), (4, .int w3_4), (3, .int w2_3), (0, .ref (o))]) hx hb dX11_key_129 rfl hl (by decide) rfl (fun ls hl => ?_)
                          refine lv_goto (tgt := 14) hx hb dX11_key_130 (by decide) ?_
                          exact ih1 x21 x20 (show 32 - x21.toInt < (n1 : Int) from by omega) (show 1 ≤ x21.toInt from by omega) (show x21.toInt ≤ 32 from by omega) _ _ hS8 (lv_sub hl [0, 1, 5] rfl)
                        · skip
                          have c19 : ¬ w3_4.toInt = (0 : Int) := h_neI c19
                          refine va_ldcS hx hb hown (hZ.2.1 5 _ rfl) dX11_key_80 ?_
                          refine lv_iload_n hx hb dX11_key_82 rfl (lv_at hl 3 rfl) ?_
                          refine lv_iload hx hb dX11_key_83 (lv_at hl 0 rfl) ?_
                          refine lv_iadd hx hb dX11_key_85 ?_
                          obtain ⟨x22, qx22, ix22⟩ := h_addX w1_2 w3_5 w1_2.toInt w3_5.toInt rfl rfl (by omega) (by omega)
                          refine h_top (v := x22) qx22 ?_
                          refine h_callWi (rest := []) (As := [.int x22]) hx hb hml hown hts hK hT0 hZ (fun _ h => h) hS8 (c_char5 l G Y x22 (fun q => absurd (Int32.lt_iff_toInt_lt.mp q) (show ¬ x22.toInt < 0 from by omega)) (Int32.lt_iff_toInt_lt.mpr (show x22.toInt < 32 from by omega))) trivial wd_J0_charAt_5068e wV_J0_charAt_5068e wL_X11_209 (vk_recv hZ.1 (i := 5) (by decide) hS8) rfl hl.1 rfl (Nat.le_of_ble_eq_true rfl) dX11_key_86 ⟨Nat.le_of_ble_eq_true rfl, Nat.le_of_ble_eq_true rfl⟩ ⟨Nat.zero_le _, Nat.zero_le _⟩ (fun r23 H9 locs hp9 hT9 hS9 hk9 => ?_)
                          obtain ⟨hp9, he⟩ := hp9
                          have he := he.symm
                          subst he
                          have hp9 : r23 = h_chr 5 x22 := hp9
                          have fr23 : x22.toInt = 31 → r23.toInt = 32 := fun q => by rw [hp9]; exact h_chr31 _ q
                          refine lv_aload_n hx hb dX11_key_89 rfl (lv_at hl 5 rfl) ?_
                          refine lv_aload_n hx hb dX11_key_90 rfl (lv_at hl 5 rfl) ?_
                          refine h_geti (C := RX11) (T := TX11) (N := 23) hx hb hts inX11 hown hK hT0 (hM.o rfl) rfl 13 rfl wF_X11_183 rfl dX11_key_91 (fun p24 => ?_)
                          refine h_top (v := x12) ex12.symm ?_
                          refine lv_iload hx hb dX11_key_94 (lv_at hl 0 rfl) ?_
                          refine lv_iadd hx hb dX11_key_96 ?_
                          obtain ⟨x25, qx25, ix25⟩ := h_addX x12 w3_5 x12.toInt w3_5.toInt rfl rfl (by omega) (by omega)
                          refine h_top (v := x25) qx25 ?_
                          refine h_callVi (T := TX11) (rest := [.int r23]) (As := [.int x25]) hx hb hml hown hts hK hT0 hZ (fun _ h => h) hS9 (c_X11_byteAt l G Y P (o) hM x25 (show 0 ≤ x25.toInt ∧ x25.toInt ≤ 1000 from by omega)) trivial wd_X11_byteAt wV_X11_byteAt wL_X11_180 (hM.o rfl) rfl rfl hl.1 rfl (Nat.le_of_ble_eq_true rfl) dX11_key_97 ⟨Nat.le_of_ble_eq_true rfl, Nat.le_of_ble_eq_true rfl⟩ ⟨Nat.zero_le _, Nat.zero_le _⟩ (fun r26 H10 locs hp10 hT10 hS10 hk10 => ?_)
                          obtain ⟨hp10, he⟩ := hp10
                          have he := he.symm
                          subst he
                          have f27 : r26.toInt = -1 ∨ x25.toInt ≤ 499 := by have q := hp10; exact q
                          refine lv_icmp_ne (tgt := 107) hx hb dX11_key_100 (by decide) (fun c28 => ?_) (fun c28 => ?_)
                          · skip
                            have c28 : ¬ r23.toInt = r26.toInt := h_neI c28
                            refine lv_iconst (v := 0) hx hb dX11_key_107 (by decide) ?_
                            refine lv_istore (lv' := [(4, .int 0), (5, .int w3_5), (3, .int w2_3), (2, .int w1_2), (1, .int w1_1), (0, .ref (o))]) hx hb dX11_key_108 hl (by decide) rfl (fun ls hl => ?_)
                            obtain ⟨x29, qx29, ix29⟩ := h_addX w3_5 1 w3_5.toInt (1 : Int) rfl rfl (by omega) (by omega)
                            refine lv_iinc (v := x29) (lv' := [(5, .int x29), (4, .int 0), (3, .int w2_3), (2, .int w1_2), (1, .int w1_1), (0, .ref (o))]) hx hb dX11_key_110 hl (k := 1) rfl qx29 (by decide) rfl (fun ls hl => ?_)
                            refine lv_goto (tgt := 67) hx hb dX11_key_113 (by decide) ?_
                            exact ih3 x29 0 (show 2147483647 - x29.toInt < (n3 : Int) from by omega) (show 0 ≤ x29.toInt from by omega) _ _ hS10 (lv_sub hl [0, 1, 2, 3, 4, 5] rfl)
                          · skip
                            have c28 : r23.toInt = r26.toInt := congrArg Int32.toInt c28
                            refine lv_iconst (v := 1) hx hb dX11_key_103 (by decide) ?_
                            refine lv_goto (tgt := 108) hx hb dX11_key_104 (by decide) ?_
                            refine lv_istore (lv' := [(4, .int 1), (5, .int w3_5), (3, .int w2_3), (2, .int w1_2), (1, .int w1_1), (0, .ref (o))]) hx hb dX11_key_108 hl (by decide) rfl (fun ls hl => ?_)
                            obtain ⟨x30, qx30, ix30⟩ := h_addX w3_5 1 w3_5.toInt (1 : Int) rfl rfl (by omega) (by omega)
                            refine lv_iinc (v := x30) (lv' := [(5, .int x30), (4, .int 1), (3, .int w2_3), (2, .int w1_2), (1, .int w1_1), (0, .ref (o))]) hx hb dX11_key_110 hl (k := 1) rfl qx30 (by decide) rfl (fun ls hl => ?_)
                            refine lv_goto (tgt := 67) hx hb dX11_key_113 (by decide) ?_
                            exact ih3 x30 1 (show 2147483647 - x30.toInt < (n3 : Int) from by omega) (show 0 ≤ x30.toInt from by omega) _ _ hS10 (lv_sub hl [0, 1, 2, 3, 4, 5] rfl)
                  exact LP3 4294967296 0 0 (show 2147483647 - (0 : Int) < ((4294967296 : Nat) : Int) from by omega) (show 0 ≤ (0 : Int) from by omega) _ _ hS6 (lv_sub hl [0, 1, 2, 3, 4, 5] rfl)
                · skip
                  have c14 : x8.toInt = x13.toInt := congrArg Int32.toInt c14
                  refine lv_iconst (v := 1) hx hb dX11_key_57 (by decide) ?_
                  refine lv_goto (tgt := 62) hx hb dX11_key_58 (by decide) ?_
                  refine lv_istore (lv' := [(4, .int 1), (3, .int w2_3), (2, .int w1_2), (1, .int w1_1), (0, .ref (o))]) hx hb dX11_key_62 hl (by decide) rfl (fun ls hl => ?_)
                  refine lv_iconst (v := 0) hx hb dX11_key_64 (by decide) ?_
                  refine lv_istore (lv' := [(5, .int 0), (4, .int 1), (3, .int w2_3), (2, .int w1_2), (1, .int w1_1), (0, .ref (o))]) hx hb dX11_key_65 hl (by decide) rfl (fun ls hl => ?_)
                  have LP4 : ∀ (n4 : Nat) (w4_5 : Int32) (w4_4 : Int32), (2147483647 - w4_5.toInt < (n4 : Int)) → (0 ≤ w4_5.toInt) → ∀ (locs : List Loc) (ls : Array Slot), va_S (h_A Y) s.heap H0 locs → lv_has ls 6 [(5, .int w4_5), (4, .int w4_4), (3, .int w2_3), (2, .int w1_2), (1, .int w1_1), (0, .ref (o))] → W p l e (h_rm 4 85) s m args below meth c H0 locs 0 0 Q (F0 m 67 ls []) := by
                    intro n4
                    induction n4 with
                    | zero =>
                      intro w4_5 w4_4 hm hlo4_5
                      intros
                      exfalso
                      have := Int32.toInt_lt w4_5; have := Int32.le_toInt w4_5
                      have := Int32.toInt_lt w4_4; have := Int32.le_toInt w4_4
                      omega
                    | succ n4 ih4 =>
                      intro w4_5 w4_4 hm hlo4_5  locs ls hS12 hl
                      refine lv_iload hx hb dX11_key_67 (lv_at hl 0 rfl) ?_
                      refine lv_iload_n hx hb dX11_key_69 rfl (lv_at hl 2 rfl) ?_
                      refine lv_iload_n hx hb dX11_key_70 rfl (lv_at hl 3 rfl) ?_
                      refine lv_isub hx hb dX11_key_71 ?_
                      refine h_top (v := x8) (h_subE w2_3 w1_2 x8 w2_3.toInt w1_2.toInt rfl rfl (by omega) (by omega) (by omega)) ?_
                      refine lv_icmp_ge (tgt := 116) hx hb dX11_key_72 (by decide) (fun c31 => ?_) (fun c31 => ?_)
                      · skip
                        have c31 : x8.toInt ≤ w4_5.toInt := Int32.le_iff_toInt_le.mp c31
                        refine lv_iload hx hb dX11_key_116 (lv_at hl 1 rfl) ?_
                        refine lv_if_eq (tgt := 123) hx hb dX11_key_118 (by decide) (fun c32 => ?_) (fun c32 => ?_)
                        · skip
                          have c32 : w4_4.toInt = (0 : Int) := congrArg Int32.toInt c32
                          obtain ⟨x33, ex33⟩ : ∃ y : Int32, y = w1_1 + 1 := ⟨_, rfl⟩
                          refine lv_iinc (v := x33) (lv' := [(1, .int x33), (5, .int w4_5), (4, .int w4_4), (3, .int w2_3), (2, .int w1_2), (0, .ref (o))]) hx hb dX11_key_123 hl (k := 4) rfl (by rw [ex33]; rfl) (by decide) rfl (fun ls hl => ?_)
                          refine lv_iload_n hx hb dX11_key_126 rfl (lv_at hl 3 rfl) ?_
                          refine lv_iconst (v := 1) hx hb dX11_key_127 (by decide) ?_
                          refine lv_iadd hx hb dX11_key_128 ?_
                          obtain ⟨x34, qx34, ix34⟩ := h_addX w2_3 1 w2_3.toInt (1 : Int) rfl rfl (by omega) (by omega)
                          refine h_top (v := x34) qx34 ?_
                          refine lv_istore_n (lv' := [(2, .int x34), (1, .int x33), (5, .int w4_5), (4, .int w4_4), (3, .int w2_3), (0, .ref (o))]) hx hb dX11_key_129 rfl hl (by decide) rfl (fun ls hl => ?_)
                          refine lv_goto (tgt := 14) hx hb dX11_key_130 (by decide) ?_
                          exact ih1 x34 x33 (show 32 - x34.toInt < (n1 : Int) from by omega) (show 1 ≤ x34.toInt from by omega) (show x34.toInt ≤ 32 from by omega) _ _ hS12 (lv_sub hl [0, 1, 5] rfl)
                        · skip
                          have c32 : ¬ w4_4.toInt = (0 : Int) := h_neI c32
                          refine lv_iload_n hx hb dX11_key_121 rfl (lv_at hl 4 rfl) ?_
                          exact hret _ _ _ _ _ hT0 hS12 ⟨trivial, rfl⟩ dX11_key_122
                      · skip
                        have c31 : ¬ x8.toInt ≤ w4_5.toInt := h_nleI c31
                        refine lv_iload hx hb dX11_key_75 (lv_at hl 1 rfl) ?_
                        refine lv_if_eq (tgt := 116) hx hb dX11_key_77 (by decide) (fun c35 => ?_) (fun c35 => ?_)
                        · skip
                          have c35 : w4_4.toInt = (0 : Int) := congrArg Int32.toInt c35
                          refine lv_iload hx hb dX11_key_116 (lv_at hl 1 rfl) ?_
                          refine lv_if_eq (tgt := 123) hx hb dX11_key_118 (by decide) (fun _ => ?_) (fun h => absurd (Int32.toInt_inj.mp (show w4_4.toInt = (0 : Int) from by omega)) h)
                          obtain ⟨x36, ex36⟩ : ∃ y : Int32, y = w1_1 + 1 := ⟨_, rfl⟩
                          refine lv_iinc (v := x36) (lv' := [(1, .int x36), (5, .int w4_5), (4, .int w4_4), (3, .int w2_3), (2, .int w1_2), (0, .ref (o))]) hx hb dX11_key_123 hl (k := 4) rfl (by rw [ex36]; rfl) (by decide) rfl (fun ls hl => ?_)
                          refine lv_iload_n hx hb dX11_key_126 rfl (lv_at hl 3 rfl) ?_
                          refine lv_iconst (v := 1) hx hb dX11_key_127 (by decide) ?_
                          refine lv_iadd hx hb dX11_key_128 ?_
                          obtain ⟨x37, qx37, ix37⟩ := h_addX w2_3 1 w2_3.toInt (1 : Int) rfl rfl (by omega) (by omega)
                          refine h_top (v := x37) qx37 ?_
                          refine lv_istore_n (lv' := [(2, .int x37), (1, .int x36), (5, .int w4_5), (4, .int w4_4), (3, .int w2_3), (0, .ref (o))]) hx hb dX11_key_129 rfl hl (by decide) rfl (fun ls hl => ?_)
                          refine lv_goto (tgt := 14) hx hb dX11_key_130 (by decide) ?_
                          exact ih1 x37 x36 (show 32 - x37.toInt < (n1 : Int) from by omega) (show 1 ≤ x37.toInt from by omega) (show x37.toInt ≤ 32 from by omega) _ _ hS12 (lv_sub hl [0, 1, 5] rfl)
                        · skip
                          have c35 : ¬ w4_4.toInt = (0 : Int) := h_neI c35
                          refine va_ldcS hx hb hown (hZ.2.1 5 _ rfl) dX11_key_80 ?_
                          refine lv_iload_n hx hb dX11_key_82 rfl (lv_at hl 3 rfl) ?_
                          refine lv_iload hx hb dX11_key_83 (lv_at hl 0 rfl) ?_
                          refine lv_iadd hx hb dX11_key_85 ?_
                          obtain ⟨x38, qx38, ix38⟩ := h_addX w1_2 w4_5 w1_2.toInt w4_5.toInt rfl rfl (by omega) (by omega)
                          refine h_top (v := x38) qx38 ?_
                          refine h_callWi (rest := []) (As := [.int x38]) hx hb hml hown hts hK hT0 hZ (fun _ h => h) hS12 (c_char5 l G Y x38 (fun q => absurd (Int32.lt_iff_toInt_lt.mp q) (show ¬ x38.toInt < 0 from by omega)) (Int32.lt_iff_toInt_lt.mpr (show x38.toInt < 32 from by omega))) trivial wd_J0_charAt_5068e wV_J0_charAt_5068e wL_X11_209 (vk_recv hZ.1 (i := 5) (by decide) hS12) rfl hl.1 rfl (Nat.le_of_ble_eq_true rfl) dX11_key_86 ⟨Nat.le_of_ble_eq_true rfl, Nat.le_of_ble_eq_true rfl⟩ ⟨Nat.zero_le _, Nat.zero_le _⟩ (fun r39 H13 locs hp13 hT13 hS13 hk13 => ?_)
                          obtain ⟨hp13, he⟩ := hp13
                          have he := he.symm
                          subst he
                          have hp13 : r39 = h_chr 5 x38 := hp13
                          have fr39 : x38.toInt = 31 → r39.toInt = 32 := fun q => by rw [hp13]; exact h_chr31 _ q
                          refine lv_aload_n hx hb dX11_key_89 rfl (lv_at hl 5 rfl) ?_
                          refine lv_aload_n hx hb dX11_key_90 rfl (lv_at hl 5 rfl) ?_
                          refine h_geti (C := RX11) (T := TX11) (N := 23) hx hb hts inX11 hown hK hT0 (hM.o rfl) rfl 13 rfl wF_X11_183 rfl dX11_key_91 (fun p40 => ?_)
                          refine h_top (v := x12) ex12.symm ?_
                          refine lv_iload hx hb dX11_key_94 (lv_at hl 0 rfl) ?_
                          refine lv_iadd hx hb dX11_key_96 ?_
                          obtain ⟨x41, qx41, ix41⟩ := h_addX x12 w4_5 x12.toInt w4_5.toInt rfl rfl (by omega) (by omega)
                          refine h_top (v := x41) qx41 ?_
                          refine h_callVi (T := TX11) (rest := [.int r39]) (As := [.int x41]) hx hb hml hown hts hK hT0 hZ (fun _ h => h) hS13 (c_X11_byteAt l G Y P (o) hM x41 (show 0 ≤ x41.toInt ∧ x41.toInt ≤ 1000 from by omega)) trivial wd_X11_byteAt wV_X11_byteAt wL_X11_180 (hM.o rfl) rfl rfl hl.1 rfl (Nat.le_of_ble_eq_true rfl) dX11_key_97 ⟨Nat.le_of_ble_eq_true rfl, Nat.le_of_ble_eq_true rfl⟩ ⟨Nat.zero_le _, Nat.zero_le _⟩ (fun r42 H14 locs hp14 hT14 hS14 hk14 => ?_)
                          obtain ⟨hp14, he⟩ := hp14
                          have he := he.symm
                          subst he
                          have f43 : r42.toInt = -1 ∨ x41.toInt ≤ 499 := by have q := hp14; exact q
                          refine lv_icmp_ne (tgt := 107) hx hb dX11_key_100 (by decide) (fun c44 => ?_) (fun c44 => ?_)
                          · skip
                            have c44 : ¬ r39.toInt = r42.toInt := h_neI c44
                            refine lv_iconst (v := 0) hx hb dX11_key_107 (by decide) ?_
                            refine lv_istore (lv' := [(4, .int 0), (5, .int w4_5), (3, .int w2_3), (2, .int w1_2), (1, .int w1_1), (0, .ref (o))]) hx hb dX11_key_108 hl (by decide) rfl (fun ls hl => ?_)
                            obtain ⟨x45, qx45, ix45⟩ := h_addX w4_5 1 w4_5.toInt (1 : Int) rfl rfl (by omega) (by omega)
                            refine lv_iinc (v := x45) (lv' := [(5, .int x45), (4, .int 0), (3, .int w2_3), (2, .int w1_2), (1, .int w1_1), (0, .ref (o))]) hx hb dX11_key_110 hl (k := 1) rfl qx45 (by decide) rfl (fun ls hl => ?_)
                            refine lv_goto (tgt := 67) hx hb dX11_key_113 (by decide) ?_
                            exact ih4 x45 0 (show 2147483647 - x45.toInt < (n4 : Int) from by omega) (show 0 ≤ x45.toInt from by omega) _ _ hS14 (lv_sub hl [0, 1, 2, 3, 4, 5] rfl)
                          · skip
                            have c44 : r39.toInt = r42.toInt := congrArg Int32.toInt c44
                            refine lv_iconst (v := 1) hx hb dX11_key_103 (by decide) ?_
                            refine lv_goto (tgt := 108) hx hb dX11_key_104 (by decide) ?_
                            refine lv_istore (lv' := [(4, .int 1), (5, .int w4_5), (3, .int w2_3), (2, .int w1_2), (1, .int w1_1), (0, .ref (o))]) hx hb dX11_key_108 hl (by decide) rfl (fun ls hl => ?_)
                            obtain ⟨x46, qx46, ix46⟩ := h_addX w4_5 1 w4_5.toInt (1 : Int) rfl rfl (by omega) (by omega)
                            refine lv_iinc (v := x46) (lv' := [(5, .int x46), (4, .int 1), (3, .int w2_3), (2, .int w1_2), (1, .int w1_1), (0, .ref (o))]) hx hb dX11_key_110 hl (k := 1) rfl qx46 (by decide) rfl (fun ls hl => ?_)
                            refine lv_goto (tgt := 67) hx hb dX11_key_113 (by decide) ?_
                            exact ih4 x46 1 (show 2147483647 - x46.toInt < (n4 : Int) from by omega) (show 0 ≤ x46.toInt from by omega) _ _ hS14 (lv_sub hl [0, 1, 2, 3, 4, 5] rfl)
                  exact LP4 4294967296 0 1 (show 2147483647 - (0 : Int) < ((4294967296 : Nat) : Int) from by omega) (show 0 ≤ (0 : Int) from by omega) _ _ hS6 (lv_sub hl [0, 1, 2, 3, 4, 5] rfl)
              · skip
                have c7 : ¬ r6.toInt = (32 : Int) := h_neI c7
                obtain ⟨x47, qx47, ix47⟩ := h_addX w2_3 1 w2_3.toInt (1 : Int) rfl rfl (by omega) (by omega)
                refine lv_iinc (v := x47) (lv' := [(3, .int x47), (2, .int w1_2), (1, .int w1_1), (0, .ref (o))]) hx hb dX11_key_36 hl (k := 0) rfl qx47 (by decide) rfl (fun ls hl => ?_)
                refine lv_goto (tgt := 25) hx hb dX11_key_39 (by decide) ?_
                exact ih2 x47 (show 31 - x47.toInt < (n2 : Int) from by omega) (show 1 ≤ x47.toInt from by omega) (show x47.toInt ≤ 31 from by omega) (show w1_2.toInt ≤ x47.toInt from by omega) _ _ hS6 (lv_sub hl [0, 1, 2, 3] rfl)
          exact LP2 4294967296 w1_2 (show 31 - w1_2.toInt < ((4294967296 : Nat) : Int) from by have := Int32.le_toInt w1_2; have := Int32.toInt_lt w1_2; omega) (show 1 ≤ w1_2.toInt from by omega) (show w1_2.toInt ≤ 31 from by omega) (show w1_2.toInt ≤ w1_2.toInt from by omega) _ _ hS3 (lv_sub hl [0, 1, 2, 3] rfl)
    exact LP1 4294967296 1 0 (show 32 - (1 : Int) < ((4294967296 : Nat) : Int) from by omega) (show 1 ≤ (1 : Int) from by omega) (show (1 : Int) ≤ 32 from by omega) _ _ hS0 (lv_sub hl [0, 1, 2] rfl)
  · skip
    have c3 : ¬ x2.toInt = (2 : Int) := h_neI c3
    refine lv_iconst (v := (-1)) hx hb dX11_key_8 (by decide) ?_
    exact hret _ _ _ _ _ hT0 hS0 ⟨trivial, rfl⟩ dX11_key_9
set_option maxHeartbeats 4000000 in
set_option maxRecDepth 100000 in
theorem c_X11_isName (l : Launch) (G : hG) (Y : hW) (P : Int32 → Prop) (o : Nat) (hM : h_On Y o (modE (tM P) o)) : hMi l yX11_isName cX11_isName 1 (some .boolean) 5 110 G Y [.ref (o)] (fun H => True) (fun H r H1 => ((r = 0 ∨ r = 1) ∧ (True)) ∧ H1 = H) := by
  refine h_ofz (by decide +kernel) (Nat.le_of_ble_eq_true rfl) ?_
  intro p e s m args below meth c H0 ls Q hx hb hts hown hml hK hZ hT0 hpr hS0 hl hret
  have hl : lv_has ls 1 [(0, .ref (o))] := hl
  refine lv_aload_n hx hb dX11_isName_0 rfl (lv_at hl 0 rfl) ?_
  refine h_geti (C := RX11) (T := TX11) (N := 23) hx hb hts inX11 hown hK hT0 (hM.o rfl) rfl 12 rfl wF_X11_186 rfl dX11_isName_1 (fun p1 => ?_)
  refine lv_topi (fun x2 ex2 => ?_)
  refine lv_iconst (v := 2) hx hb dX11_isName_4 (by decide) ?_
  refine lv_icmp_ne (tgt := 34) hx hb dX11_isName_5 (by decide) (fun c3 => ?_) (fun c3 => ?_)
  · skip
    have c3 : ¬ x2.toInt = (2 : Int) := h_neI c3
    refine lv_iconst (v := 0) hx hb dX11_isName_34 (by decide) ?_
    exact hret _ _ _ _ _ hT0 hS0 ⟨(by decide), ⟨⟨(by decide), trivial⟩, rfl⟩⟩ dX11_isName_35
  · skip
    have c3 : x2.toInt = (2 : Int) := congrArg Int32.toInt c3
    refine lv_aload_n hx hb dX11_isName_8 rfl (lv_at hl 0 rfl) ?_
    refine h_geti (C := RX11) (T := TX11) (N := 23) hx hb hts inX11 hown hK hT0 (hM.o rfl) rfl 14 rfl wF_X11_177 rfl dX11_isName_9 (fun p4 => ?_)
    refine lv_topi (fun x5 ex5 => ?_)
    have bx5 : 0 ≤ x5.toInt ∧ x5.toInt ≤ 500 := by rw [ex5]; exact p4
    refine lv_aload_n hx hb dX11_isName_12 rfl (lv_at hl 0 rfl) ?_
    refine h_geti (C := RX11) (T := TX11) (N := 23) hx hb hts inX11 hown hK hT0 (hM.o rfl) rfl 13 rfl wF_X11_183 rfl dX11_isName_13 (fun p6 => ?_)
    refine lv_topi (fun x7 ex7 => ?_)
    have bx7 : 0 ≤ x7.toInt ∧ x7.toInt ≤ 500 := by rw [ex7]; exact p6
    refine lv_isub hx hb dX11_isName_16 ?_
    obtain ⟨x8, qx8, ix8⟩ := h_subX x5 x7 x5.toInt x7.toInt rfl rfl (by omega) (by omega)
    refine h_top (v := x8) qx8 ?_
    refine lv_bipush (v := 8) hx hb dX11_isName_17 (by decide) ?_
    refine lv_icmp_gt (tgt := 34) hx hb dX11_isName_19 (by decide) (fun c9 => ?_) (fun c9 => ?_)
    · skip
      have c9 : (8 : Int) < x8.toInt := Int32.lt_iff_toInt_lt.mp c9
      refine lv_iconst (v := 0) hx hb dX11_isName_34 (by decide) ?_
      exact hret _ _ _ _ _ hT0 hS0 ⟨(by decide), ⟨⟨(by decide), trivial⟩, rfl⟩⟩ dX11_isName_35
    · skip
      have c9 : ¬ (8 : Int) < x8.toInt := h_nltI c9
      refine lv_aload_n hx hb dX11_isName_22 rfl (lv_at hl 0 rfl) ?_
      refine h_callVi (T := TX11) (rest := []) (As := []) hx hb hml hown hts hK hT0 hZ (fun _ h => h) hS0 (c_X11_key l G Y P (o) hM) trivial wd_X11_key wV_X11_key wL_X11_216 (hM.o rfl) rfl rfl hl.1 rfl (Nat.le_of_ble_eq_true rfl) dX11_isName_23 ⟨Nat.le_of_ble_eq_true rfl, Nat.le_of_ble_eq_true rfl⟩ ⟨Nat.zero_le _, Nat.zero_le _⟩ (fun r10 H1 locs hp1 hT1 hS1 hk1 => ?_)
      obtain ⟨hp1, he⟩ := hp1
      have he := he.symm
      subst he
      refine lv_iconst (v := (-1)) hx hb dX11_isName_26 (by decide) ?_
      refine lv_icmp_ne (tgt := 34) hx hb dX11_isName_27 (by decide) (fun c11 => ?_) (fun c11 => ?_)
      · skip
        have c11 : ¬ r10.toInt = (-1 : Int) := h_neI c11
        refine lv_iconst (v := 0) hx hb dX11_isName_34 (by decide) ?_
        exact hret _ _ _ _ _ hT0 hS1 ⟨(by decide), ⟨⟨(by decide), trivial⟩, rfl⟩⟩ dX11_isName_35
      · skip
        have c11 : r10.toInt = (-1 : Int) := congrArg Int32.toInt c11
        refine lv_iconst (v := 1) hx hb dX11_isName_30 (by decide) ?_
        refine lv_goto (tgt := 35) hx hb dX11_isName_31 (by decide) ?_
        exact hret _ _ _ _ _ hT0 hS1 ⟨(by decide), ⟨⟨(by decide), trivial⟩, rfl⟩⟩ dX11_isName_35
set_option maxHeartbeats 4000000 in
set_option maxRecDepth 100000 in
theorem c_J_max (l : Launch) (G : hG) (Y : hW)  (u1 u2 : Int32) : hMi l yJ9_max_7cf53 cJ9_max_7cf53 2 (some .int) 0 0 G Y [.int u1, .int u2] (fun H => True) (fun H r H1 => (((r.toInt = u1.toInt ∨ r.toInt = u2.toInt) ∧ u1.toInt ≤ r.toInt ∧ u2.toInt ≤ r.toInt)) ∧ H1 = H) := by
  refine h_ofiF (by decide +kernel) (Nat.le_of_ble_eq_true rfl) ?_
  intro p e s m args below meth c H0 ls Q hx hb hts hown hml hK hZ hT0 hpr hS0 hl hret
  have hl : lv_has ls 2 [(0, .int u1), (1, .int u2)] := hl
  refine lv_iload_n hx hb dJ9_max_7cf53_0 rfl (lv_at hl 0 rfl) ?_
  refine lv_iload_n hx hb dJ9_max_7cf53_1 rfl (lv_at hl 1 rfl) ?_
  refine lv_icmp_lt (tgt := 9) hx hb dJ9_max_7cf53_2 (by decide) (fun c1 => ?_) (fun c1 => ?_)
  · skip
    have c1 : u1.toInt < u2.toInt := Int32.lt_iff_toInt_lt.mp c1
    refine lv_iload_n hx hb dJ9_max_7cf53_9 rfl (lv_at hl 1 rfl) ?_
    exact hret _ _ _ _ _ hT0 hS0 ⟨(show ((u2.toInt = u1.toInt ∨ u2.toInt = u2.toInt) ∧ u1.toInt ≤ u2.toInt ∧ u2.toInt ≤ u2.toInt) from by show ((u2.toInt = u1.toInt ∨ u2.toInt = u2.toInt) ∧ u1.toInt ≤ u2.toInt ∧ u2.toInt ≤ u2.toInt); omega), rfl⟩ dJ9_max_7cf53_10
  · skip
    have c1 : ¬ u1.toInt < u2.toInt := h_nltI c1
    refine lv_iload_n hx hb dJ9_max_7cf53_5 rfl (lv_at hl 0 rfl) ?_
    refine lv_goto (tgt := 10) hx hb dJ9_max_7cf53_6 (by decide) ?_
    exact hret _ _ _ _ _ hT0 hS0 ⟨(show ((u1.toInt = u1.toInt ∨ u1.toInt = u2.toInt) ∧ u1.toInt ≤ u1.toInt ∧ u2.toInt ≤ u1.toInt) from by show ((u1.toInt = u1.toInt ∨ u1.toInt = u2.toInt) ∧ u1.toInt ≤ u1.toInt ∧ u2.toInt ≤ u1.toInt); omega), rfl⟩ dJ9_max_7cf53_10
set_option maxHeartbeats 4000000 in
set_option maxRecDepth 100000 in
theorem c_J_min (l : Launch) (G : hG) (Y : hW)  (u1 u2 : Int32) : hMi l yJ9_min_7cf53 cJ9_min_7cf53 2 (some .int) 0 0 G Y [.int u1, .int u2] (fun H => True) (fun H r H1 => (((r.toInt = u1.toInt ∨ r.toInt = u2.toInt) ∧ r.toInt ≤ u1.toInt ∧ r.toInt ≤ u2.toInt)) ∧ H1 = H) := by
  refine h_ofiF (by decide +kernel) (Nat.le_of_ble_eq_true rfl) ?_
  intro p e s m args below meth c H0 ls Q hx hb hts hown hml hK hZ hT0 hpr hS0 hl hret
  have hl : lv_has ls 2 [(0, .int u1), (1, .int u2)] := hl
  refine lv_iload_n hx hb dJ9_min_7cf53_0 rfl (lv_at hl 0 rfl) ?_
  refine lv_iload_n hx hb dJ9_min_7cf53_1 rfl (lv_at hl 1 rfl) ?_
  refine lv_icmp_gt (tgt := 9) hx hb dJ9_min_7cf53_2 (by decide) (fun c1 => ?_) (fun c1 => ?_)
  · skip
    have c1 : u2.toInt < u1.toInt := Int32.lt_iff_toInt_lt.mp c1
    refine lv_iload_n hx hb dJ9_min_7cf53_9 rfl (lv_at hl 1 rfl) ?_
    exact hret _ _ _ _ _ hT0 hS0 ⟨(show ((u2.toInt = u1.toInt ∨ u2.toInt = u2.toInt) ∧ u2.toInt ≤ u1.toInt ∧ u2.toInt ≤ u2.toInt) from by show ((u2.toInt = u1.toInt ∨ u2.toInt = u2.toInt) ∧ u2.toInt ≤ u1.toInt ∧ u2.toInt ≤ u2.toInt); omega), rfl⟩ dJ9_min_7cf53_10
  · skip
    have c1 : ¬ u2.toInt < u1.toInt := h_nltI c1
    refine lv_iload_n hx hb dJ9_min_7cf53_5 rfl (lv_at hl 0 rfl) ?_
    refine lv_goto (tgt := 10) hx hb dJ9_min_7cf53_6 (by decide) ?_
    exact hret _ _ _ _ _ hT0 hS0 ⟨(show ((u1.toInt = u1.toInt ∨ u1.toInt = u2.toInt) ∧ u1.toInt ≤ u1.toInt ∧ u1.toInt ≤ u2.toInt) from by show ((u1.toInt = u1.toInt ∨ u1.toInt = u2.toInt) ∧ u1.toInt ≤ u1.toInt ∧ u1.toInt ≤ u2.toInt); omega), rfl⟩ dJ9_min_7cf53_10
