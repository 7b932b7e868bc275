set_option maxHeartbeats 4000000 in
set_option maxRecDepth 100000 in
theorem c_X11_begins (l : Launch) (G : hG) (Y : hW) (P : Int32 → Prop) (o : Nat) (hM : h_On Y o (modE (tM P) o)) : hMv l yX11_begins cX11_begins 2 none 1 22 G Y [.ref (o)] (fun H => True) (fun H H1 => (True) ∧ (mR o H1 ∧ mW o H H1 ∧ ∀ q : Nat, q ≠ o + 1 → H1[q]? = H[q]?)) := by
  refine h_ofv (by decide +kernel) (Nat.le_of_ble_eq_true rfl) ?_
  intro p e s m args below meth c H0 ls Q hx hb hts hown hml hK hZ hT0 hpr hS0 hl hret
  have hl : lv_has ls 2 [(0, .ref (o))] := hl
  refine lv_iconst (v := 0) hx hb dX11_begins_0 (by decide) ?_
  refine lv_istore_n (lv' := [(1, .int 0), (0, .ref (o))]) hx hb dX11_begins_1 rfl hl (by decide) rfl (fun ls hl => ?_)
  have LP1 : ∀ (n1 : Nat) (w1_1 : Int32) (H1 : Heap), (2147483647 - w1_1.toInt < (n1 : Int)) → (0 ≤ w1_1.toInt) → (hT G Y H1) → (∀ j : Nat, 600 ≤ j → h_ai H1 (o + 1) j = h_ai H0 (o + 1) j) → (∀ q : Nat, q ≠ o + 1 → H1[q]? = H0[q]?) → (∀ j : Nat, (j : Int) < w1_1.toInt → h_ai H1 (o + 1) j = 0) → ∀ (locs : List Loc) (ls : Array Slot), va_S (h_A Y) s.heap H1 locs → lv_has ls 2 [(1, .int w1_1), (0, .ref (o))] → W p l e (h_rm 1 22) s m args below meth c H1 locs 0 0 Q (F0 m 2 ls []) := by
    intro n1
    induction n1 with
    | zero =>
      intro w1_1 H1 hm hlo1_1
      intros
      exfalso
      have := Int32.toInt_lt w1_1; have := Int32.le_toInt w1_1
      omega
    | succ n1 ih1 =>
      intro w1_1 H1 hm hlo1_1 hT1 z1 z2 hh1_0 locs ls hS1 hl
      refine lv_iload_n hx hb dX11_begins_2 rfl (lv_at hl 0 rfl) ?_
      refine lv_sipush (v := 600) hx hb dX11_begins_3 (by decide) ?_
      refine lv_icmp_ge (tgt := 21) hx hb dX11_begins_6 (by decide) (fun c3 => ?_) (fun c3 => ?_)
      · skip
        have c3 : (600 : Int) ≤ w1_1.toInt := Int32.le_iff_toInt_le.mp c3
        refine lv_aload_n hx hb dX11_begins_21 rfl (lv_at hl 1 rfl) ?_
        refine lv_iconst (v := 1) hx hb dX11_begins_22 (by decide) ?_
        refine lv_iconst (v := (-1)) hx hb dX11_begins_23 (by decide) ?_
        refine h_callVv (T := TX11) (rest := []) (As := [.int 1, .int (-1)]) hx hb hml hown hts hK hT1 hZ (fun _ h => h) hS1 (c_puts l G Y P (o) hM 1 (-1) 1 (by decide) (h_inc (by decide)) (mP_of1 (by omega) (show -1 ≤ (-1 : Int) from by omega) (show (-1 : Int) ≤ 7 from by omega))) trivial wd_X11_puts wV_X11_puts wL_X11_43 (hM.o rfl) rfl rfl hl.1 rfl (Nat.le_of_ble_eq_true rfl) dX11_begins_24 ⟨Nat.le_of_ble_eq_true rfl, Nat.le_of_ble_eq_true rfl⟩ ⟨Nat.zero_le _, Nat.zero_le _⟩ (fun H3 locs hp3 hT3 hS3 hk3 => ?_)
        have hp3 : h_apu H1 H3 (o + 1) 1 (.int (-1)) := hp3.2
        have z4 : ∀ j : Nat, 600 ≤ j → h_ai H3 (o + 1) j = h_ai H0 (o + 1) j := fun j hj => (h_apn hp3 (by omega)).trans (z1 j hj)
        have z5 : ∀ q : Nat, q ≠ o + 1 → H3[q]? = H0[q]? := fun q hq => (hp3.2.1 q hq).trans (z2 q hq)
        have m6 : h_ai H3 (o + 1) 1 = (-1) := h_aps hp3
        refine lv_aload_n hx hb dX11_begins_27 rfl (lv_at hl 1 rfl) ?_
        refine lv_bipush (v := 16) hx hb dX11_begins_28 (by decide) ?_
        refine lv_iconst (v := (-1)) hx hb dX11_begins_30 (by decide) ?_
        obtain ⟨v7, mv7⟩ : ∃ x, h_ai H3 (o + 1) 0 = x := ⟨_, rfl⟩
        have bv7 := mP_N (mP_cell hM hT3 (j := 0) (by omega)) (by omega)
        rw [mv7] at bv7
        refine h_callVv (T := TX11) (rest := []) (As := [.int 16, .int (-1)]) hx hb hml hown hts hK hT3 hZ (fun _ h => h) hS3 (c_puts l G Y P (o) hM 16 (-1) 16 (by decide) (h_inc (by decide)) (mP_of1 (by omega) (show -1 ≤ (-1 : Int) from by omega) (show (-1 : Int) ≤ 7 from by omega))) trivial wd_X11_puts wV_X11_puts wL_X11_43 (hM.o rfl) rfl rfl hl.1 rfl (Nat.le_of_ble_eq_true rfl) dX11_begins_31 ⟨Nat.le_of_ble_eq_true rfl, Nat.le_of_ble_eq_true rfl⟩ ⟨Nat.zero_le _, Nat.zero_le _⟩ (fun H4 locs hp4 hT4 hS4 hk4 => ?_)
        have hp4 : h_apu H3 H4 (o + 1) 16 (.int (-1)) := hp4.2
        have z8 : ∀ j : Nat, 600 ≤ j → h_ai H4 (o + 1) j = h_ai H0 (o + 1) j := fun j hj => (h_apn hp4 (by omega)).trans (z4 j hj)
        have z9 : ∀ q : Nat, q ≠ o + 1 → H4[q]? = H0[q]? := fun q hq => (hp4.2.1 q hq).trans (z5 q hq)
        have m10 : h_ai H4 (o + 1) 1 = (-1) := (h_apn hp4 (by omega)).trans m6
        have m11 : h_ai H4 (o + 1) 0 = v7 := (h_apn hp4 (by omega)).trans mv7
        have m12 : h_ai H4 (o + 1) 16 = (-1) := h_aps hp4
        have c0 : ∀ j : Nat, j < 600 → j ≠ 1 → j ≠ 16 → h_ai H4 (o + 1) j = 0 := fun j hj h1 h2 => (h_apn hp4 h2).trans ((h_apn hp3 h1).trans (hh1_0 j (by omega)))
        have R13 : mR o H4 := ⟨RR_zero (fun s hs => by show (h_ai H4 (o + 1) (88 + s)).toInt ≤ 0; rw [c0 _ (by omega) (by omega) (by omega)]; decide) (by show 0 ≤ (h_ai H4 (o + 1) 7).toInt; rw [c0 7 (by omega) (by omega) (by omega)]; decide), by show (h_ai H4 (o + 1) 16).toInt < (h_ai H4 (o + 1) 0).toInt; rw [h_aps hp4, c0 0 (by omega) (by omega) (by omega)]; decide⟩
        exact hret _ _ _ _ hT4 hS4 ⟨trivial, ⟨R13, z8, z9⟩⟩ dX11_begins_34
      · skip
        have c3 : ¬ (600 : Int) ≤ w1_1.toInt := h_nleI c3
        refine lv_aload_n hx hb dX11_begins_9 rfl (lv_at hl 1 rfl) ?_
        refine lv_iload_n hx hb dX11_begins_10 rfl (lv_at hl 0 rfl) ?_
        refine lv_iconst (v := 0) hx hb dX11_begins_11 (by decide) ?_
        refine h_callVv (T := TX11) (rest := []) (As := [.int w1_1, .int 0]) hx hb hml hown hts hK hT1 hZ (fun _ h => h) hS1 (c_puts l G Y P (o) hM w1_1 0 (w1_1.toInt).toNat (show w1_1.toInt.toNat = (w1_1.toInt).toNat from by omega) (h_vin (by omega) (by omega)) mP_zero) trivial wd_X11_puts wV_X11_puts wL_X11_43 (hM.o rfl) rfl rfl hl.1 rfl (Nat.le_of_ble_eq_true rfl) dX11_begins_12 ⟨Nat.le_of_ble_eq_true rfl, Nat.le_of_ble_eq_true rfl⟩ ⟨Nat.zero_le _, Nat.zero_le _⟩ (fun H5 locs hp5 hT5 hS5 hk5 => ?_)
        have hp5 : h_apu H1 H5 (o + 1) (w1_1.toInt).toNat (.int 0) := hp5.2
        have z14 : ∀ j : Nat, 600 ≤ j → h_ai H5 (o + 1) j = h_ai H0 (o + 1) j := fun j hj => (h_apn hp5 (by omega)).trans (z1 j hj)
        have z15 : ∀ q : Nat, q ≠ o + 1 → H5[q]? = H0[q]? := fun q hq => (hp5.2.1 q hq).trans (z2 q hq)
        have m16 : h_ai H5 (o + 1) (w1_1.toInt).toNat = 0 := h_aps hp5
        obtain ⟨x17, qx17, ix17⟩ := h_addX w1_1 1 w1_1.toInt (1 : Int) rfl rfl (by omega) (by omega)
        refine lv_iinc (v := x17) (lv' := [(1, .int x17), (0, .ref (o))]) hx hb dX11_begins_15 hl (k := 0) rfl qx17 (by decide) rfl (fun ls hl => ?_)
        refine lv_goto (tgt := 2) hx hb dX11_begins_18 (by decide) ?_
        exact ih1 x17 _ (show 2147483647 - x17.toInt < (n1 : Int) from by omega) (show 0 ≤ x17.toInt from by omega) hT5 z14 z15 (fun j hj => if q : j = (w1_1.toInt).toNat then (by rw [q]; exact h_aps hp5) else (h_apn hp5 q).trans (hh1_0 j (by have hj : (j : Int) < x17.toInt := hj; omega))) _ _ hS5 (lv_sub hl [0, 1] rfl)
  exact LP1 4294967296 0 _ (show 2147483647 - (0 : Int) < ((4294967296 : Nat) : Int) from by omega) (show 0 ≤ (0 : Int) from by omega) hT0 (fun _ _ => rfl) (fun _ _ => rfl) (fun j hj => absurd hj (show ¬ (j : Int) < 0 from by omega)) _ _ hS0 (lv_sub hl [0, 1] rfl)
set_option maxHeartbeats 4000000 in
set_option maxRecDepth 100000 in
theorem c_X11_copies (l : Launch) (G : hG) (Y : hW) (P : Int32 → Prop) (o : Nat) (hM : h_On Y o (modE (tM P) o)) (u1 u2 : Int32) (a b : Nat) (ha : u1.toInt = 600 * (a : Int)) (hb2 : u2.toInt = 600 * (b : Int)) (hab : a < 6 ∧ b < 6) (hne : a ≠ b) : hMv l yX11_copies cX11_copies 4 none 0 0 G Y [.ref (o), .int u1, .int u2] (fun H => True) (fun H H1 => (True) ∧ ((∀ j : Nat, j < 600 → h_ai H1 (o + 1) (600 * b + j) = h_ai H (o + 1) (600 * a + j)) ∧ (∀ j : Nat, (j < 600 * b ∨ 600 * b + 600 ≤ j) → h_ai H1 (o + 1) j = h_ai H (o + 1) j) ∧ ∀ q : Nat, q ≠ o + 1 → H1[q]? = H[q]?)) := by
  refine h_ofv (by decide +kernel) (Nat.le_of_ble_eq_true rfl) ?_
  intro p e s m args below meth c H0 ls Q hx hb hts hown hml hK hZ hT0 hpr hS0 hl hret
  have hl : lv_has ls 4 [(0, .ref (o)), (1, .int u1), (2, .int u2)] := hl
  refine lv_iconst (v := 0) hx hb dX11_copies_0 (by decide) ?_
  refine lv_istore_n (lv' := [(3, .int 0), (0, .ref (o)), (1, .int u1), (2, .int u2)]) hx hb dX11_copies_1 rfl hl (by decide) rfl (fun ls hl => ?_)
  have LP1 : ∀ (n1 : Nat) (w1_3 : Int32) (H1 : Heap), (2147483647 - w1_3.toInt < (n1 : Int)) → (0 ≤ w1_3.toInt) → (hT G Y H1) → (∀ q : Nat, q ≠ o + 1 → H1[q]? = H0[q]?) → (∀ j : Nat, (j : Int) < w1_3.toInt → h_ai H1 (o + 1) (600 * b + j) = h_ai H0 (o + 1) (600 * a + j)) → (∀ j : Nat, (j < 600 * b ∨ 600 * b + 600 ≤ j) → h_ai H1 (o + 1) j = h_ai H0 (o + 1) j) → ∀ (locs : List Loc) (ls : Array Slot), va_S (h_A Y) s.heap H1 locs → lv_has ls 4 [(3, .int w1_3), (0, .ref (o)), (1, .int u1), (2, .int u2)] → W p l e (h_rm 0 0) s m args below meth c H1 locs 0 0 Q (F0 m 2 ls []) := by
    intro n1
    induction n1 with
    | zero =>
      intro w1_3 H1 hm hlo1_3
      intros
      exfalso
      have := Int32.toInt_lt w1_3; have := Int32.le_toInt w1_3
      omega
    | succ n1 ih1 =>
      intro w1_3 H1 hm hlo1_3 hT1 z1 hh1_0 hh1_1 locs ls hS1 hl
      refine lv_iload_n hx hb dX11_copies_2 rfl (lv_at hl 0 rfl) ?_
      refine lv_sipush (v := 600) hx hb dX11_copies_3 (by decide) ?_
      refine lv_icmp_ge (tgt := 31) hx hb dX11_copies_6 (by decide) (fun c2 => ?_) (fun c2 => ?_)
      · skip
        have c2 : (600 : Int) ≤ w1_3.toInt := Int32.le_iff_toInt_le.mp c2
        exact hret _ _ _ _ hT1 hS1 ⟨trivial, ⟨fun j hj => hh1_0 j (by omega), hh1_1, z1⟩⟩ dX11_copies_31
      · skip
        have c2 : ¬ (600 : Int) ≤ w1_3.toInt := h_nleI c2
        refine lv_aload_n hx hb dX11_copies_9 rfl (lv_at hl 1 rfl) ?_
        refine h_getr (C := RX11) (T := TX11) (N := 23) hx hb hts inX11 hown hK hT1 (hM.o rfl) rfl 0 rfl wF_X11_7 rfl dX11_copies_10 ?_
        refine lv_iload_n hx hb dX11_copies_13 rfl (lv_at hl 3 rfl) ?_
        refine lv_iload_n hx hb dX11_copies_14 rfl (lv_at hl 0 rfl) ?_
        refine lv_iadd hx hb dX11_copies_15 ?_
        obtain ⟨x3, qx3, ix3⟩ := h_addX u2 w1_3 u2.toInt w1_3.toInt rfl rfl (by omega) (by omega)
        refine h_top (v := x3) qx3 ?_
        refine lv_aload_n hx hb dX11_copies_16 rfl (lv_at hl 1 rfl) ?_
        refine h_getr (C := RX11) (T := TX11) (N := 23) hx hb hts inX11 hown hK hT1 (hM.o rfl) rfl 0 rfl wF_X11_7 rfl dX11_copies_17 ?_
        refine lv_iload_n hx hb dX11_copies_20 rfl (lv_at hl 2 rfl) ?_
        refine lv_iload_n hx hb dX11_copies_21 rfl (lv_at hl 0 rfl) ?_
        refine lv_iadd hx hb dX11_copies_22 ?_
        obtain ⟨x4, qx4, ix4⟩ := h_addX u1 w1_3 u1.toInt w1_3.toInt rfl rfl (by omega) (by omega)
        refine h_top (v := x4) qx4 ?_
        refine h_iald hx hb hK hT1 (hM.at 1 rfl) (h_vin (by omega) (by omega)) dX11_copies_23 (fun p5 => ?_)
        refine lv_topi (fun x6 ex6 => ?_)
        rw [← ex6] at p5
        have p5 : mP x4.toNatClampNeg x6 := p5
        have nx6 : x4.toNatClampNeg = x4.toInt.toNat := rfl
        refine h_iast hx hb hK hT1 (fun _ h => h) hS1 (hM.at 1 rfl) (h_vin (by omega) (by omega)) (by show mP x3.toInt.toNat x6; have q := p5; rw [show x3.toInt.toNat = 600 * b + w1_3.toInt.toNat from by omega]; rw [show x4.toNatClampNeg = 600 * a + w1_3.toInt.toNat from (by show x4.toInt.toNat = _; omega)] at q; exact mP_reg q (by omega)) dX11_copies_24 (fun H3 locs hT3 hS3 hu3 => ?_)
        have hp3 : h_apu H1 H3 (o + 1) (u2.toInt + w1_3.toInt).toNat (.int x6) := by have q := hu3; rw [show x3.toNatClampNeg = (u2.toInt + w1_3.toInt).toNat from (by show x3.toInt.toNat = _; omega)] at q; exact q
        have z7 : ∀ q : Nat, q ≠ o + 1 → H3[q]? = H0[q]? := fun q hq => (hp3.2.1 q hq).trans (z1 q hq)
        obtain ⟨x8, qx8, ix8⟩ := h_addX w1_3 1 w1_3.toInt (1 : Int) rfl rfl (by omega) (by omega)
        refine lv_iinc (v := x8) (lv' := [(3, .int x8), (0, .ref (o)), (1, .int u1), (2, .int u2)]) hx hb dX11_copies_25 hl (k := 0) rfl qx8 (by decide) rfl (fun ls hl => ?_)
        refine lv_goto (tgt := 2) hx hb dX11_copies_28 (by decide) ?_
        exact ih1 x8 _ (show 2147483647 - x8.toInt < (n1 : Int) from by omega) (show 0 ≤ x8.toInt from by omega) hT3 z7 (fun j hj => if q : 600 * b + j = (u2.toInt + w1_3.toInt).toNat then (by rw [q, h_aps hp3, ex6]; exact (hh1_1 _ (by omega)).trans (congrArg (h_ai H0 (o + 1)) (by omega))) else (h_apn hp3 q).trans (hh1_0 j (by have hj : (j : Int) < x8.toInt := hj; omega))) (fun j hj => (h_apn hp3 (by omega)).trans (hh1_1 j hj)) _ _ hS3 (lv_sub hl [0, 1, 2, 3] rfl)
  exact LP1 4294967296 0 _ (show 2147483647 - (0 : Int) < ((4294967296 : Nat) : Int) from by omega) (show 0 ≤ (0 : Int) from by omega) hT0 (fun _ _ => rfl) (fun j hj => absurd hj (show ¬ (j : Int) < 0 from by omega)) (fun _ _ => rfl) _ _ hS0 (lv_sub hl [0, 1, 2, 3] rfl)
set_option maxHeartbeats 4000000 in
set_option maxRecDepth 100000 in
theorem c_X11_four (l : Launch) (G : hG) (Y : hW) (P : Int32 → Prop) (o : Nat) (hM : h_On Y o (modE (tM P) o)) (u1 : Int32) (z : Int32) (hz : 0 ≤ z.toInt ∧ z.toInt ≤ 496) : hMv l yX11_four cX11_four 3 none 0 0 G Y [.ref (o), .int u1] (fun H => h_gi G H 11 o 10 = z) (fun H H1 => ((h_gi G H1 11 o 10).toInt = z.toInt + 4) ∧ (H1[o + 1]? = H[o + 1]?)) := by
  refine h_ofv (by decide +kernel) (Nat.le_of_ble_eq_true rfl) ?_
  intro p e s m args below meth c H0 ls Q hx hb hts hown hml hK hZ hT0 hpr hS0 hl hret
  have hl : lv_has ls 3 [(0, .ref (o)), (1, .int u1)] := hl
  refine lv_iconst (v := 3) hx hb dX11_four_0 (by decide) ?_
  refine lv_istore_n (lv' := [(2, .int 3), (0, .ref (o)), (1, .int u1)]) hx hb dX11_four_1 rfl hl (by decide) rfl (fun ls hl => ?_)
  refine lv_iload_n hx hb dX11_four_2 rfl (lv_at hl 0 rfl) ?_
  refine lv_if_lt (tgt := 38) hx hb dX11_four_3 (by decide) (fun h => absurd h (by decide)) (fun _ => ?_)
  refine lv_aload_n hx hb dX11_four_6 rfl (lv_at hl 1 rfl) ?_
  refine h_getr (C := RX11) (T := TX11) (N := 23) hx hb hts inX11 hown hK hT0 (hM.o rfl) rfl 7 rfl wF_X11_13 rfl dX11_four_7 ?_
  refine lv_aload_n hx hb dX11_four_10 rfl (lv_at hl 1 rfl) ?_
  refine h_geti (C := RX11) (T := TX11) (N := 23) hx hb hts inX11 hown hK hT0 (hM.o rfl) rfl 10 rfl wF_X11_168 rfl dX11_four_11 (fun p2 => ?_)
  refine h_top (v := z) hpr ?_
  refine lv_iload_n hx hb dX11_four_14 rfl (lv_at hl 2 rfl) ?_
  refine lv_bipush (v := 8) hx hb dX11_four_15 (by decide) ?_
  refine lv_iload_n hx hb dX11_four_17 rfl (lv_at hl 0 rfl) ?_
  refine lv_imul hx hb dX11_four_18 ?_
  refine h_top (v := 24) (by decide) ?_
  refine lv_ishr hx hb dX11_four_19 ?_
  refine lv_topi (fun x3 ex3 => ?_)
  refine lv_i2b hx hb dX11_four_20 rfl ?_
  refine lv_topi (fun x4 ex4 => ?_)
  refine h_bast hx hb hK hT0 (fun _ h => h) hS0 (hM.at 2 rfl) (h_vin (by omega) (by omega)) trivial dX11_four_21 (fun H1 locs hT1 hS1 hu1 => ?_)
  have z5 : H1[o + 1]? = H0[o + 1]? := (hu1.2.1 (o + 1) (by omega))
  refine lv_aload_n hx hb dX11_four_22 rfl (lv_at hl 1 rfl) ?_
  refine lv_dup hx hb dX11_four_23 rfl ?_
  refine h_geti (C := RX11) (T := TX11) (N := 23) hx hb hts inX11 hown hK hT1 (hM.o rfl) rfl 10 rfl wF_X11_168 rfl dX11_four_24 (fun p6 => ?_)
  refine h_top (v := z) ((h_gi_same (hu1.2.1 _ (by omega))).trans hpr) ?_
  refine lv_iconst (v := 1) hx hb dX11_four_27 (by decide) ?_
  refine lv_iadd hx hb dX11_four_28 ?_
  obtain ⟨x7, qx7, ix7⟩ := h_addX z 1 z.toInt (1 : Int) rfl rfl (by omega) (by omega)
  refine h_top (v := x7) qx7 ?_
  refine h_puti (C := RX11) (T := TX11) (N := 23) hx hb hts inX11 tyX11 tyX11_ok nmX11 hown hK hT1 (fun _ h => h) hS1 (hM.o rfl) rfl 10 rfl wF_X11_168 rfl rfl (show 0 ≤ x7.toInt ∧ x7.toInt ≤ 500 from by omega) rfl rfl dX11_four_29 (fun H2 locs hT2 hS2 hu2 => ?_)
  have z8 : H2[o + 1]? = H0[o + 1]? := (hu2.2.1 (o + 1) (by omega)).trans z5
  refine lv_iinc (v := 2) (lv' := [(2, .int 2), (0, .ref (o)), (1, .int u1)]) hx hb dX11_four_32 hl (k := 0) rfl (by decide) (by decide) rfl (fun ls hl => ?_)
  refine lv_goto (tgt := 2) hx hb dX11_four_35 (by decide) ?_
  refine lv_iload_n hx hb dX11_four_2 rfl (lv_at hl 0 rfl) ?_
  refine lv_if_lt (tgt := 38) hx hb dX11_four_3 (by decide) (fun h => absurd h (by decide)) (fun _ => ?_)
  refine lv_aload_n hx hb dX11_four_6 rfl (lv_at hl 1 rfl) ?_
  refine h_getr (C := RX11) (T := TX11) (N := 23) hx hb hts inX11 hown hK hT2 (hM.o rfl) rfl 7 rfl wF_X11_13 rfl dX11_four_7 ?_
  refine lv_aload_n hx hb dX11_four_10 rfl (lv_at hl 1 rfl) ?_
  refine h_geti (C := RX11) (T := TX11) (N := 23) hx hb hts inX11 hown hK hT2 (hM.o rfl) rfl 10 rfl wF_X11_168 rfl dX11_four_11 (fun p10 => ?_)
  refine h_top (v := x7) (h_pu hu2) ?_
  refine lv_iload_n hx hb dX11_four_14 rfl (lv_at hl 2 rfl) ?_
  refine lv_bipush (v := 8) hx hb dX11_four_15 (by decide) ?_
  refine lv_iload_n hx hb dX11_four_17 rfl (lv_at hl 0 rfl) ?_
  refine lv_imul hx hb dX11_four_18 ?_
  refine h_top (v := 16) (by decide) ?_
  refine lv_ishr hx hb dX11_four_19 ?_
  refine lv_topi (fun x11 ex11 => ?_)
  refine lv_i2b hx hb dX11_four_20 rfl ?_
  refine lv_topi (fun x12 ex12 => ?_)
  refine h_bast hx hb hK hT2 (fun _ h => h) hS2 (hM.at 2 rfl) (h_vin (by omega) (by omega)) trivial dX11_four_21 (fun H3 locs hT3 hS3 hu3 => ?_)
  have z13 : H3[o + 1]? = H0[o + 1]? := (hu3.2.1 (o + 1) (by omega)).trans z8
  refine lv_aload_n hx hb dX11_four_22 rfl (lv_at hl 1 rfl) ?_
  refine lv_dup hx hb dX11_four_23 rfl ?_
  refine h_geti (C := RX11) (T := TX11) (N := 23) hx hb hts inX11 hown hK hT3 (hM.o rfl) rfl 10 rfl wF_X11_168 rfl dX11_four_24 (fun p14 => ?_)
  refine h_top (v := x7) ((h_gi_same (hu3.2.1 _ (by omega))).trans (h_pu hu2)) ?_
  refine lv_iconst (v := 1) hx hb dX11_four_27 (by decide) ?_
  refine lv_iadd hx hb dX11_four_28 ?_
  obtain ⟨x15, qx15, ix15⟩ := h_addX x7 1 x7.toInt (1 : Int) rfl rfl (by omega) (by omega)
  refine h_top (v := x15) qx15 ?_
  refine h_puti (C := RX11) (T := TX11) (N := 23) hx hb hts inX11 tyX11 tyX11_ok nmX11 hown hK hT3 (fun _ h => h) hS3 (hM.o rfl) rfl 10 rfl wF_X11_168 rfl rfl (show 0 ≤ x15.toInt ∧ x15.toInt ≤ 500 from by omega) rfl rfl dX11_four_29 (fun H4 locs hT4 hS4 hu4 => ?_)
  have z16 : H4[o + 1]? = H0[o + 1]? := (hu4.2.1 (o + 1) (by omega)).trans z13
  refine lv_iinc (v := 1) (lv' := [(2, .int 1), (0, .ref (o)), (1, .int u1)]) hx hb dX11_four_32 hl (k := 0) rfl (by decide) (by decide) rfl (fun ls hl => ?_)
  refine lv_goto (tgt := 2) hx hb dX11_four_35 (by decide) ?_
  refine lv_iload_n hx hb dX11_four_2 rfl (lv_at hl 0 rfl) ?_
  refine lv_if_lt (tgt := 38) hx hb dX11_four_3 (by decide) (fun h => absurd h (by decide)) (fun _ => ?_)
  refine lv_aload_n hx hb dX11_four_6 rfl (lv_at hl 1 rfl) ?_
  refine h_getr (C := RX11) (T := TX11) (N := 23) hx hb hts inX11 hown hK hT4 (hM.o rfl) rfl 7 rfl wF_X11_13 rfl dX11_four_7 ?_
  refine lv_aload_n hx hb dX11_four_10 rfl (lv_at hl 1 rfl) ?_
  refine h_geti (C := RX11) (T := TX11) (N := 23) hx hb hts inX11 hown hK hT4 (hM.o rfl) rfl 10 rfl wF_X11_168 rfl dX11_four_11 (fun p18 => ?_)
  refine h_top (v := x15) (h_pu hu4) ?_
  refine lv_iload_n hx hb dX11_four_14 rfl (lv_at hl 2 rfl) ?_
  refine lv_bipush (v := 8) hx hb dX11_four_15 (by decide) ?_
  refine lv_iload_n hx hb dX11_four_17 rfl (lv_at hl 0 rfl) ?_
  refine lv_imul hx hb dX11_four_18 ?_
  refine h_top (v := 8) (by decide) ?_
  refine lv_ishr hx hb dX11_four_19 ?_
  refine lv_topi (fun x19 ex19 => ?_)
  refine lv_i2b hx hb dX11_four_20 rfl ?_
  refine lv_topi (fun x20 ex20 => ?_)
  refine h_bast hx hb hK hT4 (fun _ h => h) hS4 (hM.at 2 rfl) (h_vin (by omega) (by omega)) trivial dX11_four_21 (fun H5 locs hT5 hS5 hu5 => ?_)
  have z21 : H5[o + 1]? = H0[o + 1]? := (hu5.2.1 (o + 1) (by omega)).trans z16
  refine lv_aload_n hx hb dX11_four_22 rfl (lv_at hl 1 rfl) ?_
  refine lv_dup hx hb dX11_four_23 rfl ?_
  refine h_geti (C := RX11) (T := TX11) (N := 23) hx hb hts inX11 hown hK hT5 (hM.o rfl) rfl 10 rfl wF_X11_168 rfl dX11_four_24 (fun p22 => ?_)
  refine h_top (v := x15) ((h_gi_same (hu5.2.1 _ (by omega))).trans (h_pu hu4)) ?_
  refine lv_iconst (v := 1) hx hb dX11_four_27 (by decide) ?_
  refine lv_iadd hx hb dX11_four_28 ?_
  obtain ⟨x23, qx23, ix23⟩ := h_addX x15 1 x15.toInt (1 : Int) rfl rfl (by omega) (by omega)
  refine h_top (v := x23) qx23 ?_
  refine h_puti (C := RX11) (T := TX11) (N := 23) hx hb hts inX11 tyX11 tyX11_ok nmX11 hown hK hT5 (fun _ h => h) hS5 (hM.o rfl) rfl 10 rfl wF_X11_168 rfl rfl (show 0 ≤ x23.toInt ∧ x23.toInt ≤ 500 from by omega) rfl rfl dX11_four_29 (fun H6 locs hT6 hS6 hu6 => ?_)
  have z24 : H6[o + 1]? = H0[o + 1]? := (hu6.2.1 (o + 1) (by omega)).trans z21
  refine lv_iinc (v := 0) (lv' := [(2, .int 0), (0, .ref (o)), (1, .int u1)]) hx hb dX11_four_32 hl (k := 0) rfl (by decide) (by decide) rfl (fun ls hl => ?_)
  refine lv_goto (tgt := 2) hx hb dX11_four_35 (by decide) ?_
  refine lv_iload_n hx hb dX11_four_2 rfl (lv_at hl 0 rfl) ?_
  refine lv_if_lt (tgt := 38) hx hb dX11_four_3 (by decide) (fun h => absurd h (by decide)) (fun _ => ?_)
  refine lv_aload_n hx hb dX11_four_6 rfl (lv_at hl 1 rfl) ?_
  refine h_getr (C := RX11) (T := TX11) (N := 23) hx hb hts inX11 hown hK hT6 (hM.o rfl) rfl 7 rfl wF_X11_13 rfl dX11_four_7 ?_
  refine lv_aload_n hx hb dX11_four_10 rfl (lv_at hl 1 rfl) ?_
  refine h_geti (C := RX11) (T := TX11) (N := 23) hx hb hts inX11 hown hK hT6 (hM.o rfl) rfl 10 rfl wF_X11_168 rfl dX11_four_11 (fun p26 => ?_)
  refine h_top (v := x23) (h_pu hu6) ?_
  refine lv_iload_n hx hb dX11_four_14 rfl (lv_at hl 2 rfl) ?_
  refine lv_bipush (v := 8) hx hb dX11_four_15 (by decide) ?_
  refine lv_iload_n hx hb dX11_four_17 rfl (lv_at hl 0 rfl) ?_
  refine lv_imul hx hb dX11_four_18 ?_
  refine h_top (v := 0) (by decide) ?_
  refine lv_ishr hx hb dX11_four_19 ?_
  refine lv_topi (fun x27 ex27 => ?_)
  refine lv_i2b hx hb dX11_four_20 rfl ?_
  refine lv_topi (fun x28 ex28 => ?_)
  refine h_bast hx hb hK hT6 (fun _ h => h) hS6 (hM.at 2 rfl) (h_vin (by omega) (by omega)) trivial dX11_four_21 (fun H7 locs hT7 hS7 hu7 => ?_)
  have z29 : H7[o + 1]? = H0[o + 1]? := (hu7.2.1 (o + 1) (by omega)).trans z24
  refine lv_aload_n hx hb dX11_four_22 rfl (lv_at hl 1 rfl) ?_
  refine lv_dup hx hb dX11_four_23 rfl ?_
  refine h_geti (C := RX11) (T := TX11) (N := 23) hx hb hts inX11 hown hK hT7 (hM.o rfl) rfl 10 rfl wF_X11_168 rfl dX11_four_24 (fun p30 => ?_)
  refine h_top (v := x23) ((h_gi_same (hu7.2.1 _ (by omega))).trans (h_pu hu6)) ?_
  refine lv_iconst (v := 1) hx hb dX11_four_27 (by decide) ?_
  refine lv_iadd hx hb dX11_four_28 ?_
  obtain ⟨x31, qx31, ix31⟩ := h_addX x23 1 x23.toInt (1 : Int) rfl rfl (by omega) (by omega)
  refine h_top (v := x31) qx31 ?_
  refine h_puti (C := RX11) (T := TX11) (N := 23) hx hb hts inX11 tyX11 tyX11_ok nmX11 hown hK hT7 (fun _ h => h) hS7 (hM.o rfl) rfl 10 rfl wF_X11_168 rfl rfl (show 0 ≤ x31.toInt ∧ x31.toInt ≤ 500 from by omega) rfl rfl dX11_four_29 (fun H8 locs hT8 hS8 hu8 => ?_)
  have z32 : H8[o + 1]? = H0[o + 1]? := (hu8.2.1 (o + 1) (by omega)).trans z29
  refine lv_iinc (v := (-1)) (lv' := [(2, .int (-1)), (0, .ref (o)), (1, .int u1)]) hx hb dX11_four_32 hl (k := 0) rfl (by decide) (by decide) rfl (fun ls hl => ?_)
  refine lv_goto (tgt := 2) hx hb dX11_four_35 (by decide) ?_
  refine lv_iload_n hx hb dX11_four_2 rfl (lv_at hl 0 rfl) ?_
  refine lv_if_lt (tgt := 38) hx hb dX11_four_3 (by decide) (fun _ => ?_) (fun h => absurd (by decide) h)
  exact hret _ _ _ _ hT8 hS8 ⟨(by rw [(h_pu hu8)]; omega), z32⟩ dX11_four_38
set_option maxHeartbeats 4000000 in
set_option maxRecDepth 100000 in
theorem c_X11_ahead (l : Launch) (G : hG) (Y : hW) (P : Int32 → Prop) (o : Nat) (hM : h_On Y o (modE (tM P) o)) : hMv l yX11_ahead cX11_ahead 2 none 1 21 G Y [.ref (o)] (fun H => True) (fun H H1 => ((h_gi G H 11 o 14).toInt ≤ (h_gi G H1 11 o 14).toInt ∧ ((h_gi G H1 11 o 12).toInt = 4 → (h_gi G H 11 o 14).toInt < (h_gi G H1 11 o 14).toInt)) ∧ (H1[o + 1]? = H[o + 1]?)) := by
  refine h_ofv (by decide +kernel) (Nat.le_of_ble_eq_true rfl) ?_
  intro p e s m args below meth c H0 ls Q hx hb hts hown hml hK hZ hT0 hpr hS0 hl hret
  have hl : lv_has ls 2 [(0, .ref (o))] := hl
  obtain ⟨y1, my1⟩ : ∃ x, h_gi G H0 11 o 14 = x := ⟨_, rfl⟩
  have by1 : 0 ≤ y1.toInt ∧ y1.toInt ≤ 500 := by rw [← my1]; exact (hT0.gi (hM.o rfl) 14 rfl).1
  have LP1 : ∀ (n1 : Nat)  (f1_14 : Int32) (H1 : Heap), (500 - f1_14.toInt < (n1 : Int)) → (0 ≤ f1_14.toInt ∧ f1_14.toInt ≤ 500) → (y1.toInt ≤ f1_14.toInt) → (hT G Y H1) → (H1[o + 1]? = H0[o + 1]?) → (h_gi G H1 11 o 14 = f1_14) → ∀ (locs : List Loc) (ls : Array Slot), va_S (h_A Y) s.heap H1 locs → lv_has ls 2 [(0, .ref (o))] → W p l e (h_rm 1 21) s m args below meth c H1 locs 0 0 Q (F0 m 0 ls []) := by
    intro n1
    induction n1 with
    | zero =>
      intro f1_14 H1 hm hfl1_14 hv1_0
      intros
      exfalso
      omega
    | succ n1 ih1 =>
      intro f1_14 H1 hm hfl1_14 hv1_0 hT1 z2 m3 locs ls hS1 hl
      refine lv_aload_n hx hb dX11_ahead_0 rfl (lv_at hl 0 rfl) ?_
      refine lv_aload_n hx hb dX11_ahead_1 rfl (lv_at hl 0 rfl) ?_
      refine h_geti (C := RX11) (T := TX11) (N := 23) hx hb hts inX11 hown hK hT1 (hM.o rfl) rfl 14 rfl wF_X11_177 rfl dX11_ahead_2 (fun p4 => ?_)
      refine h_top (v := f1_14) m3 ?_
      refine h_callVi (T := TX11) (rest := []) (As := [.int f1_14]) hx hb hml hown hts hK hT1 hZ (fun _ h => h) hS1 (c_X11_byteAt l G Y P (o) hM f1_14 (show 0 ≤ f1_14.toInt ∧ f1_14.toInt ≤ 1000 from by omega)) trivial wd_X11_byteAt wV_X11_byteAt wL_X11_180 (hM.o rfl) rfl rfl hl.1 rfl (Nat.le_of_ble_eq_true rfl) dX11_ahead_5 ⟨Nat.le_of_ble_eq_true rfl, Nat.le_of_ble_eq_true rfl⟩ ⟨Nat.zero_le _, Nat.zero_le _⟩ (fun r5 H3 locs hp3 hT3 hS3 hk3 => ?_)
      obtain ⟨hp3, he⟩ := hp3
      have he := he.symm
      subst he
      have f6 : r5.toInt = -1 ∨ f1_14.toInt ≤ 499 := by have q := hp3; exact q
      refine lv_bipush (v := 32) hx hb dX11_ahead_8 (by decide) ?_
      refine lv_icmp_eq (tgt := 26) hx hb dX11_ahead_10 (by decide) (fun c7 => ?_) (fun c7 => ?_)
      · skip
        have c7 : r5.toInt = (32 : Int) := congrArg Int32.toInt c7
        refine lv_aload_n hx hb dX11_ahead_26 rfl (lv_at hl 0 rfl) ?_
        refine lv_dup hx hb dX11_ahead_27 rfl ?_
        refine h_geti (C := RX11) (T := TX11) (N := 23) hx hb hts inX11 hown hK hT1 (hM.o rfl) rfl 14 rfl wF_X11_177 rfl dX11_ahead_28 (fun p8 => ?_)
        refine h_top (v := f1_14) m3 ?_
        refine lv_iconst (v := 1) hx hb dX11_ahead_31 (by decide) ?_
        refine lv_iadd hx hb dX11_ahead_32 ?_
        obtain ⟨x9, qx9, ix9⟩ := h_addX f1_14 1 f1_14.toInt (1 : Int) rfl rfl (by omega) (by omega)
        refine h_top (v := x9) qx9 ?_
        refine h_puti (C := RX11) (T := TX11) (N := 23) hx hb hts inX11 tyX11 tyX11_ok nmX11 hown hK hT1 (fun _ h => h) hS3 (hM.o rfl) rfl 14 rfl wF_X11_177 rfl rfl (show 0 ≤ x9.toInt ∧ x9.toInt ≤ 500 from by omega) rfl rfl dX11_ahead_33 (fun H4 locs hT4 hS4 hu4 => ?_)
        have z10 : H4[o + 1]? = H0[o + 1]? := (hu4.2.1 (o + 1) (by omega)).trans z2
        refine lv_goto (tgt := 0) hx hb dX11_ahead_36 (by decide) ?_
        exact ih1 x9 _ (show 500 - x9.toInt < (n1 : Int) from by omega) (show 0 ≤ x9.toInt ∧ x9.toInt ≤ 500 from by omega) (show y1.toInt ≤ x9.toInt from by omega) hT4 z10 (h_pu hu4) _ _ hS4 (lv_sub hl [0] rfl)
      · skip
        have c7 : ¬ r5.toInt = (32 : Int) := h_neI c7
        refine lv_aload_n hx hb dX11_ahead_13 rfl (lv_at hl 0 rfl) ?_
        refine lv_aload_n hx hb dX11_ahead_14 rfl (lv_at hl 0 rfl) ?_
        refine h_geti (C := RX11) (T := TX11) (N := 23) hx hb hts inX11 hown hK hT1 (hM.o rfl) rfl 14 rfl wF_X11_177 rfl dX11_ahead_15 (fun p11 => ?_)
        refine h_top (v := f1_14) m3 ?_
        refine h_callVi (T := TX11) (rest := []) (As := [.int f1_14]) hx hb hml hown hts hK hT1 hZ (fun _ h => h) hS3 (c_X11_byteAt l G Y P (o) hM f1_14 (show 0 ≤ f1_14.toInt ∧ f1_14.toInt ≤ 1000 from by omega)) trivial wd_X11_byteAt wV_X11_byteAt wL_X11_180 (hM.o rfl) rfl rfl hl.1 rfl (Nat.le_of_ble_eq_true rfl) dX11_ahead_18 ⟨Nat.le_of_ble_eq_true rfl, Nat.le_of_ble_eq_true rfl⟩ ⟨Nat.zero_le _, Nat.zero_le _⟩ (fun r12 H5 locs hp5 hT5 hS5 hk5 => ?_)
        obtain ⟨hp5, he⟩ := hp5
        have he := he.symm
        subst he
        have f13 : r12.toInt = -1 ∨ f1_14.toInt ≤ 499 := by have q := hp5; exact q
        refine lv_bipush (v := 10) hx hb dX11_ahead_21 (by decide) ?_
        refine lv_icmp_ne (tgt := 39) hx hb dX11_ahead_23 (by decide) (fun c14 => ?_) (fun c14 => ?_)
        · skip
          have c14 : ¬ r12.toInt = (10 : Int) := h_neI c14
          refine lv_aload_n hx hb dX11_ahead_39 rfl (lv_at hl 0 rfl) ?_
          refine lv_aload_n hx hb dX11_ahead_40 rfl (lv_at hl 0 rfl) ?_
          refine h_geti (C := RX11) (T := TX11) (N := 23) hx hb hts inX11 hown hK hT1 (hM.o rfl) rfl 14 rfl wF_X11_177 rfl dX11_ahead_41 (fun p15 => ?_)
          refine h_top (v := f1_14) m3 ?_
          refine h_puti (C := RX11) (T := TX11) (N := 23) hx hb hts inX11 tyX11 tyX11_ok nmX11 hown hK hT1 (fun _ h => h) hS5 (hM.o rfl) rfl 13 rfl wF_X11_183 rfl rfl (show 0 ≤ f1_14.toInt ∧ f1_14.toInt ≤ 500 from by omega) rfl rfl dX11_ahead_44 (fun H6 locs hT6 hS6 hu6 => ?_)
          have z16 : H6[o + 1]? = H0[o + 1]? := (hu6.2.1 (o + 1) (by omega)).trans z2
          refine lv_aload_n hx hb dX11_ahead_47 rfl (lv_at hl 0 rfl) ?_
          refine lv_aload_n hx hb dX11_ahead_48 rfl (lv_at hl 0 rfl) ?_
          refine h_geti (C := RX11) (T := TX11) (N := 23) hx hb hts inX11 hown hK hT6 (hM.o rfl) rfl 14 rfl wF_X11_177 rfl dX11_ahead_49 (fun p17 => ?_)
          refine h_top (v := f1_14) ((h_ps hu6 rfl (by decide) (by decide)).trans m3) ?_
          refine h_callVi (T := TX11) (rest := []) (As := [.int f1_14]) hx hb hml hown hts hK hT6 hZ (fun _ h => h) hS6 (c_X11_byteAt l G Y P (o) hM f1_14 (show 0 ≤ f1_14.toInt ∧ f1_14.toInt ≤ 1000 from by omega)) trivial wd_X11_byteAt wV_X11_byteAt wL_X11_180 (hM.o rfl) rfl rfl hl.1 rfl (Nat.le_of_ble_eq_true rfl) dX11_ahead_52 ⟨Nat.le_of_ble_eq_true rfl, Nat.le_of_ble_eq_true rfl⟩ ⟨Nat.zero_le _, Nat.zero_le _⟩ (fun r18 H7 locs hp7 hT7 hS7 hk7 => ?_)
          obtain ⟨hp7, he⟩ := hp7
          have he := he.symm
          subst he
          have f19 : r18.toInt = -1 ∨ f1_14.toInt ≤ 499 := by have q := hp7; exact q
          refine lv_istore_n (lv' := [(1, .int r18), (0, .ref (o))]) hx hb dX11_ahead_55 rfl hl (by decide) rfl (fun ls hl => ?_)
          refine lv_iload_n hx hb dX11_ahead_56 rfl (lv_at hl 0 rfl) ?_
          refine lv_iconst (v := (-1)) hx hb dX11_ahead_57 (by decide) ?_
          refine lv_icmp_ne (tgt := 69) hx hb dX11_ahead_58 (by decide) (fun c20 => ?_) (fun c20 => ?_)
          · skip
            have c20 : ¬ r18.toInt = (-1 : Int) := h_neI c20
            refine lv_iload_n hx hb dX11_ahead_69 rfl (lv_at hl 0 rfl) ?_
            refine h_callSi (rest := []) (As := [.int r18]) hx hb hml hown hts hK hT6 hZ (fun _ h => h) hS7 (c_X11_isSmall l G Y r18) trivial wd_X11_isSmall wS_X11_isSmall wL_X11_189 rfl hl.1 rfl (Nat.le_of_ble_eq_true rfl) dX11_ahead_70 ⟨Nat.le_of_ble_eq_true rfl, Nat.le_of_ble_eq_true rfl⟩ ⟨Nat.zero_le _, Nat.zero_le _⟩ (fun r21 H8 locs hp8 hT8 hS8 hk8 => ?_)
            obtain ⟨hp8, he⟩ := hp8
            have he := he.symm
            subst he
            have f22 : r21.toInt = 0 ∨ 97 ≤ r18.toInt := by have q := hp8.2; exact q
            refine lv_if_eq (tgt := 111) hx hb dX11_ahead_73 (by decide) (fun c23 => ?_) (fun c23 => ?_)
            · skip
              have c23 : r21.toInt = (0 : Int) := congrArg Int32.toInt c23
              refine lv_iload_n hx hb dX11_ahead_111 rfl (lv_at hl 0 rfl) ?_
              refine h_callSi (rest := []) (As := [.int r18]) hx hb hml hown hts hK hT6 hZ (fun _ h => h) hS8 (c_X11_isDigit l G Y r18) trivial wd_X11_isDigit wS_X11_isDigit wL_X11_192 rfl hl.1 rfl (Nat.le_of_ble_eq_true rfl) dX11_ahead_112 ⟨Nat.le_of_ble_eq_true rfl, Nat.le_of_ble_eq_true rfl⟩ ⟨Nat.zero_le _, Nat.zero_le _⟩ (fun r24 H9 locs hp9 hT9 hS9 hk9 => ?_)
              obtain ⟨hp9, he⟩ := hp9
              have he := he.symm
              subst he
              have f25 : r24.toInt = 0 ∨ 48 ≤ r18.toInt := by have q := hp9.2; exact q
              refine lv_if_eq (tgt := 203) hx hb dX11_ahead_115 (by decide) (fun c26 => ?_) (fun c26 => ?_)
              · skip
                have c26 : r24.toInt = (0 : Int) := congrArg Int32.toInt c26
                refine lv_aload_n hx hb dX11_ahead_203 rfl (lv_at hl 1 rfl) ?_
                refine lv_dup hx hb dX11_ahead_204 rfl ?_
                refine h_geti (C := RX11) (T := TX11) (N := 23) hx hb hts inX11 hown hK hT6 (hM.o rfl) rfl 14 rfl wF_X11_177 rfl dX11_ahead_205 (fun p27 => ?_)
                refine h_top (v := f1_14) ((h_ps hu6 rfl (by decide) (by decide)).trans m3) ?_
                refine lv_iconst (v := 1) hx hb dX11_ahead_208 (by decide) ?_
                refine lv_iadd hx hb dX11_ahead_209 ?_
                obtain ⟨x28, qx28, ix28⟩ := h_addX f1_14 1 f1_14.toInt (1 : Int) rfl rfl (by omega) (by omega)
                refine h_top (v := x28) qx28 ?_
                refine h_puti (C := RX11) (T := TX11) (N := 23) hx hb hts inX11 tyX11 tyX11_ok nmX11 hown hK hT6 (fun _ h => h) hS9 (hM.o rfl) rfl 14 rfl wF_X11_177 rfl rfl (show 0 ≤ x28.toInt ∧ x28.toInt ≤ 500 from by omega) rfl rfl dX11_ahead_210 (fun H10 locs hT10 hS10 hu10 => ?_)
                have z29 : H10[o + 1]? = H0[o + 1]? := (hu10.2.1 (o + 1) (by omega)).trans z16
                refine lv_aload_n hx hb dX11_ahead_213 rfl (lv_at hl 1 rfl) ?_
                refine lv_iload_n hx hb dX11_ahead_214 rfl (lv_at hl 0 rfl) ?_
                refine lv_bipush (v := 59) hx hb dX11_ahead_215 (by decide) ?_
                refine lv_icmp_ne (tgt := 224) hx hb dX11_ahead_217 (by decide) (fun c30 => ?_) (fun c30 => ?_)
                · skip
                  have c30 : ¬ r18.toInt = (59 : Int) := h_neI c30
                  refine lv_iconst (v := 1) hx hb dX11_ahead_224 (by decide) ?_
                  refine h_puti (C := RX11) (T := TX11) (N := 23) hx hb hts inX11 tyX11 tyX11_ok nmX11 hown hK hT10 (fun _ h => h) hS10 (hM.o rfl) rfl 12 rfl wF_X11_186 rfl rfl trivial rfl rfl dX11_ahead_225 (fun H11 locs hT11 hS11 hu11 => ?_)
                  have z31 : H11[o + 1]? = H0[o + 1]? := (hu11.2.1 (o + 1) (by omega)).trans z29
                  exact hret _ _ _ _ hT11 hS11 ⟨(show (h_gi G H0 11 o 14).toInt ≤ (h_gi G H11 11 o 14).toInt ∧ ((h_gi G H11 11 o 12).toInt = 4 → (h_gi G H0 11 o 14).toInt < (h_gi G H11 11 o 14).toInt) from by rw [(h_pu hu11), my1, ((h_ps hu11 rfl (by decide) (by decide)).trans (h_pu hu10))]; show y1.toInt ≤ x28.toInt ∧ ((1 : Int) = 4 → y1.toInt < x28.toInt); omega), z31⟩ dX11_ahead_228
                · skip
                  have c30 : r18.toInt = (59 : Int) := congrArg Int32.toInt c30
                  refine lv_iconst (v := 4) hx hb dX11_ahead_220 (by decide) ?_
                  refine lv_goto (tgt := 225) hx hb dX11_ahead_221 (by decide) ?_
                  refine h_puti (C := RX11) (T := TX11) (N := 23) hx hb hts inX11 tyX11 tyX11_ok nmX11 hown hK hT10 (fun _ h => h) hS10 (hM.o rfl) rfl 12 rfl wF_X11_186 rfl rfl trivial rfl rfl dX11_ahead_225 (fun H12 locs hT12 hS12 hu12 => ?_)
                  have z32 : H12[o + 1]? = H0[o + 1]? := (hu12.2.1 (o + 1) (by omega)).trans z29
                  exact hret _ _ _ _ hT12 hS12 ⟨(show (h_gi G H0 11 o 14).toInt ≤ (h_gi G H12 11 o 14).toInt ∧ ((h_gi G H12 11 o 12).toInt = 4 → (h_gi G H0 11 o 14).toInt < (h_gi G H12 11 o 14).toInt) from by rw [(h_pu hu12), my1, ((h_ps hu12 rfl (by decide) (by decide)).trans (h_pu hu10))]; show y1.toInt ≤ x28.toInt ∧ ((4 : Int) = 4 → y1.toInt < x28.toInt); omega), z32⟩ dX11_ahead_228
              · skip
                have c26 : ¬ r24.toInt = (0 : Int) := h_neI c26
                refine lv_aload_n hx hb dX11_ahead_118 rfl (lv_at hl 1 rfl) ?_
                refine lv_iconst (v := 0) hx hb dX11_ahead_119 (by decide) ?_
                refine h_puti (C := RX11) (T := TX11) (N := 23) hx hb hts inX11 tyX11 tyX11_ok nmX11 hown hK hT6 (fun _ h => h) hS9 (hM.o rfl) rfl 15 rfl wF_X11_195 rfl rfl trivial rfl rfl dX11_ahead_120 (fun H13 locs hT13 hS13 hu13 => ?_)
                have z33 : H13[o + 1]? = H0[o + 1]? := (hu13.2.1 (o + 1) (by omega)).trans z16
                have LP2 : ∀ (n2 : Nat)  (f2_14 : Int32) (H14 : Heap), (500 - f2_14.toInt < (n2 : Int)) → (0 ≤ f2_14.toInt ∧ f2_14.toInt ≤ 500) → (y1.toInt ≤ f2_14.toInt) → (hT G Y H14) → (H14[o + 1]? = H0[o + 1]?) → (h_gi G H14 11 o 14 = f2_14) → ∀ (locs : List Loc) (ls : Array Slot), va_S (h_A Y) s.heap H14 locs → lv_has ls 2 [(0, .ref (o))] → W p l e (h_rm 1 21) s m args below meth c H14 locs 0 0 Q (F0 m 123 ls []) := by
                  intro n2
                  induction n2 with
                  | zero =>
                    intro f2_14 H14 hm hfl2_14 hv2_0
                    intros
                    exfalso
                    omega
                  | succ n2 ih2 =>
                    intro f2_14 H14 hm hfl2_14 hv2_0 hT14 z34 m35 locs ls hS14 hl
                    refine lv_aload_n hx hb dX11_ahead_123 rfl (lv_at hl 0 rfl) ?_
                    refine lv_aload_n hx hb dX11_ahead_124 rfl (lv_at hl 0 rfl) ?_
                    refine h_geti (C := RX11) (T := TX11) (N := 23) hx hb hts inX11 hown hK hT14 (hM.o rfl) rfl 14 rfl wF_X11_177 rfl dX11_ahead_125 (fun p36 => ?_)
                    refine h_top (v := f2_14) m35 ?_
                    refine h_callVi (T := TX11) (rest := []) (As := [.int f2_14]) hx hb hml hown hts hK hT14 hZ (fun _ h => h) hS14 (c_X11_byteAt l G Y P (o) hM f2_14 (show 0 ≤ f2_14.toInt ∧ f2_14.toInt ≤ 1000 from by omega)) trivial wd_X11_byteAt wV_X11_byteAt wL_X11_180 (hM.o rfl) rfl rfl hl.1 rfl (Nat.le_of_ble_eq_true rfl) dX11_ahead_128 ⟨Nat.le_of_ble_eq_true rfl, Nat.le_of_ble_eq_true rfl⟩ ⟨Nat.zero_le _, Nat.zero_le _⟩ (fun r37 H16 locs hp16 hT16 hS16 hk16 => ?_)
                    obtain ⟨hp16, he⟩ := hp16
                    have he := he.symm
                    subst he
                    have f38 : r37.toInt = -1 ∨ f2_14.toInt ≤ 499 := by have q := hp16; exact q
                    refine h_callSi (rest := []) (As := [.int r37]) hx hb hml hown hts hK hT14 hZ (fun _ h => h) hS16 (c_X11_isDigit l G Y r37) trivial wd_X11_isDigit wS_X11_isDigit wL_X11_192 rfl hl.1 rfl (Nat.le_of_ble_eq_true rfl) dX11_ahead_131 ⟨Nat.le_of_ble_eq_true rfl, Nat.le_of_ble_eq_true rfl⟩ ⟨Nat.zero_le _, Nat.zero_le _⟩ (fun r39 H17 locs hp17 hT17 hS17 hk17 => ?_)
                    obtain ⟨hp17, he⟩ := hp17
                    have he := he.symm
                    subst he
                    have f40 : r39.toInt = 0 ∨ 48 ≤ r37.toInt := by have q := hp17.2; exact q
                    refine lv_if_eq (tgt := 178) hx hb dX11_ahead_134 (by decide) (fun c41 => ?_) (fun c41 => ?_)
                    · skip
                      have c41 : r39.toInt = (0 : Int) := congrArg Int32.toInt c41
                      refine lv_aload_n hx hb dX11_ahead_178 rfl (lv_at hl 0 rfl) ?_
                      refine lv_aload_n hx hb dX11_ahead_179 rfl (lv_at hl 0 rfl) ?_
                      refine h_geti (C := RX11) (T := TX11) (N := 23) hx hb hts inX11 hown hK hT14 (hM.o rfl) rfl 14 rfl wF_X11_177 rfl dX11_ahead_180 (fun p42 => ?_)
                      refine h_top (v := f2_14) m35 ?_
                      refine lv_aload_n hx hb dX11_ahead_183 rfl (lv_at hl 0 rfl) ?_
                      refine h_geti (C := RX11) (T := TX11) (N := 23) hx hb hts inX11 hown hK hT14 (hM.o rfl) rfl 13 rfl wF_X11_183 rfl dX11_ahead_184 (fun p43 => ?_)
                      refine lv_topi (fun x44 ex44 => ?_)
                      have bx44 : 0 ≤ x44.toInt ∧ x44.toInt ≤ 500 := by rw [ex44]; exact p43
                      refine lv_isub hx hb dX11_ahead_187 ?_
                      obtain ⟨x45, qx45, ix45⟩ := h_subX f2_14 x44 f2_14.toInt x44.toInt rfl rfl (by omega) (by omega)
                      refine h_top (v := x45) qx45 ?_
                      refine lv_iconst (v := 4) hx hb dX11_ahead_188 (by decide) ?_
                      refine lv_icmp_le (tgt := 196) hx hb dX11_ahead_189 (by decide) (fun c46 => ?_) (fun c46 => ?_)
                      · skip
                        have c46 : x45.toInt ≤ (4 : Int) := Int32.le_iff_toInt_le.mp c46
                        refine lv_iconst (v := 3) hx hb dX11_ahead_196 (by decide) ?_
                        refine h_puti (C := RX11) (T := TX11) (N := 23) hx hb hts inX11 tyX11 tyX11_ok nmX11 hown hK hT14 (fun _ h => h) hS17 (hM.o rfl) rfl 12 rfl wF_X11_186 rfl rfl trivial rfl rfl dX11_ahead_197 (fun H18 locs hT18 hS18 hu18 => ?_)
                        have z47 : H18[o + 1]? = H0[o + 1]? := (hu18.2.1 (o + 1) (by omega)).trans z34
                        refine lv_goto (tgt := 228) hx hb dX11_ahead_200 (by decide) ?_
                        exact hret _ _ _ _ hT18 hS18 ⟨(show (h_gi G H0 11 o 14).toInt ≤ (h_gi G H18 11 o 14).toInt ∧ ((h_gi G H18 11 o 12).toInt = 4 → (h_gi G H0 11 o 14).toInt < (h_gi G H18 11 o 14).toInt) from by rw [(h_pu hu18), my1, ((h_ps hu18 rfl (by decide) (by decide)).trans m35)]; show y1.toInt ≤ f2_14.toInt ∧ ((3 : Int) = 4 → y1.toInt < f2_14.toInt); omega), z47⟩ dX11_ahead_228
                      · skip
                        have c46 : ¬ x45.toInt ≤ (4 : Int) := h_nleI c46
                        refine lv_iconst (v := 1) hx hb dX11_ahead_192 (by decide) ?_
                        refine lv_goto (tgt := 197) hx hb dX11_ahead_193 (by decide) ?_
                        refine h_puti (C := RX11) (T := TX11) (N := 23) hx hb hts inX11 tyX11 tyX11_ok nmX11 hown hK hT14 (fun _ h => h) hS17 (hM.o rfl) rfl 12 rfl wF_X11_186 rfl rfl trivial rfl rfl dX11_ahead_197 (fun H19 locs hT19 hS19 hu19 => ?_)
                        have z48 : H19[o + 1]? = H0[o + 1]? := (hu19.2.1 (o + 1) (by omega)).trans z34
                        refine lv_goto (tgt := 228) hx hb dX11_ahead_200 (by decide) ?_
                        exact hret _ _ _ _ hT19 hS19 ⟨(show (h_gi G H0 11 o 14).toInt ≤ (h_gi G H19 11 o 14).toInt ∧ ((h_gi G H19 11 o 12).toInt = 4 → (h_gi G H0 11 o 14).toInt < (h_gi G H19 11 o 14).toInt) from by rw [(h_pu hu19), my1, ((h_ps hu19 rfl (by decide) (by decide)).trans m35)]; show y1.toInt ≤ f2_14.toInt ∧ ((1 : Int) = 4 → y1.toInt < f2_14.toInt); omega), z48⟩ dX11_ahead_228
                    · skip
                      have c41 : ¬ r39.toInt = (0 : Int) := h_neI c41
                      refine lv_aload_n hx hb dX11_ahead_137 rfl (lv_at hl 0 rfl) ?_
                      refine lv_ldc (v := 99999) hx hb hown (hts _ wC_X11_198) dX11_ahead_138 ?_
                      refine lv_bipush (v := 10) hx hb dX11_ahead_140 (by decide) ?_
                      refine lv_aload_n hx hb dX11_ahead_142 rfl (lv_at hl 0 rfl) ?_
                      refine h_geti (C := RX11) (T := TX11) (N := 23) hx hb hts inX11 hown hK hT14 (hM.o rfl) rfl 15 rfl wF_X11_195 rfl dX11_ahead_143 (fun p49 => ?_)
                      refine lv_topi (fun x50 ex50 => ?_)
                      refine lv_imul hx hb dX11_ahead_146 ?_
                      refine lv_topi (fun x51 ex51 => ?_)
                      refine lv_aload_n hx hb dX11_ahead_147 rfl (lv_at hl 0 rfl) ?_
                      refine lv_aload_n hx hb dX11_ahead_148 rfl (lv_at hl 0 rfl) ?_
                      refine h_geti (C := RX11) (T := TX11) (N := 23) hx hb hts inX11 hown hK hT14 (hM.o rfl) rfl 14 rfl wF_X11_177 rfl dX11_ahead_149 (fun p52 => ?_)
                      refine h_top (v := f2_14) m35 ?_
                      refine h_callVi (T := TX11) (rest := [.int x51, .int 99999, .ref (o)]) (As := [.int f2_14]) hx hb hml hown hts hK hT14 hZ (fun _ h => h) hS17 (c_X11_byteAt l G Y P (o) hM f2_14 (show 0 ≤ f2_14.toInt ∧ f2_14.toInt ≤ 1000 from by omega)) trivial wd_X11_byteAt wV_X11_byteAt wL_X11_180 (hM.o rfl) rfl rfl hl.1 rfl (Nat.le_of_ble_eq_true rfl) dX11_ahead_152 ⟨Nat.le_of_ble_eq_true rfl, Nat.le_of_ble_eq_true rfl⟩ ⟨Nat.zero_le _, Nat.zero_le _⟩ (fun r53 H20 locs hp20 hT20 hS20 hk20 => ?_)
                      obtain ⟨hp20, he⟩ := hp20
                      have he := he.symm
                      subst he
                      have f54 : r53.toInt = -1 ∨ f2_14.toInt ≤ 499 := by have q := hp20; exact q
                      refine lv_iadd hx hb dX11_ahead_155 ?_
                      refine lv_topi (fun x55 ex55 => ?_)
                      refine lv_bipush (v := 48) hx hb dX11_ahead_156 (by decide) ?_
                      refine lv_isub hx hb dX11_ahead_158 ?_
                      refine lv_topi (fun x56 ex56 => ?_)
                      refine h_callSi (rest := [.ref (o)]) (As := [.int 99999, .int x56]) hx hb hml hown hts hK hT14 hZ (fun _ h => h) hS20 (c_J_min l G Y 99999 x56) trivial wd_J9_min_7cf53 wS_J9_min_7cf53 wL_X11_199 rfl hl.1 rfl (Nat.le_of_ble_eq_true rfl) dX11_ahead_159 ⟨Nat.le_of_ble_eq_true rfl, Nat.le_of_ble_eq_true rfl⟩ ⟨Nat.zero_le _, Nat.zero_le _⟩ (fun r57 H21 locs hp21 hT21 hS21 hk21 => ?_)
                      obtain ⟨hp21, he⟩ := hp21
                      have he := he.symm
                      subst he
                      have f58 : ((r57.toInt = (99999 : Int) ∨ r57.toInt = x56.toInt) ∧ r57.toInt ≤ (99999 : Int) ∧ r57.toInt ≤ x56.toInt) := by have q := hp21; exact q
                      refine h_puti (C := RX11) (T := TX11) (N := 23) hx hb hts inX11 tyX11 tyX11_ok nmX11 hown hK hT14 (fun _ h => h) hS21 (hM.o rfl) rfl 15 rfl wF_X11_195 rfl rfl trivial rfl rfl dX11_ahead_162 (fun H22 locs hT22 hS22 hu22 => ?_)
                      have z59 : H22[o + 1]? = H0[o + 1]? := (hu22.2.1 (o + 1) (by omega)).trans z34
                      refine lv_aload_n hx hb dX11_ahead_165 rfl (lv_at hl 0 rfl) ?_
                      refine lv_dup hx hb dX11_ahead_166 rfl ?_
                      refine h_geti (C := RX11) (T := TX11) (N := 23) hx hb hts inX11 hown hK hT22 (hM.o rfl) rfl 14 rfl wF_X11_177 rfl dX11_ahead_167 (fun p60 => ?_)
                      refine h_top (v := f2_14) ((h_ps hu22 rfl (by decide) (by decide)).trans m35) ?_
                      refine lv_iconst (v := 1) hx hb dX11_ahead_170 (by decide) ?_
                      refine lv_iadd hx hb dX11_ahead_171 ?_
                      obtain ⟨x61, qx61, ix61⟩ := h_addX f2_14 1 f2_14.toInt (1 : Int) rfl rfl (by omega) (by omega)
                      refine h_top (v := x61) qx61 ?_
                      refine h_puti (C := RX11) (T := TX11) (N := 23) hx hb hts inX11 tyX11 tyX11_ok nmX11 hown hK hT22 (fun _ h => h) hS22 (hM.o rfl) rfl 14 rfl wF_X11_177 rfl rfl (show 0 ≤ x61.toInt ∧ x61.toInt ≤ 500 from by omega) rfl rfl dX11_ahead_172 (fun H23 locs hT23 hS23 hu23 => ?_)
                      have z62 : H23[o + 1]? = H0[o + 1]? := (hu23.2.1 (o + 1) (by omega)).trans z59
                      refine lv_goto (tgt := 123) hx hb dX11_ahead_175 (by decide) ?_
                      exact ih2 x61 _ (show 500 - x61.toInt < (n2 : Int) from by omega) (show 0 ≤ x61.toInt ∧ x61.toInt ≤ 500 from by omega) (show y1.toInt ≤ x61.toInt from by omega) hT23 z62 (h_pu hu23) _ _ hS23 (lv_sub hl [0] rfl)
                exact LP2 4294967296 f1_14 _ (show 500 - f1_14.toInt < ((4294967296 : Nat) : Int) from by omega) (show 0 ≤ f1_14.toInt ∧ f1_14.toInt ≤ 500 from by omega) (show y1.toInt ≤ f1_14.toInt from by omega) hT13 z33 ((h_ps hu13 rfl (by decide) (by decide)).trans ((h_ps hu6 rfl (by decide) (by decide)).trans m3)) _ _ hS13 (lv_sub hl [1] rfl)
            · skip
              have c23 : ¬ r21.toInt = (0 : Int) := h_neI c23
              have LP3 : ∀ (n3 : Nat)  (f3_14 : Int32) (H24 : Heap), (500 - f3_14.toInt < (n3 : Int)) → (0 ≤ f3_14.toInt ∧ f3_14.toInt ≤ 500) → (y1.toInt ≤ f3_14.toInt) → (hT G Y H24) → (H24[o + 1]? = H0[o + 1]?) → (h_gi G H24 11 o 14 = f3_14) → ∀ (locs : List Loc) (ls : Array Slot), va_S (h_A Y) s.heap H24 locs → lv_has ls 2 [(0, .ref (o))] → W p l e (h_rm 1 21) s m args below meth c H24 locs 0 0 Q (F0 m 76 ls []) := by
                intro n3
                induction n3 with
                | zero =>
                  intro f3_14 H24 hm hfl3_14 hv3_0
                  intros
                  exfalso
                  omega
                | succ n3 ih3 =>
                  intro f3_14 H24 hm hfl3_14 hv3_0 hT24 z63 m64 locs ls hS24 hl
                  refine lv_aload_n hx hb dX11_ahead_76 rfl (lv_at hl 0 rfl) ?_
                  refine lv_aload_n hx hb dX11_ahead_77 rfl (lv_at hl 0 rfl) ?_
                  refine h_geti (C := RX11) (T := TX11) (N := 23) hx hb hts inX11 hown hK hT24 (hM.o rfl) rfl 14 rfl wF_X11_177 rfl dX11_ahead_78 (fun p65 => ?_)
                  refine h_top (v := f3_14) m64 ?_
                  refine h_callVi (T := TX11) (rest := []) (As := [.int f3_14]) hx hb hml hown hts hK hT24 hZ (fun _ h => h) hS24 (c_X11_byteAt l G Y P (o) hM f3_14 (show 0 ≤ f3_14.toInt ∧ f3_14.toInt ≤ 1000 from by omega)) trivial wd_X11_byteAt wV_X11_byteAt wL_X11_180 (hM.o rfl) rfl rfl hl.1 rfl (Nat.le_of_ble_eq_true rfl) dX11_ahead_81 ⟨Nat.le_of_ble_eq_true rfl, Nat.le_of_ble_eq_true rfl⟩ ⟨Nat.zero_le _, Nat.zero_le _⟩ (fun r66 H26 locs hp26 hT26 hS26 hk26 => ?_)
                  obtain ⟨hp26, he⟩ := hp26
                  have he := he.symm
                  subst he
                  have f67 : r66.toInt = -1 ∨ f3_14.toInt ≤ 499 := by have q := hp26; exact q
                  refine h_callSi (rest := []) (As := [.int r66]) hx hb hml hown hts hK hT24 hZ (fun _ h => h) hS26 (c_X11_isSmall l G Y r66) trivial wd_X11_isSmall wS_X11_isSmall wL_X11_189 rfl hl.1 rfl (Nat.le_of_ble_eq_true rfl) dX11_ahead_84 ⟨Nat.le_of_ble_eq_true rfl, Nat.le_of_ble_eq_true rfl⟩ ⟨Nat.zero_le _, Nat.zero_le _⟩ (fun r68 H27 locs hp27 hT27 hS27 hk27 => ?_)
                  obtain ⟨hp27, he⟩ := hp27
                  have he := he.symm
                  subst he
                  have f69 : r68.toInt = 0 ∨ 97 ≤ r66.toInt := by have q := hp27.2; exact q
                  refine lv_if_eq (tgt := 103) hx hb dX11_ahead_87 (by decide) (fun c70 => ?_) (fun c70 => ?_)
                  · skip
                    have c70 : r68.toInt = (0 : Int) := congrArg Int32.toInt c70
                    refine lv_aload_n hx hb dX11_ahead_103 rfl (lv_at hl 0 rfl) ?_
                    refine lv_iconst (v := 2) hx hb dX11_ahead_104 (by decide) ?_
                    refine h_puti (C := RX11) (T := TX11) (N := 23) hx hb hts inX11 tyX11 tyX11_ok nmX11 hown hK hT24 (fun _ h => h) hS27 (hM.o rfl) rfl 12 rfl wF_X11_186 rfl rfl trivial rfl rfl dX11_ahead_105 (fun H28 locs hT28 hS28 hu28 => ?_)
                    have z71 : H28[o + 1]? = H0[o + 1]? := (hu28.2.1 (o + 1) (by omega)).trans z63
                    refine lv_goto (tgt := 228) hx hb dX11_ahead_108 (by decide) ?_
                    exact hret _ _ _ _ hT28 hS28 ⟨(show (h_gi G H0 11 o 14).toInt ≤ (h_gi G H28 11 o 14).toInt ∧ ((h_gi G H28 11 o 12).toInt = 4 → (h_gi G H0 11 o 14).toInt < (h_gi G H28 11 o 14).toInt) from by rw [(h_pu hu28), my1, ((h_ps hu28 rfl (by decide) (by decide)).trans m64)]; show y1.toInt ≤ f3_14.toInt ∧ ((2 : Int) = 4 → y1.toInt < f3_14.toInt); omega), z71⟩ dX11_ahead_228
                  · skip
                    have c70 : ¬ r68.toInt = (0 : Int) := h_neI c70
                    refine lv_aload_n hx hb dX11_ahead_90 rfl (lv_at hl 0 rfl) ?_
                    refine lv_dup hx hb dX11_ahead_91 rfl ?_
                    refine h_geti (C := RX11) (T := TX11) (N := 23) hx hb hts inX11 hown hK hT24 (hM.o rfl) rfl 14 rfl wF_X11_177 rfl dX11_ahead_92 (fun p72 => ?_)
                    refine h_top (v := f3_14) m64 ?_
                    refine lv_iconst (v := 1) hx hb dX11_ahead_95 (by decide) ?_
                    refine lv_iadd hx hb dX11_ahead_96 ?_
                    obtain ⟨x73, qx73, ix73⟩ := h_addX f3_14 1 f3_14.toInt (1 : Int) rfl rfl (by omega) (by omega)
                    refine h_top (v := x73) qx73 ?_
                    refine h_puti (C := RX11) (T := TX11) (N := 23) hx hb hts inX11 tyX11 tyX11_ok nmX11 hown hK hT24 (fun _ h => h) hS27 (hM.o rfl) rfl 14 rfl wF_X11_177 rfl rfl (show 0 ≤ x73.toInt ∧ x73.toInt ≤ 500 from by omega) rfl rfl dX11_ahead_97 (fun H29 locs hT29 hS29 hu29 => ?_)
                    have z74 : H29[o + 1]? = H0[o + 1]? := (hu29.2.1 (o + 1) (by omega)).trans z63
                    refine lv_goto (tgt := 76) hx hb dX11_ahead_100 (by decide) ?_
                    exact ih3 x73 _ (show 500 - x73.toInt < (n3 : Int) from by omega) (show 0 ≤ x73.toInt ∧ x73.toInt ≤ 500 from by omega) (show y1.toInt ≤ x73.toInt from by omega) hT29 z74 (h_pu hu29) _ _ hS29 (lv_sub hl [0] rfl)
              exact LP3 4294967296 f1_14 _ (show 500 - f1_14.toInt < ((4294967296 : Nat) : Int) from by omega) (show 0 ≤ f1_14.toInt ∧ f1_14.toInt ≤ 500 from by omega) (show y1.toInt ≤ f1_14.toInt from by omega) hT6 z16 ((h_ps hu6 rfl (by decide) (by decide)).trans m3) _ _ hS8 (lv_sub hl [1] rfl)
          · skip
            have c20 : r18.toInt = (-1 : Int) := congrArg Int32.toInt c20
            refine lv_aload_n hx hb dX11_ahead_61 rfl (lv_at hl 1 rfl) ?_
            refine lv_iconst (v := 0) hx hb dX11_ahead_62 (by decide) ?_
            refine h_puti (C := RX11) (T := TX11) (N := 23) hx hb hts inX11 tyX11 tyX11_ok nmX11 hown hK hT6 (fun _ h => h) hS7 (hM.o rfl) rfl 12 rfl wF_X11_186 rfl rfl trivial rfl rfl dX11_ahead_63 (fun H30 locs hT30 hS30 hu30 => ?_)
            have z75 : H30[o + 1]? = H0[o + 1]? := (hu30.2.1 (o + 1) (by omega)).trans z16
            refine lv_goto (tgt := 228) hx hb dX11_ahead_66 (by decide) ?_
            exact hret _ _ _ _ hT30 hS30 ⟨(show (h_gi G H0 11 o 14).toInt ≤ (h_gi G H30 11 o 14).toInt ∧ ((h_gi G H30 11 o 12).toInt = 4 → (h_gi G H0 11 o 14).toInt < (h_gi G H30 11 o 14).toInt) from by rw [(h_pu hu30), my1, ((h_ps hu30 rfl (by decide) (by decide)).trans ((h_ps hu6 rfl (by decide) (by decide)).trans m3))]; show y1.toInt ≤ f1_14.toInt ∧ ((0 : Int) = 4 → y1.toInt < f1_14.toInt); omega), z75⟩ dX11_ahead_228
        · skip
          have c14 : r12.toInt = (10 : Int) := congrArg Int32.toInt c14
          refine lv_aload_n hx hb dX11_ahead_26 rfl (lv_at hl 0 rfl) ?_
          refine lv_dup hx hb dX11_ahead_27 rfl ?_
          refine h_geti (C := RX11) (T := TX11) (N := 23) hx hb hts inX11 hown hK hT1 (hM.o rfl) rfl 14 rfl wF_X11_177 rfl dX11_ahead_28 (fun p76 => ?_)
          refine h_top (v := f1_14) m3 ?_
          refine lv_iconst (v := 1) hx hb dX11_ahead_31 (by decide) ?_
          refine lv_iadd hx hb dX11_ahead_32 ?_
          obtain ⟨x77, qx77, ix77⟩ := h_addX f1_14 1 f1_14.toInt (1 : Int) rfl rfl (by omega) (by omega)
          refine h_top (v := x77) qx77 ?_
          refine h_puti (C := RX11) (T := TX11) (N := 23) hx hb hts inX11 tyX11 tyX11_ok nmX11 hown hK hT1 (fun _ h => h) hS5 (hM.o rfl) rfl 14 rfl wF_X11_177 rfl rfl (show 0 ≤ x77.toInt ∧ x77.toInt ≤ 500 from by omega) rfl rfl dX11_ahead_33 (fun H31 locs hT31 hS31 hu31 => ?_)
          have z78 : H31[o + 1]? = H0[o + 1]? := (hu31.2.1 (o + 1) (by omega)).trans z2
          refine lv_goto (tgt := 0) hx hb dX11_ahead_36 (by decide) ?_
          exact ih1 x77 _ (show 500 - x77.toInt < (n1 : Int) from by omega) (show 0 ≤ x77.toInt ∧ x77.toInt ≤ 500 from by omega) (show y1.toInt ≤ x77.toInt from by omega) hT31 z78 (h_pu hu31) _ _ hS31 (lv_sub hl [0] rfl)
  exact LP1 4294967296 y1 _ (show 500 - y1.toInt < ((4294967296 : Nat) : Int) from by omega) (show 0 ≤ y1.toInt ∧ y1.toInt ≤ 500 from by omega) (show y1.toInt ≤ y1.toInt from by omega) hT0 rfl my1 _ _ hS0 (lv_sub hl [0] rfl)
set_option maxHeartbeats 4000000 in
set_option maxRecDepth 100000 in
theorem c_X11_fails (l : Launch) (G : hG) (Y : hW) (P : Int32 → Prop) (o : Nat) (hM : h_On Y o (modE (tM P) o)) (u1 : Int32) : hMi l yX11_fails cX11_fails 2 (some .boolean) 0 0 G Y [.ref (o), .int u1] (fun H => True) (fun H r H1 => ((r = 0 ∨ r = 1) ∧ (r.toInt = 0 ∧ (h_gi G H1 11 o 14).toInt = (h_gi G H 11 o 14).toInt ∧ (h_gi G H1 11 o 12).toInt = (h_gi G H 11 o 12).toInt ∧ (h_gi G H1 11 o 15).toInt = (h_gi G H 11 o 15).toInt)) ∧ (H1[o + 1]? = H[o + 1]?)) := by
  refine h_ofz (by decide +kernel) (Nat.le_of_ble_eq_true rfl) ?_
  intro p e s m args below meth c H0 ls Q hx hb hts hown hml hK hZ hT0 hpr hS0 hl hret
  have hl : lv_has ls 2 [(0, .ref (o)), (1, .int u1)] := hl
  obtain ⟨y1, my1⟩ : ∃ x, h_gi G H0 11 o 12 = x := ⟨_, rfl⟩
  obtain ⟨y2, my2⟩ : ∃ x, h_gi G H0 11 o 14 = x := ⟨_, rfl⟩
  have by2 : 0 ≤ y2.toInt ∧ y2.toInt ≤ 500 := by rw [← my2]; exact (hT0.gi (hM.o rfl) 14 rfl).1
  obtain ⟨y3, my3⟩ : ∃ x, h_gi G H0 11 o 15 = x := ⟨_, rfl⟩
  refine lv_aload_n hx hb dX11_fails_0 rfl (lv_at hl 0 rfl) ?_
  refine h_geti (C := RX11) (T := TX11) (N := 23) hx hb hts inX11 hown hK hT0 (hM.o rfl) rfl 16 rfl wF_X11_213 rfl dX11_fails_1 (fun p4 => ?_)
  refine lv_topi (fun x5 ex5 => ?_)
  refine lv_if_ne (tgt := 32) hx hb dX11_fails_4 (by decide) (fun c6 => ?_) (fun c6 => ?_)
  · skip
    have c6 : ¬ x5.toInt = (0 : Int) := h_neI c6
    refine lv_iconst (v := 0) hx hb dX11_fails_32 (by decide) ?_
    exact hret _ _ _ _ _ hT0 hS0 ⟨(by decide), ⟨⟨(by decide), (show (0 : Int) = 0 ∧ (h_gi G H0 11 o 14).toInt = (h_gi G H0 11 o 14).toInt ∧ (h_gi G H0 11 o 12).toInt = (h_gi G H0 11 o 12).toInt ∧ (h_gi G H0 11 o 15).toInt = (h_gi G H0 11 o 15).toInt from by rw [my1, my2, my3]; show (0 : Int) = 0 ∧ y2.toInt = y2.toInt ∧ y1.toInt = y1.toInt ∧ y3.toInt = y3.toInt; omega)⟩, rfl⟩⟩ dX11_fails_33
  · skip
    have c6 : x5.toInt = (0 : Int) := congrArg Int32.toInt c6
    refine lv_aload_n hx hb dX11_fails_7 rfl (lv_at hl 0 rfl) ?_
    refine lv_aload_n hx hb dX11_fails_8 rfl (lv_at hl 0 rfl) ?_
    refine h_geti (C := RX11) (T := TX11) (N := 23) hx hb hts inX11 hown hK hT0 (hM.o rfl) rfl 12 rfl wF_X11_186 rfl dX11_fails_9 (fun p7 => ?_)
    refine h_top (v := y1) my1 ?_
    refine lv_iconst (v := 1) hx hb dX11_fails_12 (by decide) ?_
    refine lv_icmp_ne (tgt := 20) hx hb dX11_fails_13 (by decide) (fun c8 => ?_) (fun c8 => ?_)
    · skip
      have c8 : ¬ y1.toInt = (1 : Int) := h_neI c8
      refine lv_iload_n hx hb dX11_fails_20 rfl (lv_at hl 1 rfl) ?_
      refine h_puti (C := RX11) (T := TX11) (N := 23) hx hb hts inX11 tyX11 tyX11_ok nmX11 hown hK hT0 (fun _ h => h) hS0 (hM.o rfl) rfl 16 rfl wF_X11_213 rfl rfl trivial rfl rfl dX11_fails_21 (fun H1 locs hT1 hS1 hu1 => ?_)
      have z9 : H1[o + 1]? = H0[o + 1]? := (hu1.2.1 (o + 1) (by omega))
      refine lv_aload_n hx hb dX11_fails_24 rfl (lv_at hl 0 rfl) ?_
      refine lv_aload_n hx hb dX11_fails_25 rfl (lv_at hl 0 rfl) ?_
      refine h_geti (C := RX11) (T := TX11) (N := 23) hx hb hts inX11 hown hK hT1 (hM.o rfl) rfl 13 rfl wF_X11_183 rfl dX11_fails_26 (fun p10 => ?_)
      refine lv_topi (fun x11 ex11 => ?_)
      have bx11 : 0 ≤ x11.toInt ∧ x11.toInt ≤ 500 := by rw [ex11]; exact p10
      refine h_puti (C := RX11) (T := TX11) (N := 23) hx hb hts inX11 tyX11 tyX11_ok nmX11 hown hK hT1 (fun _ h => h) hS1 (hM.o rfl) rfl 17 rfl wF_X11_24 rfl rfl trivial rfl rfl dX11_fails_29 (fun H2 locs hT2 hS2 hu2 => ?_)
      have z12 : H2[o + 1]? = H0[o + 1]? := (hu2.2.1 (o + 1) (by omega)).trans z9
      refine lv_iconst (v := 0) hx hb dX11_fails_32 (by decide) ?_
      exact hret _ _ _ _ _ hT2 hS2 ⟨(by decide), ⟨⟨(by decide), (show (0 : Int) = 0 ∧ (h_gi G H2 11 o 14).toInt = (h_gi G H0 11 o 14).toInt ∧ (h_gi G H2 11 o 12).toInt = (h_gi G H0 11 o 12).toInt ∧ (h_gi G H2 11 o 15).toInt = (h_gi G H0 11 o 15).toInt from by rw [my1, ((h_ps hu2 rfl (by decide) (by decide)).trans ((h_ps hu1 rfl (by decide) (by decide)).trans my1)), my2, ((h_ps hu2 rfl (by decide) (by decide)).trans ((h_ps hu1 rfl (by decide) (by decide)).trans my2)), my3, ((h_ps hu2 rfl (by decide) (by decide)).trans ((h_ps hu1 rfl (by decide) (by decide)).trans my3))]; show (0 : Int) = 0 ∧ y2.toInt = y2.toInt ∧ y1.toInt = y1.toInt ∧ y3.toInt = y3.toInt; omega)⟩, z12⟩⟩ dX11_fails_33
    · skip
      have c8 : y1.toInt = (1 : Int) := congrArg Int32.toInt c8
      refine lv_iconst (v := 1) hx hb dX11_fails_16 (by decide) ?_
      refine lv_goto (tgt := 21) hx hb dX11_fails_17 (by decide) ?_
      refine h_puti (C := RX11) (T := TX11) (N := 23) hx hb hts inX11 tyX11 tyX11_ok nmX11 hown hK hT0 (fun _ h => h) hS0 (hM.o rfl) rfl 16 rfl wF_X11_213 rfl rfl trivial rfl rfl dX11_fails_21 (fun H3 locs hT3 hS3 hu3 => ?_)
      have z13 : H3[o + 1]? = H0[o + 1]? := (hu3.2.1 (o + 1) (by omega))
      refine lv_aload_n hx hb dX11_fails_24 rfl (lv_at hl 0 rfl) ?_
      refine lv_aload_n hx hb dX11_fails_25 rfl (lv_at hl 0 rfl) ?_
      refine h_geti (C := RX11) (T := TX11) (N := 23) hx hb hts inX11 hown hK hT3 (hM.o rfl) rfl 13 rfl wF_X11_183 rfl dX11_fails_26 (fun p14 => ?_)
      refine lv_topi (fun x15 ex15 => ?_)
      have bx15 : 0 ≤ x15.toInt ∧ x15.toInt ≤ 500 := by rw [ex15]; exact p14
      refine h_puti (C := RX11) (T := TX11) (N := 23) hx hb hts inX11 tyX11 tyX11_ok nmX11 hown hK hT3 (fun _ h => h) hS3 (hM.o rfl) rfl 17 rfl wF_X11_24 rfl rfl trivial rfl rfl dX11_fails_29 (fun H4 locs hT4 hS4 hu4 => ?_)
      have z16 : H4[o + 1]? = H0[o + 1]? := (hu4.2.1 (o + 1) (by omega)).trans z13
      refine lv_iconst (v := 0) hx hb dX11_fails_32 (by decide) ?_
      exact hret _ _ _ _ _ hT4 hS4 ⟨(by decide), ⟨⟨(by decide), (show (0 : Int) = 0 ∧ (h_gi G H4 11 o 14).toInt = (h_gi G H0 11 o 14).toInt ∧ (h_gi G H4 11 o 12).toInt = (h_gi G H0 11 o 12).toInt ∧ (h_gi G H4 11 o 15).toInt = (h_gi G H0 11 o 15).toInt from by rw [my1, ((h_ps hu4 rfl (by decide) (by decide)).trans ((h_ps hu3 rfl (by decide) (by decide)).trans my1)), my2, ((h_ps hu4 rfl (by decide) (by decide)).trans ((h_ps hu3 rfl (by decide) (by decide)).trans my2)), my3, ((h_ps hu4 rfl (by decide) (by decide)).trans ((h_ps hu3 rfl (by decide) (by decide)).trans my3))]; show (0 : Int) = 0 ∧ y2.toInt = y2.toInt ∧ y1.toInt = y1.toInt ∧ y3.toInt = y3.toInt; omega)⟩, z16⟩⟩ dX11_fails_33
set_option maxHeartbeats 4000000 in
set_option maxRecDepth 100000 in
theorem c_X11_namedHere (l : Launch) (G : hG) (Y : hW) (P : Int32 → Prop) (o : Nat) (hM : h_On Y o (modE (tM P) o)) : hMi l yX11_namedHere cX11_namedHere 4 (some .int) 1 21 G Y [.ref (o)] (fun H => True) (fun H r H1 => (H1[o]? = H[o]? ∧ (r.toInt = -1 ∨ (0 ≤ r.toInt ∧ r.toInt < (h_ai H (o + 1) 0).toInt))) ∧ (H1[o + 1]? = H[o + 1]?)) := by
  refine h_ofi (by decide +kernel) (Nat.le_of_ble_eq_true rfl) ?_
  intro p e s m args below meth c H0 ls Q hx hb hts hown hml hK hZ hT0 hpr hS0 hl hret
  have hl : lv_has ls 4 [(0, .ref (o))] := hl
  refine lv_lconst (v := 0) hx hb dX11_namedHere_0 (by decide) ?_
  refine lv_lstore_n (lv' := [(1, .long (0 : Int64)), (0, .ref (o))]) hx hb dX11_namedHere_1 rfl hl (by decide) rfl (fun ls hl => ?_)
  refine lv_aload_n hx hb dX11_namedHere_2 rfl (lv_at hl 1 rfl) ?_
  refine h_geti (C := RX11) (T := TX11) (N := 23) hx hb hts inX11 hown hK hT0 (hM.o rfl) rfl 13 rfl wF_X11_183 rfl dX11_namedHere_3 (fun p1 => ?_)
  refine lv_topi (fun x2 ex2 => ?_)
  have bx2 : 0 ≤ x2.toInt ∧ x2.toInt ≤ 500 := by rw [ex2]; exact p1
  refine lv_istore_n (lv' := [(3, .int x2), (1, .long (0 : Int64)), (0, .ref (o))]) hx hb dX11_namedHere_6 rfl hl (by decide) rfl (fun ls hl => ?_)
  have LP1 : ∀ (n1 : Nat) (w1_3 : Int32) (w1_1 : Int64), (2147483647 - w1_3.toInt < (n1 : Int)) → (0 ≤ w1_3.toInt) → ∀ (locs : List Loc) (ls : Array Slot), va_S (h_A Y) s.heap H0 locs → lv_has ls 4 [(3, .int w1_3), (1, .long w1_1), (0, .ref (o))] → W p l e (h_rm 1 21) s m args below meth c H0 locs 0 0 Q (F0 m 7 ls []) := by
    intro n1
    induction n1 with
    | zero =>
      intro w1_3 w1_1 hm hlo1_3
      intros
      exfalso
      have := Int32.toInt_lt w1_3; have := Int32.le_toInt w1_3
      omega
    | succ n1 ih1 =>
      intro w1_3 w1_1 hm hlo1_3  locs ls hS2 hl
      refine lv_iload_n hx hb dX11_namedHere_7 rfl (lv_at hl 0 rfl) ?_
      refine lv_aload_n hx hb dX11_namedHere_8 rfl (lv_at hl 2 rfl) ?_
      refine h_geti (C := RX11) (T := TX11) (N := 23) hx hb hts inX11 hown hK hT0 (hM.o rfl) rfl 14 rfl wF_X11_177 rfl dX11_namedHere_9 (fun p3 => ?_)
      refine lv_topi (fun x4 ex4 => ?_)
      have bx4 : 0 ≤ x4.toInt ∧ x4.toInt ≤ 500 := by rw [ex4]; exact p3
      refine lv_icmp_ge (tgt := 33) hx hb dX11_namedHere_12 (by decide) (fun c5 => ?_) (fun c5 => ?_)
      · skip
        have c5 : x4.toInt ≤ w1_3.toInt := Int32.le_iff_toInt_le.mp c5
        refine lv_iconst (v := 0) hx hb dX11_namedHere_33 (by decide) ?_
        refine lv_istore_n (lv' := [(3, .int 0), (1, .long w1_1), (0, .ref (o))]) hx hb dX11_namedHere_34 rfl hl (by decide) rfl (fun ls hl => ?_)
        have LP2 : ∀ (n2 : Nat) (w2_3 : Int32), (2147483647 - w2_3.toInt < (n2 : Int)) → (0 ≤ w2_3.toInt) → ∀ (locs : List Loc) (ls : Array Slot), va_S (h_A Y) s.heap H0 locs → lv_has ls 4 [(3, .int w2_3), (1, .long w1_1), (0, .ref (o))] → W p l e (h_rm 1 21) s m args below meth c H0 locs 0 0 Q (F0 m 35 ls []) := by
          intro n2
          induction n2 with
          | zero =>
            intro w2_3 hm hlo2_3
            intros
            exfalso
            have := Int32.toInt_lt w2_3; have := Int32.le_toInt w2_3
            omega
          | succ n2 ih2 =>
            intro w2_3 hm hlo2_3  locs ls hS4 hl
            refine lv_iload_n hx hb dX11_namedHere_35 rfl (lv_at hl 0 rfl) ?_
            refine lv_aload_n hx hb dX11_namedHere_36 rfl (lv_at hl 2 rfl) ?_
            refine lv_iconst (v := 0) hx hb dX11_namedHere_37 (by decide) ?_
            refine h_callVi (T := TX11) (rest := [.int w2_3]) (As := [.int 0]) hx hb hml hown hts hK hT0 hZ (fun _ h => h) hS4 (c_of l G Y P (o) hM 0 0 (by decide) (h_inc (by decide))) trivial wd_X11_of wV_X11_of wL_X11_47 (hM.o rfl) rfl rfl hl.1 rfl (Nat.le_of_ble_eq_true rfl) dX11_namedHere_38 ⟨Nat.le_of_ble_eq_true rfl, Nat.le_of_ble_eq_true rfl⟩ ⟨Nat.zero_le _, Nat.zero_le _⟩ (fun r6 H5 locs hp5 hT5 hS5 hk5 => ?_)
            obtain ⟨hp5, he⟩ := hp5
            have he := he.symm
            subst he
            have mr6 : h_ai H0 (o + 1) 0 = r6 := hp5.1.symm
            have br6 := mP_N hp5.2 (by omega)
            refine lv_icmp_ge (tgt := 63) hx hb dX11_namedHere_41 (by decide) (fun c7 => ?_) (fun c7 => ?_)
            · skip
              have c7 : r6.toInt ≤ w2_3.toInt := Int32.le_iff_toInt_le.mp c7
              refine lv_aload_n hx hb dX11_namedHere_63 rfl (lv_at hl 2 rfl) ?_
              refine h_getr (C := RX11) (T := TX11) (N := 23) hx hb hts inX11 hown hK hT0 (hM.o rfl) rfl 9 rfl wF_X11_20 rfl dX11_namedHere_64 ?_
              refine lv_bipush (v := 7) hx hb dX11_namedHere_67 (by decide) ?_
              refine lv_aload_n hx hb dX11_namedHere_69 rfl (lv_at hl 2 rfl) ?_
              refine lv_iconst (v := 0) hx hb dX11_namedHere_70 (by decide) ?_
              refine h_callVi (T := TX11) (rest := [.int 7, .ref (o + 4)]) (As := [.int 0]) hx hb hml hown hts hK hT0 hZ (fun _ h => h) hS5 (c_of l G Y P (o) hM 0 0 (by decide) (h_inc (by decide))) trivial wd_X11_of wV_X11_of wL_X11_47 (hM.o rfl) rfl rfl hl.1 rfl (Nat.le_of_ble_eq_true rfl) dX11_namedHere_71 ⟨Nat.le_of_ble_eq_true rfl, Nat.le_of_ble_eq_true rfl⟩ ⟨Nat.zero_le _, Nat.zero_le _⟩ (fun r8 H6 locs hp6 hT6 hS6 hk6 => ?_)
              obtain ⟨hp6, he⟩ := hp6
              have he := he.symm
              subst he
              have hp6 : r6 = r8 := (hp6.1.trans mr6).symm
              subst hp6
              refine h_callSi (rest := [.ref (o + 4)]) (As := [.int 7, .int r6]) hx hb hml hown hts hK hT0 hZ (fun _ h => h) hS6 (c_J_min l G Y 7 r6) trivial wd_J9_min_7cf53 wS_J9_min_7cf53 wL_X11_199 rfl hl.1 rfl (Nat.le_of_ble_eq_true rfl) dX11_namedHere_74 ⟨Nat.le_of_ble_eq_true rfl, Nat.le_of_ble_eq_true rfl⟩ ⟨Nat.zero_le _, Nat.zero_le _⟩ (fun r9 H7 locs hp7 hT7 hS7 hk7 => ?_)
              obtain ⟨hp7, he⟩ := hp7
              have he := he.symm
              subst he
              have f10 : ((r9.toInt = (7 : Int) ∨ r9.toInt = r6.toInt) ∧ r9.toInt ≤ (7 : Int) ∧ r9.toInt ≤ r6.toInt) := by have q := hp7; exact q
              refine lv_aload_n hx hb dX11_namedHere_77 rfl (lv_at hl 2 rfl) ?_
              refine lv_iconst (v := 0) hx hb dX11_namedHere_78 (by decide) ?_
              refine h_callVi (T := TX11) (rest := [.int r9, .ref (o + 4)]) (As := [.int 0]) hx hb hml hown hts hK hT0 hZ (fun _ h => h) hS7 (c_of l G Y P (o) hM 0 0 (by decide) (h_inc (by decide))) trivial wd_X11_of wV_X11_of wL_X11_47 (hM.o rfl) rfl rfl hl.1 rfl (Nat.le_of_ble_eq_true rfl) dX11_namedHere_79 ⟨Nat.le_of_ble_eq_true rfl, Nat.le_of_ble_eq_true rfl⟩ ⟨Nat.zero_le _, Nat.zero_le _⟩ (fun r11 H8 locs hp8 hT8 hS8 hk8 => ?_)
              obtain ⟨hp8, he⟩ := hp8
              have he := he.symm
              subst he
              have hp8 : r6 = r11 := (hp8.1.trans mr6).symm
              subst hp8
              refine lv_bipush (v := 8) hx hb dX11_namedHere_82 (by decide) ?_
              refine lv_icmp_ge (tgt := 91) hx hb dX11_namedHere_84 (by decide) (fun c12 => ?_) (fun c12 => ?_)
              · skip
                have c12 : (8 : Int) ≤ r6.toInt := Int32.le_iff_toInt_le.mp c12
                refine lv_aload_n hx hb dX11_namedHere_91 rfl (lv_at hl 2 rfl) ?_
                refine h_getr (C := RX11) (T := TX11) (N := 23) hx hb hts inX11 hown hK hT0 (hM.o rfl) rfl 9 rfl wF_X11_20 rfl dX11_namedHere_92 ?_
                refine lv_bipush (v := 7) hx hb dX11_namedHere_95 (by decide) ?_
                refine h_lald hx hb hK hT0 (hM.at 4 rfl) (h_inc (by decide)) dX11_namedHere_97 (fun y13 => ?_)
                refine h_last hx hb hK hT0 (fun _ h => h) hS8 (hM.at 4 rfl) (h_vin (by omega) (by omega)) dX11_namedHere_98 (fun H9 locs hT9 hS9 hu9 => ?_)
                have z14 : H9[o + 1]? = H0[o + 1]? := (hu9.2.1 (o + 1) (by omega))
                have m15 : h_ai H9 (o + 1) 0 = r6 := (h_ai_same (hu9.2.1 (o + 1) (by omega))).trans mr6
                refine lv_iconst (v := (-1)) hx hb dX11_namedHere_99 (by decide) ?_
                exact hret _ _ _ _ _ hT9 hS9 ⟨⟨(hu9.2.1 o (by omega)), (show (-1 : Int) = -1 ∨ (0 ≤ (-1 : Int) ∧ (-1 : Int) < (h_ai H0 (o + 1) 0).toInt) from by rw [mr6]; omega)⟩, z14⟩ dX11_namedHere_100
              · skip
                have c12 : ¬ (8 : Int) ≤ r6.toInt := h_nleI c12
                refine lv_lload_n hx hb dX11_namedHere_87 rfl (lv_at hl 1 rfl) ?_
                refine lv_goto (tgt := 98) hx hb dX11_namedHere_88 (by decide) ?_
                refine h_last hx hb hK hT0 (fun _ h => h) hS8 (hM.at 4 rfl) (h_vin (by omega) (by omega)) dX11_namedHere_98 (fun H10 locs hT10 hS10 hu10 => ?_)
                have z16 : H10[o + 1]? = H0[o + 1]? := (hu10.2.1 (o + 1) (by omega))
                have m17 : h_ai H10 (o + 1) 0 = r6 := (h_ai_same (hu10.2.1 (o + 1) (by omega))).trans mr6
                refine lv_iconst (v := (-1)) hx hb dX11_namedHere_99 (by decide) ?_
                exact hret _ _ _ _ _ hT10 hS10 ⟨⟨(hu10.2.1 o (by omega)), (show (-1 : Int) = -1 ∨ (0 ≤ (-1 : Int) ∧ (-1 : Int) < (h_ai H0 (o + 1) 0).toInt) from by rw [mr6]; omega)⟩, z16⟩ dX11_namedHere_100
            · skip
              have c7 : ¬ r6.toInt ≤ w2_3.toInt := h_nleI c7
              refine lv_aload_n hx hb dX11_namedHere_44 rfl (lv_at hl 2 rfl) ?_
              refine h_getr (C := RX11) (T := TX11) (N := 23) hx hb hts inX11 hown hK hT0 (hM.o rfl) rfl 9 rfl wF_X11_20 rfl dX11_namedHere_45 ?_
              refine lv_iload_n hx hb dX11_namedHere_48 rfl (lv_at hl 0 rfl) ?_
              refine h_lald hx hb hK hT0 (hM.at 4 rfl) (h_vin (by omega) (by omega)) dX11_namedHere_49 (fun y18 => ?_)
              refine lv_lload_n hx hb dX11_namedHere_50 rfl (lv_at hl 1 rfl) ?_
              refine W.lcmp hx hb dX11_namedHere_51 ?_
              refine lv_topi (fun x19 ex19 => ?_)
              refine lv_if_ne (tgt := 57) hx hb dX11_namedHere_52 (by decide) (fun c20 => ?_) (fun c20 => ?_)
              · skip
                have c20 : ¬ x19.toInt = (0 : Int) := h_neI c20
                obtain ⟨x21, qx21, ix21⟩ := h_addX w2_3 1 w2_3.toInt (1 : Int) rfl rfl (by omega) (by omega)
                refine lv_iinc (v := x21) (lv' := [(3, .int x21), (1, .long w1_1), (0, .ref (o))]) hx hb dX11_namedHere_57 hl (k := 0) rfl qx21 (by decide) rfl (fun ls hl => ?_)
                refine lv_goto (tgt := 35) hx hb dX11_namedHere_60 (by decide) ?_
                exact ih2 x21 (show 2147483647 - x21.toInt < (n2 : Int) from by omega) (show 0 ≤ x21.toInt from by omega) _ _ hS5 (lv_sub hl [0, 1, 2] rfl)
              · skip
                have c20 : x19.toInt = (0 : Int) := congrArg Int32.toInt c20
                refine lv_iload_n hx hb dX11_namedHere_55 rfl (lv_at hl 0 rfl) ?_
                exact hret _ _ _ _ _ hT0 hS5 ⟨⟨rfl, (show w2_3.toInt = -1 ∨ (0 ≤ w2_3.toInt ∧ w2_3.toInt < (h_ai H0 (o + 1) 0).toInt) from by rw [mr6]; omega)⟩, rfl⟩ dX11_namedHere_56
        exact LP2 4294967296 0 (show 2147483647 - (0 : Int) < ((4294967296 : Nat) : Int) from by omega) (show 0 ≤ (0 : Int) from by omega) _ _ hS2 (lv_sub hl [0, 1, 2] rfl)
      · skip
        have c5 : ¬ x4.toInt ≤ w1_3.toInt := h_nleI c5
        refine lv_lload_n hx hb dX11_namedHere_15 rfl (lv_at hl 1 rfl) ?_
        refine lv_bipush (v := 8) hx hb dX11_namedHere_16 (by decide) ?_
        refine lv_lshl hx hb dX11_namedHere_18 rfl ?_
        refine lv_topl (fun x22 ex22 => ?_)
        refine lv_aload_n hx hb dX11_namedHere_19 rfl (lv_at hl 2 rfl) ?_
        refine lv_iload_n hx hb dX11_namedHere_20 rfl (lv_at hl 0 rfl) ?_
        refine h_callVi (T := TX11) (rest := [.long x22]) (As := [.int w1_3]) hx hb hml hown hts hK hT0 hZ (fun _ h => h) hS2 (c_X11_byteAt l G Y P (o) hM w1_3 (show 0 ≤ w1_3.toInt ∧ w1_3.toInt ≤ 1000 from by omega)) trivial wd_X11_byteAt wV_X11_byteAt wL_X11_180 (hM.o rfl) rfl rfl hl.1 rfl (Nat.le_of_ble_eq_true rfl) dX11_namedHere_21 ⟨Nat.le_of_ble_eq_true rfl, Nat.le_of_ble_eq_true rfl⟩ ⟨Nat.zero_le _, Nat.zero_le _⟩ (fun r23 H11 locs hp11 hT11 hS11 hk11 => ?_)
        obtain ⟨hp11, he⟩ := hp11
        have he := he.symm
        subst he
        have f24 : r23.toInt = -1 ∨ w1_3.toInt ≤ 499 := by have q := hp11; exact q
        refine lv_i2l hx hb dX11_namedHere_24 rfl ?_
        refine lv_topl (fun x25 ex25 => ?_)
        refine lv_lor hx hb dX11_namedHere_25 ?_
        refine lv_topl (fun x26 ex26 => ?_)
        refine lv_lstore_n (lv' := [(1, .long x26), (3, .int w1_3), (0, .ref (o))]) hx hb dX11_namedHere_26 rfl hl (by decide) rfl (fun ls hl => ?_)
        obtain ⟨x27, qx27, ix27⟩ := h_addX w1_3 1 w1_3.toInt (1 : Int) rfl rfl (by omega) (by omega)
        refine lv_iinc (v := x27) (lv' := [(3, .int x27), (1, .long x26), (0, .ref (o))]) hx hb dX11_namedHere_27 hl (k := 1) rfl qx27 (by decide) rfl (fun ls hl => ?_)
        refine lv_goto (tgt := 7) hx hb dX11_namedHere_30 (by decide) ?_
        exact ih1 x27 x26 (show 2147483647 - x27.toInt < (n1 : Int) from by omega) (show 0 ≤ x27.toInt from by omega) _ _ hS11 (lv_sub hl [0, 1, 2] rfl)
  exact LP1 4294967296 x2 (0 : Int64) (show 2147483647 - x2.toInt < ((4294967296 : Nat) : Int) from by have := Int32.le_toInt x2; have := Int32.toInt_lt x2; omega) (show 0 ≤ x2.toInt from by omega) _ _ hS0 (lv_sub hl [0, 1, 2] rfl)
set_option maxHeartbeats 4000000 in
set_option maxRecDepth 100000 in
theorem c_X11_stationHere (l : Launch) (G : hG) (Y : hW) (P : Int32 → Prop) (o : Nat) (hM : h_On Y o (modE (tM P) o)) : hMi l yX11_stationHere cX11_stationHere 2 (some .int) 6 130 G Y [.ref (o)] (fun H => True) (fun H r H1 => ((h_gi G H1 11 o 14).toInt = (h_gi G H 11 o 14).toInt ∧ (h_gi G H1 11 o 12).toInt = (h_gi G H 11 o 12).toInt ∧ (r.toInt = -1 ∨ (0 ≤ r.toInt ∧ r.toInt < (h_ai H (o + 1) 0).toInt))) ∧ (H1[o + 1]? = H[o + 1]?)) := by
  refine h_ofi (by decide +kernel) (Nat.le_of_ble_eq_true rfl) ?_
  intro p e s m args below meth c H0 ls Q hx hb hts hown hml hK hZ hT0 hpr hS0 hl hret
  have hl : lv_has ls 2 [(0, .ref (o))] := hl
  obtain ⟨y1, my1⟩ : ∃ x, h_gi G H0 11 o 12 = x := ⟨_, rfl⟩
  obtain ⟨y2, my2⟩ : ∃ x, h_gi G H0 11 o 14 = x := ⟨_, rfl⟩
  have by2 : 0 ≤ y2.toInt ∧ y2.toInt ≤ 500 := by rw [← my2]; exact (hT0.gi (hM.o rfl) 14 rfl).1
  refine lv_aload_n hx hb dX11_stationHere_0 rfl (lv_at hl 0 rfl) ?_
  refine h_callVi (T := TX11) (rest := []) (As := []) hx hb hml hown hts hK hT0 hZ (fun _ h => h) hS0 (c_X11_isName l G Y P (o) hM) trivial wd_X11_isName wV_X11_isName wL_X11_219 (hM.o rfl) rfl rfl hl.1 rfl (Nat.le_of_ble_eq_true rfl) dX11_stationHere_1 ⟨Nat.le_of_ble_eq_true rfl, Nat.le_of_ble_eq_true rfl⟩ ⟨Nat.zero_le _, Nat.zero_le _⟩ (fun r3 H1 locs hp1 hT1 hS1 hk1 => ?_)
  obtain ⟨hp1, he⟩ := hp1
  have he := he.symm
  subst he
  refine lv_if_ne (tgt := 15) hx hb dX11_stationHere_4 (by decide) (fun c4 => ?_) (fun c4 => ?_)
  · skip
    have c4 : ¬ r3.toInt = (0 : Int) := h_neI c4
    refine lv_aload_n hx hb dX11_stationHere_15 rfl (lv_at hl 0 rfl) ?_
    obtain ⟨v5, mv5⟩ : ∃ x, h_ai H0 (o + 1) 0 = x := ⟨_, rfl⟩
    have bv5 := mP_N (mP_cell hM hT0 (j := 0) (by omega)) (by omega)
    rw [mv5] at bv5
    refine h_callVi (T := TX11) (rest := []) (As := []) hx hb hml hown hts hK hT0 hZ (fun _ h => h) hS1 (c_X11_namedHere l G Y P (o) hM) trivial wd_X11_namedHere wV_X11_namedHere wL_X11_225 (hM.o rfl) rfl rfl hl.1 rfl (Nat.le_of_ble_eq_true rfl) dX11_stationHere_16 ⟨Nat.le_of_ble_eq_true rfl, Nat.le_of_ble_eq_true rfl⟩ ⟨Nat.zero_le _, Nat.zero_le _⟩ (fun r6 H2 locs hp2 hT2 hS2 hk2 => ?_)
    obtain ⟨hp2, hB2⟩ := hp2
    have z7 : H2[o + 1]? = H0[o + 1]? := hB2
    have m8 : h_ai H2 (o + 1) 0 = v5 := (h_ai_same hB2).trans mv5
    have f9 : r6.toInt = -1 ∨ (0 ≤ r6.toInt ∧ r6.toInt < v5.toInt) := by have q := hp2.2; rw [mv5] at q; exact q
    refine lv_istore_n (lv' := [(1, .int r6), (0, .ref (o))]) hx hb dX11_stationHere_19 rfl hl (by decide) rfl (fun ls hl => ?_)
    refine lv_iload_n hx hb dX11_stationHere_20 rfl (lv_at hl 0 rfl) ?_
    refine lv_iconst (v := (-1)) hx hb dX11_stationHere_21 (by decide) ?_
    refine lv_icmp_ne (tgt := 31) hx hb dX11_stationHere_22 (by decide) (fun c10 => ?_) (fun c10 => ?_)
    · skip
      have c10 : ¬ r6.toInt = (-1 : Int) := h_neI c10
      refine lv_iload_n hx hb dX11_stationHere_31 rfl (lv_at hl 0 rfl) ?_
      exact hret _ _ _ _ _ hT2 hS2 ⟨(show (h_gi G H2 11 o 14).toInt = (h_gi G H0 11 o 14).toInt ∧ (h_gi G H2 11 o 12).toInt = (h_gi G H0 11 o 12).toInt ∧ (r6.toInt = -1 ∨ (0 ≤ r6.toInt ∧ r6.toInt < (h_ai H0 (o + 1) 0).toInt)) from by rw [mv5, my1, ((h_gi_same hp2.1).trans my1), my2, ((h_gi_same hp2.1).trans my2)]; show y2.toInt = y2.toInt ∧ y1.toInt = y1.toInt ∧ (r6.toInt = -1 ∨ (0 ≤ r6.toInt ∧ r6.toInt < v5.toInt)); omega), z7⟩ dX11_stationHere_32
    · skip
      have c10 : r6.toInt = (-1 : Int) := congrArg Int32.toInt c10
      refine lv_aload_n hx hb dX11_stationHere_25 rfl (lv_at hl 1 rfl) ?_
      refine lv_iconst (v := 3) hx hb dX11_stationHere_26 (by decide) ?_
      obtain ⟨y11, my11⟩ : ∃ x, h_gi G H2 11 o 15 = x := ⟨_, rfl⟩
      refine h_callVi (T := TX11) (rest := []) (As := [.int 3]) hx hb hml hown hts hK hT2 hZ (fun _ h => h) hS2 (c_X11_fails l G Y P (o) hM 3) trivial wd_X11_fails wV_X11_fails wL_X11_222 (hM.o rfl) rfl rfl hl.1 rfl (Nat.le_of_ble_eq_true rfl) dX11_stationHere_27 ⟨Nat.le_of_ble_eq_true rfl, Nat.le_of_ble_eq_true rfl⟩ ⟨Nat.zero_le _, Nat.zero_le _⟩ (fun r12 H3 locs hp3 hT3 hS3 hk3 => ?_)
      obtain ⟨hp3, hB3⟩ := hp3
      have z13 : H3[o + 1]? = H0[o + 1]? := hB3.trans z7
      have m14 : h_ai H3 (o + 1) 0 = v5 := (h_ai_same hB3).trans m8
      obtain ⟨y15, my15⟩ : ∃ x, h_gi G H3 11 o 12 = x := ⟨_, rfl⟩
      obtain ⟨y16, my16⟩ : ∃ x, h_gi G H3 11 o 14 = x := ⟨_, rfl⟩
      have by16 : 0 ≤ y16.toInt ∧ y16.toInt ≤ 500 := by rw [← my16]; exact (hT3.gi (hM.o rfl) 14 rfl).1
      obtain ⟨y17, my17⟩ : ∃ x, h_gi G H3 11 o 15 = x := ⟨_, rfl⟩
      have f18 : r12.toInt = 0 ∧ y16.toInt = y2.toInt ∧ y15.toInt = y1.toInt ∧ y17.toInt = y11.toInt := by have q := hp3.2; rw [((h_gi_same hp2.1).trans my1)] at q; rw [my15] at q; rw [((h_gi_same hp2.1).trans my2)] at q; rw [my16] at q; rw [my11] at q; rw [my17] at q; exact q
      refine lv_pop hx hb dX11_stationHere_30 rfl ?_
      refine lv_iload_n hx hb dX11_stationHere_31 rfl (lv_at hl 0 rfl) ?_
      exact hret _ _ _ _ _ hT3 hS3 ⟨(show (h_gi G H3 11 o 14).toInt = (h_gi G H0 11 o 14).toInt ∧ (h_gi G H3 11 o 12).toInt = (h_gi G H0 11 o 12).toInt ∧ (r6.toInt = -1 ∨ (0 ≤ r6.toInt ∧ r6.toInt < (h_ai H0 (o + 1) 0).toInt)) from by rw [mv5, my1, my15, my2, my16]; show y16.toInt = y2.toInt ∧ y15.toInt = y1.toInt ∧ (r6.toInt = -1 ∨ (0 ≤ r6.toInt ∧ r6.toInt < v5.toInt)); omega), z13⟩ dX11_stationHere_32
  · skip
    have c4 : r3.toInt = (0 : Int) := congrArg Int32.toInt c4
    refine lv_aload_n hx hb dX11_stationHere_7 rfl (lv_at hl 0 rfl) ?_
    refine lv_iconst (v := 2) hx hb dX11_stationHere_8 (by decide) ?_
    obtain ⟨y19, my19⟩ : ∃ x, h_gi G H0 11 o 15 = x := ⟨_, rfl⟩
    refine h_callVi (T := TX11) (rest := []) (As := [.int 2]) hx hb hml hown hts hK hT0 hZ (fun _ h => h) hS1 (c_X11_fails l G Y P (o) hM 2) trivial wd_X11_fails wV_X11_fails wL_X11_222 (hM.o rfl) rfl rfl hl.1 rfl (Nat.le_of_ble_eq_true rfl) dX11_stationHere_9 ⟨Nat.le_of_ble_eq_true rfl, Nat.le_of_ble_eq_true rfl⟩ ⟨Nat.zero_le _, Nat.zero_le _⟩ (fun r20 H4 locs hp4 hT4 hS4 hk4 => ?_)
    obtain ⟨hp4, hB4⟩ := hp4
    have z21 : H4[o + 1]? = H0[o + 1]? := hB4
    obtain ⟨y22, my22⟩ : ∃ x, h_gi G H4 11 o 12 = x := ⟨_, rfl⟩
    obtain ⟨y23, my23⟩ : ∃ x, h_gi G H4 11 o 14 = x := ⟨_, rfl⟩
    have by23 : 0 ≤ y23.toInt ∧ y23.toInt ≤ 500 := by rw [← my23]; exact (hT4.gi (hM.o rfl) 14 rfl).1
    obtain ⟨y24, my24⟩ : ∃ x, h_gi G H4 11 o 15 = x := ⟨_, rfl⟩
    have f25 : r20.toInt = 0 ∧ y23.toInt = y2.toInt ∧ y22.toInt = y1.toInt ∧ y24.toInt = y19.toInt := by have q := hp4.2; rw [my1] at q; rw [my22] at q; rw [my2] at q; rw [my23] at q; rw [my19] at q; rw [my24] at q; exact q
    refine lv_pop hx hb dX11_stationHere_12 rfl ?_
    refine lv_iconst (v := (-1)) hx hb dX11_stationHere_13 (by decide) ?_
    exact hret _ _ _ _ _ hT4 hS4 ⟨(show (h_gi G H4 11 o 14).toInt = (h_gi G H0 11 o 14).toInt ∧ (h_gi G H4 11 o 12).toInt = (h_gi G H0 11 o 12).toInt ∧ ((-1 : Int) = -1 ∨ (0 ≤ (-1 : Int) ∧ (-1 : Int) < (h_ai H0 (o + 1) 0).toInt)) from by rw [my1, my22, my2, my23]; show y23.toInt = y2.toInt ∧ y22.toInt = y1.toInt ∧ ((-1 : Int) = -1 ∨ (0 ≤ (-1 : Int) ∧ (-1 : Int) < (h_ai H0 (o + 1) 0).toInt)); omega), z21⟩ dX11_stationHere_14
set_option maxHeartbeats 4000000 in
set_option maxRecDepth 100000 in
theorem c_X11_isNumber (l : Launch) (G : hG) (Y : hW) (P : Int32 → Prop) (o : Nat) (hM : h_On Y o (modE (tM P) o)) (u1 u2 : Int32) : hMi l yX11_isNumber cX11_isNumber 3 (some .boolean) 1 22 G Y [.ref (o), .int u1, .int u2] (fun H => True) (fun H r H1 => ((r = 0 ∨ r = 1) ∧ ((h_gi G H1 11 o 14).toInt = (h_gi G H 11 o 14).toInt ∧ (h_gi G H1 11 o 12).toInt = (h_gi G H 11 o 12).toInt ∧ (h_gi G H1 11 o 15).toInt = (h_gi G H 11 o 15).toInt ∧ (r.toInt = 0 ∨ (u1.toInt ≤ (h_gi G H 11 o 15).toInt ∧ (h_gi G H 11 o 15).toInt ≤ u2.toInt)))) ∧ (H1[o + 1]? = H[o + 1]?)) := by
  refine h_ofz (by decide +kernel) (Nat.le_of_ble_eq_true rfl) ?_
  intro p e s m args below meth c H0 ls Q hx hb hts hown hml hK hZ hT0 hpr hS0 hl hret
  have hl : lv_has ls 3 [(0, .ref (o)), (1, .int u1), (2, .int u2)] := hl
  obtain ⟨y1, my1⟩ : ∃ x, h_gi G H0 11 o 12 = x := ⟨_, rfl⟩
  obtain ⟨y2, my2⟩ : ∃ x, h_gi G H0 11 o 14 = x := ⟨_, rfl⟩
  have by2 : 0 ≤ y2.toInt ∧ y2.toInt ≤ 500 := by rw [← my2]; exact (hT0.gi (hM.o rfl) 14 rfl).1
  obtain ⟨y3, my3⟩ : ∃ x, h_gi G H0 11 o 15 = x := ⟨_, rfl⟩
  refine lv_aload_n hx hb dX11_isNumber_0 rfl (lv_at hl 0 rfl) ?_
  refine h_geti (C := RX11) (T := TX11) (N := 23) hx hb hts inX11 hown hK hT0 (hM.o rfl) rfl 12 rfl wF_X11_186 rfl dX11_isNumber_1 (fun p4 => ?_)
  refine h_top (v := y1) my1 ?_
  refine lv_iconst (v := 3) hx hb dX11_isNumber_4 (by decide) ?_
  refine lv_icmp_eq (tgt := 14) hx hb dX11_isNumber_5 (by decide) (fun c5 => ?_) (fun c5 => ?_)
  · skip
    have c5 : y1.toInt = (3 : Int) := congrArg Int32.toInt c5
    refine lv_aload_n hx hb dX11_isNumber_14 rfl (lv_at hl 0 rfl) ?_
    refine h_geti (C := RX11) (T := TX11) (N := 23) hx hb hts inX11 hown hK hT0 (hM.o rfl) rfl 15 rfl wF_X11_195 rfl dX11_isNumber_15 (fun p6 => ?_)
    refine h_top (v := y3) my3 ?_
    refine lv_iload_n hx hb dX11_isNumber_18 rfl (lv_at hl 1 rfl) ?_
    refine lv_iload_n hx hb dX11_isNumber_19 rfl (lv_at hl 2 rfl) ?_
    refine h_callSi (rest := []) (As := [.int y3, .int u1, .int u2]) hx hb hml hown hts hK hT0 hZ (fun _ h => h) hS0 (c_X11_isFrom l G Y y3 u1 u2) trivial wd_X11_isFrom wS_X11_isFrom wL_X11_228 rfl hl.1 rfl (Nat.le_of_ble_eq_true rfl) dX11_isNumber_20 ⟨Nat.le_of_ble_eq_true rfl, Nat.le_of_ble_eq_true rfl⟩ ⟨Nat.zero_le _, Nat.zero_le _⟩ (fun r7 H1 locs hp1 hT1 hS1 hk1 => ?_)
    obtain ⟨hp1, he⟩ := hp1
    have he := he.symm
    subst he
    have f8 : (r7.toInt = 1 ∧ u1.toInt ≤ y3.toInt ∧ y3.toInt ≤ u2.toInt) ∨ (r7.toInt = 0 ∧ ¬ (u1.toInt ≤ y3.toInt ∧ y3.toInt ≤ u2.toInt)) := by have q := hp1.2; exact q
    refine lv_if_ne (tgt := 34) hx hb dX11_isNumber_23 (by decide) (fun c9 => ?_) (fun c9 => ?_)
    · skip
      have c9 : ¬ r7.toInt = (0 : Int) := h_neI c9
      refine lv_iconst (v := 1) hx hb dX11_isNumber_34 (by decide) ?_
      refine lv_goto (tgt := 39) hx hb dX11_isNumber_35 (by decide) ?_
      exact hret _ _ _ _ _ hT0 hS1 ⟨(by decide), ⟨⟨(by decide), (show (h_gi G H0 11 o 14).toInt = (h_gi G H0 11 o 14).toInt ∧ (h_gi G H0 11 o 12).toInt = (h_gi G H0 11 o 12).toInt ∧ (h_gi G H0 11 o 15).toInt = (h_gi G H0 11 o 15).toInt ∧ ((1 : Int) = 0 ∨ (u1.toInt ≤ (h_gi G H0 11 o 15).toInt ∧ (h_gi G H0 11 o 15).toInt ≤ u2.toInt)) from by rw [my1, my2, my3]; show y2.toInt = y2.toInt ∧ y1.toInt = y1.toInt ∧ y3.toInt = y3.toInt ∧ ((1 : Int) = 0 ∨ (u1.toInt ≤ y3.toInt ∧ y3.toInt ≤ u2.toInt)); omega)⟩, rfl⟩⟩ dX11_isNumber_39
    · skip
      have c9 : r7.toInt = (0 : Int) := congrArg Int32.toInt c9
      refine lv_aload_n hx hb dX11_isNumber_26 rfl (lv_at hl 0 rfl) ?_
      refine lv_iconst (v := 4) hx hb dX11_isNumber_27 (by decide) ?_
      refine h_callVi (T := TX11) (rest := []) (As := [.int 4]) hx hb hml hown hts hK hT0 hZ (fun _ h => h) hS1 (c_X11_fails l G Y P (o) hM 4) trivial wd_X11_fails wV_X11_fails wL_X11_222 (hM.o rfl) rfl rfl hl.1 rfl (Nat.le_of_ble_eq_true rfl) dX11_isNumber_28 ⟨Nat.le_of_ble_eq_true rfl, Nat.le_of_ble_eq_true rfl⟩ ⟨Nat.zero_le _, Nat.zero_le _⟩ (fun r10 H2 locs hp2 hT2 hS2 hk2 => ?_)
      obtain ⟨hp2, hB2⟩ := hp2
      have z11 : H2[o + 1]? = H0[o + 1]? := hB2
      obtain ⟨y12, my12⟩ : ∃ x, h_gi G H2 11 o 12 = x := ⟨_, rfl⟩
      obtain ⟨y13, my13⟩ : ∃ x, h_gi G H2 11 o 14 = x := ⟨_, rfl⟩
      have by13 : 0 ≤ y13.toInt ∧ y13.toInt ≤ 500 := by rw [← my13]; exact (hT2.gi (hM.o rfl) 14 rfl).1
      obtain ⟨y14, my14⟩ : ∃ x, h_gi G H2 11 o 15 = x := ⟨_, rfl⟩
      have f15 : r10.toInt = 0 ∧ y13.toInt = y2.toInt ∧ y12.toInt = y1.toInt ∧ y14.toInt = y3.toInt := by have q := hp2.2; rw [my1] at q; rw [my12] at q; rw [my2] at q; rw [my13] at q; rw [my3] at q; rw [my14] at q; exact q
      refine lv_if_eq (tgt := 38) hx hb dX11_isNumber_31 (by decide) (fun _ => ?_) (fun h => absurd (Int32.toInt_inj.mp (show r10.toInt = (0 : Int) from by omega)) h)
      refine lv_iconst (v := 0) hx hb dX11_isNumber_38 (by decide) ?_
      exact hret _ _ _ _ _ hT2 hS2 ⟨(by decide), ⟨⟨(by decide), (show (h_gi G H2 11 o 14).toInt = (h_gi G H0 11 o 14).toInt ∧ (h_gi G H2 11 o 12).toInt = (h_gi G H0 11 o 12).toInt ∧ (h_gi G H2 11 o 15).toInt = (h_gi G H0 11 o 15).toInt ∧ ((0 : Int) = 0 ∨ (u1.toInt ≤ (h_gi G H0 11 o 15).toInt ∧ (h_gi G H0 11 o 15).toInt ≤ u2.toInt)) from by rw [my1, my12, my2, my13, my3, my14]; show y13.toInt = y2.toInt ∧ y12.toInt = y1.toInt ∧ y14.toInt = y3.toInt ∧ ((0 : Int) = 0 ∨ (u1.toInt ≤ y3.toInt ∧ y3.toInt ≤ u2.toInt)); omega)⟩, z11⟩⟩ dX11_isNumber_39
  · skip
    have c5 : ¬ y1.toInt = (3 : Int) := h_neI c5
    refine lv_aload_n hx hb dX11_isNumber_8 rfl (lv_at hl 0 rfl) ?_
    refine lv_iconst (v := 2) hx hb dX11_isNumber_9 (by decide) ?_
    refine h_callVi (T := TX11) (rest := []) (As := [.int 2]) hx hb hml hown hts hK hT0 hZ (fun _ h => h) hS0 (c_X11_fails l G Y P (o) hM 2) trivial wd_X11_fails wV_X11_fails wL_X11_222 (hM.o rfl) rfl rfl hl.1 rfl (Nat.le_of_ble_eq_true rfl) dX11_isNumber_10 ⟨Nat.le_of_ble_eq_true rfl, Nat.le_of_ble_eq_true rfl⟩ ⟨Nat.zero_le _, Nat.zero_le _⟩ (fun r16 H3 locs hp3 hT3 hS3 hk3 => ?_)
    obtain ⟨hp3, hB3⟩ := hp3
    have z17 : H3[o + 1]? = H0[o + 1]? := hB3
    obtain ⟨y18, my18⟩ : ∃ x, h_gi G H3 11 o 12 = x := ⟨_, rfl⟩
    obtain ⟨y19, my19⟩ : ∃ x, h_gi G H3 11 o 14 = x := ⟨_, rfl⟩
    have by19 : 0 ≤ y19.toInt ∧ y19.toInt ≤ 500 := by rw [← my19]; exact (hT3.gi (hM.o rfl) 14 rfl).1
    obtain ⟨y20, my20⟩ : ∃ x, h_gi G H3 11 o 15 = x := ⟨_, rfl⟩
    have f21 : r16.toInt = 0 ∧ y19.toInt = y2.toInt ∧ y18.toInt = y1.toInt ∧ y20.toInt = y3.toInt := by have q := hp3.2; rw [my1] at q; rw [my18] at q; rw [my2] at q; rw [my19] at q; rw [my3] at q; rw [my20] at q; exact q
    exact hret _ _ _ _ _ hT3 hS3 ⟨hp3.1, ⟨⟨hp3.1, (show (h_gi G H3 11 o 14).toInt = (h_gi G H0 11 o 14).toInt ∧ (h_gi G H3 11 o 12).toInt = (h_gi G H0 11 o 12).toInt ∧ (h_gi G H3 11 o 15).toInt = (h_gi G H0 11 o 15).toInt ∧ (r16.toInt = 0 ∨ (u1.toInt ≤ (h_gi G H0 11 o 15).toInt ∧ (h_gi G H0 11 o 15).toInt ≤ u2.toInt)) from by rw [my1, my18, my2, my19, my3, my20]; show y19.toInt = y2.toInt ∧ y18.toInt = y1.toInt ∧ y20.toInt = y3.toInt ∧ (r16.toInt = 0 ∨ (u1.toInt ≤ y3.toInt ∧ y3.toInt ≤ u2.toInt)); omega)⟩, z17⟩⟩ dX11_isNumber_13
set_option maxHeartbeats 4000000 in
set_option maxRecDepth 100000 in
theorem c_X11_closes (l : Launch) (G : hG) (Y : hW) (P : Int32 → Prop) (o : Nat) (hM : h_On Y o (modE (tM P) o)) : hMi l yX11_closes cX11_closes 1 (some .boolean) 2 42 G Y [.ref (o)] (fun H => True) (fun H r H1 => ((r = 0 ∨ r = 1) ∧ ((h_gi G H 11 o 14).toInt ≤ (h_gi G H1 11 o 14).toInt ∧ (r.toInt = 0 ∨ (h_gi G H 11 o 12).toInt = 4))) ∧ (H1[o + 1]? = H[o + 1]?)) := by
  refine h_ofz (by decide +kernel) (Nat.le_of_ble_eq_true rfl) ?_
  intro p e s m args below meth c H0 ls Q hx hb hts hown hml hK hZ hT0 hpr hS0 hl hret
  have hl : lv_has ls 1 [(0, .ref (o))] := hl
  obtain ⟨y1, my1⟩ : ∃ x, h_gi G H0 11 o 12 = x := ⟨_, rfl⟩
  obtain ⟨y2, my2⟩ : ∃ x, h_gi G H0 11 o 14 = x := ⟨_, rfl⟩
  have by2 : 0 ≤ y2.toInt ∧ y2.toInt ≤ 500 := by rw [← my2]; exact (hT0.gi (hM.o rfl) 14 rfl).1
  refine lv_aload_n hx hb dX11_closes_0 rfl (lv_at hl 0 rfl) ?_
  refine h_geti (C := RX11) (T := TX11) (N := 23) hx hb hts inX11 hown hK hT0 (hM.o rfl) rfl 12 rfl wF_X11_186 rfl dX11_closes_1 (fun p3 => ?_)
  refine h_top (v := y1) my1 ?_
  refine lv_iconst (v := 4) hx hb dX11_closes_4 (by decide) ?_
  refine lv_icmp_eq (tgt := 14) hx hb dX11_closes_5 (by decide) (fun c4 => ?_) (fun c4 => ?_)
  · skip
    have c4 : y1.toInt = (4 : Int) := congrArg Int32.toInt c4
    refine lv_aload_n hx hb dX11_closes_14 rfl (lv_at hl 0 rfl) ?_
    refine h_callVv (T := TX11) (rest := []) (As := []) hx hb hml hown hts hK hT0 hZ (fun _ h => h) hS0 (c_X11_ahead l G Y P (o) hM) trivial wd_X11_ahead wV_X11_ahead wL_X11_232 (hM.o rfl) rfl rfl hl.1 rfl (Nat.le_of_ble_eq_true rfl) dX11_closes_15 ⟨Nat.le_of_ble_eq_true rfl, Nat.le_of_ble_eq_true rfl⟩ ⟨Nat.zero_le _, Nat.zero_le _⟩ (fun H1 locs hp1 hT1 hS1 hk1 => ?_)
    obtain ⟨hp1, hB1⟩ := hp1
    have z5 : H1[o + 1]? = H0[o + 1]? := hB1
    obtain ⟨y6, my6⟩ : ∃ x, h_gi G H1 11 o 12 = x := ⟨_, rfl⟩
    obtain ⟨y7, my7⟩ : ∃ x, h_gi G H1 11 o 14 = x := ⟨_, rfl⟩
    have by7 : 0 ≤ y7.toInt ∧ y7.toInt ≤ 500 := by rw [← my7]; exact (hT1.gi (hM.o rfl) 14 rfl).1
    have f8 : y2.toInt ≤ y7.toInt ∧ (y6.toInt = 4 → y2.toInt < y7.toInt) := by have q := hp1; rw [my6] at q; rw [my2] at q; rw [my7] at q; exact q
    refine lv_iconst (v := 1) hx hb dX11_closes_18 (by decide) ?_
    exact hret _ _ _ _ _ hT1 hS1 ⟨(by decide), ⟨⟨(by decide), (show (h_gi G H0 11 o 14).toInt ≤ (h_gi G H1 11 o 14).toInt ∧ ((1 : Int) = 0 ∨ (h_gi G H0 11 o 12).toInt = 4) from by rw [my1, my2, my7]; show y2.toInt ≤ y7.toInt ∧ ((1 : Int) = 0 ∨ y1.toInt = 4); omega)⟩, z5⟩⟩ dX11_closes_19
  · skip
    have c4 : ¬ y1.toInt = (4 : Int) := h_neI c4
    refine lv_aload_n hx hb dX11_closes_8 rfl (lv_at hl 0 rfl) ?_
    refine lv_iconst (v := 2) hx hb dX11_closes_9 (by decide) ?_
    obtain ⟨y9, my9⟩ : ∃ x, h_gi G H0 11 o 15 = x := ⟨_, rfl⟩
    refine h_callVi (T := TX11) (rest := []) (As := [.int 2]) hx hb hml hown hts hK hT0 hZ (fun _ h => h) hS0 (c_X11_fails l G Y P (o) hM 2) trivial wd_X11_fails wV_X11_fails wL_X11_222 (hM.o rfl) rfl rfl hl.1 rfl (Nat.le_of_ble_eq_true rfl) dX11_closes_10 ⟨Nat.le_of_ble_eq_true rfl, Nat.le_of_ble_eq_true rfl⟩ ⟨Nat.zero_le _, Nat.zero_le _⟩ (fun r10 H2 locs hp2 hT2 hS2 hk2 => ?_)
    obtain ⟨hp2, hB2⟩ := hp2
    have z11 : H2[o + 1]? = H0[o + 1]? := hB2
    obtain ⟨y12, my12⟩ : ∃ x, h_gi G H2 11 o 12 = x := ⟨_, rfl⟩
    obtain ⟨y13, my13⟩ : ∃ x, h_gi G H2 11 o 14 = x := ⟨_, rfl⟩
    have by13 : 0 ≤ y13.toInt ∧ y13.toInt ≤ 500 := by rw [← my13]; exact (hT2.gi (hM.o rfl) 14 rfl).1
    obtain ⟨y14, my14⟩ : ∃ x, h_gi G H2 11 o 15 = x := ⟨_, rfl⟩
    have f15 : r10.toInt = 0 ∧ y13.toInt = y2.toInt ∧ y12.toInt = y1.toInt ∧ y14.toInt = y9.toInt := by have q := hp2.2; rw [my1] at q; rw [my12] at q; rw [my2] at q; rw [my13] at q; rw [my9] at q; rw [my14] at q; exact q
    exact hret _ _ _ _ _ hT2 hS2 ⟨hp2.1, ⟨⟨hp2.1, (show (h_gi G H0 11 o 14).toInt ≤ (h_gi G H2 11 o 14).toInt ∧ (r10.toInt = 0 ∨ (h_gi G H0 11 o 12).toInt = 4) from by rw [my1, my2, my13]; show y2.toInt ≤ y13.toInt ∧ (r10.toInt = 0 ∨ y1.toInt = 4); omega)⟩, z11⟩⟩ dX11_closes_13
