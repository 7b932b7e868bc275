set_option maxHeartbeats 4000000 in
set_option maxRecDepth 100000 in
theorem c_floorMod24 (l : Launch) (G : hG) (Y : hW) (u1 : Int32) : hMi l yJ9_floorMod_7cf53 cJ9_floorMod_7cf53 3 (some .int) 0 0 G Y [.int u1, .int 24] (fun H => True) (fun H r H1 => (0 ≤ r.toInt ∧ r.toInt < 24) ∧ H1 = H) := by
  refine h_ofiF (by decide +kernel) (Nat.le_of_ble_eq_true rfl) ?_
  intro p e s m args below meth c H0 ls Q hx hb hts hown hml hK hZ hT0 hpr hS0 hl hret
  have hl : lv_has ls 3 [(0, .int u1), (1, .int 24)] := hl
  refine lv_iload_n hx hb dJ9_floorMod_7cf53_0 rfl (lv_at hl 0 rfl) ?_
  refine lv_iload_n hx hb dJ9_floorMod_7cf53_1 rfl (lv_at hl 1 rfl) ?_
  refine lv_irem hx hb dJ9_floorMod_7cf53_2 (by decide) ?_
  refine lv_topi (fun x1 ex1 => ?_)
  refine lv_istore_n (lv' := [(2, .int x1), (0, .int u1), (1, .int 24)]) hx hb dJ9_floorMod_7cf53_3 rfl hl (by decide) rfl (fun ls hl => ?_)
  refine lv_iload_n hx hb dJ9_floorMod_7cf53_4 rfl (lv_at hl 1 rfl) ?_
  refine lv_iload_n hx hb dJ9_floorMod_7cf53_5 rfl (lv_at hl 2 rfl) ?_
  refine lv_ixor hx hb dJ9_floorMod_7cf53_6 ?_
  refine lv_topi (fun x2 ex2 => ?_)
  refine lv_if_ge (tgt := 18) hx hb dJ9_floorMod_7cf53_7 (by decide) (fun c3 => ?_) (fun c3 => ?_)
  · skip
    refine lv_iload_n hx hb dJ9_floorMod_7cf53_18 rfl (lv_at hl 0 rfl) ?_
    exact hret _ _ _ _ _ hT0 hS0 ⟨fm_a (by decide) ex1 ex2 c3, rfl⟩ dJ9_floorMod_7cf53_19
  · skip
    refine lv_iload_n hx hb dJ9_floorMod_7cf53_10 rfl (lv_at hl 0 rfl) ?_
    refine lv_if_eq (tgt := 18) hx hb dJ9_floorMod_7cf53_11 (by decide) (fun c4 => ?_) (fun c4 => ?_)
    · skip
      refine lv_iload_n hx hb dJ9_floorMod_7cf53_18 rfl (lv_at hl 0 rfl) ?_
      exact hret _ _ _ _ _ hT0 hS0 ⟨fm_c c4, rfl⟩ dJ9_floorMod_7cf53_19
    · skip
      refine lv_iload_n hx hb dJ9_floorMod_7cf53_14 rfl (lv_at hl 0 rfl) ?_
      refine lv_iload_n hx hb dJ9_floorMod_7cf53_15 rfl (lv_at hl 2 rfl) ?_
      refine lv_iadd hx hb dJ9_floorMod_7cf53_16 ?_
      refine lv_topi (fun x5 ex5 => ?_)
      exact hret _ _ _ _ _ hT0 hS0 ⟨fm_b (by decide) ex1 ex2 c3 c4 ex5, rfl⟩ dJ9_floorMod_7cf53_17
set_option maxHeartbeats 4000000 in
set_option maxRecDepth 100000 in
theorem c_floorMod16 (l : Launch) (G : hG) (Y : hW) (u1 : Int32) : hMi l yJ9_floorMod_7cf53 cJ9_floorMod_7cf53 3 (some .int) 0 0 G Y [.int u1, .int 16] (fun H => True) (fun H r H1 => (0 ≤ r.toInt ∧ r.toInt < 16) ∧ H1 = H) := by
  refine h_ofiF (by decide +kernel) (Nat.le_of_ble_eq_true rfl) ?_
  intro p e s m args below meth c H0 ls Q hx hb hts hown hml hK hZ hT0 hpr hS0 hl hret
  have hl : lv_has ls 3 [(0, .int u1), (1, .int 16)] := hl
  refine lv_iload_n hx hb dJ9_floorMod_7cf53_0 rfl (lv_at hl 0 rfl) ?_
  refine lv_iload_n hx hb dJ9_floorMod_7cf53_1 rfl (lv_at hl 1 rfl) ?_
  refine lv_irem hx hb dJ9_floorMod_7cf53_2 (by decide) ?_
  refine lv_topi (fun x1 ex1 => ?_)
  refine lv_istore_n (lv' := [(2, .int x1), (0, .int u1), (1, .int 16)]) hx hb dJ9_floorMod_7cf53_3 rfl hl (by decide) rfl (fun ls hl => ?_)
  refine lv_iload_n hx hb dJ9_floorMod_7cf53_4 rfl (lv_at hl 1 rfl) ?_
  refine lv_iload_n hx hb dJ9_floorMod_7cf53_5 rfl (lv_at hl 2 rfl) ?_
  refine lv_ixor hx hb dJ9_floorMod_7cf53_6 ?_
  refine lv_topi (fun x2 ex2 => ?_)
  refine lv_if_ge (tgt := 18) hx hb dJ9_floorMod_7cf53_7 (by decide) (fun c3 => ?_) (fun c3 => ?_)
  · skip
    refine lv_iload_n hx hb dJ9_floorMod_7cf53_18 rfl (lv_at hl 0 rfl) ?_
    exact hret _ _ _ _ _ hT0 hS0 ⟨fm_a (by decide) ex1 ex2 c3, rfl⟩ dJ9_floorMod_7cf53_19
  · skip
    refine lv_iload_n hx hb dJ9_floorMod_7cf53_10 rfl (lv_at hl 0 rfl) ?_
    refine lv_if_eq (tgt := 18) hx hb dJ9_floorMod_7cf53_11 (by decide) (fun c4 => ?_) (fun c4 => ?_)
    · skip
      refine lv_iload_n hx hb dJ9_floorMod_7cf53_18 rfl (lv_at hl 0 rfl) ?_
      exact hret _ _ _ _ _ hT0 hS0 ⟨fm_c c4, rfl⟩ dJ9_floorMod_7cf53_19
    · skip
      refine lv_iload_n hx hb dJ9_floorMod_7cf53_14 rfl (lv_at hl 0 rfl) ?_
      refine lv_iload_n hx hb dJ9_floorMod_7cf53_15 rfl (lv_at hl 2 rfl) ?_
      refine lv_iadd hx hb dJ9_floorMod_7cf53_16 ?_
      refine lv_topi (fun x5 ex5 => ?_)
      exact hret _ _ _ _ _ hT0 hS0 ⟨fm_b (by decide) ex1 ex2 c3 c4 ex5, rfl⟩ dJ9_floorMod_7cf53_17
set_option maxHeartbeats 4000000 in
set_option maxRecDepth 100000 in
theorem c_max (l : Launch) (G : hG) (Y : hW) (u1 u2 : Int32) : hMi l yJ9_max_7cf53 cJ9_max_7cf53 2 (some .int) 0 0 G Y [.int u1, .int u2] (fun H => True) (fun H r H1 => (True) ∧ H1 = H) := by
  refine h_ofiF (by decide +kernel) (Nat.le_of_ble_eq_true rfl) ?_
  intro p e s m args below meth c H0 ls Q hx hb hts hown hml hK hZ hT0 hpr hS0 hl hret
  have hl : lv_has ls 2 [(0, .int u1), (1, .int u2)] := hl
  refine lv_iload_n hx hb dJ9_max_7cf53_0 rfl (lv_at hl 0 rfl) ?_
  refine lv_iload_n hx hb dJ9_max_7cf53_1 rfl (lv_at hl 1 rfl) ?_
  refine lv_icmp_lt (tgt := 9) hx hb dJ9_max_7cf53_2 (by decide) (fun c1 => ?_) (fun c1 => ?_)
  · skip
    refine lv_iload_n hx hb dJ9_max_7cf53_9 rfl (lv_at hl 1 rfl) ?_
    exact hret _ _ _ _ _ hT0 hS0 ⟨trivial, rfl⟩ dJ9_max_7cf53_10
  · skip
    refine lv_iload_n hx hb dJ9_max_7cf53_5 rfl (lv_at hl 0 rfl) ?_
    refine lv_goto (tgt := 10) hx hb dJ9_max_7cf53_6 (by decide) ?_
    exact hret _ _ _ _ _ hT0 hS0 ⟨trivial, rfl⟩ dJ9_max_7cf53_10
set_option maxHeartbeats 4000000 in
set_option maxRecDepth 100000 in
theorem c_bitCount (l : Launch) (G : hG) (Y : hW) (u1 : Int32) : hMi l yJ6_bitCount_0f7a4 cJ6_bitCount_0f7a4 1 (some .int) 0 0 G Y [.int u1] (fun H => True) (fun H r H1 => (True) ∧ H1 = H) := by
  refine h_ofi (by decide +kernel) (Nat.le_of_ble_eq_true rfl) ?_
  intro p e s m args below meth c H0 ls Q hx hb hts hown hml hK hZ hT0 hpr hS0 hl hret
  have hl : lv_has ls 1 [(0, .int u1)] := hl
  refine lv_iload_n hx hb dJ6_bitCount_0f7a4_0 rfl (lv_at hl 0 rfl) ?_
  refine lv_iload_n hx hb dJ6_bitCount_0f7a4_1 rfl (lv_at hl 0 rfl) ?_
  refine lv_iconst (v := 1) hx hb dJ6_bitCount_0f7a4_2 (by decide) ?_
  refine lv_iushr hx hb dJ6_bitCount_0f7a4_3 rfl ?_
  refine lv_topi (fun x1 ex1 => ?_)
  refine lv_ldcw (v := 1431655765) hx hb hown (hts _ wC_J6_265) dJ6_bitCount_0f7a4_4 ?_
  refine lv_iand hx hb dJ6_bitCount_0f7a4_7 ?_
  refine lv_topi (fun x2 ex2 => ?_)
  refine lv_isub hx hb dJ6_bitCount_0f7a4_8 ?_
  refine lv_topi (fun x3 ex3 => ?_)
  refine lv_istore_n (lv' := [(0, .int x3)]) hx hb dJ6_bitCount_0f7a4_9 rfl hl (by decide) rfl (fun ls hl => ?_)
  refine lv_iload_n hx hb dJ6_bitCount_0f7a4_10 rfl (lv_at hl 0 rfl) ?_
  refine lv_ldcw (v := 858993459) hx hb hown (hts _ wC_J6_266) dJ6_bitCount_0f7a4_11 ?_
  refine lv_iand hx hb dJ6_bitCount_0f7a4_14 ?_
  refine lv_topi (fun x4 ex4 => ?_)
  refine lv_iload_n hx hb dJ6_bitCount_0f7a4_15 rfl (lv_at hl 0 rfl) ?_
  refine lv_iconst (v := 2) hx hb dJ6_bitCount_0f7a4_16 (by decide) ?_
  refine lv_iushr hx hb dJ6_bitCount_0f7a4_17 rfl ?_
  refine lv_topi (fun x5 ex5 => ?_)
  refine lv_ldcw (v := 858993459) hx hb hown (hts _ wC_J6_266) dJ6_bitCount_0f7a4_18 ?_
  refine lv_iand hx hb dJ6_bitCount_0f7a4_21 ?_
  refine lv_topi (fun x6 ex6 => ?_)
  refine lv_iadd hx hb dJ6_bitCount_0f7a4_22 ?_
  refine lv_topi (fun x7 ex7 => ?_)
  refine lv_istore_n (lv' := [(0, .int x7)]) hx hb dJ6_bitCount_0f7a4_23 rfl hl (by decide) rfl (fun ls hl => ?_)
  refine lv_iload_n hx hb dJ6_bitCount_0f7a4_24 rfl (lv_at hl 0 rfl) ?_
  refine lv_iload_n hx hb dJ6_bitCount_0f7a4_25 rfl (lv_at hl 0 rfl) ?_
  refine lv_iconst (v := 4) hx hb dJ6_bitCount_0f7a4_26 (by decide) ?_
  refine lv_iushr hx hb dJ6_bitCount_0f7a4_27 rfl ?_
  refine lv_topi (fun x8 ex8 => ?_)
  refine lv_iadd hx hb dJ6_bitCount_0f7a4_28 ?_
  refine lv_topi (fun x9 ex9 => ?_)
  refine lv_ldcw (v := 252645135) hx hb hown (hts _ wC_J6_267) dJ6_bitCount_0f7a4_29 ?_
  refine lv_iand hx hb dJ6_bitCount_0f7a4_32 ?_
  refine lv_topi (fun x10 ex10 => ?_)
  refine lv_istore_n (lv' := [(0, .int x10)]) hx hb dJ6_bitCount_0f7a4_33 rfl hl (by decide) rfl (fun ls hl => ?_)
  refine lv_iload_n hx hb dJ6_bitCount_0f7a4_34 rfl (lv_at hl 0 rfl) ?_
  refine lv_iload_n hx hb dJ6_bitCount_0f7a4_35 rfl (lv_at hl 0 rfl) ?_
  refine lv_bipush (v := 8) hx hb dJ6_bitCount_0f7a4_36 (by decide) ?_
  refine lv_iushr hx hb dJ6_bitCount_0f7a4_38 rfl ?_
  refine lv_topi (fun x11 ex11 => ?_)
  refine lv_iadd hx hb dJ6_bitCount_0f7a4_39 ?_
  refine lv_topi (fun x12 ex12 => ?_)
  refine lv_istore_n (lv' := [(0, .int x12)]) hx hb dJ6_bitCount_0f7a4_40 rfl hl (by decide) rfl (fun ls hl => ?_)
  refine lv_iload_n hx hb dJ6_bitCount_0f7a4_41 rfl (lv_at hl 0 rfl) ?_
  refine lv_iload_n hx hb dJ6_bitCount_0f7a4_42 rfl (lv_at hl 0 rfl) ?_
  refine lv_bipush (v := 16) hx hb dJ6_bitCount_0f7a4_43 (by decide) ?_
  refine lv_iushr hx hb dJ6_bitCount_0f7a4_45 rfl ?_
  refine lv_topi (fun x13 ex13 => ?_)
  refine lv_iadd hx hb dJ6_bitCount_0f7a4_46 ?_
  refine lv_topi (fun x14 ex14 => ?_)
  refine lv_istore_n (lv' := [(0, .int x14)]) hx hb dJ6_bitCount_0f7a4_47 rfl hl (by decide) rfl (fun ls hl => ?_)
  refine lv_iload_n hx hb dJ6_bitCount_0f7a4_48 rfl (lv_at hl 0 rfl) ?_
  refine lv_bipush (v := 63) hx hb dJ6_bitCount_0f7a4_49 (by decide) ?_
  refine lv_iand hx hb dJ6_bitCount_0f7a4_51 ?_
  refine lv_topi (fun x15 ex15 => ?_)
  exact hret _ _ _ _ _ hT0 hS0 ⟨trivial, rfl⟩ dJ6_bitCount_0f7a4_52
set_option maxHeartbeats 4000000 in
set_option maxRecDepth 100000 in
theorem c_fill (l : Launch) (G : hG) (Y : hW) (o n : Nat) (P : Nat → Int32 → Prop) (u1 : Int32) (hY : Y o = some (.inr (0, n, .inl P))) (hn : n < 100) (hP : ∀ j, j < n → P j u1) : hMv l yJ7_fill_53178 cJ7_fill_53178 4 none 0 0 G Y [.ref (o), .int u1] (fun H => True) (fun H H1 => True) := by
  refine h_ofv (by decide +kernel) (Nat.le_of_ble_eq_true rfl) ?_
  intro p e s m args below meth c H0 ls Q hx hb hts hown hml hK hZ hT0 hpr hS0 hl hret
  have hl : lv_has ls 4 [(0, .ref (o)), (1, .int u1)] := hl
  refine lv_iconst (v := 0) hx hb dJ7_fill_53178_0 (by decide) ?_
  refine lv_istore_n (lv' := [(2, .int 0), (0, .ref (o)), (1, .int u1)]) hx hb dJ7_fill_53178_1 rfl hl (by decide) rfl (fun ls hl => ?_)
  refine lv_aload_n hx hb dJ7_fill_53178_2 rfl (lv_at hl 1 rfl) ?_
  refine h_alen (v := nI n) hx hb hK hT0 (by decide) hY rfl dJ7_fill_53178_3 ?_
  refine lv_istore_n (lv' := [(3, .int (nI n)), (2, .int 0), (0, .ref (o)), (1, .int u1)]) hx hb dJ7_fill_53178_4 rfl hl (by decide) rfl (fun ls hl => ?_)
  have LP1 : ∀ (n1 : Nat) (w1_2 : Int32), 2147483647 - w1_2.toInt < (n1 : Int) → 0 ≤ w1_2.toInt → ∀ (H1 : Heap) (locs : List Loc) (ls : Array Slot), hT G Y H1 → va_S (h_A Y) s.heap H1 locs → lv_has ls 4 [(3, .int (nI n)), (2, .int w1_2), (0, .ref (o)), (1, .int u1)] → W p l e (h_rm 0 0) s m args below meth c H1 locs 0 0 Q (F0 m 5 ls []) := by
    intro n1
    induction n1 with
    | zero =>
      intro w1_2 hm
      exact absurd hm (by have := Int32.toInt_lt w1_2; have := Int32.le_toInt w1_2; omega)
    | succ n1 ih1 =>
      intro w1_2 hm1 hz1 H1 locs ls hT1 hS1 hl
      refine lv_iload_n hx hb dJ7_fill_53178_5 rfl (lv_at hl 1 rfl) ?_
      refine lv_iload_n hx hb dJ7_fill_53178_6 rfl (lv_at hl 0 rfl) ?_
      refine lv_icmp_ge (tgt := 20) hx hb dJ7_fill_53178_7 (by decide) (fun c1 => ?_) (fun c1 => ?_)
      · skip
        exact hret _ _ _ _ hT1 hS1 trivial dJ7_fill_53178_20
      · skip
        refine lv_aload_n hx hb dJ7_fill_53178_10 rfl (lv_at hl 2 rfl) ?_
        refine lv_iload_n hx hb dJ7_fill_53178_11 rfl (lv_at hl 1 rfl) ?_
        refine lv_iload_n hx hb dJ7_fill_53178_12 rfl (lv_at hl 3 rfl) ?_
        refine h_iast hx hb hK hT1 (fun _ h => h) hS1 hY (h_inN hn hz1 c1) (hP _ (h_ltN hn hz1 c1)) dJ7_fill_53178_13 (fun H2 locs hT2 hS2 hu2 => ?_)
        obtain ⟨x2, ex2⟩ : ∃ y : Int32, y = w1_2 + 1 := ⟨_, rfl⟩
        refine lv_iinc (v := x2) (lv' := [(2, .int x2), (3, .int (nI n)), (0, .ref (o)), (1, .int u1)]) hx hb dJ7_fill_53178_14 hl (k := 1) rfl (by rw [ex2]; rfl) (by decide) rfl (fun ls hl => ?_)
        refine lv_goto (tgt := 5) hx hb dJ7_fill_53178_17 (by decide) ?_
        exact ih1 x2 (h_dn hm1 ex2 (by first | exact h_lu c1 | exact h_lu2 c1 | ((try simp only [Int32.lt_iff_toInt_lt, Int32.le_iff_toInt_le, ← Int32.toInt_inj, Int32.reduceToInt, (show (-1 : Int32).toInt = -1 from rfl)] at c1 ⊢); omega))) (h_nn hz1 ex2 (by first | exact h_lu c1 | exact h_lu2 c1 | ((try simp only [Int32.lt_iff_toInt_lt, Int32.le_iff_toInt_le, ← Int32.toInt_inj, Int32.reduceToInt, (show (-1 : Int32).toInt = -1 from rfl)] at c1 ⊢); omega))) _ _ _ hT2 hS2 (lv_sub hl [1, 0, 2, 3] rfl)
  exact LP1 4294967296 0 (h_m0 _) (by decide) _ _ _ hT0 hS0 (lv_sub hl [0, 1, 2, 3] rfl)
set_option maxHeartbeats 4000000 in
set_option maxRecDepth 100000 in
theorem c_X7_exists (l : Launch) (G : hG) (Y : hW) (P : Int32 → Prop) (o : Nat) (hY : h_On Y o (stE (tC P) o)) (u1 : Int32) : hMi l yX7_exists cX7_exists 2 (some .boolean) 0 0 G Y [.ref (o), .int u1] (fun H => True) (fun H r H1 => ((r = 0 ∨ r = 1) ∧ (¬ r = 0 → 0 ≤ u1.toInt ∧ u1.toInt < 8)) ∧ H1 = H) := by
  refine h_ofz (by decide +kernel) (Nat.le_of_ble_eq_true rfl) ?_
  intro p e s m args below meth c H0 ls Q hx hb hts hown hml hK hZ hT0 hpr hS0 hl hret
  have hl : lv_has ls 2 [(0, .ref (o)), (1, .int u1)] := hl
  refine lv_iload_n hx hb dX7_exists_0 rfl (lv_at hl 1 rfl) ?_
  refine lv_if_lt (tgt := 22) hx hb dX7_exists_1 (by decide) (fun c1 => ?_) (fun c1 => ?_)
  · skip
    refine lv_iconst (v := 0) hx hb dX7_exists_22 (by decide) ?_
    exact hret _ _ _ _ _ hT0 hS0 ⟨(by decide), ⟨(by decide), (fun h => absurd rfl h)⟩, rfl⟩ dX7_exists_23
  · skip
    refine lv_iload_n hx hb dX7_exists_4 rfl (lv_at hl 1 rfl) ?_
    refine lv_aload_n hx hb dX7_exists_5 rfl (lv_at hl 0 rfl) ?_
    refine h_geti (C := RX7) (T := TX7) (N := 9) hx hb hts inX7 hown hK hT0 (hY.o rfl) rfl 5 rfl wF_X7_28 rfl dX7_exists_6 (fun p2 => ?_)
    refine lv_topi (fun x3 ex3 => ?_)
    refine lv_icmp_ge (tgt := 22) hx hb dX7_exists_9 (by decide) (fun c4 => ?_) (fun c4 => ?_)
    · skip
      refine lv_iconst (v := 0) hx hb dX7_exists_22 (by decide) ?_
      exact hret _ _ _ _ _ hT0 hS0 ⟨(by decide), ⟨(by decide), (fun h => absurd rfl h)⟩, rfl⟩ dX7_exists_23
    · skip
      refine lv_iload_n hx hb dX7_exists_12 rfl (lv_at hl 1 rfl) ?_
      refine lv_bipush (v := 8) hx hb dX7_exists_13 (by decide) ?_
      refine lv_icmp_ge (tgt := 22) hx hb dX7_exists_15 (by decide) (fun c5 => ?_) (fun c5 => ?_)
      · skip
        refine lv_iconst (v := 0) hx hb dX7_exists_22 (by decide) ?_
        exact hret _ _ _ _ _ hT0 hS0 ⟨(by decide), ⟨(by decide), (fun h => absurd rfl h)⟩, rfl⟩ dX7_exists_23
      · skip
        refine lv_iconst (v := 1) hx hb dX7_exists_18 (by decide) ?_
        refine lv_goto (tgt := 23) hx hb dX7_exists_19 (by decide) ?_
        exact hret _ _ _ _ _ hT0 hS0 ⟨(by decide), ⟨(by decide), (fun _ => by refine ⟨?_, ?_⟩ <;> ((try simp only [Int32.lt_iff_toInt_lt, Int32.le_iff_toInt_le, ← Int32.toInt_inj, Int32.reduceToInt, (show (-1 : Int32).toInt = -1 from rfl)] at c1 c5 ⊢); omega))⟩, rfl⟩ dX7_exists_23
set_option maxHeartbeats 4000000 in
set_option maxRecDepth 100000 in
theorem c_X7_isOn (l : Launch) (G : hG) (Y : hW) (P : Int32 → Prop) (o : Nat) (hY : h_On Y o (stE (tC P) o)) (u1 : Int32) : hMi l yX7_isOn cX7_isOn 2 (some .boolean) 0 0 G Y [.ref (o), .int u1] (fun H => True) (fun H r H1 => ((r = 0 ∨ r = 1) ∧ (¬ r = 0 → 0 ≤ u1.toInt ∧ u1.toInt < 8)) ∧ H1 = H) := by
  refine h_ofz (by decide +kernel) (Nat.le_of_ble_eq_true rfl) ?_
  intro p e s m args below meth c H0 ls Q hx hb hts hown hml hK hZ hT0 hpr hS0 hl hret
  have hl : lv_has ls 2 [(0, .ref (o)), (1, .int u1)] := hl
  refine lv_iload_n hx hb dX7_isOn_0 rfl (lv_at hl 1 rfl) ?_
  refine lv_if_lt (tgt := 31) hx hb dX7_isOn_1 (by decide) (fun c1 => ?_) (fun c1 => ?_)
  · skip
    refine lv_iconst (v := 0) hx hb dX7_isOn_31 (by decide) ?_
    exact hret _ _ _ _ _ hT0 hS0 ⟨(by decide), ⟨(by decide), (fun h => absurd rfl h)⟩, rfl⟩ dX7_isOn_32
  · skip
    refine lv_iload_n hx hb dX7_isOn_4 rfl (lv_at hl 1 rfl) ?_
    refine lv_aload_n hx hb dX7_isOn_5 rfl (lv_at hl 0 rfl) ?_
    refine h_geti (C := RX7) (T := TX7) (N := 9) hx hb hts inX7 hown hK hT0 (hY.o rfl) rfl 5 rfl wF_X7_28 rfl dX7_isOn_6 (fun p2 => ?_)
    refine lv_topi (fun x3 ex3 => ?_)
    refine lv_icmp_ge (tgt := 31) hx hb dX7_isOn_9 (by decide) (fun c4 => ?_) (fun c4 => ?_)
    · skip
      refine lv_iconst (v := 0) hx hb dX7_isOn_31 (by decide) ?_
      exact hret _ _ _ _ _ hT0 hS0 ⟨(by decide), ⟨(by decide), (fun h => absurd rfl h)⟩, rfl⟩ dX7_isOn_32
    · skip
      refine lv_iload_n hx hb dX7_isOn_12 rfl (lv_at hl 1 rfl) ?_
      refine lv_bipush (v := 8) hx hb dX7_isOn_13 (by decide) ?_
      refine lv_icmp_ge (tgt := 31) hx hb dX7_isOn_15 (by decide) (fun c5 => ?_) (fun c5 => ?_)
      · skip
        refine lv_iconst (v := 0) hx hb dX7_isOn_31 (by decide) ?_
        exact hret _ _ _ _ _ hT0 hS0 ⟨(by decide), ⟨(by decide), (fun h => absurd rfl h)⟩, rfl⟩ dX7_isOn_32
      · skip
        refine lv_aload_n hx hb dX7_isOn_18 rfl (lv_at hl 0 rfl) ?_
        refine h_getr (C := RX7) (T := TX7) (N := 9) hx hb hts inX7 hown hK hT0 (hY.o rfl) rfl 1 rfl wF_X7_15 rfl dX7_isOn_19 ?_
        refine lv_iload_n hx hb dX7_isOn_22 rfl (lv_at hl 1 rfl) ?_
        refine h_zald hx hb hK hT0 (hY.at 2 rfl) (vp_in_iff.mpr (by (try simp only [Int32.lt_iff_toInt_lt, Int32.le_iff_toInt_le, ← Int32.toInt_inj, Int32.reduceToInt, (show (-1 : Int32).toInt = -1 from rfl)] at c1 c5 ⊢); omega)) dX7_isOn_23 (fun p6 => ?_)
        refine lv_topi (fun x7 ex7 => ?_)
        refine lv_if_eq (tgt := 31) hx hb dX7_isOn_24 (by decide) (fun c8 => ?_) (fun c8 => ?_)
        · skip
          refine lv_iconst (v := 0) hx hb dX7_isOn_31 (by decide) ?_
          exact hret _ _ _ _ _ hT0 hS0 ⟨(by decide), ⟨(by decide), (fun h => absurd rfl h)⟩, rfl⟩ dX7_isOn_32
        · skip
          refine lv_iconst (v := 1) hx hb dX7_isOn_27 (by decide) ?_
          refine lv_goto (tgt := 32) hx hb dX7_isOn_28 (by decide) ?_
          exact hret _ _ _ _ _ hT0 hS0 ⟨(by decide), ⟨(by decide), (fun _ => by refine ⟨?_, ?_⟩ <;> ((try simp only [Int32.lt_iff_toInt_lt, Int32.le_iff_toInt_le, ← Int32.toInt_inj, Int32.reduceToInt, (show (-1 : Int32).toInt = -1 from rfl)] at c1 c5 ⊢); omega))⟩, rfl⟩ dX7_isOn_32
set_option maxHeartbeats 4000000 in
set_option maxRecDepth 100000 in
theorem c_X7_switchOn (l : Launch) (G : hG) (Y : hW) (P : Int32 → Prop) (o : Nat) (hY : h_On Y o (stE (tC P) o)) (u1 : Int32) : hMv l yX7_switchOn cX7_switchOn 2 none 1 21 G Y [.ref (o), .int u1] (fun H => True) (fun H H1 => True) := by
  refine h_ofv (by decide +kernel) (Nat.le_of_ble_eq_true rfl) ?_
  intro p e s m args below meth c H0 ls Q hx hb hts hown hml hK hZ hT0 hpr hS0 hl hret
  have hl : lv_has ls 2 [(0, .ref (o)), (1, .int u1)] := hl
  refine lv_aload_n hx hb dX7_switchOn_0 rfl (lv_at hl 0 rfl) ?_
  refine lv_iload_n hx hb dX7_switchOn_1 rfl (lv_at hl 1 rfl) ?_
  refine h_callVi (T := TX7) (rest := []) (As := [.int u1]) hx hb hml hown hts hK hT0 hZ (fun _ h => h) hS0 (c_X7_exists l G Y P (o) hY u1) trivial wd_X7_exists wV_X7_exists wL_X7_51 (hY.o rfl) rfl rfl hl.1 rfl (Nat.le_of_ble_eq_true rfl) dX7_switchOn_2 ⟨Nat.le_of_ble_eq_true rfl, Nat.le_of_ble_eq_true rfl⟩ ⟨Nat.zero_le _, Nat.zero_le _⟩ (fun r1 H1 locs hp1 hT1 hS1 hk1 => ?_)
  obtain ⟨hp1, he⟩ := hp1
  have he := he.symm
  subst he
  refine lv_if_eq (tgt := 22) hx hb dX7_switchOn_5 (by decide) (fun c2 => ?_) (fun c2 => ?_)
  · skip
    exact hret _ _ _ _ hT0 hS1 trivial dX7_switchOn_22
  · skip
    obtain ⟨g3a, g3b⟩ := hp1.2 c2
    refine lv_aload_n hx hb dX7_switchOn_8 rfl (lv_at hl 0 rfl) ?_
    refine h_getr (C := RX7) (T := TX7) (N := 9) hx hb hts inX7 hown hK hT0 (hY.o rfl) rfl 1 rfl wF_X7_15 rfl dX7_switchOn_9 ?_
    refine lv_iload_n hx hb dX7_switchOn_12 rfl (lv_at hl 1 rfl) ?_
    refine lv_iconst (v := 1) hx hb dX7_switchOn_13 (by decide) ?_
    refine h_zast hx hb hK hT0 (fun _ h => h) hS1 (hY.at 2 rfl) (vp_in_iff.mpr (by (try simp only [Int32.lt_iff_toInt_lt, Int32.le_iff_toInt_le, ← Int32.toInt_inj, Int32.reduceToInt, (show (-1 : Int32).toInt = -1 from rfl)] at g3a g3b ⊢); omega)) (by decide) trivial dX7_switchOn_14 (fun H2 locs hT2 hS2 hu2 => ?_)
    refine lv_aload_n hx hb dX7_switchOn_15 rfl (lv_at hl 0 rfl) ?_
    refine h_getr (C := RX7) (T := TX7) (N := 9) hx hb hts inX7 hown hK hT2 (hY.o rfl) rfl 2 rfl wF_X7_19 rfl dX7_switchOn_16 ?_
    refine lv_iload_n hx hb dX7_switchOn_19 rfl (lv_at hl 1 rfl) ?_
    refine lv_iconst (v := (-1)) hx hb dX7_switchOn_20 (by decide) ?_
    refine h_iast hx hb hK hT2 (fun _ h => h) hS2 (hY.at 3 rfl) (vp_in_iff.mpr (by (try simp only [Int32.lt_iff_toInt_lt, Int32.le_iff_toInt_le, ← Int32.toInt_inj, Int32.reduceToInt, (show (-1 : Int32).toInt = -1 from rfl)] at g3a g3b ⊢); omega)) trivial dX7_switchOn_21 (fun H3 locs hT3 hS3 hu3 => ?_)
    exact hret _ _ _ _ hT3 hS3 trivial dX7_switchOn_22
set_option maxHeartbeats 4000000 in
set_option maxRecDepth 100000 in
theorem c_X7_switchOff (l : Launch) (G : hG) (Y : hW) (P : Int32 → Prop) (o : Nat) (hY : h_On Y o (stE (tC P) o)) (u1 : Int32) : hMv l yX7_switchOff cX7_switchOff 2 none 1 21 G Y [.ref (o), .int u1] (fun H => True) (fun H H1 => True) := by
  refine h_ofv (by decide +kernel) (Nat.le_of_ble_eq_true rfl) ?_
  intro p e s m args below meth c H0 ls Q hx hb hts hown hml hK hZ hT0 hpr hS0 hl hret
  have hl : lv_has ls 2 [(0, .ref (o)), (1, .int u1)] := hl
  refine lv_aload_n hx hb dX7_switchOff_0 rfl (lv_at hl 0 rfl) ?_
  refine lv_iload_n hx hb dX7_switchOff_1 rfl (lv_at hl 1 rfl) ?_
  refine h_callVi (T := TX7) (rest := []) (As := [.int u1]) hx hb hml hown hts hK hT0 hZ (fun _ h => h) hS0 (c_X7_exists l G Y P (o) hY u1) trivial wd_X7_exists wV_X7_exists wL_X7_51 (hY.o rfl) rfl rfl hl.1 rfl (Nat.le_of_ble_eq_true rfl) dX7_switchOff_2 ⟨Nat.le_of_ble_eq_true rfl, Nat.le_of_ble_eq_true rfl⟩ ⟨Nat.zero_le _, Nat.zero_le _⟩ (fun r1 H1 locs hp1 hT1 hS1 hk1 => ?_)
  obtain ⟨hp1, he⟩ := hp1
  have he := he.symm
  subst he
  refine lv_if_eq (tgt := 15) hx hb dX7_switchOff_5 (by decide) (fun c2 => ?_) (fun c2 => ?_)
  · skip
    exact hret _ _ _ _ hT0 hS1 trivial dX7_switchOff_15
  · skip
    obtain ⟨g3a, g3b⟩ := hp1.2 c2
    refine lv_aload_n hx hb dX7_switchOff_8 rfl (lv_at hl 0 rfl) ?_
    refine h_getr (C := RX7) (T := TX7) (N := 9) hx hb hts inX7 hown hK hT0 (hY.o rfl) rfl 1 rfl wF_X7_15 rfl dX7_switchOff_9 ?_
    refine lv_iload_n hx hb dX7_switchOff_12 rfl (lv_at hl 1 rfl) ?_
    refine lv_iconst (v := 0) hx hb dX7_switchOff_13 (by decide) ?_
    refine h_zast hx hb hK hT0 (fun _ h => h) hS1 (hY.at 2 rfl) (vp_in_iff.mpr (by (try simp only [Int32.lt_iff_toInt_lt, Int32.le_iff_toInt_le, ← Int32.toInt_inj, Int32.reduceToInt, (show (-1 : Int32).toInt = -1 from rfl)] at g3a g3b ⊢); omega)) (by decide) trivial dX7_switchOff_14 (fun H2 locs hT2 hS2 hu2 => ?_)
    exact hret _ _ _ _ hT2 hS2 trivial dX7_switchOff_15
set_option maxHeartbeats 4000000 in
set_option maxRecDepth 100000 in
theorem c_X7_hasAddress (l : Launch) (G : hG) (Y : hW) (P : Int32 → Prop) (o : Nat) (hY : h_On Y o (stE (tC P) o)) (u1 : Int32) : hMi l yX7_hasAddress cX7_hasAddress 3 (some .boolean) 1 21 G Y [.ref (o), .int u1] (fun H => True) (fun H r H1 => ((r = 0 ∨ r = 1) ∧ True) ∧ H1 = H) := by
  refine h_ofz (by decide +kernel) (Nat.le_of_ble_eq_true rfl) ?_
  intro p e s m args below meth c H0 ls Q hx hb hts hown hml hK hZ hT0 hpr hS0 hl hret
  have hl : lv_has ls 3 [(0, .ref (o)), (1, .int u1)] := hl
  refine lv_iconst (v := 0) hx hb dX7_hasAddress_0 (by decide) ?_
  refine lv_istore_n (lv' := [(2, .int 0), (0, .ref (o)), (1, .int u1)]) hx hb dX7_hasAddress_1 rfl hl (by decide) rfl (fun ls hl => ?_)
  have LP1 : ∀ (n1 : Nat) (w1_2 : Int32), 2147483647 - w1_2.toInt < (n1 : Int) → 0 ≤ w1_2.toInt → ∀ (locs : List Loc) (ls : Array Slot), va_S (h_A Y) s.heap H0 locs → lv_has ls 3 [(2, .int w1_2), (0, .ref (o)), (1, .int u1)] → W p l e (h_rm 1 21) s m args below meth c H0 locs 0 0 Q (F0 m 2 ls []) := by
    intro n1
    induction n1 with
    | zero =>
      intro w1_2 hm
      exact absurd hm (by have := Int32.toInt_lt w1_2; have := Int32.le_toInt w1_2; omega)
    | succ n1 ih1 =>
      intro w1_2 hm1 hz1 locs ls hS1 hl
      refine lv_iload_n hx hb dX7_hasAddress_2 rfl (lv_at hl 0 rfl) ?_
      refine lv_aload_n hx hb dX7_hasAddress_3 rfl (lv_at hl 1 rfl) ?_
      refine h_geti (C := RX7) (T := TX7) (N := 9) hx hb hts inX7 hown hK hT0 (hY.o rfl) rfl 5 rfl wF_X7_28 rfl dX7_hasAddress_4 (fun p1 => ?_)
      refine lv_topi (fun x2 ex2 => ?_)
      refine lv_icmp_ge (tgt := 36) hx hb dX7_hasAddress_7 (by decide) (fun c3 => ?_) (fun c3 => ?_)
      · skip
        refine lv_iconst (v := 0) hx hb dX7_hasAddress_36 (by decide) ?_
        exact hret _ _ _ _ _ hT0 hS1 ⟨(by decide), ⟨(by decide), trivial⟩, rfl⟩ dX7_hasAddress_37
      · skip
        refine lv_aload_n hx hb dX7_hasAddress_10 rfl (lv_at hl 1 rfl) ?_
        refine lv_iload_n hx hb dX7_hasAddress_11 rfl (lv_at hl 0 rfl) ?_
        refine h_callVi (T := TX7) (rest := []) (As := [.int w1_2]) hx hb hml hown hts hK hT0 hZ (fun _ h => h) hS1 (c_X7_exists l G Y P (o) hY w1_2) trivial wd_X7_exists wV_X7_exists wL_X7_51 (hY.o rfl) rfl rfl hl.1 rfl (Nat.le_of_ble_eq_true rfl) dX7_hasAddress_12 ⟨Nat.le_of_ble_eq_true rfl, Nat.le_of_ble_eq_true rfl⟩ ⟨Nat.zero_le _, Nat.zero_le _⟩ (fun r4 H2 locs hp2 hT2 hS2 hk2 => ?_)
        obtain ⟨hp2, he⟩ := hp2
        have he := he.symm
        subst he
        refine lv_if_eq (tgt := 30) hx hb dX7_hasAddress_15 (by decide) (fun c5 => ?_) (fun c5 => ?_)
        · skip
          obtain ⟨x6, ex6⟩ : ∃ y : Int32, y = w1_2 + 1 := ⟨_, rfl⟩
          refine lv_iinc (v := x6) (lv' := [(2, .int x6), (0, .ref (o)), (1, .int u1)]) hx hb dX7_hasAddress_30 hl (k := 0) rfl (by rw [ex6]; rfl) (by decide) rfl (fun ls hl => ?_)
          refine lv_goto (tgt := 2) hx hb dX7_hasAddress_33 (by decide) ?_
          exact ih1 x6 (h_dn hm1 ex6 (by first | exact h_lu c3 | exact h_lu2 c3 | ((try simp only [Int32.lt_iff_toInt_lt, Int32.le_iff_toInt_le, ← Int32.toInt_inj, Int32.reduceToInt, (show (-1 : Int32).toInt = -1 from rfl)] at c3 ⊢); omega))) (h_nn hz1 ex6 (by first | exact h_lu c3 | exact h_lu2 c3 | ((try simp only [Int32.lt_iff_toInt_lt, Int32.le_iff_toInt_le, ← Int32.toInt_inj, Int32.reduceToInt, (show (-1 : Int32).toInt = -1 from rfl)] at c3 ⊢); omega))) _ _ hS2 (lv_sub hl [0, 1, 2] rfl)
        · skip
          obtain ⟨g7a, g7b⟩ := hp2.2 c5
          refine lv_aload_n hx hb dX7_hasAddress_18 rfl (lv_at hl 1 rfl) ?_
          refine h_getr (C := RX7) (T := TX7) (N := 9) hx hb hts inX7 hown hK hT0 (hY.o rfl) rfl 0 rfl wF_X7_9 rfl dX7_hasAddress_19 ?_
          refine lv_iload_n hx hb dX7_hasAddress_22 rfl (lv_at hl 0 rfl) ?_
          refine h_iald hx hb hK hT0 (hY.at 1 rfl) (vp_in_iff.mpr (by (try simp only [Int32.lt_iff_toInt_lt, Int32.le_iff_toInt_le, ← Int32.toInt_inj, Int32.reduceToInt, (show (-1 : Int32).toInt = -1 from rfl)] at hz1 g7a g7b ⊢); omega)) dX7_hasAddress_23 (fun p8 => ?_)
          refine lv_topi (fun x9 ex9 => ?_)
          refine lv_iload_n hx hb dX7_hasAddress_24 rfl (lv_at hl 2 rfl) ?_
          refine lv_icmp_ne (tgt := 30) hx hb dX7_hasAddress_25 (by decide) (fun c10 => ?_) (fun c10 => ?_)
          · skip
            obtain ⟨x11, ex11⟩ : ∃ y : Int32, y = w1_2 + 1 := ⟨_, rfl⟩
            refine lv_iinc (v := x11) (lv' := [(2, .int x11), (0, .ref (o)), (1, .int u1)]) hx hb dX7_hasAddress_30 hl (k := 0) rfl (by rw [ex11]; rfl) (by decide) rfl (fun ls hl => ?_)
            refine lv_goto (tgt := 2) hx hb dX7_hasAddress_33 (by decide) ?_
            exact ih1 x11 (h_dn hm1 ex11 (by first | exact h_lu g7b | exact h_lu2 g7b | ((try simp only [Int32.lt_iff_toInt_lt, Int32.le_iff_toInt_le, ← Int32.toInt_inj, Int32.reduceToInt, (show (-1 : Int32).toInt = -1 from rfl)] at g7b ⊢); omega))) (h_nn hz1 ex11 (by first | exact h_lu g7b | exact h_lu2 g7b | ((try simp only [Int32.lt_iff_toInt_lt, Int32.le_iff_toInt_le, ← Int32.toInt_inj, Int32.reduceToInt, (show (-1 : Int32).toInt = -1 from rfl)] at g7b ⊢); omega))) _ _ hS2 (lv_sub hl [0, 1, 2] rfl)
          · skip
            refine lv_iconst (v := 1) hx hb dX7_hasAddress_28 (by decide) ?_
            exact hret _ _ _ _ _ hT0 hS2 ⟨(by decide), ⟨(by decide), trivial⟩, rfl⟩ dX7_hasAddress_29
  exact LP1 4294967296 0 (h_m0 _) (by decide) _ _ hS0 (lv_sub hl [0, 1, 2] rfl)
set_option maxHeartbeats 4000000 in
set_option maxRecDepth 100000 in
theorem c_X7_onBits (l : Launch) (G : hG) (Y : hW) (P : Int32 → Prop) (o : Nat) (hY : h_On Y o (stE (tC P) o)) : hMi l yX7_onBits cX7_onBits 3 (some .int) 1 21 G Y [.ref (o)] (fun H => True) (fun H r H1 => (True) ∧ H1 = H) := by
  refine h_ofi (by decide +kernel) (Nat.le_of_ble_eq_true rfl) ?_
  intro p e s m args below meth c H0 ls Q hx hb hts hown hml hK hZ hT0 hpr hS0 hl hret
  have hl : lv_has ls 3 [(0, .ref (o))] := hl
  refine lv_iconst (v := 0) hx hb dX7_onBits_0 (by decide) ?_
  refine lv_istore_n (lv' := [(1, .int 0), (0, .ref (o))]) hx hb dX7_onBits_1 rfl hl (by decide) rfl (fun ls hl => ?_)
  refine lv_iconst (v := 0) hx hb dX7_onBits_2 (by decide) ?_
  refine lv_istore_n (lv' := [(2, .int 0), (1, .int 0), (0, .ref (o))]) hx hb dX7_onBits_3 rfl hl (by decide) rfl (fun ls hl => ?_)
  have LP1 : ∀ (n1 : Nat) (w1_2 w1_1 : Int32), 2147483647 - w1_2.toInt < (n1 : Int) → 0 ≤ w1_2.toInt → ∀ (locs : List Loc) (ls : Array Slot), va_S (h_A Y) s.heap H0 locs → lv_has ls 3 [(2, .int w1_2), (1, .int w1_1), (0, .ref (o))] → W p l e (h_rm 1 21) s m args below meth c H0 locs 0 0 Q (F0 m 4 ls []) := by
    intro n1
    induction n1 with
    | zero =>
      intro w1_2 w1_1 hm
      exact absurd hm (by have := Int32.toInt_lt w1_2; have := Int32.le_toInt w1_2; omega)
    | succ n1 ih1 =>
      intro w1_2 w1_1 hm1 hz1 locs ls hS1 hl
      refine lv_iload_n hx hb dX7_onBits_4 rfl (lv_at hl 0 rfl) ?_
      refine lv_aload_n hx hb dX7_onBits_5 rfl (lv_at hl 2 rfl) ?_
      refine h_geti (C := RX7) (T := TX7) (N := 9) hx hb hts inX7 hown hK hT0 (hY.o rfl) rfl 5 rfl wF_X7_28 rfl dX7_onBits_6 (fun p1 => ?_)
      refine lv_topi (fun x2 ex2 => ?_)
      refine lv_icmp_ge (tgt := 32) hx hb dX7_onBits_9 (by decide) (fun c3 => ?_) (fun c3 => ?_)
      · skip
        refine lv_iload_n hx hb dX7_onBits_32 rfl (lv_at hl 1 rfl) ?_
        exact hret _ _ _ _ _ hT0 hS1 ⟨trivial, rfl⟩ dX7_onBits_33
      · skip
        refine lv_aload_n hx hb dX7_onBits_12 rfl (lv_at hl 2 rfl) ?_
        refine lv_iload_n hx hb dX7_onBits_13 rfl (lv_at hl 0 rfl) ?_
        refine h_callVi (T := TX7) (rest := []) (As := [.int w1_2]) hx hb hml hown hts hK hT0 hZ (fun _ h => h) hS1 (c_X7_isOn l G Y P (o) hY w1_2) trivial wd_X7_isOn wV_X7_isOn wL_X7_65 (hY.o rfl) rfl rfl hl.1 rfl (Nat.le_of_ble_eq_true rfl) dX7_onBits_14 ⟨Nat.le_of_ble_eq_true rfl, Nat.le_of_ble_eq_true rfl⟩ ⟨Nat.zero_le _, Nat.zero_le _⟩ (fun r4 H2 locs hp2 hT2 hS2 hk2 => ?_)
        obtain ⟨hp2, he⟩ := hp2
        have he := he.symm
        subst he
        refine lv_if_eq (tgt := 26) hx hb dX7_onBits_17 (by decide) (fun c5 => ?_) (fun c5 => ?_)
        · skip
          obtain ⟨x6, ex6⟩ : ∃ y : Int32, y = w1_2 + 1 := ⟨_, rfl⟩
          refine lv_iinc (v := x6) (lv' := [(2, .int x6), (1, .int w1_1), (0, .ref (o))]) hx hb dX7_onBits_26 hl (k := 0) rfl (by rw [ex6]; rfl) (by decide) rfl (fun ls hl => ?_)
          refine lv_goto (tgt := 4) hx hb dX7_onBits_29 (by decide) ?_
          exact ih1 x6 w1_1 (h_dn hm1 ex6 (by first | exact h_lu c3 | exact h_lu2 c3 | ((try simp only [Int32.lt_iff_toInt_lt, Int32.le_iff_toInt_le, ← Int32.toInt_inj, Int32.reduceToInt, (show (-1 : Int32).toInt = -1 from rfl)] at c3 ⊢); omega))) (h_nn hz1 ex6 (by first | exact h_lu c3 | exact h_lu2 c3 | ((try simp only [Int32.lt_iff_toInt_lt, Int32.le_iff_toInt_le, ← Int32.toInt_inj, Int32.reduceToInt, (show (-1 : Int32).toInt = -1 from rfl)] at c3 ⊢); omega))) _ _ hS2 (lv_sub hl [0, 1, 2] rfl)
        · skip
          obtain ⟨g7a, g7b⟩ := hp2.2 c5
          refine lv_iload_n hx hb dX7_onBits_20 rfl (lv_at hl 1 rfl) ?_
          refine lv_iconst (v := 1) hx hb dX7_onBits_21 (by decide) ?_
          refine lv_iload_n hx hb dX7_onBits_22 rfl (lv_at hl 0 rfl) ?_
          refine lv_ishl hx hb dX7_onBits_23 ?_
          refine lv_topi (fun x8 ex8 => ?_)
          refine lv_ior hx hb dX7_onBits_24 ?_
          refine lv_topi (fun x9 ex9 => ?_)
          refine lv_istore_n (lv' := [(1, .int x9), (2, .int w1_2), (0, .ref (o))]) hx hb dX7_onBits_25 rfl hl (by decide) rfl (fun ls hl => ?_)
          obtain ⟨x10, ex10⟩ : ∃ y : Int32, y = w1_2 + 1 := ⟨_, rfl⟩
          refine lv_iinc (v := x10) (lv' := [(2, .int x10), (1, .int x9), (0, .ref (o))]) hx hb dX7_onBits_26 hl (k := 1) rfl (by rw [ex10]; rfl) (by decide) rfl (fun ls hl => ?_)
          refine lv_goto (tgt := 4) hx hb dX7_onBits_29 (by decide) ?_
          exact ih1 x10 x9 (h_dn hm1 ex10 (by first | exact h_lu g7b | exact h_lu2 g7b | ((try simp only [Int32.lt_iff_toInt_lt, Int32.le_iff_toInt_le, ← Int32.toInt_inj, Int32.reduceToInt, (show (-1 : Int32).toInt = -1 from rfl)] at g7b ⊢); omega))) (h_nn hz1 ex10 (by first | exact h_lu g7b | exact h_lu2 g7b | ((try simp only [Int32.lt_iff_toInt_lt, Int32.le_iff_toInt_le, ← Int32.toInt_inj, Int32.reduceToInt, (show (-1 : Int32).toInt = -1 from rfl)] at g7b ⊢); omega))) _ _ hS2 (lv_sub hl [0, 1, 2] rfl)
  exact LP1 4294967296 0 0 (h_m0 _) (by decide) _ _ hS0 (lv_sub hl [0, 1, 2] rfl)
set_option maxHeartbeats 4000000 in
set_option maxRecDepth 100000 in
theorem c_X7_onCount (l : Launch) (G : hG) (Y : hW) (P : Int32 → Prop) (o : Nat) (hY : h_On Y o (stE (tC P) o)) : hMi l yX7_onCount cX7_onCount 1 (some .int) 2 43 G Y [.ref (o)] (fun H => True) (fun H r H1 => (True) ∧ H1 = H) := by
  refine h_ofi (by decide +kernel) (Nat.le_of_ble_eq_true rfl) ?_
  intro p e s m args below meth c H0 ls Q hx hb hts hown hml hK hZ hT0 hpr hS0 hl hret
  have hl : lv_has ls 1 [(0, .ref (o))] := hl
  refine lv_aload_n hx hb dX7_onCount_0 rfl (lv_at hl 0 rfl) ?_
  refine h_callVi (T := TX7) (rest := []) (As := []) hx hb hml hown hts hK hT0 hZ (fun _ h => h) hS0 (c_X7_onBits l G Y P (o) hY) trivial wd_X7_onBits wV_X7_onBits wL_X7_55 (hY.o rfl) rfl rfl hl.1 rfl (Nat.le_of_ble_eq_true rfl) dX7_onCount_1 ⟨Nat.le_of_ble_eq_true rfl, Nat.le_of_ble_eq_true rfl⟩ ⟨Nat.zero_le _, Nat.zero_le _⟩ (fun r1 H1 locs hp1 hT1 hS1 hk1 => ?_)
  obtain ⟨hp1, he⟩ := hp1
  have he := he.symm
  subst he
  refine h_callSi (rest := []) (As := [.int r1]) hx hb hml hown hts hK hT0 hZ (fun _ h => h) hS1 (c_bitCount l G Y r1) trivial wd_J6_bitCount_0f7a4 wS_J6_bitCount_0f7a4 wL_X7_59 rfl hl.1 rfl (Nat.le_of_ble_eq_true rfl) dX7_onCount_4 ⟨Nat.le_of_ble_eq_true rfl, Nat.le_of_ble_eq_true rfl⟩ ⟨Nat.zero_le _, Nat.zero_le _⟩ (fun r2 H2 locs hp2 hT2 hS2 hk2 => ?_)
  obtain ⟨hp2, he⟩ := hp2
  have he := he.symm
  subst he
  exact hret _ _ _ _ _ hT0 hS2 ⟨trivial, rfl⟩ dX7_onCount_7
set_option maxHeartbeats 4000000 in
set_option maxRecDepth 100000 in
theorem c_X7_greatestOn (l : Launch) (G : hG) (Y : hW) (P : Int32 → Prop) (o : Nat) (hY : h_On Y o (stE (tC P) o)) : hMi l yX7_greatestOn cX7_greatestOn 4 (some .int) 1 21 G Y [.ref (o)] (fun H => True) (fun H r H1 => (True) ∧ H1 = H) := by
  refine h_ofi (by decide +kernel) (Nat.le_of_ble_eq_true rfl) ?_
  intro p e s m args below meth c H0 ls Q hx hb hts hown hml hK hZ hT0 hpr hS0 hl hret
  have hl : lv_has ls 4 [(0, .ref (o))] := hl
  refine lv_iconst (v := (-1)) hx hb dX7_greatestOn_0 (by decide) ?_
  refine lv_istore_n (lv' := [(1, .int (-1)), (0, .ref (o))]) hx hb dX7_greatestOn_1 rfl hl (by decide) rfl (fun ls hl => ?_)
  refine lv_iconst (v := (-1)) hx hb dX7_greatestOn_2 (by decide) ?_
  refine lv_istore_n (lv' := [(2, .int (-1)), (1, .int (-1)), (0, .ref (o))]) hx hb dX7_greatestOn_3 rfl hl (by decide) rfl (fun ls hl => ?_)
  refine lv_iconst (v := 0) hx hb dX7_greatestOn_4 (by decide) ?_
  refine lv_istore_n (lv' := [(3, .int 0), (2, .int (-1)), (1, .int (-1)), (0, .ref (o))]) hx hb dX7_greatestOn_5 rfl hl (by decide) rfl (fun ls hl => ?_)
  have LP1 : ∀ (n1 : Nat) (w1_3 w1_2 w1_1 : Int32), 2147483647 - w1_3.toInt < (n1 : Int) → 0 ≤ w1_3.toInt → ∀ (locs : List Loc) (ls : Array Slot), va_S (h_A Y) s.heap H0 locs → lv_has ls 4 [(3, .int w1_3), (2, .int w1_2), (1, .int w1_1), (0, .ref (o))] → W p l e (h_rm 1 21) s m args below meth c H0 locs 0 0 Q (F0 m 6 ls []) := by
    intro n1
    induction n1 with
    | zero =>
      intro w1_3 w1_2 w1_1 hm
      exact absurd hm (by have := Int32.toInt_lt w1_3; have := Int32.le_toInt w1_3; omega)
    | succ n1 ih1 =>
      intro w1_3 w1_2 w1_1 hm1 hz1 locs ls hS1 hl
      refine lv_iload_n hx hb dX7_greatestOn_6 rfl (lv_at hl 0 rfl) ?_
      refine lv_aload_n hx hb dX7_greatestOn_7 rfl (lv_at hl 3 rfl) ?_
      refine h_geti (C := RX7) (T := TX7) (N := 9) hx hb hts inX7 hown hK hT0 (hY.o rfl) rfl 5 rfl wF_X7_28 rfl dX7_greatestOn_8 (fun p1 => ?_)
      refine lv_topi (fun x2 ex2 => ?_)
      refine lv_icmp_ge (tgt := 47) hx hb dX7_greatestOn_11 (by decide) (fun c3 => ?_) (fun c3 => ?_)
      · skip
        refine lv_iload_n hx hb dX7_greatestOn_47 rfl (lv_at hl 2 rfl) ?_
        exact hret _ _ _ _ _ hT0 hS1 ⟨trivial, rfl⟩ dX7_greatestOn_48
      · skip
        refine lv_aload_n hx hb dX7_greatestOn_14 rfl (lv_at hl 3 rfl) ?_
        refine lv_iload_n hx hb dX7_greatestOn_15 rfl (lv_at hl 0 rfl) ?_
        refine h_callVi (T := TX7) (rest := []) (As := [.int w1_3]) hx hb hml hown hts hK hT0 hZ (fun _ h => h) hS1 (c_X7_isOn l G Y P (o) hY w1_3) trivial wd_X7_isOn wV_X7_isOn wL_X7_65 (hY.o rfl) rfl rfl hl.1 rfl (Nat.le_of_ble_eq_true rfl) dX7_greatestOn_16 ⟨Nat.le_of_ble_eq_true rfl, Nat.le_of_ble_eq_true rfl⟩ ⟨Nat.zero_le _, Nat.zero_le _⟩ (fun r4 H2 locs hp2 hT2 hS2 hk2 => ?_)
        obtain ⟨hp2, he⟩ := hp2
        have he := he.symm
        subst he
        refine lv_if_eq (tgt := 41) hx hb dX7_greatestOn_19 (by decide) (fun c5 => ?_) (fun c5 => ?_)
        · skip
          obtain ⟨x6, ex6⟩ : ∃ y : Int32, y = w1_3 + 1 := ⟨_, rfl⟩
          refine lv_iinc (v := x6) (lv' := [(3, .int x6), (2, .int w1_2), (1, .int w1_1), (0, .ref (o))]) hx hb dX7_greatestOn_41 hl (k := 0) rfl (by rw [ex6]; rfl) (by decide) rfl (fun ls hl => ?_)
          refine lv_goto (tgt := 6) hx hb dX7_greatestOn_44 (by decide) ?_
          exact ih1 x6 w1_2 w1_1 (h_dn hm1 ex6 (by first | exact h_lu c3 | exact h_lu2 c3 | ((try simp only [Int32.lt_iff_toInt_lt, Int32.le_iff_toInt_le, ← Int32.toInt_inj, Int32.reduceToInt, (show (-1 : Int32).toInt = -1 from rfl)] at c3 ⊢); omega))) (h_nn hz1 ex6 (by first | exact h_lu c3 | exact h_lu2 c3 | ((try simp only [Int32.lt_iff_toInt_lt, Int32.le_iff_toInt_le, ← Int32.toInt_inj, Int32.reduceToInt, (show (-1 : Int32).toInt = -1 from rfl)] at c3 ⊢); omega))) _ _ hS2 (lv_sub hl [0, 1, 2, 3] rfl)
        · skip
          obtain ⟨g7a, g7b⟩ := hp2.2 c5
          refine lv_aload_n hx hb dX7_greatestOn_22 rfl (lv_at hl 3 rfl) ?_
          refine h_getr (C := RX7) (T := TX7) (N := 9) hx hb hts inX7 hown hK hT0 (hY.o rfl) rfl 0 rfl wF_X7_9 rfl dX7_greatestOn_23 ?_
          refine lv_iload_n hx hb dX7_greatestOn_26 rfl (lv_at hl 0 rfl) ?_
          refine h_iald hx hb hK hT0 (hY.at 1 rfl) (vp_in_iff.mpr (by (try simp only [Int32.lt_iff_toInt_lt, Int32.le_iff_toInt_le, ← Int32.toInt_inj, Int32.reduceToInt, (show (-1 : Int32).toInt = -1 from rfl)] at hz1 g7a g7b ⊢); omega)) dX7_greatestOn_27 (fun p8 => ?_)
          refine lv_topi (fun x9 ex9 => ?_)
          refine lv_iload_n hx hb dX7_greatestOn_28 rfl (lv_at hl 1 rfl) ?_
          refine lv_icmp_le (tgt := 41) hx hb dX7_greatestOn_29 (by decide) (fun c10 => ?_) (fun c10 => ?_)
          · skip
            obtain ⟨x11, ex11⟩ : ∃ y : Int32, y = w1_3 + 1 := ⟨_, rfl⟩
            refine lv_iinc (v := x11) (lv' := [(3, .int x11), (2, .int w1_2), (1, .int w1_1), (0, .ref (o))]) hx hb dX7_greatestOn_41 hl (k := 0) rfl (by rw [ex11]; rfl) (by decide) rfl (fun ls hl => ?_)
            refine lv_goto (tgt := 6) hx hb dX7_greatestOn_44 (by decide) ?_
            exact ih1 x11 w1_2 w1_1 (h_dn hm1 ex11 (by first | exact h_lu g7b | exact h_lu2 g7b | ((try simp only [Int32.lt_iff_toInt_lt, Int32.le_iff_toInt_le, ← Int32.toInt_inj, Int32.reduceToInt, (show (-1 : Int32).toInt = -1 from rfl)] at g7b ⊢); omega))) (h_nn hz1 ex11 (by first | exact h_lu g7b | exact h_lu2 g7b | ((try simp only [Int32.lt_iff_toInt_lt, Int32.le_iff_toInt_le, ← Int32.toInt_inj, Int32.reduceToInt, (show (-1 : Int32).toInt = -1 from rfl)] at g7b ⊢); omega))) _ _ hS2 (lv_sub hl [0, 1, 2, 3] rfl)
          · skip
            refine lv_iload_n hx hb dX7_greatestOn_32 rfl (lv_at hl 0 rfl) ?_
            refine lv_istore_n (lv' := [(1, .int w1_3), (3, .int w1_3), (2, .int w1_2), (0, .ref (o))]) hx hb dX7_greatestOn_33 rfl hl (by decide) rfl (fun ls hl => ?_)
            refine lv_aload_n hx hb dX7_greatestOn_34 rfl (lv_at hl 3 rfl) ?_
            refine h_getr (C := RX7) (T := TX7) (N := 9) hx hb hts inX7 hown hK hT0 (hY.o rfl) rfl 0 rfl wF_X7_9 rfl dX7_greatestOn_35 ?_
            refine lv_iload_n hx hb dX7_greatestOn_38 rfl (lv_at hl 1 rfl) ?_
            refine h_iald hx hb hK hT0 (hY.at 1 rfl) (vp_in_iff.mpr (by (try simp only [Int32.lt_iff_toInt_lt, Int32.le_iff_toInt_le, ← Int32.toInt_inj, Int32.reduceToInt, (show (-1 : Int32).toInt = -1 from rfl)] at hz1 g7a g7b ⊢); omega)) dX7_greatestOn_39 (fun p12 => ?_)
            refine h_top (v := x9) ex9.symm ?_
            refine lv_istore_n (lv' := [(2, .int x9), (1, .int w1_3), (3, .int w1_3), (0, .ref (o))]) hx hb dX7_greatestOn_40 rfl hl (by decide) rfl (fun ls hl => ?_)
            obtain ⟨x13, ex13⟩ : ∃ y : Int32, y = w1_3 + 1 := ⟨_, rfl⟩
            refine lv_iinc (v := x13) (lv' := [(3, .int x13), (2, .int x9), (1, .int w1_3), (0, .ref (o))]) hx hb dX7_greatestOn_41 hl (k := 2) rfl (by rw [ex13]; rfl) (by decide) rfl (fun ls hl => ?_)
            refine lv_goto (tgt := 6) hx hb dX7_greatestOn_44 (by decide) ?_
            exact ih1 x13 x9 w1_3 (h_dn hm1 ex13 (by first | exact h_lu g7b | exact h_lu2 g7b | ((try simp only [Int32.lt_iff_toInt_lt, Int32.le_iff_toInt_le, ← Int32.toInt_inj, Int32.reduceToInt, (show (-1 : Int32).toInt = -1 from rfl)] at g7b ⊢); omega))) (h_nn hz1 ex13 (by first | exact h_lu g7b | exact h_lu2 g7b | ((try simp only [Int32.lt_iff_toInt_lt, Int32.le_iff_toInt_le, ← Int32.toInt_inj, Int32.reduceToInt, (show (-1 : Int32).toInt = -1 from rfl)] at g7b ⊢); omega))) _ _ hS2 (lv_sub hl [0, 1, 2, 3] rfl)
  exact LP1 4294967296 0 (-1) (-1) (h_m0 _) (by decide) _ _ hS0 (lv_sub hl [0, 1, 2, 3] rfl)
set_option maxHeartbeats 4000000 in
set_option maxRecDepth 100000 in
theorem c_X7_chiefIsOn (l : Launch) (G : hG) (Y : hW) (P : Int32 → Prop) (o : Nat) (hY : h_On Y o (stE (tC P) o)) : hMi l yX7_chiefIsOn cX7_chiefIsOn 1 (some .boolean) 1 21 G Y [.ref (o)] (fun H => True) (fun H r H1 => ((r = 0 ∨ r = 1) ∧ True) ∧ H1 = H) := by
  refine h_ofz (by decide +kernel) (Nat.le_of_ble_eq_true rfl) ?_
  intro p e s m args below meth c H0 ls Q hx hb hts hown hml hK hZ hT0 hpr hS0 hl hret
  have hl : lv_has ls 1 [(0, .ref (o))] := hl
  refine lv_aload_n hx hb dX7_chiefIsOn_0 rfl (lv_at hl 0 rfl) ?_
  refine lv_aload_n hx hb dX7_chiefIsOn_1 rfl (lv_at hl 0 rfl) ?_
  refine h_geti (C := RX7) (T := TX7) (N := 9) hx hb hts inX7 hown hK hT0 (hY.o rfl) rfl 6 rfl wF_X7_32 rfl dX7_chiefIsOn_2 (fun p1 => ?_)
  refine lv_topi (fun x2 ex2 => ?_)
  refine h_callVi (T := TX7) (rest := []) (As := [.int x2]) hx hb hml hown hts hK hT0 hZ (fun _ h => h) hS0 (c_X7_isOn l G Y P (o) hY x2) trivial wd_X7_isOn wV_X7_isOn wL_X7_65 (hY.o rfl) rfl rfl hl.1 rfl (Nat.le_of_ble_eq_true rfl) dX7_chiefIsOn_5 ⟨Nat.le_of_ble_eq_true rfl, Nat.le_of_ble_eq_true rfl⟩ ⟨Nat.zero_le _, Nat.zero_le _⟩ (fun r3 H1 locs hp1 hT1 hS1 hk1 => ?_)
  obtain ⟨hp1, he⟩ := hp1
  have he := he.symm
  subst he
  exact hret _ _ _ _ _ hT0 hS1 ⟨hp1.1, ⟨hp1.1, trivial⟩, rfl⟩ dX7_chiefIsOn_8
set_option maxHeartbeats 4000000 in
set_option maxRecDepth 100000 in
theorem c_X7_following (l : Launch) (G : hG) (Y : hW) (P : Int32 → Prop) (o : Nat) (hY : h_On Y o (stE (tC P) o)) (u1 : Int32) : hMi l yX7_following cX7_following 2 (some .int) 0 0 G Y [.ref (o), .int u1] (fun H => True) (fun H r H1 => (True) ∧ H1 = H) := by
  refine h_ofi (by decide +kernel) (Nat.le_of_ble_eq_true rfl) ?_
  intro p e s m args below meth c H0 ls Q hx hb hts hown hml hK hZ hT0 hpr hS0 hl hret
  have hl : lv_has ls 2 [(0, .ref (o)), (1, .int u1)] := hl
  refine lv_iload_n hx hb dX7_following_0 rfl (lv_at hl 1 rfl) ?_
  refine lv_iconst (v := 1) hx hb dX7_following_1 (by decide) ?_
  refine lv_iadd hx hb dX7_following_2 ?_
  refine lv_topi (fun x1 ex1 => ?_)
  refine lv_aload_n hx hb dX7_following_3 rfl (lv_at hl 0 rfl) ?_
  refine h_geti (C := RX7) (T := TX7) (N := 9) hx hb hts inX7 hown hK hT0 (hY.o rfl) rfl 5 rfl wF_X7_28 rfl dX7_following_4 (fun p2 => ?_)
  refine lv_topi (fun x3 ex3 => ?_)
  refine lv_icmp_ge (tgt := 16) hx hb dX7_following_7 (by decide) (fun c4 => ?_) (fun c4 => ?_)
  · skip
    refine lv_iconst (v := 0) hx hb dX7_following_16 (by decide) ?_
    exact hret _ _ _ _ _ hT0 hS0 ⟨trivial, rfl⟩ dX7_following_17
  · skip
    refine lv_iload_n hx hb dX7_following_10 rfl (lv_at hl 1 rfl) ?_
    refine lv_iconst (v := 1) hx hb dX7_following_11 (by decide) ?_
    refine lv_iadd hx hb dX7_following_12 ?_
    refine lv_topi (fun x5 ex5 => ?_)
    refine lv_goto (tgt := 17) hx hb dX7_following_13 (by decide) ?_
    exact hret _ _ _ _ _ hT0 hS0 ⟨trivial, rfl⟩ dX7_following_17
set_option maxHeartbeats 4000000 in
set_option maxRecDepth 100000 in
theorem c_X7_preceding (l : Launch) (G : hG) (Y : hW) (P : Int32 → Prop) (o : Nat) (hY : h_On Y o (stE (tC P) o)) (u1 : Int32) : hMi l yX7_preceding cX7_preceding 2 (some .int) 0 0 G Y [.ref (o), .int u1] (fun H => True) (fun H r H1 => (True) ∧ H1 = H) := by
  refine h_ofi (by decide +kernel) (Nat.le_of_ble_eq_true rfl) ?_
  intro p e s m args below meth c H0 ls Q hx hb hts hown hml hK hZ hT0 hpr hS0 hl hret
  have hl : lv_has ls 2 [(0, .ref (o)), (1, .int u1)] := hl
  refine lv_iload_n hx hb dX7_preceding_0 rfl (lv_at hl 1 rfl) ?_
  refine lv_if_le (tgt := 10) hx hb dX7_preceding_1 (by decide) (fun c1 => ?_) (fun c1 => ?_)
  · skip
    refine lv_aload_n hx hb dX7_preceding_10 rfl (lv_at hl 0 rfl) ?_
    refine h_geti (C := RX7) (T := TX7) (N := 9) hx hb hts inX7 hown hK hT0 (hY.o rfl) rfl 5 rfl wF_X7_28 rfl dX7_preceding_11 (fun p2 => ?_)
    refine lv_topi (fun x3 ex3 => ?_)
    refine lv_iconst (v := 1) hx hb dX7_preceding_14 (by decide) ?_
    refine lv_isub hx hb dX7_preceding_15 ?_
    refine lv_topi (fun x4 ex4 => ?_)
    exact hret _ _ _ _ _ hT0 hS0 ⟨trivial, rfl⟩ dX7_preceding_16
  · skip
    refine lv_iload_n hx hb dX7_preceding_4 rfl (lv_at hl 1 rfl) ?_
    refine lv_iconst (v := 1) hx hb dX7_preceding_5 (by decide) ?_
    refine lv_isub hx hb dX7_preceding_6 ?_
    refine lv_topi (fun x5 ex5 => ?_)
    refine lv_goto (tgt := 16) hx hb dX7_preceding_7 (by decide) ?_
    exact hret _ _ _ _ _ hT0 hS0 ⟨trivial, rfl⟩ dX7_preceding_16
set_option maxHeartbeats 4000000 in
set_option maxRecDepth 100000 in
theorem c_X7_nextOn (l : Launch) (G : hG) (Y : hW) (P : Int32 → Prop) (o : Nat) (hY : h_On Y o (stE (tC P) o)) (u1 : Int32) : hMi l yX7_nextOn cX7_nextOn 4 (some .int) 1 21 G Y [.ref (o), .int u1] (fun H => True) (fun H r H1 => (True) ∧ H1 = H) := by
  refine h_ofi (by decide +kernel) (Nat.le_of_ble_eq_true rfl) ?_
  intro p e s m args below meth c H0 ls Q hx hb hts hown hml hK hZ hT0 hpr hS0 hl hret
  have hl : lv_has ls 4 [(0, .ref (o)), (1, .int u1)] := hl
  refine lv_iload_n hx hb dX7_nextOn_0 rfl (lv_at hl 1 rfl) ?_
  refine lv_istore_n (lv' := [(2, .int u1), (0, .ref (o)), (1, .int u1)]) hx hb dX7_nextOn_1 rfl hl (by decide) rfl (fun ls hl => ?_)
  refine lv_iconst (v := 0) hx hb dX7_nextOn_2 (by decide) ?_
  refine lv_istore_n (lv' := [(3, .int 0), (2, .int u1), (0, .ref (o)), (1, .int u1)]) hx hb dX7_nextOn_3 rfl hl (by decide) rfl (fun ls hl => ?_)
  have LP1 : ∀ (n1 : Nat) (w1_3 w1_2 : Int32), 2147483647 - w1_3.toInt < (n1 : Int) → 0 ≤ w1_3.toInt → ∀ (locs : List Loc) (ls : Array Slot), va_S (h_A Y) s.heap H0 locs → lv_has ls 4 [(3, .int w1_3), (2, .int w1_2), (0, .ref (o))] → W p l e (h_rm 1 21) s m args below meth c H0 locs 0 0 Q (F0 m 4 ls []) := by
    intro n1
    induction n1 with
    | zero =>
      intro w1_3 w1_2 hm
      exact absurd hm (by have := Int32.toInt_lt w1_3; have := Int32.le_toInt w1_3; omega)
    | succ n1 ih1 =>
      intro w1_3 w1_2 hm1 hz1 locs ls hS1 hl
      refine lv_iload_n hx hb dX7_nextOn_4 rfl (lv_at hl 0 rfl) ?_
      refine lv_aload_n hx hb dX7_nextOn_5 rfl (lv_at hl 2 rfl) ?_
      refine h_geti (C := RX7) (T := TX7) (N := 9) hx hb hts inX7 hown hK hT0 (hY.o rfl) rfl 5 rfl wF_X7_28 rfl dX7_nextOn_6 (fun p1 => ?_)
      refine lv_topi (fun x2 ex2 => ?_)
      refine lv_icmp_ge (tgt := 34) hx hb dX7_nextOn_9 (by decide) (fun c3 => ?_) (fun c3 => ?_)
      · skip
        refine lv_iconst (v := (-1)) hx hb dX7_nextOn_34 (by decide) ?_
        exact hret _ _ _ _ _ hT0 hS1 ⟨trivial, rfl⟩ dX7_nextOn_35
      · skip
        refine lv_aload_n hx hb dX7_nextOn_12 rfl (lv_at hl 2 rfl) ?_
        refine lv_iload_n hx hb dX7_nextOn_13 rfl (lv_at hl 1 rfl) ?_
        refine h_callVi (T := TX7) (rest := []) (As := [.int w1_2]) hx hb hml hown hts hK hT0 hZ (fun _ h => h) hS1 (c_X7_following l G Y P (o) hY w1_2) trivial wd_X7_following wV_X7_following wL_X7_68 (hY.o rfl) rfl rfl hl.1 rfl (Nat.le_of_ble_eq_true rfl) dX7_nextOn_14 ⟨Nat.le_of_ble_eq_true rfl, Nat.le_of_ble_eq_true rfl⟩ ⟨Nat.zero_le _, Nat.zero_le _⟩ (fun r4 H2 locs hp2 hT2 hS2 hk2 => ?_)
        obtain ⟨hp2, he⟩ := hp2
        have he := he.symm
        subst he
        refine lv_istore_n (lv' := [(2, .int r4), (3, .int w1_3), (0, .ref (o))]) hx hb dX7_nextOn_17 rfl hl (by decide) rfl (fun ls hl => ?_)
        refine lv_aload_n hx hb dX7_nextOn_18 rfl (lv_at hl 2 rfl) ?_
        refine lv_iload_n hx hb dX7_nextOn_19 rfl (lv_at hl 0 rfl) ?_
        refine h_callVi (T := TX7) (rest := []) (As := [.int r4]) hx hb hml hown hts hK hT0 hZ (fun _ h => h) hS2 (c_X7_isOn l G Y P (o) hY r4) trivial wd_X7_isOn wV_X7_isOn wL_X7_65 (hY.o rfl) rfl rfl hl.1 rfl (Nat.le_of_ble_eq_true rfl) dX7_nextOn_20 ⟨Nat.le_of_ble_eq_true rfl, Nat.le_of_ble_eq_true rfl⟩ ⟨Nat.zero_le _, Nat.zero_le _⟩ (fun r5 H3 locs hp3 hT3 hS3 hk3 => ?_)
        obtain ⟨hp3, he⟩ := hp3
        have he := he.symm
        subst he
        refine lv_if_eq (tgt := 28) hx hb dX7_nextOn_23 (by decide) (fun c6 => ?_) (fun c6 => ?_)
        · skip
          obtain ⟨x7, ex7⟩ : ∃ y : Int32, y = w1_3 + 1 := ⟨_, rfl⟩
          refine lv_iinc (v := x7) (lv' := [(3, .int x7), (2, .int r4), (0, .ref (o))]) hx hb dX7_nextOn_28 hl (k := 1) rfl (by rw [ex7]; rfl) (by decide) rfl (fun ls hl => ?_)
          refine lv_goto (tgt := 4) hx hb dX7_nextOn_31 (by decide) ?_
          exact ih1 x7 r4 (h_dn hm1 ex7 (by first | exact h_lu c3 | exact h_lu2 c3 | ((try simp only [Int32.lt_iff_toInt_lt, Int32.le_iff_toInt_le, ← Int32.toInt_inj, Int32.reduceToInt, (show (-1 : Int32).toInt = -1 from rfl)] at c3 ⊢); omega))) (h_nn hz1 ex7 (by first | exact h_lu c3 | exact h_lu2 c3 | ((try simp only [Int32.lt_iff_toInt_lt, Int32.le_iff_toInt_le, ← Int32.toInt_inj, Int32.reduceToInt, (show (-1 : Int32).toInt = -1 from rfl)] at c3 ⊢); omega))) _ _ hS3 (lv_sub hl [0, 1, 2] rfl)
        · skip
          obtain ⟨g8a, g8b⟩ := hp3.2 c6
          refine lv_iload_n hx hb dX7_nextOn_26 rfl (lv_at hl 0 rfl) ?_
          exact hret _ _ _ _ _ hT0 hS3 ⟨trivial, rfl⟩ dX7_nextOn_27
  exact LP1 4294967296 0 u1 (h_m0 _) (by decide) _ _ hS0 (lv_sub hl [0, 1, 2] rfl)
set_option maxHeartbeats 4000000 in
set_option maxRecDepth 100000 in
theorem c_X7_previousOn (l : Launch) (G : hG) (Y : hW) (P : Int32 → Prop) (o : Nat) (hY : h_On Y o (stE (tC P) o)) (u1 : Int32) : hMi l yX7_previousOn cX7_previousOn 4 (some .int) 1 21 G Y [.ref (o), .int u1] (fun H => True) (fun H r H1 => (True) ∧ H1 = H) := by
  refine h_ofi (by decide +kernel) (Nat.le_of_ble_eq_true rfl) ?_
  intro p e s m args below meth c H0 ls Q hx hb hts hown hml hK hZ hT0 hpr hS0 hl hret
  have hl : lv_has ls 4 [(0, .ref (o)), (1, .int u1)] := hl
  refine lv_iload_n hx hb dX7_previousOn_0 rfl (lv_at hl 1 rfl) ?_
  refine lv_istore_n (lv' := [(2, .int u1), (0, .ref (o)), (1, .int u1)]) hx hb dX7_previousOn_1 rfl hl (by decide) rfl (fun ls hl => ?_)
  refine lv_iconst (v := 0) hx hb dX7_previousOn_2 (by decide) ?_
  refine lv_istore_n (lv' := [(3, .int 0), (2, .int u1), (0, .ref (o)), (1, .int u1)]) hx hb dX7_previousOn_3 rfl hl (by decide) rfl (fun ls hl => ?_)
  have LP1 : ∀ (n1 : Nat) (w1_3 w1_2 : Int32), 2147483647 - w1_3.toInt < (n1 : Int) → 0 ≤ w1_3.toInt → ∀ (locs : List Loc) (ls : Array Slot), va_S (h_A Y) s.heap H0 locs → lv_has ls 4 [(3, .int w1_3), (2, .int w1_2), (0, .ref (o))] → W p l e (h_rm 1 21) s m args below meth c H0 locs 0 0 Q (F0 m 4 ls []) := by
    intro n1
    induction n1 with
    | zero =>
      intro w1_3 w1_2 hm
      exact absurd hm (by have := Int32.toInt_lt w1_3; have := Int32.le_toInt w1_3; omega)
    | succ n1 ih1 =>
      intro w1_3 w1_2 hm1 hz1 locs ls hS1 hl
      refine lv_iload_n hx hb dX7_previousOn_4 rfl (lv_at hl 0 rfl) ?_
      refine lv_aload_n hx hb dX7_previousOn_5 rfl (lv_at hl 2 rfl) ?_
      refine h_geti (C := RX7) (T := TX7) (N := 9) hx hb hts inX7 hown hK hT0 (hY.o rfl) rfl 5 rfl wF_X7_28 rfl dX7_previousOn_6 (fun p1 => ?_)
      refine lv_topi (fun x2 ex2 => ?_)
      refine lv_icmp_ge (tgt := 34) hx hb dX7_previousOn_9 (by decide) (fun c3 => ?_) (fun c3 => ?_)
      · skip
        refine lv_iconst (v := (-1)) hx hb dX7_previousOn_34 (by decide) ?_
        exact hret _ _ _ _ _ hT0 hS1 ⟨trivial, rfl⟩ dX7_previousOn_35
      · skip
        refine lv_aload_n hx hb dX7_previousOn_12 rfl (lv_at hl 2 rfl) ?_
        refine lv_iload_n hx hb dX7_previousOn_13 rfl (lv_at hl 1 rfl) ?_
        refine h_callVi (T := TX7) (rest := []) (As := [.int w1_2]) hx hb hml hown hts hK hT0 hZ (fun _ h => h) hS1 (c_X7_preceding l G Y P (o) hY w1_2) trivial wd_X7_preceding wV_X7_preceding wL_X7_71 (hY.o rfl) rfl rfl hl.1 rfl (Nat.le_of_ble_eq_true rfl) dX7_previousOn_14 ⟨Nat.le_of_ble_eq_true rfl, Nat.le_of_ble_eq_true rfl⟩ ⟨Nat.zero_le _, Nat.zero_le _⟩ (fun r4 H2 locs hp2 hT2 hS2 hk2 => ?_)
        obtain ⟨hp2, he⟩ := hp2
        have he := he.symm
        subst he
        refine lv_istore_n (lv' := [(2, .int r4), (3, .int w1_3), (0, .ref (o))]) hx hb dX7_previousOn_17 rfl hl (by decide) rfl (fun ls hl => ?_)
        refine lv_aload_n hx hb dX7_previousOn_18 rfl (lv_at hl 2 rfl) ?_
        refine lv_iload_n hx hb dX7_previousOn_19 rfl (lv_at hl 0 rfl) ?_
        refine h_callVi (T := TX7) (rest := []) (As := [.int r4]) hx hb hml hown hts hK hT0 hZ (fun _ h => h) hS2 (c_X7_isOn l G Y P (o) hY r4) trivial wd_X7_isOn wV_X7_isOn wL_X7_65 (hY.o rfl) rfl rfl hl.1 rfl (Nat.le_of_ble_eq_true rfl) dX7_previousOn_20 ⟨Nat.le_of_ble_eq_true rfl, Nat.le_of_ble_eq_true rfl⟩ ⟨Nat.zero_le _, Nat.zero_le _⟩ (fun r5 H3 locs hp3 hT3 hS3 hk3 => ?_)
        obtain ⟨hp3, he⟩ := hp3
        have he := he.symm
        subst he
        refine lv_if_eq (tgt := 28) hx hb dX7_previousOn_23 (by decide) (fun c6 => ?_) (fun c6 => ?_)
        · skip
          obtain ⟨x7, ex7⟩ : ∃ y : Int32, y = w1_3 + 1 := ⟨_, rfl⟩
          refine lv_iinc (v := x7) (lv' := [(3, .int x7), (2, .int r4), (0, .ref (o))]) hx hb dX7_previousOn_28 hl (k := 1) rfl (by rw [ex7]; rfl) (by decide) rfl (fun ls hl => ?_)
          refine lv_goto (tgt := 4) hx hb dX7_previousOn_31 (by decide) ?_
          exact ih1 x7 r4 (h_dn hm1 ex7 (by first | exact h_lu c3 | exact h_lu2 c3 | ((try simp only [Int32.lt_iff_toInt_lt, Int32.le_iff_toInt_le, ← Int32.toInt_inj, Int32.reduceToInt, (show (-1 : Int32).toInt = -1 from rfl)] at c3 ⊢); omega))) (h_nn hz1 ex7 (by first | exact h_lu c3 | exact h_lu2 c3 | ((try simp only [Int32.lt_iff_toInt_lt, Int32.le_iff_toInt_le, ← Int32.toInt_inj, Int32.reduceToInt, (show (-1 : Int32).toInt = -1 from rfl)] at c3 ⊢); omega))) _ _ hS3 (lv_sub hl [0, 1, 2] rfl)
        · skip
          obtain ⟨g8a, g8b⟩ := hp3.2 c6
          refine lv_iload_n hx hb dX7_previousOn_26 rfl (lv_at hl 0 rfl) ?_
          exact hret _ _ _ _ _ hT0 hS3 ⟨trivial, rfl⟩ dX7_previousOn_27
  exact LP1 4294967296 0 u1 (h_m0 _) (by decide) _ _ hS0 (lv_sub hl [0, 1, 2] rfl)
set_option maxHeartbeats 4000000 in
set_option maxRecDepth 100000 in
theorem c_X7_stepsBetween (l : Launch) (G : hG) (Y : hW) (P : Int32 → Prop) (o : Nat) (hY : h_On Y o (stE (tC P) o)) (u1 u2 : Int32) : hMi l yX7_stepsBetween cX7_stepsBetween 6 (some .int) 1 21 G Y [.ref (o), .int u1, .int u2] (fun H => True) (fun H r H1 => (True) ∧ H1 = H) := by
  refine h_ofi (by decide +kernel) (Nat.le_of_ble_eq_true rfl) ?_
  intro p e s m args below meth c H0 ls Q hx hb hts hown hml hK hZ hT0 hpr hS0 hl hret
  have hl : lv_has ls 6 [(0, .ref (o)), (1, .int u1), (2, .int u2)] := hl
  refine lv_iconst (v := 0) hx hb dX7_stepsBetween_0 (by decide) ?_
  refine lv_istore_n (lv' := [(3, .int 0), (0, .ref (o)), (1, .int u1), (2, .int u2)]) hx hb dX7_stepsBetween_1 rfl hl (by decide) rfl (fun ls hl => ?_)
  refine lv_iload_n hx hb dX7_stepsBetween_2 rfl (lv_at hl 2 rfl) ?_
  refine lv_istore (lv' := [(4, .int u1), (3, .int 0), (0, .ref (o)), (1, .int u1), (2, .int u2)]) hx hb dX7_stepsBetween_3 hl (by decide) rfl (fun ls hl => ?_)
  refine lv_iconst (v := 0) hx hb dX7_stepsBetween_5 (by decide) ?_
  refine lv_istore (lv' := [(5, .int 0), (4, .int u1), (3, .int 0), (0, .ref (o)), (1, .int u1), (2, .int u2)]) hx hb dX7_stepsBetween_6 hl (by decide) rfl (fun ls hl => ?_)
  have LP1 : ∀ (n1 : Nat) (w1_5 w1_4 w1_3 : Int32), 2147483647 - w1_5.toInt < (n1 : Int) → 0 ≤ w1_5.toInt → ∀ (locs : List Loc) (ls : Array Slot), va_S (h_A Y) s.heap H0 locs → lv_has ls 6 [(5, .int w1_5), (4, .int w1_4), (3, .int w1_3), (0, .ref (o)), (2, .int u2)] → W p l e (h_rm 1 21) s m args below meth c H0 locs 0 0 Q (F0 m 8 ls []) := by
    intro n1
    induction n1 with
    | zero =>
      intro w1_5 w1_4 w1_3 hm
      exact absurd hm (by have := Int32.toInt_lt w1_5; have := Int32.le_toInt w1_5; omega)
    | succ n1 ih1 =>
      intro w1_5 w1_4 w1_3 hm1 hz1 locs ls hS1 hl
      refine lv_iload hx hb dX7_stepsBetween_8 (lv_at hl 0 rfl) ?_
      refine lv_aload_n hx hb dX7_stepsBetween_10 rfl (lv_at hl 3 rfl) ?_
      refine h_geti (C := RX7) (T := TX7) (N := 9) hx hb hts inX7 hown hK hT0 (hY.o rfl) rfl 5 rfl wF_X7_28 rfl dX7_stepsBetween_11 (fun p1 => ?_)
      refine lv_topi (fun x2 ex2 => ?_)
      refine lv_icmp_ge (tgt := 51) hx hb dX7_stepsBetween_14 (by decide) (fun c3 => ?_) (fun c3 => ?_)
      · skip
        refine lv_iload_n hx hb dX7_stepsBetween_51 rfl (lv_at hl 2 rfl) ?_
        exact hret _ _ _ _ _ hT0 hS1 ⟨trivial, rfl⟩ dX7_stepsBetween_52
      · skip
        refine lv_aload_n hx hb dX7_stepsBetween_17 rfl (lv_at hl 3 rfl) ?_
        refine lv_iload hx hb dX7_stepsBetween_18 (lv_at hl 1 rfl) ?_
        refine h_callVi (T := TX7) (rest := []) (As := [.int w1_4]) hx hb hml hown hts hK hT0 hZ (fun _ h => h) hS1 (c_X7_following l G Y P (o) hY w1_4) trivial wd_X7_following wV_X7_following wL_X7_68 (hY.o rfl) rfl rfl hl.1 rfl (Nat.le_of_ble_eq_true rfl) dX7_stepsBetween_20 ⟨Nat.le_of_ble_eq_true rfl, Nat.le_of_ble_eq_true rfl⟩ ⟨Nat.zero_le _, Nat.zero_le _⟩ (fun r4 H2 locs hp2 hT2 hS2 hk2 => ?_)
        obtain ⟨hp2, he⟩ := hp2
        have he := he.symm
        subst he
        refine lv_istore (lv' := [(4, .int r4), (5, .int w1_5), (3, .int w1_3), (0, .ref (o)), (2, .int u2)]) hx hb dX7_stepsBetween_23 hl (by decide) rfl (fun ls hl => ?_)
        refine lv_aload_n hx hb dX7_stepsBetween_25 rfl (lv_at hl 3 rfl) ?_
        refine lv_iload hx hb dX7_stepsBetween_26 (lv_at hl 0 rfl) ?_
        refine h_callVi (T := TX7) (rest := []) (As := [.int r4]) hx hb hml hown hts hK hT0 hZ (fun _ h => h) hS2 (c_X7_isOn l G Y P (o) hY r4) trivial wd_X7_isOn wV_X7_isOn wL_X7_65 (hY.o rfl) rfl rfl hl.1 rfl (Nat.le_of_ble_eq_true rfl) dX7_stepsBetween_28 ⟨Nat.le_of_ble_eq_true rfl, Nat.le_of_ble_eq_true rfl⟩ ⟨Nat.zero_le _, Nat.zero_le _⟩ (fun r5 H3 locs hp3 hT3 hS3 hk3 => ?_)
        obtain ⟨hp3, he⟩ := hp3
        have he := he.symm
        subst he
        refine lv_if_eq (tgt := 37) hx hb dX7_stepsBetween_31 (by decide) (fun c6 => ?_) (fun c6 => ?_)
        · skip
          refine lv_iload hx hb dX7_stepsBetween_37 (lv_at hl 0 rfl) ?_
          refine lv_iload_n hx hb dX7_stepsBetween_39 rfl (lv_at hl 4 rfl) ?_
          refine lv_icmp_ne (tgt := 45) hx hb dX7_stepsBetween_40 (by decide) (fun c7 => ?_) (fun c7 => ?_)
          · skip
            obtain ⟨x8, ex8⟩ : ∃ y : Int32, y = w1_5 + 1 := ⟨_, rfl⟩
            refine lv_iinc (v := x8) (lv' := [(5, .int x8), (4, .int r4), (3, .int w1_3), (0, .ref (o)), (2, .int u2)]) hx hb dX7_stepsBetween_45 hl (k := 1) rfl (by rw [ex8]; rfl) (by decide) rfl (fun ls hl => ?_)
            refine lv_goto (tgt := 8) hx hb dX7_stepsBetween_48 (by decide) ?_
            exact ih1 x8 r4 w1_3 (h_dn hm1 ex8 (by first | exact h_lu c3 | exact h_lu2 c3 | ((try simp only [Int32.lt_iff_toInt_lt, Int32.le_iff_toInt_le, ← Int32.toInt_inj, Int32.reduceToInt, (show (-1 : Int32).toInt = -1 from rfl)] at c3 ⊢); omega))) (h_nn hz1 ex8 (by first | exact h_lu c3 | exact h_lu2 c3 | ((try simp only [Int32.lt_iff_toInt_lt, Int32.le_iff_toInt_le, ← Int32.toInt_inj, Int32.reduceToInt, (show (-1 : Int32).toInt = -1 from rfl)] at c3 ⊢); omega))) _ _ hS3 (lv_sub hl [0, 1, 2, 3, 4] rfl)
          · skip
            refine lv_iload_n hx hb dX7_stepsBetween_43 rfl (lv_at hl 2 rfl) ?_
            exact hret _ _ _ _ _ hT0 hS3 ⟨trivial, rfl⟩ dX7_stepsBetween_44
        · skip
          obtain ⟨g9a, g9b⟩ := hp3.2 c6
          obtain ⟨x10, ex10⟩ : ∃ y : Int32, y = w1_3 + 1 := ⟨_, rfl⟩
          refine lv_iinc (v := x10) (lv' := [(3, .int x10), (4, .int r4), (5, .int w1_5), (0, .ref (o)), (2, .int u2)]) hx hb dX7_stepsBetween_34 hl (k := 2) rfl (by rw [ex10]; rfl) (by decide) rfl (fun ls hl => ?_)
          refine lv_iload hx hb dX7_stepsBetween_37 (lv_at hl 1 rfl) ?_
          refine lv_iload_n hx hb dX7_stepsBetween_39 rfl (lv_at hl 4 rfl) ?_
          refine lv_icmp_ne (tgt := 45) hx hb dX7_stepsBetween_40 (by decide) (fun c11 => ?_) (fun c11 => ?_)
          · skip
            obtain ⟨x12, ex12⟩ : ∃ y : Int32, y = w1_5 + 1 := ⟨_, rfl⟩
            refine lv_iinc (v := x12) (lv' := [(5, .int x12), (3, .int x10), (4, .int r4), (0, .ref (o)), (2, .int u2)]) hx hb dX7_stepsBetween_45 hl (k := 2) rfl (by rw [ex12]; rfl) (by decide) rfl (fun ls hl => ?_)
            refine lv_goto (tgt := 8) hx hb dX7_stepsBetween_48 (by decide) ?_
            exact ih1 x12 r4 x10 (h_dn hm1 ex12 (by first | exact h_lu c3 | exact h_lu2 c3 | ((try simp only [Int32.lt_iff_toInt_lt, Int32.le_iff_toInt_le, ← Int32.toInt_inj, Int32.reduceToInt, (show (-1 : Int32).toInt = -1 from rfl)] at c3 ⊢); omega))) (h_nn hz1 ex12 (by first | exact h_lu c3 | exact h_lu2 c3 | ((try simp only [Int32.lt_iff_toInt_lt, Int32.le_iff_toInt_le, ← Int32.toInt_inj, Int32.reduceToInt, (show (-1 : Int32).toInt = -1 from rfl)] at c3 ⊢); omega))) _ _ hS3 (lv_sub hl [0, 2, 1, 3, 4] rfl)
          · skip
            refine lv_iload_n hx hb dX7_stepsBetween_43 rfl (lv_at hl 0 rfl) ?_
            exact hret _ _ _ _ _ hT0 hS3 ⟨trivial, rfl⟩ dX7_stepsBetween_44
  exact LP1 4294967296 0 u1 0 (h_m0 _) (by decide) _ _ hS0 (lv_sub hl [0, 1, 2, 3, 5] rfl)
set_option maxHeartbeats 4000000 in
set_option maxRecDepth 100000 in
theorem c_X7_setBreak (l : Launch) (G : hG) (Y : hW) (P : Int32 → Prop) (o : Nat) (hY : h_On Y o (stE (tC P) o)) (u1 u2 : Int32) : hMv l yX7_setBreak cX7_setBreak 3 none 0 0 G Y [.ref (o), .int u1, .int u2] (fun H => True) (fun H H1 => True) := by
  refine h_ofv (by decide +kernel) (Nat.le_of_ble_eq_true rfl) ?_
  intro p e s m args below meth c H0 ls Q hx hb hts hown hml hK hZ hT0 hpr hS0 hl hret
  have hl : lv_has ls 3 [(0, .ref (o)), (1, .int u1), (2, .int u2)] := hl
  refine lv_aload_n hx hb dX7_setBreak_0 rfl (lv_at hl 0 rfl) ?_
  refine lv_iload_n hx hb dX7_setBreak_1 rfl (lv_at hl 1 rfl) ?_
  refine h_puti (C := RX7) (T := TX7) (N := 9) hx hb hts inX7 tyX7 tyX7_ok nmX7 hown hK hT0 (fun _ h => h) hS0 (hY.o rfl) rfl 7 rfl wF_X7_35 rfl rfl trivial rfl rfl dX7_setBreak_2 (fun H1 locs hT1 hS1 hu1 => ?_)
  refine lv_aload_n hx hb dX7_setBreak_5 rfl (lv_at hl 0 rfl) ?_
  refine lv_iload_n hx hb dX7_setBreak_6 rfl (lv_at hl 2 rfl) ?_
  refine h_puti (C := RX7) (T := TX7) (N := 9) hx hb hts inX7 tyX7 tyX7_ok nmX7 hown hK hT1 (fun _ h => h) hS1 (hY.o rfl) rfl 8 rfl wF_X7_38 rfl rfl trivial rfl rfl dX7_setBreak_7 (fun H2 locs hT2 hS2 hu2 => ?_)
  exact hret _ _ _ _ hT2 hS2 trivial dX7_setBreak_10
set_option maxHeartbeats 4000000 in
set_option maxRecDepth 100000 in
theorem c_X7_clear (l : Launch) (G : hG) (Y : hW) (P : Int32 → Prop) (o : Nat) (hY : h_On Y o (stE (tC P) o)) : hMv l yX7_clear cX7_clear 1 none 1 22 G Y [.ref (o)] (fun H => True) (fun H H1 => True) := by
  refine h_ofv (by decide +kernel) (Nat.le_of_ble_eq_true rfl) ?_
  intro p e s m args below meth c H0 ls Q hx hb hts hown hml hK hZ hT0 hpr hS0 hl hret
  have hl : lv_has ls 1 [(0, .ref (o))] := hl
  refine lv_aload_n hx hb dX7_clear_0 rfl (lv_at hl 0 rfl) ?_
  refine lv_iconst (v := 0) hx hb dX7_clear_1 (by decide) ?_
  refine h_puti (C := RX7) (T := TX7) (N := 9) hx hb hts inX7 tyX7 tyX7_ok nmX7 hown hK hT0 (fun _ h => h) hS0 (hY.o rfl) rfl 5 rfl wF_X7_28 rfl rfl trivial rfl rfl dX7_clear_2 (fun H1 locs hT1 hS1 hu1 => ?_)
  refine lv_aload_n hx hb dX7_clear_5 rfl (lv_at hl 0 rfl) ?_
  refine lv_iconst (v := (-1)) hx hb dX7_clear_6 (by decide) ?_
  refine h_puti (C := RX7) (T := TX7) (N := 9) hx hb hts inX7 tyX7 tyX7_ok nmX7 hown hK hT1 (fun _ h => h) hS1 (hY.o rfl) rfl 6 rfl wF_X7_32 rfl rfl trivial rfl rfl dX7_clear_7 (fun H2 locs hT2 hS2 hu2 => ?_)
  refine lv_aload_n hx hb dX7_clear_10 rfl (lv_at hl 0 rfl) ?_
  refine lv_iconst (v := (-1)) hx hb dX7_clear_11 (by decide) ?_
  refine lv_iconst (v := (-1)) hx hb dX7_clear_12 (by decide) ?_
  refine h_callVv (T := TX7) (rest := []) (As := [.int (-1), .int (-1)]) hx hb hml hown hts hK hT2 hZ (fun _ h => h) hS2 (c_X7_setBreak l G Y P (o) hY (-1) (-1)) trivial wd_X7_setBreak wV_X7_setBreak wL_X7_41 (hY.o rfl) rfl rfl hl.1 rfl (Nat.le_of_ble_eq_true rfl) dX7_clear_13 ⟨Nat.le_of_ble_eq_true rfl, Nat.le_of_ble_eq_true rfl⟩ ⟨Nat.zero_le _, Nat.zero_le _⟩ (fun H3 locs hp3 hT3 hS3 hk3 => ?_)
  exact hret _ _ _ _ hT3 hS3 trivial dX7_clear_16
set_option maxHeartbeats 4000000 in
set_option maxRecDepth 100000 in
theorem c_X7_append (l : Launch) (G : hG) (Y : hW) (P : Int32 → Prop) (o : Nat) (hY : h_On Y o (stE (tC P) o)) (u1 : Int32) : hMv l yX7_append cX7_append 2 none 0 0 G Y [.ref (o), .int u1] (fun H => True) (fun H H1 => True) := by
  refine h_ofv (by decide +kernel) (Nat.le_of_ble_eq_true rfl) ?_
  intro p e s m args below meth c H0 ls Q hx hb hts hown hml hK hZ hT0 hpr hS0 hl hret
  have hl : lv_has ls 2 [(0, .ref (o)), (1, .int u1)] := hl
  refine lv_aload_n hx hb dX7_append_0 rfl (lv_at hl 0 rfl) ?_
  refine h_geti (C := RX7) (T := TX7) (N := 9) hx hb hts inX7 hown hK hT0 (hY.o rfl) rfl 5 rfl wF_X7_28 rfl dX7_append_1 (fun p1 => ?_)
  refine lv_topi (fun x2 ex2 => ?_)
  refine lv_if_lt (tgt := 16) hx hb dX7_append_4 (by decide) (fun c3 => ?_) (fun c3 => ?_)
  · skip
    exact hret _ _ _ _ hT0 hS0 trivial dX7_append_16
  · skip
    refine lv_aload_n hx hb dX7_append_7 rfl (lv_at hl 0 rfl) ?_
    refine h_geti (C := RX7) (T := TX7) (N := 9) hx hb hts inX7 hown hK hT0 (hY.o rfl) rfl 5 rfl wF_X7_28 rfl dX7_append_8 (fun p4 => ?_)
    refine h_top (v := x2) ex2.symm ?_
    refine lv_bipush (v := 8) hx hb dX7_append_11 (by decide) ?_
    refine lv_icmp_lt (tgt := 17) hx hb dX7_append_13 (by decide) (fun c5 => ?_) (fun c5 => ?_)
    · skip
      refine lv_aload_n hx hb dX7_append_17 rfl (lv_at hl 0 rfl) ?_
      refine h_getr (C := RX7) (T := TX7) (N := 9) hx hb hts inX7 hown hK hT0 (hY.o rfl) rfl 0 rfl wF_X7_9 rfl dX7_append_18 ?_
      refine lv_aload_n hx hb dX7_append_21 rfl (lv_at hl 0 rfl) ?_
      refine h_geti (C := RX7) (T := TX7) (N := 9) hx hb hts inX7 hown hK hT0 (hY.o rfl) rfl 5 rfl wF_X7_28 rfl dX7_append_22 (fun p6 => ?_)
      refine h_top (v := x2) ex2.symm ?_
      refine lv_iload_n hx hb dX7_append_25 rfl (lv_at hl 1 rfl) ?_
      refine h_iast hx hb hK hT0 (fun _ h => h) hS0 (hY.at 1 rfl) (vp_in_iff.mpr (by (try simp only [Int32.lt_iff_toInt_lt, Int32.le_iff_toInt_le, ← Int32.toInt_inj, Int32.reduceToInt, (show (-1 : Int32).toInt = -1 from rfl)] at c3 c5 ⊢); omega)) trivial dX7_append_26 (fun H1 locs hT1 hS1 hu1 => ?_)
      refine lv_aload_n hx hb dX7_append_27 rfl (lv_at hl 0 rfl) ?_
      refine h_getr (C := RX7) (T := TX7) (N := 9) hx hb hts inX7 hown hK hT1 (hY.o rfl) rfl 1 rfl wF_X7_15 rfl dX7_append_28 ?_
      refine lv_aload_n hx hb dX7_append_31 rfl (lv_at hl 0 rfl) ?_
      refine h_geti (C := RX7) (T := TX7) (N := 9) hx hb hts inX7 hown hK hT1 (hY.o rfl) rfl 5 rfl wF_X7_28 rfl dX7_append_32 (fun p7 => ?_)
      refine h_top (v := x2) ((h_gi_same (hu1.2.1 _ (by omega))).trans ex2.symm) ?_
      refine lv_iconst (v := 1) hx hb dX7_append_35 (by decide) ?_
      refine h_zast hx hb hK hT1 (fun _ h => h) hS1 (hY.at 2 rfl) (vp_in_iff.mpr (by (try simp only [Int32.lt_iff_toInt_lt, Int32.le_iff_toInt_le, ← Int32.toInt_inj, Int32.reduceToInt, (show (-1 : Int32).toInt = -1 from rfl)] at c3 c5 ⊢); omega)) (by decide) trivial dX7_append_36 (fun H2 locs hT2 hS2 hu2 => ?_)
      refine lv_aload_n hx hb dX7_append_37 rfl (lv_at hl 0 rfl) ?_
      refine h_getr (C := RX7) (T := TX7) (N := 9) hx hb hts inX7 hown hK hT2 (hY.o rfl) rfl 2 rfl wF_X7_19 rfl dX7_append_38 ?_
      refine lv_aload_n hx hb dX7_append_41 rfl (lv_at hl 0 rfl) ?_
      refine h_geti (C := RX7) (T := TX7) (N := 9) hx hb hts inX7 hown hK hT2 (hY.o rfl) rfl 5 rfl wF_X7_28 rfl dX7_append_42 (fun p8 => ?_)
      refine h_top (v := x2) ((h_gi_same (hu2.2.1 _ (by omega))).trans ((h_gi_same (hu1.2.1 _ (by omega))).trans ex2.symm)) ?_
      refine lv_iconst (v := (-1)) hx hb dX7_append_45 (by decide) ?_
      refine h_iast hx hb hK hT2 (fun _ h => h) hS2 (hY.at 3 rfl) (vp_in_iff.mpr (by (try simp only [Int32.lt_iff_toInt_lt, Int32.le_iff_toInt_le, ← Int32.toInt_inj, Int32.reduceToInt, (show (-1 : Int32).toInt = -1 from rfl)] at c3 c5 ⊢); omega)) trivial dX7_append_46 (fun H3 locs hT3 hS3 hu3 => ?_)
      refine lv_aload_n hx hb dX7_append_47 rfl (lv_at hl 0 rfl) ?_
      refine h_getr (C := RX7) (T := TX7) (N := 9) hx hb hts inX7 hown hK hT3 (hY.o rfl) rfl 3 rfl wF_X7_22 rfl dX7_append_48 ?_
      refine lv_aload_n hx hb dX7_append_51 rfl (lv_at hl 0 rfl) ?_
      refine h_geti (C := RX7) (T := TX7) (N := 9) hx hb hts inX7 hown hK hT3 (hY.o rfl) rfl 5 rfl wF_X7_28 rfl dX7_append_52 (fun p9 => ?_)
      refine h_top (v := x2) ((h_gi_same (hu3.2.1 _ (by omega))).trans ((h_gi_same (hu2.2.1 _ (by omega))).trans ((h_gi_same (hu1.2.1 _ (by omega))).trans ex2.symm))) ?_
      refine lv_iconst (v := 0) hx hb dX7_append_55 (by decide) ?_
      refine h_iast hx hb hK hT3 (fun _ h => h) hS3 (hY.at 4 rfl) (vp_in_iff.mpr (by (try simp only [Int32.lt_iff_toInt_lt, Int32.le_iff_toInt_le, ← Int32.toInt_inj, Int32.reduceToInt, (show (-1 : Int32).toInt = -1 from rfl)] at c3 c5 ⊢); omega)) trivial dX7_append_56 (fun H4 locs hT4 hS4 hu4 => ?_)
      refine lv_aload_n hx hb dX7_append_57 rfl (lv_at hl 0 rfl) ?_
      refine h_getr (C := RX7) (T := TX7) (N := 9) hx hb hts inX7 hown hK hT4 (hY.o rfl) rfl 4 rfl wF_X7_25 rfl dX7_append_58 ?_
      refine lv_aload_n hx hb dX7_append_61 rfl (lv_at hl 0 rfl) ?_
      refine h_geti (C := RX7) (T := TX7) (N := 9) hx hb hts inX7 hown hK hT4 (hY.o rfl) rfl 5 rfl wF_X7_28 rfl dX7_append_62 (fun p10 => ?_)
      refine h_top (v := x2) ((h_gi_same (hu4.2.1 _ (by omega))).trans ((h_gi_same (hu3.2.1 _ (by omega))).trans ((h_gi_same (hu2.2.1 _ (by omega))).trans ((h_gi_same (hu1.2.1 _ (by omega))).trans ex2.symm)))) ?_
      refine lv_iconst (v := 0) hx hb dX7_append_65 (by decide) ?_
      refine h_iast hx hb hK hT4 (fun _ h => h) hS4 (hY.at 5 rfl) (vp_in_iff.mpr (by (try simp only [Int32.lt_iff_toInt_lt, Int32.le_iff_toInt_le, ← Int32.toInt_inj, Int32.reduceToInt, (show (-1 : Int32).toInt = -1 from rfl)] at c3 c5 ⊢); omega)) trivial dX7_append_66 (fun H5 locs hT5 hS5 hu5 => ?_)
      refine lv_aload_n hx hb dX7_append_67 rfl (lv_at hl 0 rfl) ?_
      refine lv_dup hx hb dX7_append_68 rfl ?_
      refine h_geti (C := RX7) (T := TX7) (N := 9) hx hb hts inX7 hown hK hT5 (hY.o rfl) rfl 5 rfl wF_X7_28 rfl dX7_append_69 (fun p11 => ?_)
      refine h_top (v := x2) ((h_gi_same (hu5.2.1 _ (by omega))).trans ((h_gi_same (hu4.2.1 _ (by omega))).trans ((h_gi_same (hu3.2.1 _ (by omega))).trans ((h_gi_same (hu2.2.1 _ (by omega))).trans ((h_gi_same (hu1.2.1 _ (by omega))).trans ex2.symm))))) ?_
      refine lv_iconst (v := 1) hx hb dX7_append_72 (by decide) ?_
      refine lv_iadd hx hb dX7_append_73 ?_
      refine lv_topi (fun x12 ex12 => ?_)
      refine h_puti (C := RX7) (T := TX7) (N := 9) hx hb hts inX7 tyX7 tyX7_ok nmX7 hown hK hT5 (fun _ h => h) hS5 (hY.o rfl) rfl 5 rfl wF_X7_28 rfl rfl trivial rfl rfl dX7_append_74 (fun H6 locs hT6 hS6 hu6 => ?_)
      exact hret _ _ _ _ hT6 hS6 trivial dX7_append_77
    · skip
      exact hret _ _ _ _ hT0 hS0 trivial dX7_append_16
set_option maxHeartbeats 4000000 in
set_option maxRecDepth 100000 in
theorem c_X7_breakCountsWithout (l : Launch) (G : hG) (Y : hW) (P : Int32 → Prop) (o : Nat) (hY : h_On Y o (stE (tC P) o)) (u1 : Int32) : hMi l yX7_breakCountsWithout cX7_breakCountsWithout 3 (some .boolean) 1 21 G Y [.ref (o), .int u1] (fun H => True) (fun H r H1 => ((r = 0 ∨ r = 1) ∧ True) ∧ H1 = H) := by
  refine h_ofz (by decide +kernel) (Nat.le_of_ble_eq_true rfl) ?_
  intro p e s m args below meth c H0 ls Q hx hb hts hown hml hK hZ hT0 hpr hS0 hl hret
  have hl : lv_has ls 3 [(0, .ref (o)), (1, .int u1)] := hl
  refine lv_aload_n hx hb dX7_breakCountsWithout_0 rfl (lv_at hl 0 rfl) ?_
  refine lv_aload_n hx hb dX7_breakCountsWithout_1 rfl (lv_at hl 0 rfl) ?_
  refine h_geti (C := RX7) (T := TX7) (N := 9) hx hb hts inX7 hown hK hT0 (hY.o rfl) rfl 7 rfl wF_X7_35 rfl dX7_breakCountsWithout_2 (fun p1 => ?_)
  refine lv_topi (fun x2 ex2 => ?_)
  refine h_callVi (T := TX7) (rest := []) (As := [.int x2]) hx hb hml hown hts hK hT0 hZ (fun _ h => h) hS0 (c_X7_exists l G Y P (o) hY x2) trivial wd_X7_exists wV_X7_exists wL_X7_51 (hY.o rfl) rfl rfl hl.1 rfl (Nat.le_of_ble_eq_true rfl) dX7_breakCountsWithout_5 ⟨Nat.le_of_ble_eq_true rfl, Nat.le_of_ble_eq_true rfl⟩ ⟨Nat.zero_le _, Nat.zero_le _⟩ (fun r3 H1 locs hp1 hT1 hS1 hk1 => ?_)
  obtain ⟨hp1, he⟩ := hp1
  have he := he.symm
  subst he
  refine lv_if_ne (tgt := 13) hx hb dX7_breakCountsWithout_8 (by decide) (fun c4 => ?_) (fun c4 => ?_)
  · skip
    obtain ⟨g5a, g5b⟩ := hp1.2 c4
    refine lv_aload_n hx hb dX7_breakCountsWithout_13 rfl (lv_at hl 0 rfl) ?_
    refine h_geti (C := RX7) (T := TX7) (N := 9) hx hb hts inX7 hown hK hT0 (hY.o rfl) rfl 8 rfl wF_X7_38 rfl dX7_breakCountsWithout_14 (fun p6 => ?_)
    refine lv_topi (fun x7 ex7 => ?_)
    refine lv_iconst (v := 2) hx hb dX7_breakCountsWithout_17 (by decide) ?_
    refine lv_icmp_ne (tgt := 23) hx hb dX7_breakCountsWithout_18 (by decide) (fun c8 => ?_) (fun c8 => ?_)
    · skip
      refine lv_aload_n hx hb dX7_breakCountsWithout_23 rfl (lv_at hl 0 rfl) ?_
      refine h_geti (C := RX7) (T := TX7) (N := 9) hx hb hts inX7 hown hK hT0 (hY.o rfl) rfl 8 rfl wF_X7_38 rfl dX7_breakCountsWithout_24 (fun p9 => ?_)
      refine h_top (v := x7) ex7.symm ?_
      refine lv_if_ne (tgt := 37) hx hb dX7_breakCountsWithout_27 (by decide) (fun c10 => ?_) (fun c10 => ?_)
      · skip
        refine lv_aload_n hx hb dX7_breakCountsWithout_37 rfl (lv_at hl 0 rfl) ?_
        refine lv_aload_n hx hb dX7_breakCountsWithout_38 rfl (lv_at hl 0 rfl) ?_
        refine h_geti (C := RX7) (T := TX7) (N := 9) hx hb hts inX7 hown hK hT0 (hY.o rfl) rfl 7 rfl wF_X7_35 rfl dX7_breakCountsWithout_39 (fun p11 => ?_)
        refine h_top (v := x2) ex2.symm ?_
        refine h_callVi (T := TX7) (rest := []) (As := [.int x2]) hx hb hml hown hts hK hT0 hZ (fun _ h => h) hS1 (c_X7_following l G Y P (o) hY x2) trivial wd_X7_following wV_X7_following wL_X7_68 (hY.o rfl) rfl rfl hl.1 rfl (Nat.le_of_ble_eq_true rfl) dX7_breakCountsWithout_42 ⟨Nat.le_of_ble_eq_true rfl, Nat.le_of_ble_eq_true rfl⟩ ⟨Nat.zero_le _, Nat.zero_le _⟩ (fun r12 H2 locs hp2 hT2 hS2 hk2 => ?_)
        obtain ⟨hp2, he⟩ := hp2
        have he := he.symm
        subst he
        refine lv_istore_n (lv' := [(2, .int r12), (0, .ref (o)), (1, .int u1)]) hx hb dX7_breakCountsWithout_45 rfl hl (by decide) rfl (fun ls hl => ?_)
        refine lv_iload_n hx hb dX7_breakCountsWithout_46 rfl (lv_at hl 0 rfl) ?_
        refine lv_iload_n hx hb dX7_breakCountsWithout_47 rfl (lv_at hl 2 rfl) ?_
        refine lv_icmp_eq (tgt := 63) hx hb dX7_breakCountsWithout_48 (by decide) (fun c13 => ?_) (fun c13 => ?_)
        · skip
          refine lv_iconst (v := 0) hx hb dX7_breakCountsWithout_63 (by decide) ?_
          exact hret _ _ _ _ _ hT0 hS2 ⟨(by decide), ⟨(by decide), trivial⟩, rfl⟩ dX7_breakCountsWithout_64
        · skip
          refine lv_aload_n hx hb dX7_breakCountsWithout_51 rfl (lv_at hl 1 rfl) ?_
          refine lv_iload_n hx hb dX7_breakCountsWithout_52 rfl (lv_at hl 0 rfl) ?_
          refine h_callVi (T := TX7) (rest := []) (As := [.int r12]) hx hb hml hown hts hK hT0 hZ (fun _ h => h) hS2 (c_X7_isOn l G Y P (o) hY r12) trivial wd_X7_isOn wV_X7_isOn wL_X7_65 (hY.o rfl) rfl rfl hl.1 rfl (Nat.le_of_ble_eq_true rfl) dX7_breakCountsWithout_53 ⟨Nat.le_of_ble_eq_true rfl, Nat.le_of_ble_eq_true rfl⟩ ⟨Nat.zero_le _, Nat.zero_le _⟩ (fun r14 H3 locs hp3 hT3 hS3 hk3 => ?_)
          obtain ⟨hp3, he⟩ := hp3
          have he := he.symm
          subst he
          refine lv_if_eq (tgt := 63) hx hb dX7_breakCountsWithout_56 (by decide) (fun c15 => ?_) (fun c15 => ?_)
          · skip
            refine lv_iconst (v := 0) hx hb dX7_breakCountsWithout_63 (by decide) ?_
            exact hret _ _ _ _ _ hT0 hS3 ⟨(by decide), ⟨(by decide), trivial⟩, rfl⟩ dX7_breakCountsWithout_64
          · skip
            obtain ⟨g16a, g16b⟩ := hp3.2 c15
            refine lv_iconst (v := 1) hx hb dX7_breakCountsWithout_59 (by decide) ?_
            refine lv_goto (tgt := 64) hx hb dX7_breakCountsWithout_60 (by decide) ?_
            exact hret _ _ _ _ _ hT0 hS3 ⟨(by decide), ⟨(by decide), trivial⟩, rfl⟩ dX7_breakCountsWithout_64
      · skip
        refine lv_aload_n hx hb dX7_breakCountsWithout_30 rfl (lv_at hl 0 rfl) ?_
        refine h_geti (C := RX7) (T := TX7) (N := 9) hx hb hts inX7 hown hK hT0 (hY.o rfl) rfl 7 rfl wF_X7_35 rfl dX7_breakCountsWithout_31 (fun p17 => ?_)
        refine h_top (v := x2) ex2.symm ?_
        refine lv_goto (tgt := 45) hx hb dX7_breakCountsWithout_34 (by decide) ?_
        refine lv_istore_n (lv' := [(2, .int x2), (0, .ref (o)), (1, .int u1)]) hx hb dX7_breakCountsWithout_45 rfl hl (by decide) rfl (fun ls hl => ?_)
        refine lv_iload_n hx hb dX7_breakCountsWithout_46 rfl (lv_at hl 0 rfl) ?_
        refine lv_iload_n hx hb dX7_breakCountsWithout_47 rfl (lv_at hl 2 rfl) ?_
        refine lv_icmp_eq (tgt := 63) hx hb dX7_breakCountsWithout_48 (by decide) (fun c18 => ?_) (fun c18 => ?_)
        · skip
          refine lv_iconst (v := 0) hx hb dX7_breakCountsWithout_63 (by decide) ?_
          exact hret _ _ _ _ _ hT0 hS1 ⟨(by decide), ⟨(by decide), trivial⟩, rfl⟩ dX7_breakCountsWithout_64
        · skip
          refine lv_aload_n hx hb dX7_breakCountsWithout_51 rfl (lv_at hl 1 rfl) ?_
          refine lv_iload_n hx hb dX7_breakCountsWithout_52 rfl (lv_at hl 0 rfl) ?_
          refine h_callVi (T := TX7) (rest := []) (As := [.int x2]) hx hb hml hown hts hK hT0 hZ (fun _ h => h) hS1 (c_X7_isOn l G Y P (o) hY x2) trivial wd_X7_isOn wV_X7_isOn wL_X7_65 (hY.o rfl) rfl rfl hl.1 rfl (Nat.le_of_ble_eq_true rfl) dX7_breakCountsWithout_53 ⟨Nat.le_of_ble_eq_true rfl, Nat.le_of_ble_eq_true rfl⟩ ⟨Nat.zero_le _, Nat.zero_le _⟩ (fun r19 H4 locs hp4 hT4 hS4 hk4 => ?_)
          obtain ⟨hp4, he⟩ := hp4
          have he := he.symm
          subst he
          refine lv_if_eq (tgt := 63) hx hb dX7_breakCountsWithout_56 (by decide) (fun c20 => ?_) (fun c20 => ?_)
          · skip
            refine lv_iconst (v := 0) hx hb dX7_breakCountsWithout_63 (by decide) ?_
            exact hret _ _ _ _ _ hT0 hS4 ⟨(by decide), ⟨(by decide), trivial⟩, rfl⟩ dX7_breakCountsWithout_64
          · skip
            obtain ⟨g21a, g21b⟩ := hp4.2 c20
            refine lv_iconst (v := 1) hx hb dX7_breakCountsWithout_59 (by decide) ?_
            refine lv_goto (tgt := 64) hx hb dX7_breakCountsWithout_60 (by decide) ?_
            exact hret _ _ _ _ _ hT0 hS4 ⟨(by decide), ⟨(by decide), trivial⟩, rfl⟩ dX7_breakCountsWithout_64
    · skip
      refine lv_iconst (v := 1) hx hb dX7_breakCountsWithout_21 (by decide) ?_
      exact hret _ _ _ _ _ hT0 hS1 ⟨(by decide), ⟨(by decide), trivial⟩, rfl⟩ dX7_breakCountsWithout_22
  · skip
    refine lv_iconst (v := 0) hx hb dX7_breakCountsWithout_11 (by decide) ?_
    exact hret _ _ _ _ _ hT0 hS1 ⟨(by decide), ⟨(by decide), trivial⟩, rfl⟩ dX7_breakCountsWithout_12
set_option maxHeartbeats 4000000 in
set_option maxRecDepth 100000 in
theorem c_X7_breakCounts (l : Launch) (G : hG) (Y : hW) (P : Int32 → Prop) (o : Nat) (hY : h_On Y o (stE (tC P) o)) : hMi l yX7_breakCounts cX7_breakCounts 1 (some .boolean) 2 43 G Y [.ref (o)] (fun H => True) (fun H r H1 => ((r = 0 ∨ r = 1) ∧ True) ∧ H1 = H) := by
  refine h_ofz (by decide +kernel) (Nat.le_of_ble_eq_true rfl) ?_
  intro p e s m args below meth c H0 ls Q hx hb hts hown hml hK hZ hT0 hpr hS0 hl hret
  have hl : lv_has ls 1 [(0, .ref (o))] := hl
  refine lv_aload_n hx hb dX7_breakCounts_0 rfl (lv_at hl 0 rfl) ?_
  refine lv_iconst (v := (-1)) hx hb dX7_breakCounts_1 (by decide) ?_
  refine h_callVi (T := TX7) (rest := []) (As := [.int (-1)]) hx hb hml hown hts hK hT0 hZ (fun _ h => h) hS0 (c_X7_breakCountsWithout l G Y P (o) hY (-1)) trivial wd_X7_breakCountsWithout wV_X7_breakCountsWithout wL_X7_74 (hY.o rfl) rfl rfl hl.1 rfl (Nat.le_of_ble_eq_true rfl) dX7_breakCounts_2 ⟨Nat.le_of_ble_eq_true rfl, Nat.le_of_ble_eq_true rfl⟩ ⟨Nat.zero_le _, Nat.zero_le _⟩ (fun r1 H1 locs hp1 hT1 hS1 hk1 => ?_)
  obtain ⟨hp1, he⟩ := hp1
  have he := he.symm
  subst he
  exact hret _ _ _ _ _ hT0 hS1 ⟨hp1.1, ⟨hp1.1, trivial⟩, rfl⟩ dX7_breakCounts_5
set_option maxHeartbeats 4000000 in
set_option maxRecDepth 100000 in
theorem c_X7_breakBetween (l : Launch) (G : hG) (Y : hW) (P : Int32 → Prop) (o : Nat) (hY : h_On Y o (stE (tC P) o)) (u1 u2 : Int32) : hMi l yX7_breakBetween cX7_breakBetween 5 (some .boolean) 3 63 G Y [.ref (o), .int u1, .int u2] (fun H => True) (fun H r H1 => ((r = 0 ∨ r = 1) ∧ True) ∧ H1 = H) := by
  refine h_ofz (by decide +kernel) (Nat.le_of_ble_eq_true rfl) ?_
  intro p e s m args below meth c H0 ls Q hx hb hts hown hml hK hZ hT0 hpr hS0 hl hret
  have hl : lv_has ls 5 [(0, .ref (o)), (1, .int u1), (2, .int u2)] := hl
  refine lv_iload_n hx hb dX7_breakBetween_0 rfl (lv_at hl 1 rfl) ?_
  refine lv_istore_n (lv' := [(3, .int u1), (0, .ref (o)), (1, .int u1), (2, .int u2)]) hx hb dX7_breakBetween_1 rfl hl (by decide) rfl (fun ls hl => ?_)
  refine lv_iconst (v := 0) hx hb dX7_breakBetween_2 (by decide) ?_
  refine lv_istore (lv' := [(4, .int 0), (3, .int u1), (0, .ref (o)), (1, .int u1), (2, .int u2)]) hx hb dX7_breakBetween_3 hl (by decide) rfl (fun ls hl => ?_)
  have LP1 : ∀ (n1 : Nat) (w1_4 w1_3 : Int32), 2147483647 - w1_4.toInt < (n1 : Int) → 0 ≤ w1_4.toInt → ∀ (locs : List Loc) (ls : Array Slot), va_S (h_A Y) s.heap H0 locs → lv_has ls 5 [(4, .int w1_4), (3, .int w1_3), (0, .ref (o)), (2, .int u2)] → W p l e (h_rm 3 63) s m args below meth c H0 locs 0 0 Q (F0 m 5 ls []) := by
    intro n1
    induction n1 with
    | zero =>
      intro w1_4 w1_3 hm
      exact absurd hm (by have := Int32.toInt_lt w1_4; have := Int32.le_toInt w1_4; omega)
    | succ n1 ih1 =>
      intro w1_4 w1_3 hm1 hz1 locs ls hS1 hl
      refine lv_iload hx hb dX7_breakBetween_5 (lv_at hl 0 rfl) ?_
      refine lv_aload_n hx hb dX7_breakBetween_7 rfl (lv_at hl 2 rfl) ?_
      refine h_geti (C := RX7) (T := TX7) (N := 9) hx hb hts inX7 hown hK hT0 (hY.o rfl) rfl 5 rfl wF_X7_28 rfl dX7_breakBetween_8 (fun p1 => ?_)
      refine lv_topi (fun x2 ex2 => ?_)
      refine lv_icmp_ge (tgt := 46) hx hb dX7_breakBetween_11 (by decide) (fun c3 => ?_) (fun c3 => ?_)
      · skip
        refine lv_iconst (v := 0) hx hb dX7_breakBetween_46 (by decide) ?_
        exact hret _ _ _ _ _ hT0 hS1 ⟨(by decide), ⟨(by decide), trivial⟩, rfl⟩ dX7_breakBetween_47
      · skip
        refine lv_iload_n hx hb dX7_breakBetween_14 rfl (lv_at hl 1 rfl) ?_
        refine lv_aload_n hx hb dX7_breakBetween_15 rfl (lv_at hl 2 rfl) ?_
        refine h_geti (C := RX7) (T := TX7) (N := 9) hx hb hts inX7 hown hK hT0 (hY.o rfl) rfl 7 rfl wF_X7_35 rfl dX7_breakBetween_16 (fun p4 => ?_)
        refine lv_topi (fun x5 ex5 => ?_)
        refine lv_icmp_ne (tgt := 27) hx hb dX7_breakBetween_19 (by decide) (fun c6 => ?_) (fun c6 => ?_)
        · skip
          refine lv_aload_n hx hb dX7_breakBetween_27 rfl (lv_at hl 2 rfl) ?_
          refine lv_iload_n hx hb dX7_breakBetween_28 rfl (lv_at hl 1 rfl) ?_
          refine h_callVi (T := TX7) (rest := []) (As := [.int w1_3]) hx hb hml hown hts hK hT0 hZ (fun _ h => h) hS1 (c_X7_following l G Y P (o) hY w1_3) trivial wd_X7_following wV_X7_following wL_X7_68 (hY.o rfl) rfl rfl hl.1 rfl (Nat.le_of_ble_eq_true rfl) dX7_breakBetween_29 ⟨Nat.le_of_ble_eq_true rfl, Nat.le_of_ble_eq_true rfl⟩ ⟨Nat.zero_le _, Nat.zero_le _⟩ (fun r7 H2 locs hp2 hT2 hS2 hk2 => ?_)
          obtain ⟨hp2, he⟩ := hp2
          have he := he.symm
          subst he
          refine lv_istore_n (lv' := [(3, .int r7), (4, .int w1_4), (0, .ref (o)), (2, .int u2)]) hx hb dX7_breakBetween_32 rfl hl (by decide) rfl (fun ls hl => ?_)
          refine lv_iload_n hx hb dX7_breakBetween_33 rfl (lv_at hl 0 rfl) ?_
          refine lv_iload_n hx hb dX7_breakBetween_34 rfl (lv_at hl 3 rfl) ?_
          refine lv_icmp_ne (tgt := 40) hx hb dX7_breakBetween_35 (by decide) (fun c8 => ?_) (fun c8 => ?_)
          · skip
            obtain ⟨x9, ex9⟩ : ∃ y : Int32, y = w1_4 + 1 := ⟨_, rfl⟩
            refine lv_iinc (v := x9) (lv' := [(4, .int x9), (3, .int r7), (0, .ref (o)), (2, .int u2)]) hx hb dX7_breakBetween_40 hl (k := 1) rfl (by rw [ex9]; rfl) (by decide) rfl (fun ls hl => ?_)
            refine lv_goto (tgt := 5) hx hb dX7_breakBetween_43 (by decide) ?_
            exact ih1 x9 r7 (h_dn hm1 ex9 (by first | exact h_lu c3 | exact h_lu2 c3 | ((try simp only [Int32.lt_iff_toInt_lt, Int32.le_iff_toInt_le, ← Int32.toInt_inj, Int32.reduceToInt, (show (-1 : Int32).toInt = -1 from rfl)] at c3 ⊢); omega))) (h_nn hz1 ex9 (by first | exact h_lu c3 | exact h_lu2 c3 | ((try simp only [Int32.lt_iff_toInt_lt, Int32.le_iff_toInt_le, ← Int32.toInt_inj, Int32.reduceToInt, (show (-1 : Int32).toInt = -1 from rfl)] at c3 ⊢); omega))) _ _ hS2 (lv_sub hl [0, 1, 2, 3] rfl)
          · skip
            refine lv_iconst (v := 0) hx hb dX7_breakBetween_38 (by decide) ?_
            exact hret _ _ _ _ _ hT0 hS2 ⟨(by decide), ⟨(by decide), trivial⟩, rfl⟩ dX7_breakBetween_39
        · skip
          refine lv_aload_n hx hb dX7_breakBetween_22 rfl (lv_at hl 2 rfl) ?_
          refine h_callVi (T := TX7) (rest := []) (As := []) hx hb hml hown hts hK hT0 hZ (fun _ h => h) hS1 (c_X7_breakCounts l G Y P (o) hY) trivial wd_X7_breakCounts wV_X7_breakCounts wL_X7_77 (hY.o rfl) rfl rfl hl.1 rfl (Nat.le_of_ble_eq_true rfl) dX7_breakBetween_23 ⟨Nat.le_of_ble_eq_true rfl, Nat.le_of_ble_eq_true rfl⟩ ⟨Nat.zero_le _, Nat.zero_le _⟩ (fun r10 H3 locs hp3 hT3 hS3 hk3 => ?_)
          obtain ⟨hp3, he⟩ := hp3
          have he := he.symm
          subst he
          exact hret _ _ _ _ _ hT0 hS3 ⟨hp3.1, ⟨hp3.1, trivial⟩, rfl⟩ dX7_breakBetween_26
  exact LP1 4294967296 0 u1 (h_m0 _) (by decide) _ _ hS0 (lv_sub hl [0, 1, 2, 4] rfl)
set_option maxHeartbeats 4000000 in
set_option maxRecDepth 100000 in
theorem c_X7_staleBits (l : Launch) (G : hG) (Y : hW) (P : Int32 → Prop) (o : Nat) (hY : h_On Y o (stE (tC P) o)) : hMi l yX7_staleBits cX7_staleBits 3 (some .int) 2 44 G Y [.ref (o)] (fun H => True) (fun H r H1 => (True) ∧ H1 = H) := by
  refine h_ofi (by decide +kernel) (Nat.le_of_ble_eq_true rfl) ?_
  intro p e s m args below meth c H0 ls Q hx hb hts hown hml hK hZ hT0 hpr hS0 hl hret
  have hl : lv_has ls 3 [(0, .ref (o))] := hl
  refine lv_iconst (v := 0) hx hb dX7_staleBits_0 (by decide) ?_
  refine lv_istore_n (lv' := [(1, .int 0), (0, .ref (o))]) hx hb dX7_staleBits_1 rfl hl (by decide) rfl (fun ls hl => ?_)
  refine lv_iconst (v := 0) hx hb dX7_staleBits_2 (by decide) ?_
  refine lv_istore_n (lv' := [(2, .int 0), (1, .int 0), (0, .ref (o))]) hx hb dX7_staleBits_3 rfl hl (by decide) rfl (fun ls hl => ?_)
  have LP1 : ∀ (n1 : Nat) (w1_2 w1_1 : Int32), 2147483647 - w1_2.toInt < (n1 : Int) → 0 ≤ w1_2.toInt → ∀ (locs : List Loc) (ls : Array Slot), va_S (h_A Y) s.heap H0 locs → lv_has ls 3 [(2, .int w1_2), (1, .int w1_1), (0, .ref (o))] → W p l e (h_rm 2 44) s m args below meth c H0 locs 0 0 Q (F0 m 4 ls []) := by
    intro n1
    induction n1 with
    | zero =>
      intro w1_2 w1_1 hm
      exact absurd hm (by have := Int32.toInt_lt w1_2; have := Int32.le_toInt w1_2; omega)
    | succ n1 ih1 =>
      intro w1_2 w1_1 hm1 hz1 locs ls hS1 hl
      refine lv_iload_n hx hb dX7_staleBits_4 rfl (lv_at hl 0 rfl) ?_
      refine lv_aload_n hx hb dX7_staleBits_5 rfl (lv_at hl 2 rfl) ?_
      refine h_geti (C := RX7) (T := TX7) (N := 9) hx hb hts inX7 hown hK hT0 (hY.o rfl) rfl 5 rfl wF_X7_28 rfl dX7_staleBits_6 (fun p1 => ?_)
      refine lv_topi (fun x2 ex2 => ?_)
      refine lv_icmp_ge (tgt := 46) hx hb dX7_staleBits_9 (by decide) (fun c3 => ?_) (fun c3 => ?_)
      · skip
        refine lv_iload_n hx hb dX7_staleBits_46 rfl (lv_at hl 1 rfl) ?_
        exact hret _ _ _ _ _ hT0 hS1 ⟨trivial, rfl⟩ dX7_staleBits_47
      · skip
        refine lv_aload_n hx hb dX7_staleBits_12 rfl (lv_at hl 2 rfl) ?_
        refine lv_iload_n hx hb dX7_staleBits_13 rfl (lv_at hl 0 rfl) ?_
        refine h_callVi (T := TX7) (rest := []) (As := [.int w1_2]) hx hb hml hown hts hK hT0 hZ (fun _ h => h) hS1 (c_X7_isOn l G Y P (o) hY w1_2) trivial wd_X7_isOn wV_X7_isOn wL_X7_65 (hY.o rfl) rfl rfl hl.1 rfl (Nat.le_of_ble_eq_true rfl) dX7_staleBits_14 ⟨Nat.le_of_ble_eq_true rfl, Nat.le_of_ble_eq_true rfl⟩ ⟨Nat.zero_le _, Nat.zero_le _⟩ (fun r4 H2 locs hp2 hT2 hS2 hk2 => ?_)
        obtain ⟨hp2, he⟩ := hp2
        have he := he.symm
        subst he
        refine lv_if_eq (tgt := 40) hx hb dX7_staleBits_17 (by decide) (fun c5 => ?_) (fun c5 => ?_)
        · skip
          obtain ⟨x6, ex6⟩ : ∃ y : Int32, y = w1_2 + 1 := ⟨_, rfl⟩
          refine lv_iinc (v := x6) (lv' := [(2, .int x6), (1, .int w1_1), (0, .ref (o))]) hx hb dX7_staleBits_40 hl (k := 0) rfl (by rw [ex6]; rfl) (by decide) rfl (fun ls hl => ?_)
          refine lv_goto (tgt := 4) hx hb dX7_staleBits_43 (by decide) ?_
          exact ih1 x6 w1_1 (h_dn hm1 ex6 (by first | exact h_lu c3 | exact h_lu2 c3 | ((try simp only [Int32.lt_iff_toInt_lt, Int32.le_iff_toInt_le, ← Int32.toInt_inj, Int32.reduceToInt, (show (-1 : Int32).toInt = -1 from rfl)] at c3 ⊢); omega))) (h_nn hz1 ex6 (by first | exact h_lu c3 | exact h_lu2 c3 | ((try simp only [Int32.lt_iff_toInt_lt, Int32.le_iff_toInt_le, ← Int32.toInt_inj, Int32.reduceToInt, (show (-1 : Int32).toInt = -1 from rfl)] at c3 ⊢); omega))) _ _ hS2 (lv_sub hl [0, 1, 2] rfl)
        · skip
          obtain ⟨g7a, g7b⟩ := hp2.2 c5
          refine lv_aload_n hx hb dX7_staleBits_20 rfl (lv_at hl 2 rfl) ?_
          refine h_getr (C := RX7) (T := TX7) (N := 9) hx hb hts inX7 hown hK hT0 (hY.o rfl) rfl 2 rfl wF_X7_19 rfl dX7_staleBits_21 ?_
          refine lv_iload_n hx hb dX7_staleBits_24 rfl (lv_at hl 0 rfl) ?_
          refine h_iald hx hb hK hT0 (hY.at 3 rfl) (vp_in_iff.mpr (by (try simp only [Int32.lt_iff_toInt_lt, Int32.le_iff_toInt_le, ← Int32.toInt_inj, Int32.reduceToInt, (show (-1 : Int32).toInt = -1 from rfl)] at hz1 g7a g7b ⊢); omega)) dX7_staleBits_25 (fun p8 => ?_)
          refine lv_topi (fun x9 ex9 => ?_)
          refine lv_aload_n hx hb dX7_staleBits_26 rfl (lv_at hl 2 rfl) ?_
          refine lv_iload_n hx hb dX7_staleBits_27 rfl (lv_at hl 0 rfl) ?_
          refine h_callVi (T := TX7) (rest := [.int x9]) (As := [.int w1_2]) hx hb hml hown hts hK hT0 hZ (fun _ h => h) hS2 (c_X7_previousOn l G Y P (o) hY w1_2) trivial wd_X7_previousOn wV_X7_previousOn wL_X7_81 (hY.o rfl) rfl rfl hl.1 rfl (Nat.le_of_ble_eq_true rfl) dX7_staleBits_28 ⟨Nat.le_of_ble_eq_true rfl, Nat.le_of_ble_eq_true rfl⟩ ⟨Nat.zero_le _, Nat.zero_le _⟩ (fun r10 H3 locs hp3 hT3 hS3 hk3 => ?_)
          obtain ⟨hp3, he⟩ := hp3
          have he := he.symm
          subst he
          refine lv_icmp_eq (tgt := 40) hx hb dX7_staleBits_31 (by decide) (fun c11 => ?_) (fun c11 => ?_)
          · skip
            obtain ⟨x12, ex12⟩ : ∃ y : Int32, y = w1_2 + 1 := ⟨_, rfl⟩
            refine lv_iinc (v := x12) (lv' := [(2, .int x12), (1, .int w1_1), (0, .ref (o))]) hx hb dX7_staleBits_40 hl (k := 0) rfl (by rw [ex12]; rfl) (by decide) rfl (fun ls hl => ?_)
            refine lv_goto (tgt := 4) hx hb dX7_staleBits_43 (by decide) ?_
            exact ih1 x12 w1_1 (h_dn hm1 ex12 (by first | exact h_lu g7b | exact h_lu2 g7b | ((try simp only [Int32.lt_iff_toInt_lt, Int32.le_iff_toInt_le, ← Int32.toInt_inj, Int32.reduceToInt, (show (-1 : Int32).toInt = -1 from rfl)] at g7b ⊢); omega))) (h_nn hz1 ex12 (by first | exact h_lu g7b | exact h_lu2 g7b | ((try simp only [Int32.lt_iff_toInt_lt, Int32.le_iff_toInt_le, ← Int32.toInt_inj, Int32.reduceToInt, (show (-1 : Int32).toInt = -1 from rfl)] at g7b ⊢); omega))) _ _ hS3 (lv_sub hl [0, 1, 2] rfl)
          · skip
            refine lv_iload_n hx hb dX7_staleBits_34 rfl (lv_at hl 1 rfl) ?_
            refine lv_iconst (v := 1) hx hb dX7_staleBits_35 (by decide) ?_
            refine lv_iload_n hx hb dX7_staleBits_36 rfl (lv_at hl 0 rfl) ?_
            refine lv_ishl hx hb dX7_staleBits_37 ?_
            refine lv_topi (fun x13 ex13 => ?_)
            refine lv_ior hx hb dX7_staleBits_38 ?_
            refine lv_topi (fun x14 ex14 => ?_)
            refine lv_istore_n (lv' := [(1, .int x14), (2, .int w1_2), (0, .ref (o))]) hx hb dX7_staleBits_39 rfl hl (by decide) rfl (fun ls hl => ?_)
            obtain ⟨x15, ex15⟩ : ∃ y : Int32, y = w1_2 + 1 := ⟨_, rfl⟩
            refine lv_iinc (v := x15) (lv' := [(2, .int x15), (1, .int x14), (0, .ref (o))]) hx hb dX7_staleBits_40 hl (k := 1) rfl (by rw [ex15]; rfl) (by decide) rfl (fun ls hl => ?_)
            refine lv_goto (tgt := 4) hx hb dX7_staleBits_43 (by decide) ?_
            exact ih1 x15 x14 (h_dn hm1 ex15 (by first | exact h_lu g7b | exact h_lu2 g7b | ((try simp only [Int32.lt_iff_toInt_lt, Int32.le_iff_toInt_le, ← Int32.toInt_inj, Int32.reduceToInt, (show (-1 : Int32).toInt = -1 from rfl)] at g7b ⊢); omega))) (h_nn hz1 ex15 (by first | exact h_lu g7b | exact h_lu2 g7b | ((try simp only [Int32.lt_iff_toInt_lt, Int32.le_iff_toInt_le, ← Int32.toInt_inj, Int32.reduceToInt, (show (-1 : Int32).toInt = -1 from rfl)] at g7b ⊢); omega))) _ _ hS3 (lv_sub hl [0, 1, 2] rfl)
  exact LP1 4294967296 0 0 (h_m0 _) (by decide) _ _ hS0 (lv_sub hl [0, 1, 2] rfl)
set_option maxHeartbeats 4000000 in
set_option maxRecDepth 100000 in
theorem c_X7_tellNeighbours (l : Launch) (G : hG) (Y : hW) (P : Int32 → Prop) (o : Nat) (hY : h_On Y o (stE (tC P) o)) : hMi l yX7_tellNeighbours cX7_tellNeighbours 3 (some .int) 2 44 G Y [.ref (o)] (fun H => True) (fun H r H1 => True) := by
  refine h_ofi (by decide +kernel) (Nat.le_of_ble_eq_true rfl) ?_
  intro p e s m args below meth c H0 ls Q hx hb hts hown hml hK hZ hT0 hpr hS0 hl hret
  have hl : lv_has ls 3 [(0, .ref (o))] := hl
  refine lv_iconst (v := 0) hx hb dX7_tellNeighbours_0 (by decide) ?_
  refine lv_istore_n (lv' := [(1, .int 0), (0, .ref (o))]) hx hb dX7_tellNeighbours_1 rfl hl (by decide) rfl (fun ls hl => ?_)
  refine lv_iconst (v := 0) hx hb dX7_tellNeighbours_2 (by decide) ?_
  refine lv_istore_n (lv' := [(2, .int 0), (1, .int 0), (0, .ref (o))]) hx hb dX7_tellNeighbours_3 rfl hl (by decide) rfl (fun ls hl => ?_)
  have LP1 : ∀ (n1 : Nat) (w1_2 w1_1 : Int32), 2147483647 - w1_2.toInt < (n1 : Int) → 0 ≤ w1_2.toInt → ∀ (H1 : Heap) (locs : List Loc) (ls : Array Slot), hT G Y H1 → va_S (h_A Y) s.heap H1 locs → lv_has ls 3 [(2, .int w1_2), (1, .int w1_1), (0, .ref (o))] → W p l e (h_rm 2 44) s m args below meth c H1 locs 0 0 Q (F0 m 4 ls []) := by
    intro n1
    induction n1 with
    | zero =>
      intro w1_2 w1_1 hm
      exact absurd hm (by have := Int32.toInt_lt w1_2; have := Int32.le_toInt w1_2; omega)
    | succ n1 ih1 =>
      intro w1_2 w1_1 hm1 hz1 H1 locs ls hT1 hS1 hl
      refine lv_iload_n hx hb dX7_tellNeighbours_4 rfl (lv_at hl 0 rfl) ?_
      refine lv_aload_n hx hb dX7_tellNeighbours_5 rfl (lv_at hl 2 rfl) ?_
      refine h_geti (C := RX7) (T := TX7) (N := 9) hx hb hts inX7 hown hK hT1 (hY.o rfl) rfl 5 rfl wF_X7_28 rfl dX7_tellNeighbours_6 (fun p1 => ?_)
      refine lv_topi (fun x2 ex2 => ?_)
      refine lv_icmp_ge (tgt := 54) hx hb dX7_tellNeighbours_9 (by decide) (fun c3 => ?_) (fun c3 => ?_)
      · skip
        refine lv_iload_n hx hb dX7_tellNeighbours_54 rfl (lv_at hl 1 rfl) ?_
        exact hret _ _ _ _ _ hT1 hS1 trivial dX7_tellNeighbours_55
      · skip
        refine lv_aload_n hx hb dX7_tellNeighbours_12 rfl (lv_at hl 2 rfl) ?_
        refine lv_iload_n hx hb dX7_tellNeighbours_13 rfl (lv_at hl 0 rfl) ?_
        refine h_callVi (T := TX7) (rest := []) (As := [.int w1_2]) hx hb hml hown hts hK hT1 hZ (fun _ h => h) hS1 (c_X7_isOn l G Y P (o) hY w1_2) trivial wd_X7_isOn wV_X7_isOn wL_X7_65 (hY.o rfl) rfl rfl hl.1 rfl (Nat.le_of_ble_eq_true rfl) dX7_tellNeighbours_14 ⟨Nat.le_of_ble_eq_true rfl, Nat.le_of_ble_eq_true rfl⟩ ⟨Nat.zero_le _, Nat.zero_le _⟩ (fun r4 H2 locs hp2 hT2 hS2 hk2 => ?_)
        obtain ⟨hp2, he⟩ := hp2
        have he := he.symm
        subst he
        refine lv_if_eq (tgt := 48) hx hb dX7_tellNeighbours_17 (by decide) (fun c5 => ?_) (fun c5 => ?_)
        · skip
          obtain ⟨x6, ex6⟩ : ∃ y : Int32, y = w1_2 + 1 := ⟨_, rfl⟩
          refine lv_iinc (v := x6) (lv' := [(2, .int x6), (1, .int w1_1), (0, .ref (o))]) hx hb dX7_tellNeighbours_48 hl (k := 0) rfl (by rw [ex6]; rfl) (by decide) rfl (fun ls hl => ?_)
          refine lv_goto (tgt := 4) hx hb dX7_tellNeighbours_51 (by decide) ?_
          exact ih1 x6 w1_1 (h_dn hm1 ex6 (by first | exact h_lu c3 | exact h_lu2 c3 | ((try simp only [Int32.lt_iff_toInt_lt, Int32.le_iff_toInt_le, ← Int32.toInt_inj, Int32.reduceToInt, (show (-1 : Int32).toInt = -1 from rfl)] at c3 ⊢); omega))) (h_nn hz1 ex6 (by first | exact h_lu c3 | exact h_lu2 c3 | ((try simp only [Int32.lt_iff_toInt_lt, Int32.le_iff_toInt_le, ← Int32.toInt_inj, Int32.reduceToInt, (show (-1 : Int32).toInt = -1 from rfl)] at c3 ⊢); omega))) _ _ _ hT1 hS2 (lv_sub hl [0, 1, 2] rfl)
        · skip
          obtain ⟨g7a, g7b⟩ := hp2.2 c5
          refine lv_aload_n hx hb dX7_tellNeighbours_20 rfl (lv_at hl 2 rfl) ?_
          refine h_getr (C := RX7) (T := TX7) (N := 9) hx hb hts inX7 hown hK hT1 (hY.o rfl) rfl 2 rfl wF_X7_19 rfl dX7_tellNeighbours_21 ?_
          refine lv_iload_n hx hb dX7_tellNeighbours_24 rfl (lv_at hl 0 rfl) ?_
          refine h_iald hx hb hK hT1 (hY.at 3 rfl) (vp_in_iff.mpr (by (try simp only [Int32.lt_iff_toInt_lt, Int32.le_iff_toInt_le, ← Int32.toInt_inj, Int32.reduceToInt, (show (-1 : Int32).toInt = -1 from rfl)] at hz1 g7a g7b ⊢); omega)) dX7_tellNeighbours_25 (fun p8 => ?_)
          refine lv_topi (fun x9 ex9 => ?_)
          refine lv_aload_n hx hb dX7_tellNeighbours_26 rfl (lv_at hl 2 rfl) ?_
          refine lv_iload_n hx hb dX7_tellNeighbours_27 rfl (lv_at hl 0 rfl) ?_
          refine h_callVi (T := TX7) (rest := [.int x9]) (As := [.int w1_2]) hx hb hml hown hts hK hT1 hZ (fun _ h => h) hS2 (c_X7_previousOn l G Y P (o) hY w1_2) trivial wd_X7_previousOn wV_X7_previousOn wL_X7_81 (hY.o rfl) rfl rfl hl.1 rfl (Nat.le_of_ble_eq_true rfl) dX7_tellNeighbours_28 ⟨Nat.le_of_ble_eq_true rfl, Nat.le_of_ble_eq_true rfl⟩ ⟨Nat.zero_le _, Nat.zero_le _⟩ (fun r10 H3 locs hp3 hT3 hS3 hk3 => ?_)
          obtain ⟨hp3, he⟩ := hp3
          have he := he.symm
          subst he
          refine lv_icmp_eq (tgt := 48) hx hb dX7_tellNeighbours_31 (by decide) (fun c11 => ?_) (fun c11 => ?_)
          · skip
            obtain ⟨x12, ex12⟩ : ∃ y : Int32, y = w1_2 + 1 := ⟨_, rfl⟩
            refine lv_iinc (v := x12) (lv' := [(2, .int x12), (1, .int w1_1), (0, .ref (o))]) hx hb dX7_tellNeighbours_48 hl (k := 0) rfl (by rw [ex12]; rfl) (by decide) rfl (fun ls hl => ?_)
            refine lv_goto (tgt := 4) hx hb dX7_tellNeighbours_51 (by decide) ?_
            exact ih1 x12 w1_1 (h_dn hm1 ex12 (by first | exact h_lu g7b | exact h_lu2 g7b | ((try simp only [Int32.lt_iff_toInt_lt, Int32.le_iff_toInt_le, ← Int32.toInt_inj, Int32.reduceToInt, (show (-1 : Int32).toInt = -1 from rfl)] at g7b ⊢); omega))) (h_nn hz1 ex12 (by first | exact h_lu g7b | exact h_lu2 g7b | ((try simp only [Int32.lt_iff_toInt_lt, Int32.le_iff_toInt_le, ← Int32.toInt_inj, Int32.reduceToInt, (show (-1 : Int32).toInt = -1 from rfl)] at g7b ⊢); omega))) _ _ _ hT1 hS3 (lv_sub hl [0, 1, 2] rfl)
          · skip
            refine lv_aload_n hx hb dX7_tellNeighbours_34 rfl (lv_at hl 2 rfl) ?_
            refine h_getr (C := RX7) (T := TX7) (N := 9) hx hb hts inX7 hown hK hT1 (hY.o rfl) rfl 2 rfl wF_X7_19 rfl dX7_tellNeighbours_35 ?_
            refine lv_iload_n hx hb dX7_tellNeighbours_38 rfl (lv_at hl 0 rfl) ?_
            refine lv_aload_n hx hb dX7_tellNeighbours_39 rfl (lv_at hl 2 rfl) ?_
            refine lv_iload_n hx hb dX7_tellNeighbours_40 rfl (lv_at hl 0 rfl) ?_
            refine h_callVi (T := TX7) (rest := [.int w1_2, .ref (o + 3)]) (As := [.int w1_2]) hx hb hml hown hts hK hT1 hZ (fun _ h => h) hS3 (c_X7_previousOn l G Y P (o) hY w1_2) trivial wd_X7_previousOn wV_X7_previousOn wL_X7_81 (hY.o rfl) rfl rfl hl.1 rfl (Nat.le_of_ble_eq_true rfl) dX7_tellNeighbours_41 ⟨Nat.le_of_ble_eq_true rfl, Nat.le_of_ble_eq_true rfl⟩ ⟨Nat.zero_le _, Nat.zero_le _⟩ (fun r13 H4 locs hp4 hT4 hS4 hk4 => ?_)
            obtain ⟨hp4, he⟩ := hp4
            have he := he.symm
            subst he
            refine h_iast hx hb hK hT1 (fun _ h => h) hS4 (hY.at 3 rfl) (vp_in_iff.mpr (by (try simp only [Int32.lt_iff_toInt_lt, Int32.le_iff_toInt_le, ← Int32.toInt_inj, Int32.reduceToInt, (show (-1 : Int32).toInt = -1 from rfl)] at hz1 g7a g7b ⊢); omega)) trivial dX7_tellNeighbours_44 (fun H5 locs hT5 hS5 hu5 => ?_)
            obtain ⟨x14, ex14⟩ : ∃ y : Int32, y = w1_1 + 1 := ⟨_, rfl⟩
            refine lv_iinc (v := x14) (lv' := [(1, .int x14), (2, .int w1_2), (0, .ref (o))]) hx hb dX7_tellNeighbours_45 hl (k := 1) rfl (by rw [ex14]; rfl) (by decide) rfl (fun ls hl => ?_)
            obtain ⟨x15, ex15⟩ : ∃ y : Int32, y = w1_2 + 1 := ⟨_, rfl⟩
            refine lv_iinc (v := x15) (lv' := [(2, .int x15), (1, .int x14), (0, .ref (o))]) hx hb dX7_tellNeighbours_48 hl (k := 1) rfl (by rw [ex15]; rfl) (by decide) rfl (fun ls hl => ?_)
            refine lv_goto (tgt := 4) hx hb dX7_tellNeighbours_51 (by decide) ?_
            exact ih1 x15 x14 (h_dn hm1 ex15 (by first | exact h_lu g7b | exact h_lu2 g7b | ((try simp only [Int32.lt_iff_toInt_lt, Int32.le_iff_toInt_le, ← Int32.toInt_inj, Int32.reduceToInt, (show (-1 : Int32).toInt = -1 from rfl)] at g7b ⊢); omega))) (h_nn hz1 ex15 (by first | exact h_lu g7b | exact h_lu2 g7b | ((try simp only [Int32.lt_iff_toInt_lt, Int32.le_iff_toInt_le, ← Int32.toInt_inj, Int32.reduceToInt, (show (-1 : Int32).toInt = -1 from rfl)] at g7b ⊢); omega))) _ _ _ hT5 hS5 (lv_sub hl [0, 1, 2] rfl)
  exact LP1 4294967296 0 0 (h_m0 _) (by decide) _ _ _ hT0 hS0 (lv_sub hl [0, 1, 2] rfl)
set_option maxHeartbeats 4000000 in
set_option maxRecDepth 100000 in
theorem c_X7_countGot (l : Launch) (G : hG) (Y : hW) (P : Int32 → Prop) (o : Nat) (hY : h_On Y o (stE (tC P) o)) (u1 u2 : Int32) : hMv l yX7_countGot cX7_countGot 3 none 1 21 G Y [.ref (o), .int u1, .int u2] (fun H => True) (fun H H1 => True) := by
  refine h_ofv (by decide +kernel) (Nat.le_of_ble_eq_true rfl) ?_
  intro p e s m args below meth c H0 ls Q hx hb hts hown hml hK hZ hT0 hpr hS0 hl hret
  have hl : lv_has ls 3 [(0, .ref (o)), (1, .int u1), (2, .int u2)] := hl
  refine lv_aload_n hx hb dX7_countGot_0 rfl (lv_at hl 0 rfl) ?_
  refine lv_iload_n hx hb dX7_countGot_1 rfl (lv_at hl 1 rfl) ?_
  refine h_callVi (T := TX7) (rest := []) (As := [.int u1]) hx hb hml hown hts hK hT0 hZ (fun _ h => h) hS0 (c_X7_exists l G Y P (o) hY u1) trivial wd_X7_exists wV_X7_exists wL_X7_51 (hY.o rfl) rfl rfl hl.1 rfl (Nat.le_of_ble_eq_true rfl) dX7_countGot_2 ⟨Nat.le_of_ble_eq_true rfl, Nat.le_of_ble_eq_true rfl⟩ ⟨Nat.zero_le _, Nat.zero_le _⟩ (fun r1 H1 locs hp1 hT1 hS1 hk1 => ?_)
  obtain ⟨hp1, he⟩ := hp1
  have he := he.symm
  subst he
  refine lv_if_eq (tgt := 36) hx hb dX7_countGot_5 (by decide) (fun c2 => ?_) (fun c2 => ?_)
  · skip
    exact hret _ _ _ _ hT0 hS1 trivial dX7_countGot_36
  · skip
    obtain ⟨g3a, g3b⟩ := hp1.2 c2
    refine lv_aload_n hx hb dX7_countGot_8 rfl (lv_at hl 0 rfl) ?_
    refine lv_iload_n hx hb dX7_countGot_9 rfl (lv_at hl 2 rfl) ?_
    refine h_callVi (T := TX7) (rest := []) (As := [.int u2]) hx hb hml hown hts hK hT0 hZ (fun _ h => h) hS1 (c_X7_exists l G Y P (o) hY u2) trivial wd_X7_exists wV_X7_exists wL_X7_51 (hY.o rfl) rfl rfl hl.1 rfl (Nat.le_of_ble_eq_true rfl) dX7_countGot_10 ⟨Nat.le_of_ble_eq_true rfl, Nat.le_of_ble_eq_true rfl⟩ ⟨Nat.zero_le _, Nat.zero_le _⟩ (fun r4 H2 locs hp2 hT2 hS2 hk2 => ?_)
    obtain ⟨hp2, he⟩ := hp2
    have he := he.symm
    subst he
    refine lv_if_eq (tgt := 36) hx hb dX7_countGot_13 (by decide) (fun c5 => ?_) (fun c5 => ?_)
    · skip
      exact hret _ _ _ _ hT0 hS2 trivial dX7_countGot_36
    · skip
      obtain ⟨g6a, g6b⟩ := hp2.2 c5
      refine lv_aload_n hx hb dX7_countGot_16 rfl (lv_at hl 0 rfl) ?_
      refine h_getr (C := RX7) (T := TX7) (N := 9) hx hb hts inX7 hown hK hT0 (hY.o rfl) rfl 3 rfl wF_X7_22 rfl dX7_countGot_17 ?_
      refine lv_iload_n hx hb dX7_countGot_20 rfl (lv_at hl 1 rfl) ?_
      refine lv_dup2_11 hx hb dX7_countGot_21 rfl rfl ?_
      refine h_iald hx hb hK hT0 (hY.at 4 rfl) (vp_in_iff.mpr (by (try simp only [Int32.lt_iff_toInt_lt, Int32.le_iff_toInt_le, ← Int32.toInt_inj, Int32.reduceToInt, (show (-1 : Int32).toInt = -1 from rfl)] at g3a g3b ⊢); omega)) dX7_countGot_22 (fun p7 => ?_)
      refine lv_topi (fun x8 ex8 => ?_)
      refine lv_iconst (v := 1) hx hb dX7_countGot_23 (by decide) ?_
      refine lv_iadd hx hb dX7_countGot_24 ?_
      refine lv_topi (fun x9 ex9 => ?_)
      refine h_iast hx hb hK hT0 (fun _ h => h) hS2 (hY.at 4 rfl) (vp_in_iff.mpr (by (try simp only [Int32.lt_iff_toInt_lt, Int32.le_iff_toInt_le, ← Int32.toInt_inj, Int32.reduceToInt, (show (-1 : Int32).toInt = -1 from rfl)] at g3a g3b ⊢); omega)) trivial dX7_countGot_25 (fun H3 locs hT3 hS3 hu3 => ?_)
      refine lv_aload_n hx hb dX7_countGot_26 rfl (lv_at hl 0 rfl) ?_
      refine h_getr (C := RX7) (T := TX7) (N := 9) hx hb hts inX7 hown hK hT3 (hY.o rfl) rfl 4 rfl wF_X7_25 rfl dX7_countGot_27 ?_
      refine lv_iload_n hx hb dX7_countGot_30 rfl (lv_at hl 2 rfl) ?_
      refine lv_dup2_11 hx hb dX7_countGot_31 rfl rfl ?_
      refine h_iald hx hb hK hT3 (hY.at 5 rfl) (vp_in_iff.mpr (by (try simp only [Int32.lt_iff_toInt_lt, Int32.le_iff_toInt_le, ← Int32.toInt_inj, Int32.reduceToInt, (show (-1 : Int32).toInt = -1 from rfl)] at g6a g6b ⊢); omega)) dX7_countGot_32 (fun p10 => ?_)
      refine lv_topi (fun x11 ex11 => ?_)
      refine lv_iconst (v := 1) hx hb dX7_countGot_33 (by decide) ?_
      refine lv_iadd hx hb dX7_countGot_34 ?_
      refine lv_topi (fun x12 ex12 => ?_)
      refine h_iast hx hb hK hT3 (fun _ h => h) hS3 (hY.at 5 rfl) (vp_in_iff.mpr (by (try simp only [Int32.lt_iff_toInt_lt, Int32.le_iff_toInt_le, ← Int32.toInt_inj, Int32.reduceToInt, (show (-1 : Int32).toInt = -1 from rfl)] at g6a g6b ⊢); omega)) trivial dX7_countGot_35 (fun H4 locs hT4 hS4 hu4 => ?_)
      exact hret _ _ _ _ hT4 hS4 trivial dX7_countGot_36
set_option maxHeartbeats 4000000 in
set_option maxRecDepth 100000 in
theorem c_X7_copyFrom (l : Launch) (G : hG) (Y : hW) (P : Int32 → Prop) (o o2 : Nat) (hY : h_On Y o (stE (tC P) o)) (hY2 : h_On Y o2 (stE (tC P) o2)) : hMv l yX7_copyFrom cX7_copyFrom 2 none 1 60 G Y [.ref (o), .ref (o2)] (fun H => True) (fun H H1 => ∀ q : Nat, (q < o ∨ o + 6 ≤ q) → H1[q]? = H[q]?) := by
  refine h_ofv (by decide +kernel) (Nat.le_of_ble_eq_true rfl) ?_
  intro p e s m args below meth c H0 ls Q hx hb hts hown hml hK hZ hT0 hpr hS0 hl hret
  have hl : lv_has ls 2 [(0, .ref (o)), (1, .ref (o2))] := hl
  refine lv_aload_n hx hb dX7_copyFrom_0 rfl (lv_at hl 1 rfl) ?_
  refine h_getr (C := RX7) (T := TX7) (N := 9) hx hb hts inX7 hown hK hT0 (hY2.o rfl) rfl 0 rfl wF_X7_9 rfl dX7_copyFrom_1 ?_
  refine lv_iconst (v := 0) hx hb dX7_copyFrom_4 (by decide) ?_
  refine lv_aload_n hx hb dX7_copyFrom_5 rfl (lv_at hl 0 rfl) ?_
  refine h_getr (C := RX7) (T := TX7) (N := 9) hx hb hts inX7 hown hK hT0 (hY.o rfl) rfl 0 rfl wF_X7_9 rfl dX7_copyFrom_6 ?_
  refine lv_iconst (v := 0) hx hb dX7_copyFrom_9 (by decide) ?_
  refine lv_bipush (v := 8) hx hb dX7_copyFrom_10 (by decide) ?_
  refine h_copy (rest := []) hx hb hts (hml.trans hl.1.symm) hown wL_X7_45 wA_nat wA_sta wA_ini hK hT0 (fun _ h => h) hS0 (by decide) (hY2.at 1 rfl) (hY.at 1 rfl) (fun _ _ _ h => h) (by decide) (by decide) (Nat.le_of_ble_eq_true rfl) (Nat.le_of_ble_eq_true rfl) dX7_copyFrom_12 (fun H1 locs hT1 hS1 hu1 => ?_)
  refine lv_aload_n hx hb dX7_copyFrom_15 rfl (lv_at hl 1 rfl) ?_
  refine h_getr (C := RX7) (T := TX7) (N := 9) hx hb hts inX7 hown hK hT1 (hY2.o rfl) rfl 1 rfl wF_X7_15 rfl dX7_copyFrom_16 ?_
  refine lv_iconst (v := 0) hx hb dX7_copyFrom_19 (by decide) ?_
  refine lv_aload_n hx hb dX7_copyFrom_20 rfl (lv_at hl 0 rfl) ?_
  refine h_getr (C := RX7) (T := TX7) (N := 9) hx hb hts inX7 hown hK hT1 (hY.o rfl) rfl 1 rfl wF_X7_15 rfl dX7_copyFrom_21 ?_
  refine lv_iconst (v := 0) hx hb dX7_copyFrom_24 (by decide) ?_
  refine lv_bipush (v := 8) hx hb dX7_copyFrom_25 (by decide) ?_
  refine h_copy (rest := []) hx hb hts (hml.trans hl.1.symm) hown wL_X7_45 wA_nat wA_sta wA_ini hK hT1 (fun _ h => h) hS1 (by decide) (hY2.at 2 rfl) (hY.at 2 rfl) (fun _ _ _ h => h) (by decide) (by decide) (Nat.le_of_ble_eq_true rfl) (Nat.le_of_ble_eq_true rfl) dX7_copyFrom_27 (fun H2 locs hT2 hS2 hu2 => ?_)
  refine lv_aload_n hx hb dX7_copyFrom_30 rfl (lv_at hl 1 rfl) ?_
  refine h_getr (C := RX7) (T := TX7) (N := 9) hx hb hts inX7 hown hK hT2 (hY2.o rfl) rfl 2 rfl wF_X7_19 rfl dX7_copyFrom_31 ?_
  refine lv_iconst (v := 0) hx hb dX7_copyFrom_34 (by decide) ?_
  refine lv_aload_n hx hb dX7_copyFrom_35 rfl (lv_at hl 0 rfl) ?_
  refine h_getr (C := RX7) (T := TX7) (N := 9) hx hb hts inX7 hown hK hT2 (hY.o rfl) rfl 2 rfl wF_X7_19 rfl dX7_copyFrom_36 ?_
  refine lv_iconst (v := 0) hx hb dX7_copyFrom_39 (by decide) ?_
  refine lv_bipush (v := 8) hx hb dX7_copyFrom_40 (by decide) ?_
  refine h_copy (rest := []) hx hb hts (hml.trans hl.1.symm) hown wL_X7_45 wA_nat wA_sta wA_ini hK hT2 (fun _ h => h) hS2 (by decide) (hY2.at 3 rfl) (hY.at 3 rfl) (fun _ _ _ h => h) (by decide) (by decide) (Nat.le_of_ble_eq_true rfl) (Nat.le_of_ble_eq_true rfl) dX7_copyFrom_42 (fun H3 locs hT3 hS3 hu3 => ?_)
  refine lv_aload_n hx hb dX7_copyFrom_45 rfl (lv_at hl 1 rfl) ?_
  refine h_getr (C := RX7) (T := TX7) (N := 9) hx hb hts inX7 hown hK hT3 (hY2.o rfl) rfl 3 rfl wF_X7_22 rfl dX7_copyFrom_46 ?_
  refine lv_iconst (v := 0) hx hb dX7_copyFrom_49 (by decide) ?_
  refine lv_aload_n hx hb dX7_copyFrom_50 rfl (lv_at hl 0 rfl) ?_
  refine h_getr (C := RX7) (T := TX7) (N := 9) hx hb hts inX7 hown hK hT3 (hY.o rfl) rfl 3 rfl wF_X7_22 rfl dX7_copyFrom_51 ?_
  refine lv_iconst (v := 0) hx hb dX7_copyFrom_54 (by decide) ?_
  refine lv_bipush (v := 8) hx hb dX7_copyFrom_55 (by decide) ?_
  refine h_copy (rest := []) hx hb hts (hml.trans hl.1.symm) hown wL_X7_45 wA_nat wA_sta wA_ini hK hT3 (fun _ h => h) hS3 (by decide) (hY2.at 4 rfl) (hY.at 4 rfl) (fun _ _ _ h => h) (by decide) (by decide) (Nat.le_of_ble_eq_true rfl) (Nat.le_of_ble_eq_true rfl) dX7_copyFrom_57 (fun H4 locs hT4 hS4 hu4 => ?_)
  refine lv_aload_n hx hb dX7_copyFrom_60 rfl (lv_at hl 1 rfl) ?_
  refine h_getr (C := RX7) (T := TX7) (N := 9) hx hb hts inX7 hown hK hT4 (hY2.o rfl) rfl 4 rfl wF_X7_25 rfl dX7_copyFrom_61 ?_
  refine lv_iconst (v := 0) hx hb dX7_copyFrom_64 (by decide) ?_
  refine lv_aload_n hx hb dX7_copyFrom_65 rfl (lv_at hl 0 rfl) ?_
  refine h_getr (C := RX7) (T := TX7) (N := 9) hx hb hts inX7 hown hK hT4 (hY.o rfl) rfl 4 rfl wF_X7_25 rfl dX7_copyFrom_66 ?_
  refine lv_iconst (v := 0) hx hb dX7_copyFrom_69 (by decide) ?_
  refine lv_bipush (v := 8) hx hb dX7_copyFrom_70 (by decide) ?_
  refine h_copy (rest := []) hx hb hts (hml.trans hl.1.symm) hown wL_X7_45 wA_nat wA_sta wA_ini hK hT4 (fun _ h => h) hS4 (by decide) (hY2.at 5 rfl) (hY.at 5 rfl) (fun _ _ _ h => h) (by decide) (by decide) (Nat.le_of_ble_eq_true rfl) (Nat.le_of_ble_eq_true rfl) dX7_copyFrom_72 (fun H5 locs hT5 hS5 hu5 => ?_)
  refine lv_aload_n hx hb dX7_copyFrom_75 rfl (lv_at hl 0 rfl) ?_
  refine lv_aload_n hx hb dX7_copyFrom_76 rfl (lv_at hl 1 rfl) ?_
  refine h_geti (C := RX7) (T := TX7) (N := 9) hx hb hts inX7 hown hK hT5 (hY2.o rfl) rfl 5 rfl wF_X7_28 rfl dX7_copyFrom_77 (fun p1 => ?_)
  refine lv_topi (fun x2 ex2 => ?_)
  refine h_puti (C := RX7) (T := TX7) (N := 9) hx hb hts inX7 tyX7 tyX7_ok nmX7 hown hK hT5 (fun _ h => h) hS5 (hY.o rfl) rfl 5 rfl wF_X7_28 rfl rfl trivial rfl rfl dX7_copyFrom_80 (fun H6 locs hT6 hS6 hu6 => ?_)
  refine lv_aload_n hx hb dX7_copyFrom_83 rfl (lv_at hl 0 rfl) ?_
  refine lv_aload_n hx hb dX7_copyFrom_84 rfl (lv_at hl 1 rfl) ?_
  refine h_geti (C := RX7) (T := TX7) (N := 9) hx hb hts inX7 hown hK hT6 (hY2.o rfl) rfl 6 rfl wF_X7_32 rfl dX7_copyFrom_85 (fun p3 => ?_)
  refine lv_topi (fun x4 ex4 => ?_)
  refine h_puti (C := RX7) (T := TX7) (N := 9) hx hb hts inX7 tyX7 tyX7_ok nmX7 hown hK hT6 (fun _ h => h) hS6 (hY.o rfl) rfl 6 rfl wF_X7_32 rfl rfl trivial rfl rfl dX7_copyFrom_88 (fun H7 locs hT7 hS7 hu7 => ?_)
  refine lv_aload_n hx hb dX7_copyFrom_91 rfl (lv_at hl 0 rfl) ?_
  refine lv_aload_n hx hb dX7_copyFrom_92 rfl (lv_at hl 1 rfl) ?_
  refine h_geti (C := RX7) (T := TX7) (N := 9) hx hb hts inX7 hown hK hT7 (hY2.o rfl) rfl 7 rfl wF_X7_35 rfl dX7_copyFrom_93 (fun p5 => ?_)
  refine lv_topi (fun x6 ex6 => ?_)
  refine h_puti (C := RX7) (T := TX7) (N := 9) hx hb hts inX7 tyX7 tyX7_ok nmX7 hown hK hT7 (fun _ h => h) hS7 (hY.o rfl) rfl 7 rfl wF_X7_35 rfl rfl trivial rfl rfl dX7_copyFrom_96 (fun H8 locs hT8 hS8 hu8 => ?_)
  refine lv_aload_n hx hb dX7_copyFrom_99 rfl (lv_at hl 0 rfl) ?_
  refine lv_aload_n hx hb dX7_copyFrom_100 rfl (lv_at hl 1 rfl) ?_
  refine h_geti (C := RX7) (T := TX7) (N := 9) hx hb hts inX7 hown hK hT8 (hY2.o rfl) rfl 8 rfl wF_X7_38 rfl dX7_copyFrom_101 (fun p7 => ?_)
  refine lv_topi (fun x8 ex8 => ?_)
  refine h_puti (C := RX7) (T := TX7) (N := 9) hx hb hts inX7 tyX7 tyX7_ok nmX7 hown hK hT8 (fun _ h => h) hS8 (hY.o rfl) rfl 8 rfl wF_X7_38 rfl rfl trivial rfl rfl dX7_copyFrom_104 (fun H9 locs hT9 hS9 hu9 => ?_)
  exact hret _ _ _ _ hT9 hS9 (fun q hq => ((hu9.2.1 q (by omega)).trans ((hu8.2.1 q (by omega)).trans ((hu7.2.1 q (by omega)).trans ((hu6.2.1 q (by omega)).trans ((hu5.2.1 q (by omega)).trans ((hu4.2.1 q (by omega)).trans ((hu3.2.1 q (by omega)).trans ((hu2.2.1 q (by omega)).trans (hu1.2.1 q (by omega))))))))))) dX7_copyFrom_107
set_option maxHeartbeats 4000000 in
set_option maxRecDepth 100000 in
theorem c_X2_copyFrom (l : Launch) (G : hG) (Y : hW) (P : Int32 → Prop) (o o2 : Nat) (hY : h_On Y o (quE (tC P) o)) (hY2 : h_On Y o2 (quE (tC P) o2)) : hMv l yX2_copyFrom cX2_copyFrom 2 none 1 60 G Y [.ref (o), .ref (o2)] (fun H => True) (fun H H1 => ∀ q : Nat, (q < o ∨ o + 6 ≤ q) → H1[q]? = H[q]?) := by
  refine h_ofv (by decide +kernel) (Nat.le_of_ble_eq_true rfl) ?_
  intro p e s m args below meth c H0 ls Q hx hb hts hown hml hK hZ hT0 hpr hS0 hl hret
  have hl : lv_has ls 2 [(0, .ref (o)), (1, .ref (o2))] := hl
  refine lv_aload_n hx hb dX2_copyFrom_0 rfl (lv_at hl 1 rfl) ?_
  refine h_getr (C := RX2) (T := TX2) (N := 5) hx hb hts inX2 hown hK hT0 (hY2.o rfl) rfl 0 rfl wF_X2_9 rfl dX2_copyFrom_1 ?_
  refine lv_iconst (v := 0) hx hb dX2_copyFrom_4 (by decide) ?_
  refine lv_aload_n hx hb dX2_copyFrom_5 rfl (lv_at hl 0 rfl) ?_
  refine h_getr (C := RX2) (T := TX2) (N := 5) hx hb hts inX2 hown hK hT0 (hY.o rfl) rfl 0 rfl wF_X2_9 rfl dX2_copyFrom_6 ?_
  refine lv_iconst (v := 0) hx hb dX2_copyFrom_9 (by decide) ?_
  refine lv_bipush (v := 48) hx hb dX2_copyFrom_10 (by decide) ?_
  refine h_copy (rest := []) hx hb hts (hml.trans hl.1.symm) hown wL_X2_33 wA_nat wA_sta wA_ini hK hT0 (fun _ h => h) hS0 (by decide) (hY2.at 1 rfl) (hY.at 1 rfl) (fun _ _ _ h => h) (by decide) (by decide) (Nat.le_of_ble_eq_true rfl) (Nat.le_of_ble_eq_true rfl) dX2_copyFrom_12 (fun H1 locs hT1 hS1 hu1 => ?_)
  refine lv_aload_n hx hb dX2_copyFrom_15 rfl (lv_at hl 1 rfl) ?_
  refine h_getr (C := RX2) (T := TX2) (N := 5) hx hb hts inX2 hown hK hT1 (hY2.o rfl) rfl 1 rfl wF_X2_15 rfl dX2_copyFrom_16 ?_
  refine lv_iconst (v := 0) hx hb dX2_copyFrom_19 (by decide) ?_
  refine lv_aload_n hx hb dX2_copyFrom_20 rfl (lv_at hl 0 rfl) ?_
  refine h_getr (C := RX2) (T := TX2) (N := 5) hx hb hts inX2 hown hK hT1 (hY.o rfl) rfl 1 rfl wF_X2_15 rfl dX2_copyFrom_21 ?_
  refine lv_iconst (v := 0) hx hb dX2_copyFrom_24 (by decide) ?_
  refine lv_bipush (v := 48) hx hb dX2_copyFrom_25 (by decide) ?_
  refine h_copy (rest := []) hx hb hts (hml.trans hl.1.symm) hown wL_X2_33 wA_nat wA_sta wA_ini hK hT1 (fun _ h => h) hS1 (by decide) (hY2.at 2 rfl) (hY.at 2 rfl) (fun _ _ _ h => h) (by decide) (by decide) (Nat.le_of_ble_eq_true rfl) (Nat.le_of_ble_eq_true rfl) dX2_copyFrom_27 (fun H2 locs hT2 hS2 hu2 => ?_)
  refine lv_aload_n hx hb dX2_copyFrom_30 rfl (lv_at hl 1 rfl) ?_
  refine h_getr (C := RX2) (T := TX2) (N := 5) hx hb hts inX2 hown hK hT2 (hY2.o rfl) rfl 2 rfl wF_X2_18 rfl dX2_copyFrom_31 ?_
  refine lv_iconst (v := 0) hx hb dX2_copyFrom_34 (by decide) ?_
  refine lv_aload_n hx hb dX2_copyFrom_35 rfl (lv_at hl 0 rfl) ?_
  refine h_getr (C := RX2) (T := TX2) (N := 5) hx hb hts inX2 hown hK hT2 (hY.o rfl) rfl 2 rfl wF_X2_18 rfl dX2_copyFrom_36 ?_
  refine lv_iconst (v := 0) hx hb dX2_copyFrom_39 (by decide) ?_
  refine lv_bipush (v := 48) hx hb dX2_copyFrom_40 (by decide) ?_
  refine h_copy (rest := []) hx hb hts (hml.trans hl.1.symm) hown wL_X2_33 wA_nat wA_sta wA_ini hK hT2 (fun _ h => h) hS2 (by decide) (hY2.at 3 rfl) (hY.at 3 rfl) (fun _ _ _ h => h) (by decide) (by decide) (Nat.le_of_ble_eq_true rfl) (Nat.le_of_ble_eq_true rfl) dX2_copyFrom_42 (fun H3 locs hT3 hS3 hu3 => ?_)
  refine lv_aload_n hx hb dX2_copyFrom_45 rfl (lv_at hl 1 rfl) ?_
  refine h_getr (C := RX2) (T := TX2) (N := 5) hx hb hts inX2 hown hK hT3 (hY2.o rfl) rfl 3 rfl wF_X2_21 rfl dX2_copyFrom_46 ?_
  refine lv_iconst (v := 0) hx hb dX2_copyFrom_49 (by decide) ?_
  refine lv_aload_n hx hb dX2_copyFrom_50 rfl (lv_at hl 0 rfl) ?_
  refine h_getr (C := RX2) (T := TX2) (N := 5) hx hb hts inX2 hown hK hT3 (hY.o rfl) rfl 3 rfl wF_X2_21 rfl dX2_copyFrom_51 ?_
  refine lv_iconst (v := 0) hx hb dX2_copyFrom_54 (by decide) ?_
  refine lv_bipush (v := 48) hx hb dX2_copyFrom_55 (by decide) ?_
  refine h_copy (rest := []) hx hb hts (hml.trans hl.1.symm) hown wL_X2_33 wA_nat wA_sta wA_ini hK hT3 (fun _ h => h) hS3 (by decide) (hY2.at 4 rfl) (hY.at 4 rfl) (fun _ _ _ h => h) (by decide) (by decide) (Nat.le_of_ble_eq_true rfl) (Nat.le_of_ble_eq_true rfl) dX2_copyFrom_57 (fun H4 locs hT4 hS4 hu4 => ?_)
  refine lv_aload_n hx hb dX2_copyFrom_60 rfl (lv_at hl 1 rfl) ?_
  refine h_getr (C := RX2) (T := TX2) (N := 5) hx hb hts inX2 hown hK hT4 (hY2.o rfl) rfl 4 rfl wF_X2_24 rfl dX2_copyFrom_61 ?_
  refine lv_iconst (v := 0) hx hb dX2_copyFrom_64 (by decide) ?_
  refine lv_aload_n hx hb dX2_copyFrom_65 rfl (lv_at hl 0 rfl) ?_
  refine h_getr (C := RX2) (T := TX2) (N := 5) hx hb hts inX2 hown hK hT4 (hY.o rfl) rfl 4 rfl wF_X2_24 rfl dX2_copyFrom_66 ?_
  refine lv_iconst (v := 0) hx hb dX2_copyFrom_69 (by decide) ?_
  refine lv_bipush (v := 8) hx hb dX2_copyFrom_70 (by decide) ?_
  refine h_copy (rest := []) hx hb hts (hml.trans hl.1.symm) hown wL_X2_33 wA_nat wA_sta wA_ini hK hT4 (fun _ h => h) hS4 (by decide) (hY2.at 5 rfl) (hY.at 5 rfl) (fun _ _ _ h => h) (by decide) (by decide) (Nat.le_of_ble_eq_true rfl) (Nat.le_of_ble_eq_true rfl) dX2_copyFrom_72 (fun H5 locs hT5 hS5 hu5 => ?_)
  exact hret _ _ _ _ hT5 hS5 (fun q hq => ((hu5.2.1 q (by omega)).trans ((hu4.2.1 q (by omega)).trans ((hu3.2.1 q (by omega)).trans ((hu2.2.1 q (by omega)).trans (hu1.2.1 q (by omega))))))) dX2_copyFrom_75
set_option maxHeartbeats 4000000 in
set_option maxRecDepth 100000 in
theorem c_X3_copyFrom (l : Launch) (G : hG) (Y : hW) (P : Int32 → Prop) (o o2 : Nat) (hY : h_On Y o (raE (tC P) o)) (hY2 : h_On Y o2 (raE (tC P) o2)) : hMv l yX3_copyFrom cX3_copyFrom 2 none 1 60 G Y [.ref (o), .ref (o2)] (fun H => True) (fun H H1 => ∀ q : Nat, (q < o ∨ o + 4 ≤ q) → H1[q]? = H[q]?) := by
  refine h_ofv (by decide +kernel) (Nat.le_of_ble_eq_true rfl) ?_
  intro p e s m args below meth c H0 ls Q hx hb hts hown hml hK hZ hT0 hpr hS0 hl hret
  have hl : lv_has ls 2 [(0, .ref (o)), (1, .ref (o2))] := hl
  refine lv_aload_n hx hb dX3_copyFrom_0 rfl (lv_at hl 1 rfl) ?_
  refine h_getr (C := RX3) (T := TX3) (N := 3) hx hb hts inX3 hown hK hT0 (hY2.o rfl) rfl 0 rfl wF_X3_9 rfl dX3_copyFrom_1 ?_
  refine lv_iconst (v := 0) hx hb dX3_copyFrom_4 (by decide) ?_
  refine lv_aload_n hx hb dX3_copyFrom_5 rfl (lv_at hl 0 rfl) ?_
  refine h_getr (C := RX3) (T := TX3) (N := 3) hx hb hts inX3 hown hK hT0 (hY.o rfl) rfl 0 rfl wF_X3_9 rfl dX3_copyFrom_6 ?_
  refine lv_iconst (v := 0) hx hb dX3_copyFrom_9 (by decide) ?_
  refine lv_bipush (v := 64) hx hb dX3_copyFrom_10 (by decide) ?_
  refine h_copy (rest := []) hx hb hts (hml.trans hl.1.symm) hown wL_X3_27 wA_nat wA_sta wA_ini hK hT0 (fun _ h => h) hS0 (by decide) (hY2.at 1 rfl) (hY.at 1 rfl) (fun _ _ _ h => h) (by decide) (by decide) (Nat.le_of_ble_eq_true rfl) (Nat.le_of_ble_eq_true rfl) dX3_copyFrom_12 (fun H1 locs hT1 hS1 hu1 => ?_)
  refine lv_aload_n hx hb dX3_copyFrom_15 rfl (lv_at hl 1 rfl) ?_
  refine h_getr (C := RX3) (T := TX3) (N := 3) hx hb hts inX3 hown hK hT1 (hY2.o rfl) rfl 1 rfl wF_X3_15 rfl dX3_copyFrom_16 ?_
  refine lv_iconst (v := 0) hx hb dX3_copyFrom_19 (by decide) ?_
  refine lv_aload_n hx hb dX3_copyFrom_20 rfl (lv_at hl 0 rfl) ?_
  refine h_getr (C := RX3) (T := TX3) (N := 3) hx hb hts inX3 hown hK hT1 (hY.o rfl) rfl 1 rfl wF_X3_15 rfl dX3_copyFrom_21 ?_
  refine lv_iconst (v := 0) hx hb dX3_copyFrom_24 (by decide) ?_
  refine lv_bipush (v := 64) hx hb dX3_copyFrom_25 (by decide) ?_
  refine h_copy (rest := []) hx hb hts (hml.trans hl.1.symm) hown wL_X3_27 wA_nat wA_sta wA_ini hK hT1 (fun _ h => h) hS1 (by decide) (hY2.at 2 rfl) (hY.at 2 rfl) (fun _ _ _ h => h) (by decide) (by decide) (Nat.le_of_ble_eq_true rfl) (Nat.le_of_ble_eq_true rfl) dX3_copyFrom_27 (fun H2 locs hT2 hS2 hu2 => ?_)
  refine lv_aload_n hx hb dX3_copyFrom_30 rfl (lv_at hl 1 rfl) ?_
  refine h_getr (C := RX3) (T := TX3) (N := 3) hx hb hts inX3 hown hK hT2 (hY2.o rfl) rfl 2 rfl wF_X3_18 rfl dX3_copyFrom_31 ?_
  refine lv_iconst (v := 0) hx hb dX3_copyFrom_34 (by decide) ?_
  refine lv_aload_n hx hb dX3_copyFrom_35 rfl (lv_at hl 0 rfl) ?_
  refine h_getr (C := RX3) (T := TX3) (N := 3) hx hb hts inX3 hown hK hT2 (hY.o rfl) rfl 2 rfl wF_X3_18 rfl dX3_copyFrom_36 ?_
  refine lv_iconst (v := 0) hx hb dX3_copyFrom_39 (by decide) ?_
  refine lv_bipush (v := 8) hx hb dX3_copyFrom_40 (by decide) ?_
  refine h_copy (rest := []) hx hb hts (hml.trans hl.1.symm) hown wL_X3_27 wA_nat wA_sta wA_ini hK hT2 (fun _ h => h) hS2 (by decide) (hY2.at 3 rfl) (hY.at 3 rfl) (fun _ _ _ h => h) (by decide) (by decide) (Nat.le_of_ble_eq_true rfl) (Nat.le_of_ble_eq_true rfl) dX3_copyFrom_42 (fun H3 locs hT3 hS3 hu3 => ?_)
  exact hret _ _ _ _ hT3 hS3 (fun q hq => ((hu3.2.1 q (by omega)).trans ((hu2.2.1 q (by omega)).trans (hu1.2.1 q (by omega))))) dX3_copyFrom_45
set_option maxHeartbeats 4000000 in
set_option maxRecDepth 100000 in
theorem c_X9_copyFrom (l : Launch) (G : hG) (Y : hW) (P : Int32 → Prop) (o o2 : Nat) (hY : h_On Y o (waE (tC P) o)) (hY2 : h_On Y o2 (waE (tC P) o2)) : hMv l yX9_copyFrom cX9_copyFrom 2 none 0 0 G Y [.ref (o), .ref (o2)] (fun H => True) (fun H H1 => ∀ q : Nat, (q < o ∨ o + 1 ≤ q) → H1[q]? = H[q]?) := by
  refine h_ofv (by decide +kernel) (Nat.le_of_ble_eq_true rfl) ?_
  intro p e s m args below meth c H0 ls Q hx hb hts hown hml hK hZ hT0 hpr hS0 hl hret
  have hl : lv_has ls 2 [(0, .ref (o)), (1, .ref (o2))] := hl
  refine lv_aload_n hx hb dX9_copyFrom_0 rfl (lv_at hl 0 rfl) ?_
  refine lv_aload_n hx hb dX9_copyFrom_1 rfl (lv_at hl 1 rfl) ?_
  refine h_geti (C := RX9) (T := TX9) (N := 11) hx hb hts inX9 hown hK hT0 (hY2.o rfl) rfl 0 rfl wF_X9_9 rfl dX9_copyFrom_2 (fun p1 => ?_)
  refine lv_topi (fun x2 ex2 => ?_)
  refine h_puti (C := RX9) (T := TX9) (N := 11) hx hb hts inX9 tyX9 tyX9_ok nmX9 hown hK hT0 (fun _ h => h) hS0 (hY.o rfl) rfl 0 rfl wF_X9_9 rfl rfl trivial rfl rfl dX9_copyFrom_5 (fun H1 locs hT1 hS1 hu1 => ?_)
  refine lv_aload_n hx hb dX9_copyFrom_8 rfl (lv_at hl 0 rfl) ?_
  refine lv_aload_n hx hb dX9_copyFrom_9 rfl (lv_at hl 1 rfl) ?_
  refine h_geti (C := RX9) (T := TX9) (N := 11) hx hb hts inX9 hown hK hT1 (hY2.o rfl) rfl 1 rfl wF_X9_15 rfl dX9_copyFrom_10 (fun p3 => ?_)
  refine lv_topi (fun x4 ex4 => ?_)
  refine h_puti (C := RX9) (T := TX9) (N := 11) hx hb hts inX9 tyX9 tyX9_ok nmX9 hown hK hT1 (fun _ h => h) hS1 (hY.o rfl) rfl 1 rfl wF_X9_15 rfl rfl trivial rfl rfl dX9_copyFrom_13 (fun H2 locs hT2 hS2 hu2 => ?_)
  refine lv_aload_n hx hb dX9_copyFrom_16 rfl (lv_at hl 0 rfl) ?_
  refine lv_aload_n hx hb dX9_copyFrom_17 rfl (lv_at hl 1 rfl) ?_
  refine h_geti (C := RX9) (T := TX9) (N := 11) hx hb hts inX9 hown hK hT2 (hY2.o rfl) rfl 2 rfl wF_X9_18 rfl dX9_copyFrom_18 (fun p5 => ?_)
  refine lv_topi (fun x6 ex6 => ?_)
  refine h_puti (C := RX9) (T := TX9) (N := 11) hx hb hts inX9 tyX9 tyX9_ok nmX9 hown hK hT2 (fun _ h => h) hS2 (hY.o rfl) rfl 2 rfl wF_X9_18 rfl rfl trivial rfl rfl dX9_copyFrom_21 (fun H3 locs hT3 hS3 hu3 => ?_)
  refine lv_aload_n hx hb dX9_copyFrom_24 rfl (lv_at hl 0 rfl) ?_
  refine lv_aload_n hx hb dX9_copyFrom_25 rfl (lv_at hl 1 rfl) ?_
  refine h_geti (C := RX9) (T := TX9) (N := 11) hx hb hts inX9 hown hK hT3 (hY2.o rfl) rfl 3 rfl wF_X9_21 rfl dX9_copyFrom_26 (fun p7 => ?_)
  refine lv_topi (fun x8 ex8 => ?_)
  refine h_puti (C := RX9) (T := TX9) (N := 11) hx hb hts inX9 tyX9 tyX9_ok nmX9 hown hK hT3 (fun _ h => h) hS3 (hY.o rfl) rfl 3 rfl wF_X9_21 rfl rfl trivial rfl rfl dX9_copyFrom_29 (fun H4 locs hT4 hS4 hu4 => ?_)
  refine lv_aload_n hx hb dX9_copyFrom_32 rfl (lv_at hl 0 rfl) ?_
  refine lv_aload_n hx hb dX9_copyFrom_33 rfl (lv_at hl 1 rfl) ?_
  refine h_geti (C := RX9) (T := TX9) (N := 11) hx hb hts inX9 hown hK hT4 (hY2.o rfl) rfl 4 rfl wF_X9_24 rfl dX9_copyFrom_34 (fun p9 => ?_)
  refine lv_topi (fun x10 ex10 => ?_)
  refine h_puti (C := RX9) (T := TX9) (N := 11) hx hb hts inX9 tyX9 tyX9_ok nmX9 hown hK hT4 (fun _ h => h) hS4 (hY.o rfl) rfl 4 rfl wF_X9_24 rfl rfl (by rw [ex10]; exact p9) (h_nz (by rw [ex10]; exact p9)) (h_fz (by rw [ex10]; exact p9)) dX9_copyFrom_37 (fun H5 locs hT5 hS5 hu5 => ?_)
  refine lv_aload_n hx hb dX9_copyFrom_40 rfl (lv_at hl 0 rfl) ?_
  refine lv_aload_n hx hb dX9_copyFrom_41 rfl (lv_at hl 1 rfl) ?_
  refine h_geti (C := RX9) (T := TX9) (N := 11) hx hb hts inX9 hown hK hT5 (hY2.o rfl) rfl 5 rfl wF_X9_28 rfl dX9_copyFrom_42 (fun p11 => ?_)
  refine lv_topi (fun x12 ex12 => ?_)
  refine h_puti (C := RX9) (T := TX9) (N := 11) hx hb hts inX9 tyX9 tyX9_ok nmX9 hown hK hT5 (fun _ h => h) hS5 (hY.o rfl) rfl 5 rfl wF_X9_28 rfl rfl trivial rfl rfl dX9_copyFrom_45 (fun H6 locs hT6 hS6 hu6 => ?_)
  refine lv_aload_n hx hb dX9_copyFrom_48 rfl (lv_at hl 0 rfl) ?_
  refine lv_aload_n hx hb dX9_copyFrom_49 rfl (lv_at hl 1 rfl) ?_
  refine h_geti (C := RX9) (T := TX9) (N := 11) hx hb hts inX9 hown hK hT6 (hY2.o rfl) rfl 6 rfl wF_X9_31 rfl dX9_copyFrom_50 (fun p13 => ?_)
  refine lv_topi (fun x14 ex14 => ?_)
  refine h_puti (C := RX9) (T := TX9) (N := 11) hx hb hts inX9 tyX9 tyX9_ok nmX9 hown hK hT6 (fun _ h => h) hS6 (hY.o rfl) rfl 6 rfl wF_X9_31 rfl rfl trivial rfl rfl dX9_copyFrom_53 (fun H7 locs hT7 hS7 hu7 => ?_)
  refine lv_aload_n hx hb dX9_copyFrom_56 rfl (lv_at hl 0 rfl) ?_
  refine lv_aload_n hx hb dX9_copyFrom_57 rfl (lv_at hl 1 rfl) ?_
  refine h_geti (C := RX9) (T := TX9) (N := 11) hx hb hts inX9 hown hK hT7 (hY2.o rfl) rfl 7 rfl wF_X9_34 rfl dX9_copyFrom_58 (fun p15 => ?_)
  refine lv_topi (fun x16 ex16 => ?_)
  refine h_puti (C := RX9) (T := TX9) (N := 11) hx hb hts inX9 tyX9 tyX9_ok nmX9 hown hK hT7 (fun _ h => h) hS7 (hY.o rfl) rfl 7 rfl wF_X9_34 rfl rfl trivial rfl rfl dX9_copyFrom_61 (fun H8 locs hT8 hS8 hu8 => ?_)
  refine lv_aload_n hx hb dX9_copyFrom_64 rfl (lv_at hl 0 rfl) ?_
  refine lv_aload_n hx hb dX9_copyFrom_65 rfl (lv_at hl 1 rfl) ?_
  refine h_geti (C := RX9) (T := TX9) (N := 11) hx hb hts inX9 hown hK hT8 (hY2.o rfl) rfl 8 rfl wF_X9_37 rfl dX9_copyFrom_66 (fun p17 => ?_)
  refine lv_topi (fun x18 ex18 => ?_)
  refine h_puti (C := RX9) (T := TX9) (N := 11) hx hb hts inX9 tyX9 tyX9_ok nmX9 hown hK hT8 (fun _ h => h) hS8 (hY.o rfl) rfl 8 rfl wF_X9_37 rfl rfl (by rw [ex18]; exact p17) (h_nz (by rw [ex18]; exact p17)) (h_fz (by rw [ex18]; exact p17)) dX9_copyFrom_69 (fun H9 locs hT9 hS9 hu9 => ?_)
  refine lv_aload_n hx hb dX9_copyFrom_72 rfl (lv_at hl 0 rfl) ?_
  refine lv_aload_n hx hb dX9_copyFrom_73 rfl (lv_at hl 1 rfl) ?_
  refine h_geti (C := RX9) (T := TX9) (N := 11) hx hb hts inX9 hown hK hT9 (hY2.o rfl) rfl 9 rfl wF_X9_40 rfl dX9_copyFrom_74 (fun p19 => ?_)
  refine lv_topi (fun x20 ex20 => ?_)
  refine h_puti (C := RX9) (T := TX9) (N := 11) hx hb hts inX9 tyX9 tyX9_ok nmX9 hown hK hT9 (fun _ h => h) hS9 (hY.o rfl) rfl 9 rfl wF_X9_40 rfl rfl trivial rfl rfl dX9_copyFrom_77 (fun H10 locs hT10 hS10 hu10 => ?_)
  refine lv_aload_n hx hb dX9_copyFrom_80 rfl (lv_at hl 0 rfl) ?_
  refine lv_aload_n hx hb dX9_copyFrom_81 rfl (lv_at hl 1 rfl) ?_
  refine h_geti (C := RX9) (T := TX9) (N := 11) hx hb hts inX9 hown hK hT10 (hY2.o rfl) rfl 10 rfl wF_X9_43 rfl dX9_copyFrom_82 (fun p21 => ?_)
  refine lv_topi (fun x22 ex22 => ?_)
  refine h_puti (C := RX9) (T := TX9) (N := 11) hx hb hts inX9 tyX9 tyX9_ok nmX9 hown hK hT10 (fun _ h => h) hS10 (hY.o rfl) rfl 10 rfl wF_X9_43 rfl rfl trivial rfl rfl dX9_copyFrom_85 (fun H11 locs hT11 hS11 hu11 => ?_)
  exact hret _ _ _ _ hT11 hS11 (fun q hq => ((hu11.2.1 q (by omega)).trans ((hu10.2.1 q (by omega)).trans ((hu9.2.1 q (by omega)).trans ((hu8.2.1 q (by omega)).trans ((hu7.2.1 q (by omega)).trans ((hu6.2.1 q (by omega)).trans ((hu5.2.1 q (by omega)).trans ((hu4.2.1 q (by omega)).trans ((hu3.2.1 q (by omega)).trans ((hu2.2.1 q (by omega)).trans (hu1.2.1 q (by omega))))))))))))) dX9_copyFrom_88
set_option maxHeartbeats 4000000 in
set_option maxRecDepth 100000 in
theorem c_X6_copyFrom (l : Launch) (G : hG) (Y : hW) (P : Int32 → Prop) (o o2 : Nat) (hY : h_On Y o (siE (tC P) o)) (hY2 : h_On Y o2 (siE (tC P) o2)) : hMv l yX6_copyFrom cX6_copyFrom 2 none 0 0 G Y [.ref (o), .ref (o2)] (fun H => True) (fun H H1 => ∀ q : Nat, (q < o ∨ o + 1 ≤ q) → H1[q]? = H[q]?) := by
  refine h_ofv (by decide +kernel) (Nat.le_of_ble_eq_true rfl) ?_
  intro p e s m args below meth c H0 ls Q hx hb hts hown hml hK hZ hT0 hpr hS0 hl hret
  have hl : lv_has ls 2 [(0, .ref (o)), (1, .ref (o2))] := hl
  refine lv_aload_n hx hb dX6_copyFrom_0 rfl (lv_at hl 0 rfl) ?_
  refine lv_aload_n hx hb dX6_copyFrom_1 rfl (lv_at hl 1 rfl) ?_
  refine h_geti (C := RX6) (T := TX6) (N := 4) hx hb hts inX6 hown hK hT0 (hY2.o rfl) rfl 0 rfl wF_X6_9 rfl dX6_copyFrom_2 (fun p1 => ?_)
  refine lv_topi (fun x2 ex2 => ?_)
  refine h_puti (C := RX6) (T := TX6) (N := 4) hx hb hts inX6 tyX6 tyX6_ok nmX6 hown hK hT0 (fun _ h => h) hS0 (hY.o rfl) rfl 0 rfl wF_X6_9 rfl rfl trivial rfl rfl dX6_copyFrom_5 (fun H1 locs hT1 hS1 hu1 => ?_)
  refine lv_aload_n hx hb dX6_copyFrom_8 rfl (lv_at hl 0 rfl) ?_
  refine lv_aload_n hx hb dX6_copyFrom_9 rfl (lv_at hl 1 rfl) ?_
  refine h_geti (C := RX6) (T := TX6) (N := 4) hx hb hts inX6 hown hK hT1 (hY2.o rfl) rfl 1 rfl wF_X6_15 rfl dX6_copyFrom_10 (fun p3 => ?_)
  refine lv_topi (fun x4 ex4 => ?_)
  refine h_puti (C := RX6) (T := TX6) (N := 4) hx hb hts inX6 tyX6 tyX6_ok nmX6 hown hK hT1 (fun _ h => h) hS1 (hY.o rfl) rfl 1 rfl wF_X6_15 rfl rfl trivial rfl rfl dX6_copyFrom_13 (fun H2 locs hT2 hS2 hu2 => ?_)
  refine lv_aload_n hx hb dX6_copyFrom_16 rfl (lv_at hl 0 rfl) ?_
  refine lv_aload_n hx hb dX6_copyFrom_17 rfl (lv_at hl 1 rfl) ?_
  refine h_geti (C := RX6) (T := TX6) (N := 4) hx hb hts inX6 hown hK hT2 (hY2.o rfl) rfl 2 rfl wF_X6_18 rfl dX6_copyFrom_18 (fun p5 => ?_)
  refine lv_topi (fun x6 ex6 => ?_)
  refine h_puti (C := RX6) (T := TX6) (N := 4) hx hb hts inX6 tyX6 tyX6_ok nmX6 hown hK hT2 (fun _ h => h) hS2 (hY.o rfl) rfl 2 rfl wF_X6_18 rfl rfl trivial rfl rfl dX6_copyFrom_21 (fun H3 locs hT3 hS3 hu3 => ?_)
  refine lv_aload_n hx hb dX6_copyFrom_24 rfl (lv_at hl 0 rfl) ?_
  refine lv_aload_n hx hb dX6_copyFrom_25 rfl (lv_at hl 1 rfl) ?_
  refine h_geti (C := RX6) (T := TX6) (N := 4) hx hb hts inX6 hown hK hT3 (hY2.o rfl) rfl 3 rfl wF_X6_21 rfl dX6_copyFrom_26 (fun p7 => ?_)
  refine lv_topi (fun x8 ex8 => ?_)
  refine h_puti (C := RX6) (T := TX6) (N := 4) hx hb hts inX6 tyX6 tyX6_ok nmX6 hown hK hT3 (fun _ h => h) hS3 (hY.o rfl) rfl 3 rfl wF_X6_21 rfl rfl trivial rfl rfl dX6_copyFrom_29 (fun H4 locs hT4 hS4 hu4 => ?_)
  exact hret _ _ _ _ hT4 hS4 (fun q hq => ((hu4.2.1 q (by omega)).trans ((hu3.2.1 q (by omega)).trans ((hu2.2.1 q (by omega)).trans (hu1.2.1 q (by omega)))))) dX6_copyFrom_32
set_option maxHeartbeats 4000000 in
set_option maxRecDepth 100000 in
theorem c_X0_copyFrom (l : Launch) (G : hG) (Y : hW) (P : Int32 → Prop) (o o2 : Nat) (hY : h_On Y o (boE (tC P) o)) (hY2 : h_On Y o2 (boE (tC P) o2)) : hMv l yX0_copyFrom cX0_copyFrom 2 none 1 60 G Y [.ref (o), .ref (o2)] (fun H => True) (fun H H1 => ∀ q : Nat, (q < o ∨ o + 6 ≤ q) → H1[q]? = H[q]?) := by
  refine h_ofv (by decide +kernel) (Nat.le_of_ble_eq_true rfl) ?_
  intro p e s m args below meth c H0 ls Q hx hb hts hown hml hK hZ hT0 hpr hS0 hl hret
  have hl : lv_has ls 2 [(0, .ref (o)), (1, .ref (o2))] := hl
  refine lv_aload_n hx hb dX0_copyFrom_0 rfl (lv_at hl 1 rfl) ?_
  refine h_getr (C := RX0) (T := TX0) (N := 6) hx hb hts inX0 hown hK hT0 (hY2.o rfl) rfl 0 rfl wF_X0_9 rfl dX0_copyFrom_1 ?_
  refine lv_iconst (v := 0) hx hb dX0_copyFrom_4 (by decide) ?_
  refine lv_aload_n hx hb dX0_copyFrom_5 rfl (lv_at hl 0 rfl) ?_
  refine h_getr (C := RX0) (T := TX0) (N := 6) hx hb hts inX0 hown hK hT0 (hY.o rfl) rfl 0 rfl wF_X0_9 rfl dX0_copyFrom_6 ?_
  refine lv_iconst (v := 0) hx hb dX0_copyFrom_9 (by decide) ?_
  refine lv_bipush (v := 10) hx hb dX0_copyFrom_10 (by decide) ?_
  refine h_copy (rest := []) hx hb hts (hml.trans hl.1.symm) hown wL_X0_37 wA_nat wA_sta wA_ini hK hT0 (fun _ h => h) hS0 (by decide) (hY2.at 1 rfl) (hY.at 1 rfl) (fun _ _ _ h => h) (by decide) (by decide) (Nat.le_of_ble_eq_true rfl) (Nat.le_of_ble_eq_true rfl) dX0_copyFrom_12 (fun H1 locs hT1 hS1 hu1 => ?_)
  refine lv_aload_n hx hb dX0_copyFrom_15 rfl (lv_at hl 1 rfl) ?_
  refine h_getr (C := RX0) (T := TX0) (N := 6) hx hb hts inX0 hown hK hT1 (hY2.o rfl) rfl 1 rfl wF_X0_15 rfl dX0_copyFrom_16 ?_
  refine lv_iconst (v := 0) hx hb dX0_copyFrom_19 (by decide) ?_
  refine lv_aload_n hx hb dX0_copyFrom_20 rfl (lv_at hl 0 rfl) ?_
  refine h_getr (C := RX0) (T := TX0) (N := 6) hx hb hts inX0 hown hK hT1 (hY.o rfl) rfl 1 rfl wF_X0_15 rfl dX0_copyFrom_21 ?_
  refine lv_iconst (v := 0) hx hb dX0_copyFrom_24 (by decide) ?_
  refine lv_bipush (v := 8) hx hb dX0_copyFrom_25 (by decide) ?_
  refine h_copy (rest := []) hx hb hts (hml.trans hl.1.symm) hown wL_X0_37 wA_nat wA_sta wA_ini hK hT1 (fun _ h => h) hS1 (by decide) (hY2.at 2 rfl) (hY.at 2 rfl) (fun _ _ _ h => h) (by decide) (by decide) (Nat.le_of_ble_eq_true rfl) (Nat.le_of_ble_eq_true rfl) dX0_copyFrom_27 (fun H2 locs hT2 hS2 hu2 => ?_)
  refine lv_aload_n hx hb dX0_copyFrom_30 rfl (lv_at hl 1 rfl) ?_
  refine h_getr (C := RX0) (T := TX0) (N := 6) hx hb hts inX0 hown hK hT2 (hY2.o rfl) rfl 2 rfl wF_X0_18 rfl dX0_copyFrom_31 ?_
  refine lv_iconst (v := 0) hx hb dX0_copyFrom_34 (by decide) ?_
  refine lv_aload_n hx hb dX0_copyFrom_35 rfl (lv_at hl 0 rfl) ?_
  refine h_getr (C := RX0) (T := TX0) (N := 6) hx hb hts inX0 hown hK hT2 (hY.o rfl) rfl 2 rfl wF_X0_18 rfl dX0_copyFrom_36 ?_
  refine lv_iconst (v := 0) hx hb dX0_copyFrom_39 (by decide) ?_
  refine lv_bipush (v := 8) hx hb dX0_copyFrom_40 (by decide) ?_
  refine h_copy (rest := []) hx hb hts (hml.trans hl.1.symm) hown wL_X0_37 wA_nat wA_sta wA_ini hK hT2 (fun _ h => h) hS2 (by decide) (hY2.at 3 rfl) (hY.at 3 rfl) (fun _ _ _ h => h) (by decide) (by decide) (Nat.le_of_ble_eq_true rfl) (Nat.le_of_ble_eq_true rfl) dX0_copyFrom_42 (fun H3 locs hT3 hS3 hu3 => ?_)
  refine lv_aload_n hx hb dX0_copyFrom_45 rfl (lv_at hl 1 rfl) ?_
  refine h_getr (C := RX0) (T := TX0) (N := 6) hx hb hts inX0 hown hK hT3 (hY2.o rfl) rfl 3 rfl wF_X0_21 rfl dX0_copyFrom_46 ?_
  refine lv_iconst (v := 0) hx hb dX0_copyFrom_49 (by decide) ?_
  refine lv_aload_n hx hb dX0_copyFrom_50 rfl (lv_at hl 0 rfl) ?_
  refine h_getr (C := RX0) (T := TX0) (N := 6) hx hb hts inX0 hown hK hT3 (hY.o rfl) rfl 3 rfl wF_X0_21 rfl dX0_copyFrom_51 ?_
  refine lv_iconst (v := 0) hx hb dX0_copyFrom_54 (by decide) ?_
  refine lv_bipush (v := 96) hx hb dX0_copyFrom_55 (by decide) ?_
  refine h_copy (rest := []) hx hb hts (hml.trans hl.1.symm) hown wL_X0_37 wA_nat wA_sta wA_ini hK hT3 (fun _ h => h) hS3 (by decide) (hY2.at 4 rfl) (hY.at 4 rfl) (fun _ _ _ h => h) (by decide) (by decide) (Nat.le_of_ble_eq_true rfl) (Nat.le_of_ble_eq_true rfl) dX0_copyFrom_57 (fun H4 locs hT4 hS4 hu4 => ?_)
  refine lv_aload_n hx hb dX0_copyFrom_60 rfl (lv_at hl 1 rfl) ?_
  refine h_getr (C := RX0) (T := TX0) (N := 6) hx hb hts inX0 hown hK hT4 (hY2.o rfl) rfl 4 rfl wF_X0_24 rfl dX0_copyFrom_61 ?_
  refine lv_iconst (v := 0) hx hb dX0_copyFrom_64 (by decide) ?_
  refine lv_aload_n hx hb dX0_copyFrom_65 rfl (lv_at hl 0 rfl) ?_
  refine h_getr (C := RX0) (T := TX0) (N := 6) hx hb hts inX0 hown hK hT4 (hY.o rfl) rfl 4 rfl wF_X0_24 rfl dX0_copyFrom_66 ?_
  refine lv_iconst (v := 0) hx hb dX0_copyFrom_69 (by decide) ?_
  refine lv_bipush (v := 72) hx hb dX0_copyFrom_70 (by decide) ?_
  refine h_copy (rest := []) hx hb hts (hml.trans hl.1.symm) hown wL_X0_37 wA_nat wA_sta wA_ini hK hT4 (fun _ h => h) hS4 (by decide) (hY2.at 5 rfl) (hY.at 5 rfl) (fun _ _ _ h => h) (by decide) (by decide) (Nat.le_of_ble_eq_true rfl) (Nat.le_of_ble_eq_true rfl) dX0_copyFrom_72 (fun H5 locs hT5 hS5 hu5 => ?_)
  refine lv_aload_n hx hb dX0_copyFrom_75 rfl (lv_at hl 0 rfl) ?_
  refine lv_aload_n hx hb dX0_copyFrom_76 rfl (lv_at hl 1 rfl) ?_
  refine h_geti (C := RX0) (T := TX0) (N := 6) hx hb hts inX0 hown hK hT5 (hY2.o rfl) rfl 5 rfl wF_X0_27 rfl dX0_copyFrom_77 (fun p1 => ?_)
  refine lv_topi (fun x2 ex2 => ?_)
  refine h_puti (C := RX0) (T := TX0) (N := 6) hx hb hts inX0 tyX0 tyX0_ok nmX0 hown hK hT5 (fun _ h => h) hS5 (hY.o rfl) rfl 5 rfl wF_X0_27 rfl rfl trivial rfl rfl dX0_copyFrom_80 (fun H6 locs hT6 hS6 hu6 => ?_)
  exact hret _ _ _ _ hT6 hS6 (fun q hq => ((hu6.2.1 q (by omega)).trans ((hu5.2.1 q (by omega)).trans ((hu4.2.1 q (by omega)).trans ((hu3.2.1 q (by omega)).trans ((hu2.2.1 q (by omega)).trans (hu1.2.1 q (by omega)))))))) dX0_copyFrom_83
set_option maxHeartbeats 4000000 in
set_option maxRecDepth 100000 in
theorem c_X8_copyFrom (l : Launch) (G : hG) (Y : hW) (P : Int32 → Prop) (o o2 : Nat) (hY : h_On Y o (taE (tC P) o)) (hY2 : h_On Y o2 (taE (tC P) o2)) : hMv l yX8_copyFrom cX8_copyFrom 2 none 1 60 G Y [.ref (o), .ref (o2)] (fun H => True) (fun H H1 => ∀ q : Nat, (q < o ∨ o + 2 ≤ q) → H1[q]? = H[q]?) := by
  refine h_ofv (by decide +kernel) (Nat.le_of_ble_eq_true rfl) ?_
  intro p e s m args below meth c H0 ls Q hx hb hts hown hml hK hZ hT0 hpr hS0 hl hret
  have hl : lv_has ls 2 [(0, .ref (o)), (1, .ref (o2))] := hl
  refine lv_aload_n hx hb dX8_copyFrom_0 rfl (lv_at hl 1 rfl) ?_
  refine h_getr (C := RX8) (T := TX8) (N := 4) hx hb hts inX8 hown hK hT0 (hY2.o rfl) rfl 0 rfl wF_X8_9 rfl dX8_copyFrom_1 ?_
  refine lv_iconst (v := 0) hx hb dX8_copyFrom_4 (by decide) ?_
  refine lv_aload_n hx hb dX8_copyFrom_5 rfl (lv_at hl 0 rfl) ?_
  refine h_getr (C := RX8) (T := TX8) (N := 4) hx hb hts inX8 hown hK hT0 (hY.o rfl) rfl 0 rfl wF_X8_9 rfl dX8_copyFrom_6 ?_
  refine lv_iconst (v := 0) hx hb dX8_copyFrom_9 (by decide) ?_
  refine lv_sipush (v := 500) hx hb dX8_copyFrom_10 (by decide) ?_
  refine h_copy (rest := []) hx hb hts (hml.trans hl.1.symm) hown wL_X8_25 wA_nat wA_sta wA_ini hK hT0 (fun _ h => h) hS0 (by decide) (hY2.at 1 rfl) (hY.at 1 rfl) (fun _ _ _ h => h) (by decide) (by decide) (Nat.le_of_ble_eq_true rfl) (Nat.le_of_ble_eq_true rfl) dX8_copyFrom_13 (fun H1 locs hT1 hS1 hu1 => ?_)
  refine lv_aload_n hx hb dX8_copyFrom_16 rfl (lv_at hl 0 rfl) ?_
  refine lv_aload_n hx hb dX8_copyFrom_17 rfl (lv_at hl 1 rfl) ?_
  refine h_geti (C := RX8) (T := TX8) (N := 4) hx hb hts inX8 hown hK hT1 (hY2.o rfl) rfl 1 rfl wF_X8_15 rfl dX8_copyFrom_18 (fun p1 => ?_)
  refine lv_topi (fun x2 ex2 => ?_)
  refine h_puti (C := RX8) (T := TX8) (N := 4) hx hb hts inX8 tyX8 tyX8_ok nmX8 hown hK hT1 (fun _ h => h) hS1 (hY.o rfl) rfl 1 rfl wF_X8_15 rfl rfl trivial rfl rfl dX8_copyFrom_21 (fun H2 locs hT2 hS2 hu2 => ?_)
  refine lv_aload_n hx hb dX8_copyFrom_24 rfl (lv_at hl 0 rfl) ?_
  refine lv_aload_n hx hb dX8_copyFrom_25 rfl (lv_at hl 1 rfl) ?_
  refine h_geti (C := RX8) (T := TX8) (N := 4) hx hb hts inX8 hown hK hT2 (hY2.o rfl) rfl 2 rfl wF_X8_19 rfl dX8_copyFrom_26 (fun p3 => ?_)
  refine lv_topi (fun x4 ex4 => ?_)
  refine h_puti (C := RX8) (T := TX8) (N := 4) hx hb hts inX8 tyX8 tyX8_ok nmX8 hown hK hT2 (fun _ h => h) hS2 (hY.o rfl) rfl 2 rfl wF_X8_19 rfl rfl trivial rfl rfl dX8_copyFrom_29 (fun H3 locs hT3 hS3 hu3 => ?_)
  refine lv_aload_n hx hb dX8_copyFrom_32 rfl (lv_at hl 0 rfl) ?_
  refine lv_aload_n hx hb dX8_copyFrom_33 rfl (lv_at hl 1 rfl) ?_
  refine h_geti (C := RX8) (T := TX8) (N := 4) hx hb hts inX8 hown hK hT3 (hY2.o rfl) rfl 3 rfl wF_X8_22 rfl dX8_copyFrom_34 (fun p5 => ?_)
  refine lv_topi (fun x6 ex6 => ?_)
  refine h_puti (C := RX8) (T := TX8) (N := 4) hx hb hts inX8 tyX8 tyX8_ok nmX8 hown hK hT3 (fun _ h => h) hS3 (hY.o rfl) rfl 3 rfl wF_X8_22 rfl rfl trivial rfl rfl dX8_copyFrom_37 (fun H4 locs hT4 hS4 hu4 => ?_)
  exact hret _ _ _ _ hT4 hS4 (fun q hq => ((hu4.2.1 q (by omega)).trans ((hu3.2.1 q (by omega)).trans ((hu2.2.1 q (by omega)).trans (hu1.2.1 q (by omega)))))) dX8_copyFrom_40
set_option maxHeartbeats 4000000 in
set_option maxRecDepth 100000 in
theorem c_X2_sizeOf (l : Launch) (G : hG) (Y : hW) (P : Int32 → Prop) (o : Nat) (hY : h_On Y o (quE (tC P) o)) (u1 : Int32) : hMi l yX2_sizeOf cX2_sizeOf 2 (some .int) 0 0 G Y [.ref (o), .int u1] (fun H => True) (fun H r H1 => (True) ∧ H1 = H) := by
  refine h_ofi (by decide +kernel) (Nat.le_of_ble_eq_true rfl) ?_
  intro p e s m args below meth c H0 ls Q hx hb hts hown hml hK hZ hT0 hpr hS0 hl hret
  have hl : lv_has ls 2 [(0, .ref (o)), (1, .int u1)] := hl
  refine lv_iload_n hx hb dX2_sizeOf_0 rfl (lv_at hl 1 rfl) ?_
  refine lv_if_lt (tgt := 19) hx hb dX2_sizeOf_1 (by decide) (fun c1 => ?_) (fun c1 => ?_)
  · skip
    refine lv_iconst (v := 0) hx hb dX2_sizeOf_19 (by decide) ?_
    exact hret _ _ _ _ _ hT0 hS0 ⟨trivial, rfl⟩ dX2_sizeOf_20
  · skip
    refine lv_iload_n hx hb dX2_sizeOf_4 rfl (lv_at hl 1 rfl) ?_
    refine lv_bipush (v := 8) hx hb dX2_sizeOf_5 (by decide) ?_
    refine lv_icmp_ge (tgt := 19) hx hb dX2_sizeOf_7 (by decide) (fun c2 => ?_) (fun c2 => ?_)
    · skip
      refine lv_iconst (v := 0) hx hb dX2_sizeOf_19 (by decide) ?_
      exact hret _ _ _ _ _ hT0 hS0 ⟨trivial, rfl⟩ dX2_sizeOf_20
    · skip
      refine lv_aload_n hx hb dX2_sizeOf_10 rfl (lv_at hl 0 rfl) ?_
      refine h_getr (C := RX2) (T := TX2) (N := 5) hx hb hts inX2 hown hK hT0 (hY.o rfl) rfl 4 rfl wF_X2_24 rfl dX2_sizeOf_11 ?_
      refine lv_iload_n hx hb dX2_sizeOf_14 rfl (lv_at hl 1 rfl) ?_
      refine h_iald hx hb hK hT0 (hY.at 5 rfl) (vp_in_iff.mpr (by (try simp only [Int32.lt_iff_toInt_lt, Int32.le_iff_toInt_le, ← Int32.toInt_inj, Int32.reduceToInt, (show (-1 : Int32).toInt = -1 from rfl)] at c1 c2 ⊢); omega)) dX2_sizeOf_15 (fun p3 => ?_)
      refine lv_topi (fun x4 ex4 => ?_)
      refine lv_goto (tgt := 20) hx hb dX2_sizeOf_16 (by decide) ?_
      exact hret _ _ _ _ _ hT0 hS0 ⟨trivial, rfl⟩ dX2_sizeOf_20
set_option maxHeartbeats 4000000 in
set_option maxRecDepth 100000 in
theorem c_X2_isFull (l : Launch) (G : hG) (Y : hW) (P : Int32 → Prop) (o : Nat) (hY : h_On Y o (quE (tC P) o)) (u1 : Int32) : hMi l yX2_isFull cX2_isFull 2 (some .boolean) 1 21 G Y [.ref (o), .int u1] (fun H => True) (fun H r H1 => ((r = 0 ∨ r = 1) ∧ True) ∧ H1 = H) := by
  refine h_ofz (by decide +kernel) (Nat.le_of_ble_eq_true rfl) ?_
  intro p e s m args below meth c H0 ls Q hx hb hts hown hml hK hZ hT0 hpr hS0 hl hret
  have hl : lv_has ls 2 [(0, .ref (o)), (1, .int u1)] := hl
  refine lv_aload_n hx hb dX2_isFull_0 rfl (lv_at hl 0 rfl) ?_
  refine lv_iload_n hx hb dX2_isFull_1 rfl (lv_at hl 1 rfl) ?_
  refine h_callVi (T := TX2) (rest := []) (As := [.int u1]) hx hb hml hown hts hK hT0 hZ (fun _ h => h) hS0 (c_X2_sizeOf l G Y P (o) hY u1) trivial wd_X2_sizeOf wV_X2_sizeOf wL_X2_39 (hY.o rfl) rfl rfl hl.1 rfl (Nat.le_of_ble_eq_true rfl) dX2_isFull_2 ⟨Nat.le_of_ble_eq_true rfl, Nat.le_of_ble_eq_true rfl⟩ ⟨Nat.zero_le _, Nat.zero_le _⟩ (fun r1 H1 locs hp1 hT1 hS1 hk1 => ?_)
  obtain ⟨hp1, he⟩ := hp1
  have he := he.symm
  subst he
  refine lv_bipush (v := 6) hx hb dX2_isFull_5 (by decide) ?_
  refine lv_icmp_lt (tgt := 14) hx hb dX2_isFull_7 (by decide) (fun c2 => ?_) (fun c2 => ?_)
  · skip
    refine lv_iconst (v := 0) hx hb dX2_isFull_14 (by decide) ?_
    exact hret _ _ _ _ _ hT0 hS1 ⟨(by decide), ⟨(by decide), trivial⟩, rfl⟩ dX2_isFull_15
  · skip
    refine lv_iconst (v := 1) hx hb dX2_isFull_10 (by decide) ?_
    refine lv_goto (tgt := 15) hx hb dX2_isFull_11 (by decide) ?_
    exact hret _ _ _ _ _ hT0 hS1 ⟨(by decide), ⟨(by decide), trivial⟩, rfl⟩ dX2_isFull_15
set_option maxHeartbeats 4000000 in
set_option maxRecDepth 100000 in
theorem c_X2_slotAt (l : Launch) (G : hG) (Y : hW) (P : Int32 → Prop) (o : Nat) (hY : h_On Y o (quE (tC P) o)) (u1 u2 : Int32) : hMi l yX2_slotAt cX2_slotAt 3 (some .int) 0 0 G Y [.ref (o), .int u1, .int u2] (fun H => True) (fun H r H1 => (True) ∧ H1 = H) := by
  refine h_ofi (by decide +kernel) (Nat.le_of_ble_eq_true rfl) ?_
  intro p e s m args below meth c H0 ls Q hx hb hts hown hml hK hZ hT0 hpr hS0 hl hret
  have hl : lv_has ls 3 [(0, .ref (o)), (1, .int u1), (2, .int u2)] := hl
  refine lv_iload_n hx hb dX2_slotAt_0 rfl (lv_at hl 1 rfl) ?_
  refine lv_bipush (v := 6) hx hb dX2_slotAt_1 (by decide) ?_
  refine lv_imul hx hb dX2_slotAt_3 ?_
  refine lv_topi (fun x1 ex1 => ?_)
  refine lv_iload_n hx hb dX2_slotAt_4 rfl (lv_at hl 2 rfl) ?_
  refine lv_iadd hx hb dX2_slotAt_5 ?_
  refine lv_topi (fun x2 ex2 => ?_)
  exact hret _ _ _ _ _ hT0 hS0 ⟨trivial, rfl⟩ dX2_slotAt_6
set_option maxHeartbeats 4000000 in
set_option maxRecDepth 100000 in
theorem c_X2_numberIn (l : Launch) (G : hG) (Y : hW) (P : Int32 → Prop) (o : Nat) (hY : h_On Y o (quE (tC P) o)) (u1 : Int32) : hMi l yX2_numberIn cX2_numberIn 2 (some .int) 0 0 G Y [.ref (o), .int u1] (fun H => True) (fun H r H1 => (True) ∧ H1 = H) := by
  refine h_ofi (by decide +kernel) (Nat.le_of_ble_eq_true rfl) ?_
  intro p e s m args below meth c H0 ls Q hx hb hts hown hml hK hZ hT0 hpr hS0 hl hret
  have hl : lv_has ls 2 [(0, .ref (o)), (1, .int u1)] := hl
  refine lv_iload_n hx hb dX2_numberIn_0 rfl (lv_at hl 1 rfl) ?_
  refine lv_if_lt (tgt := 19) hx hb dX2_numberIn_1 (by decide) (fun c1 => ?_) (fun c1 => ?_)
  · skip
    refine lv_iconst (v := (-1)) hx hb dX2_numberIn_19 (by decide) ?_
    exact hret _ _ _ _ _ hT0 hS0 ⟨trivial, rfl⟩ dX2_numberIn_20
  · skip
    refine lv_iload_n hx hb dX2_numberIn_4 rfl (lv_at hl 1 rfl) ?_
    refine lv_bipush (v := 48) hx hb dX2_numberIn_5 (by decide) ?_
    refine lv_icmp_ge (tgt := 19) hx hb dX2_numberIn_7 (by decide) (fun c2 => ?_) (fun c2 => ?_)
    · skip
      refine lv_iconst (v := (-1)) hx hb dX2_numberIn_19 (by decide) ?_
      exact hret _ _ _ _ _ hT0 hS0 ⟨trivial, rfl⟩ dX2_numberIn_20
    · skip
      refine lv_aload_n hx hb dX2_numberIn_10 rfl (lv_at hl 0 rfl) ?_
      refine h_getr (C := RX2) (T := TX2) (N := 5) hx hb hts inX2 hown hK hT0 (hY.o rfl) rfl 0 rfl wF_X2_9 rfl dX2_numberIn_11 ?_
      refine lv_iload_n hx hb dX2_numberIn_14 rfl (lv_at hl 1 rfl) ?_
      refine h_iald hx hb hK hT0 (hY.at 1 rfl) (vp_in_iff.mpr (by (try simp only [Int32.lt_iff_toInt_lt, Int32.le_iff_toInt_le, ← Int32.toInt_inj, Int32.reduceToInt, (show (-1 : Int32).toInt = -1 from rfl)] at c1 c2 ⊢); omega)) dX2_numberIn_15 (fun p3 => ?_)
      refine lv_topi (fun x4 ex4 => ?_)
      refine lv_goto (tgt := 20) hx hb dX2_numberIn_16 (by decide) ?_
      exact hret _ _ _ _ _ hT0 hS0 ⟨trivial, rfl⟩ dX2_numberIn_20
set_option maxHeartbeats 4000000 in
set_option maxRecDepth 100000 in
theorem c_X2_toIn (l : Launch) (G : hG) (Y : hW) (P : Int32 → Prop) (o : Nat) (hY : h_On Y o (quE (tC P) o)) (u1 : Int32) : hMi l yX2_toIn cX2_toIn 2 (some .int) 0 0 G Y [.ref (o), .int u1] (fun H => True) (fun H r H1 => (True) ∧ H1 = H) := by
  refine h_ofi (by decide +kernel) (Nat.le_of_ble_eq_true rfl) ?_
  intro p e s m args below meth c H0 ls Q hx hb hts hown hml hK hZ hT0 hpr hS0 hl hret
  have hl : lv_has ls 2 [(0, .ref (o)), (1, .int u1)] := hl
  refine lv_iload_n hx hb dX2_toIn_0 rfl (lv_at hl 1 rfl) ?_
  refine lv_if_lt (tgt := 19) hx hb dX2_toIn_1 (by decide) (fun c1 => ?_) (fun c1 => ?_)
  · skip
    refine lv_iconst (v := (-1)) hx hb dX2_toIn_19 (by decide) ?_
    exact hret _ _ _ _ _ hT0 hS0 ⟨trivial, rfl⟩ dX2_toIn_20
  · skip
    refine lv_iload_n hx hb dX2_toIn_4 rfl (lv_at hl 1 rfl) ?_
    refine lv_bipush (v := 48) hx hb dX2_toIn_5 (by decide) ?_
    refine lv_icmp_ge (tgt := 19) hx hb dX2_toIn_7 (by decide) (fun c2 => ?_) (fun c2 => ?_)
    · skip
      refine lv_iconst (v := (-1)) hx hb dX2_toIn_19 (by decide) ?_
      exact hret _ _ _ _ _ hT0 hS0 ⟨trivial, rfl⟩ dX2_toIn_20
    · skip
      refine lv_aload_n hx hb dX2_toIn_10 rfl (lv_at hl 0 rfl) ?_
      refine h_getr (C := RX2) (T := TX2) (N := 5) hx hb hts inX2 hown hK hT0 (hY.o rfl) rfl 1 rfl wF_X2_15 rfl dX2_toIn_11 ?_
      refine lv_iload_n hx hb dX2_toIn_14 rfl (lv_at hl 1 rfl) ?_
      refine h_iald hx hb hK hT0 (hY.at 2 rfl) (vp_in_iff.mpr (by (try simp only [Int32.lt_iff_toInt_lt, Int32.le_iff_toInt_le, ← Int32.toInt_inj, Int32.reduceToInt, (show (-1 : Int32).toInt = -1 from rfl)] at c1 c2 ⊢); omega)) dX2_toIn_15 (fun p3 => ?_)
      refine lv_topi (fun x4 ex4 => ?_)
      refine lv_goto (tgt := 20) hx hb dX2_toIn_16 (by decide) ?_
      exact hret _ _ _ _ _ hT0 hS0 ⟨trivial, rfl⟩ dX2_toIn_20
set_option maxHeartbeats 4000000 in
set_option maxRecDepth 100000 in
theorem c_X2_rankIn (l : Launch) (G : hG) (Y : hW) (P : Int32 → Prop) (o : Nat) (hY : h_On Y o (quE (tC P) o)) (u1 : Int32) : hMi l yX2_rankIn cX2_rankIn 2 (some .int) 0 0 G Y [.ref (o), .int u1] (fun H => True) (fun H r H1 => (True) ∧ H1 = H) := by
  refine h_ofi (by decide +kernel) (Nat.le_of_ble_eq_true rfl) ?_
  intro p e s m args below meth c H0 ls Q hx hb hts hown hml hK hZ hT0 hpr hS0 hl hret
  have hl : lv_has ls 2 [(0, .ref (o)), (1, .int u1)] := hl
  refine lv_iload_n hx hb dX2_rankIn_0 rfl (lv_at hl 1 rfl) ?_
  refine lv_if_lt (tgt := 19) hx hb dX2_rankIn_1 (by decide) (fun c1 => ?_) (fun c1 => ?_)
  · skip
    refine lv_iconst (v := (-1)) hx hb dX2_rankIn_19 (by decide) ?_
    exact hret _ _ _ _ _ hT0 hS0 ⟨trivial, rfl⟩ dX2_rankIn_20
  · skip
    refine lv_iload_n hx hb dX2_rankIn_4 rfl (lv_at hl 1 rfl) ?_
    refine lv_bipush (v := 48) hx hb dX2_rankIn_5 (by decide) ?_
    refine lv_icmp_ge (tgt := 19) hx hb dX2_rankIn_7 (by decide) (fun c2 => ?_) (fun c2 => ?_)
    · skip
      refine lv_iconst (v := (-1)) hx hb dX2_rankIn_19 (by decide) ?_
      exact hret _ _ _ _ _ hT0 hS0 ⟨trivial, rfl⟩ dX2_rankIn_20
    · skip
      refine lv_aload_n hx hb dX2_rankIn_10 rfl (lv_at hl 0 rfl) ?_
      refine h_getr (C := RX2) (T := TX2) (N := 5) hx hb hts inX2 hown hK hT0 (hY.o rfl) rfl 2 rfl wF_X2_18 rfl dX2_rankIn_11 ?_
      refine lv_iload_n hx hb dX2_rankIn_14 rfl (lv_at hl 1 rfl) ?_
      refine h_iald hx hb hK hT0 (hY.at 3 rfl) (vp_in_iff.mpr (by (try simp only [Int32.lt_iff_toInt_lt, Int32.le_iff_toInt_le, ← Int32.toInt_inj, Int32.reduceToInt, (show (-1 : Int32).toInt = -1 from rfl)] at c1 c2 ⊢); omega)) dX2_rankIn_15 (fun p3 => ?_)
      refine lv_topi (fun x4 ex4 => ?_)
      refine lv_goto (tgt := 20) hx hb dX2_rankIn_16 (by decide) ?_
      exact hret _ _ _ _ _ hT0 hS0 ⟨trivial, rfl⟩ dX2_rankIn_20
set_option maxHeartbeats 4000000 in
set_option maxRecDepth 100000 in
theorem c_X2_birthIn (l : Launch) (G : hG) (Y : hW) (P : Int32 → Prop) (o : Nat) (hY : h_On Y o (quE (tC P) o)) (u1 : Int32) : hMi l yX2_birthIn cX2_birthIn 2 (some .int) 0 0 G Y [.ref (o), .int u1] (fun H => True) (fun H r H1 => (True) ∧ H1 = H) := by
  refine h_ofi (by decide +kernel) (Nat.le_of_ble_eq_true rfl) ?_
  intro p e s m args below meth c H0 ls Q hx hb hts hown hml hK hZ hT0 hpr hS0 hl hret
  have hl : lv_has ls 2 [(0, .ref (o)), (1, .int u1)] := hl
  refine lv_iload_n hx hb dX2_birthIn_0 rfl (lv_at hl 1 rfl) ?_
  refine lv_if_lt (tgt := 19) hx hb dX2_birthIn_1 (by decide) (fun c1 => ?_) (fun c1 => ?_)
  · skip
    refine lv_iconst (v := (-1)) hx hb dX2_birthIn_19 (by decide) ?_
    exact hret _ _ _ _ _ hT0 hS0 ⟨trivial, rfl⟩ dX2_birthIn_20
  · skip
    refine lv_iload_n hx hb dX2_birthIn_4 rfl (lv_at hl 1 rfl) ?_
    refine lv_bipush (v := 48) hx hb dX2_birthIn_5 (by decide) ?_
    refine lv_icmp_ge (tgt := 19) hx hb dX2_birthIn_7 (by decide) (fun c2 => ?_) (fun c2 => ?_)
    · skip
      refine lv_iconst (v := (-1)) hx hb dX2_birthIn_19 (by decide) ?_
      exact hret _ _ _ _ _ hT0 hS0 ⟨trivial, rfl⟩ dX2_birthIn_20
    · skip
      refine lv_aload_n hx hb dX2_birthIn_10 rfl (lv_at hl 0 rfl) ?_
      refine h_getr (C := RX2) (T := TX2) (N := 5) hx hb hts inX2 hown hK hT0 (hY.o rfl) rfl 3 rfl wF_X2_21 rfl dX2_birthIn_11 ?_
      refine lv_iload_n hx hb dX2_birthIn_14 rfl (lv_at hl 1 rfl) ?_
      refine h_iald hx hb hK hT0 (hY.at 4 rfl) (vp_in_iff.mpr (by (try simp only [Int32.lt_iff_toInt_lt, Int32.le_iff_toInt_le, ← Int32.toInt_inj, Int32.reduceToInt, (show (-1 : Int32).toInt = -1 from rfl)] at c1 c2 ⊢); omega)) dX2_birthIn_15 (fun p3 => ?_)
      refine lv_topi (fun x4 ex4 => ?_)
      refine lv_goto (tgt := 20) hx hb dX2_birthIn_16 (by decide) ?_
      exact hret _ _ _ _ _ hT0 hS0 ⟨trivial, rfl⟩ dX2_birthIn_20
set_option maxHeartbeats 4000000 in
set_option maxRecDepth 100000 in
theorem c_X2_clear (l : Launch) (G : hG) (Y : hW) (P : Int32 → Prop) (o : Nat) (hY : h_On Y o (quE (tC P) o)) : hMv l yX2_clear cX2_clear 1 none 1 23 G Y [.ref (o)] (fun H => True) (fun H H1 => True) := by
  refine h_ofv (by decide +kernel) (Nat.le_of_ble_eq_true rfl) ?_
  intro p e s m args below meth c H0 ls Q hx hb hts hown hml hK hZ hT0 hpr hS0 hl hret
  have hl : lv_has ls 1 [(0, .ref (o))] := hl
  refine lv_aload_n hx hb dX2_clear_0 rfl (lv_at hl 0 rfl) ?_
  refine h_getr (C := RX2) (T := TX2) (N := 5) hx hb hts inX2 hown hK hT0 (hY.o rfl) rfl 4 rfl wF_X2_24 rfl dX2_clear_1 ?_
  refine lv_iconst (v := 0) hx hb dX2_clear_4 (by decide) ?_
  refine h_callSv (rest := []) (As := [.ref (o + 5), .int 0]) hx hb hml hown hts hK hT0 hZ (fun _ h => h) hS0 (c_fill l G Y (o + 5) 8 _ 0 (hY.at 5 rfl) (by decide) (fun _ _ => trivial)) trivial wd_J7_fill_53178 wS_J7_fill_53178 wL_X2_27 rfl hl.1 rfl (Nat.le_of_ble_eq_true rfl) dX2_clear_5 ⟨Nat.le_of_ble_eq_true rfl, Nat.le_of_ble_eq_true rfl⟩ ⟨Nat.zero_le _, Nat.zero_le _⟩ (fun H1 locs hp1 hT1 hS1 hk1 => ?_)
  exact hret _ _ _ _ hT1 hS1 trivial dX2_clear_8
set_option maxHeartbeats 4000000 in
set_option maxRecDepth 100000 in
theorem c_X2_append (l : Launch) (G : hG) (Y : hW) (P : Int32 → Prop) (o : Nat) (hY : h_On Y o (quE (tC P) o)) (u1 u2 u3 u4 u5 : Int32) : hMv l yX2_append cX2_append 7 none 2 42 G Y [.ref (o), .int u1, .int u2, .int u3, .int u4, .int u5] (fun H => True) (fun H H1 => True) := by
  refine h_ofv (by decide +kernel) (Nat.le_of_ble_eq_true rfl) ?_
  intro p e s m args below meth c H0 ls Q hx hb hts hown hml hK hZ hT0 hpr hS0 hl hret
  have hl : lv_has ls 7 [(0, .ref (o)), (1, .int u1), (2, .int u2), (3, .int u3), (4, .int u4), (5, .int u5)] := hl
  refine lv_aload_n hx hb dX2_append_0 rfl (lv_at hl 0 rfl) ?_
  refine lv_iload_n hx hb dX2_append_1 rfl (lv_at hl 1 rfl) ?_
  refine lv_aload_n hx hb dX2_append_2 rfl (lv_at hl 0 rfl) ?_
  refine lv_iload_n hx hb dX2_append_3 rfl (lv_at hl 1 rfl) ?_
  refine h_callVi (T := TX2) (rest := [.int u1, .ref (o)]) (As := [.int u1]) hx hb hml hown hts hK hT0 hZ (fun _ h => h) hS0 (c_X2_sizeOf l G Y P (o) hY u1) trivial wd_X2_sizeOf wV_X2_sizeOf wL_X2_39 (hY.o rfl) rfl rfl hl.1 rfl (Nat.le_of_ble_eq_true rfl) dX2_append_4 ⟨Nat.le_of_ble_eq_true rfl, Nat.le_of_ble_eq_true rfl⟩ ⟨Nat.zero_le _, Nat.zero_le _⟩ (fun r1 H1 locs hp1 hT1 hS1 hk1 => ?_)
  obtain ⟨hp1, he⟩ := hp1
  have he := he.symm
  subst he
  refine h_callVi (T := TX2) (rest := []) (As := [.int u1, .int r1]) hx hb hml hown hts hK hT0 hZ (fun _ h => h) hS1 (c_X2_slotAt l G Y P (o) hY u1 r1) trivial wd_X2_slotAt wV_X2_slotAt wL_X2_43 (hY.o rfl) rfl rfl hl.1 rfl (Nat.le_of_ble_eq_true rfl) dX2_append_7 ⟨Nat.le_of_ble_eq_true rfl, Nat.le_of_ble_eq_true rfl⟩ ⟨Nat.zero_le _, Nat.zero_le _⟩ (fun r2 H2 locs hp2 hT2 hS2 hk2 => ?_)
  obtain ⟨hp2, he⟩ := hp2
  have he := he.symm
  subst he
  refine lv_istore (lv' := [(6, .int r2), (0, .ref (o)), (1, .int u1), (2, .int u2), (3, .int u3), (4, .int u4), (5, .int u5)]) hx hb dX2_append_10 hl (by decide) rfl (fun ls hl => ?_)
  refine lv_iload_n hx hb dX2_append_12 rfl (lv_at hl 2 rfl) ?_
  refine lv_if_lt (tgt := 42) hx hb dX2_append_13 (by decide) (fun c3 => ?_) (fun c3 => ?_)
  · skip
    exact hret _ _ _ _ hT0 hS2 trivial dX2_append_42
  · skip
    refine lv_iload_n hx hb dX2_append_16 rfl (lv_at hl 2 rfl) ?_
    refine lv_bipush (v := 8) hx hb dX2_append_17 (by decide) ?_
    refine lv_icmp_ge (tgt := 42) hx hb dX2_append_19 (by decide) (fun c4 => ?_) (fun c4 => ?_)
    · skip
      exact hret _ _ _ _ hT0 hS2 trivial dX2_append_42
    · skip
      refine lv_aload_n hx hb dX2_append_22 rfl (lv_at hl 1 rfl) ?_
      refine lv_iload_n hx hb dX2_append_23 rfl (lv_at hl 2 rfl) ?_
      refine h_callVi (T := TX2) (rest := []) (As := [.int u1]) hx hb hml hown hts hK hT0 hZ (fun _ h => h) hS2 (c_X2_isFull l G Y P (o) hY u1) trivial wd_X2_isFull wV_X2_isFull wL_X2_47 (hY.o rfl) rfl rfl hl.1 rfl (Nat.le_of_ble_eq_true rfl) dX2_append_24 ⟨Nat.le_of_ble_eq_true rfl, Nat.le_of_ble_eq_true rfl⟩ ⟨Nat.zero_le _, Nat.zero_le _⟩ (fun r5 H3 locs hp3 hT3 hS3 hk3 => ?_)
      obtain ⟨hp3, he⟩ := hp3
      have he := he.symm
      subst he
      refine lv_if_ne (tgt := 42) hx hb dX2_append_27 (by decide) (fun c6 => ?_) (fun c6 => ?_)
      · skip
        exact hret _ _ _ _ hT0 hS3 trivial dX2_append_42
      · skip
        refine lv_iload hx hb dX2_append_30 (lv_at hl 0 rfl) ?_
        refine lv_if_lt (tgt := 42) hx hb dX2_append_32 (by decide) (fun c7 => ?_) (fun c7 => ?_)
        · skip
          exact hret _ _ _ _ hT0 hS3 trivial dX2_append_42
        · skip
          refine lv_iload hx hb dX2_append_35 (lv_at hl 0 rfl) ?_
          refine lv_bipush (v := 48) hx hb dX2_append_37 (by decide) ?_
          refine lv_icmp_lt (tgt := 43) hx hb dX2_append_39 (by decide) (fun c8 => ?_) (fun c8 => ?_)
          · skip
            refine lv_aload_n hx hb dX2_append_43 rfl (lv_at hl 1 rfl) ?_
            refine h_getr (C := RX2) (T := TX2) (N := 5) hx hb hts inX2 hown hK hT0 (hY.o rfl) rfl 0 rfl wF_X2_9 rfl dX2_append_44 ?_
            refine lv_iload hx hb dX2_append_47 (lv_at hl 0 rfl) ?_
            refine lv_iload_n hx hb dX2_append_49 rfl (lv_at hl 3 rfl) ?_
            refine h_iast hx hb hK hT0 (fun _ h => h) hS3 (hY.at 1 rfl) (vp_in_iff.mpr (by (try simp only [Int32.lt_iff_toInt_lt, Int32.le_iff_toInt_le, ← Int32.toInt_inj, Int32.reduceToInt, (show (-1 : Int32).toInt = -1 from rfl)] at c7 c8 ⊢); omega)) trivial dX2_append_50 (fun H4 locs hT4 hS4 hu4 => ?_)
            refine lv_aload_n hx hb dX2_append_51 rfl (lv_at hl 1 rfl) ?_
            refine h_getr (C := RX2) (T := TX2) (N := 5) hx hb hts inX2 hown hK hT4 (hY.o rfl) rfl 1 rfl wF_X2_15 rfl dX2_append_52 ?_
            refine lv_iload hx hb dX2_append_55 (lv_at hl 0 rfl) ?_
            refine lv_iload_n hx hb dX2_append_57 rfl (lv_at hl 4 rfl) ?_
            refine h_iast hx hb hK hT4 (fun _ h => h) hS4 (hY.at 2 rfl) (vp_in_iff.mpr (by (try simp only [Int32.lt_iff_toInt_lt, Int32.le_iff_toInt_le, ← Int32.toInt_inj, Int32.reduceToInt, (show (-1 : Int32).toInt = -1 from rfl)] at c7 c8 ⊢); omega)) trivial dX2_append_58 (fun H5 locs hT5 hS5 hu5 => ?_)
            refine lv_aload_n hx hb dX2_append_59 rfl (lv_at hl 1 rfl) ?_
            refine h_getr (C := RX2) (T := TX2) (N := 5) hx hb hts inX2 hown hK hT5 (hY.o rfl) rfl 2 rfl wF_X2_18 rfl dX2_append_60 ?_
            refine lv_iload hx hb dX2_append_63 (lv_at hl 0 rfl) ?_
            refine lv_iload hx hb dX2_append_65 (lv_at hl 5 rfl) ?_
            refine h_iast hx hb hK hT5 (fun _ h => h) hS5 (hY.at 3 rfl) (vp_in_iff.mpr (by (try simp only [Int32.lt_iff_toInt_lt, Int32.le_iff_toInt_le, ← Int32.toInt_inj, Int32.reduceToInt, (show (-1 : Int32).toInt = -1 from rfl)] at c7 c8 ⊢); omega)) trivial dX2_append_67 (fun H6 locs hT6 hS6 hu6 => ?_)
            refine lv_aload_n hx hb dX2_append_68 rfl (lv_at hl 1 rfl) ?_
            refine h_getr (C := RX2) (T := TX2) (N := 5) hx hb hts inX2 hown hK hT6 (hY.o rfl) rfl 3 rfl wF_X2_21 rfl dX2_append_69 ?_
            refine lv_iload hx hb dX2_append_72 (lv_at hl 0 rfl) ?_
            refine lv_iload hx hb dX2_append_74 (lv_at hl 6 rfl) ?_
            refine h_iast hx hb hK hT6 (fun _ h => h) hS6 (hY.at 4 rfl) (vp_in_iff.mpr (by (try simp only [Int32.lt_iff_toInt_lt, Int32.le_iff_toInt_le, ← Int32.toInt_inj, Int32.reduceToInt, (show (-1 : Int32).toInt = -1 from rfl)] at c7 c8 ⊢); omega)) trivial dX2_append_76 (fun H7 locs hT7 hS7 hu7 => ?_)
            refine lv_aload_n hx hb dX2_append_77 rfl (lv_at hl 1 rfl) ?_
            refine h_getr (C := RX2) (T := TX2) (N := 5) hx hb hts inX2 hown hK hT7 (hY.o rfl) rfl 4 rfl wF_X2_24 rfl dX2_append_78 ?_
            refine lv_iload_n hx hb dX2_append_81 rfl (lv_at hl 2 rfl) ?_
            refine lv_dup2_11 hx hb dX2_append_82 rfl rfl ?_
            refine h_iald hx hb hK hT7 (hY.at 5 rfl) (vp_in_iff.mpr (by (try simp only [Int32.lt_iff_toInt_lt, Int32.le_iff_toInt_le, ← Int32.toInt_inj, Int32.reduceToInt, (show (-1 : Int32).toInt = -1 from rfl)] at c3 c4 ⊢); omega)) dX2_append_83 (fun p9 => ?_)
            refine lv_topi (fun x10 ex10 => ?_)
            refine lv_iconst (v := 1) hx hb dX2_append_84 (by decide) ?_
            refine lv_iadd hx hb dX2_append_85 ?_
            refine lv_topi (fun x11 ex11 => ?_)
            refine h_iast hx hb hK hT7 (fun _ h => h) hS7 (hY.at 5 rfl) (vp_in_iff.mpr (by (try simp only [Int32.lt_iff_toInt_lt, Int32.le_iff_toInt_le, ← Int32.toInt_inj, Int32.reduceToInt, (show (-1 : Int32).toInt = -1 from rfl)] at c3 c4 ⊢); omega)) trivial dX2_append_86 (fun H8 locs hT8 hS8 hu8 => ?_)
            exact hret _ _ _ _ hT8 hS8 trivial dX2_append_87
          · skip
            exact hret _ _ _ _ hT0 hS3 trivial dX2_append_42
set_option maxHeartbeats 4000000 in
set_option maxRecDepth 100000 in
theorem c_X2_firstSlot (l : Launch) (G : hG) (Y : hW) (P : Int32 → Prop) (o : Nat) (hY : h_On Y o (quE (tC P) o)) (u1 : Int32) : hMi l yX2_firstSlot cX2_firstSlot 6 (some .int) 1 22 G Y [.ref (o), .int u1] (fun H => True) (fun H r H1 => (True) ∧ H1 = H) := by
  refine h_ofi (by decide +kernel) (Nat.le_of_ble_eq_true rfl) ?_
  intro p e s m args below meth c H0 ls Q hx hb hts hown hml hK hZ hT0 hpr hS0 hl hret
  have hl : lv_has ls 6 [(0, .ref (o)), (1, .int u1)] := hl
  refine lv_iconst (v := (-1)) hx hb dX2_firstSlot_0 (by decide) ?_
  refine lv_istore_n (lv' := [(2, .int (-1)), (0, .ref (o)), (1, .int u1)]) hx hb dX2_firstSlot_1 rfl hl (by decide) rfl (fun ls hl => ?_)
  refine lv_iconst (v := (-1)) hx hb dX2_firstSlot_2 (by decide) ?_
  refine lv_istore_n (lv' := [(3, .int (-1)), (2, .int (-1)), (0, .ref (o)), (1, .int u1)]) hx hb dX2_firstSlot_3 rfl hl (by decide) rfl (fun ls hl => ?_)
  refine lv_iconst (v := 0) hx hb dX2_firstSlot_4 (by decide) ?_
  refine lv_istore (lv' := [(4, .int 0), (3, .int (-1)), (2, .int (-1)), (0, .ref (o)), (1, .int u1)]) hx hb dX2_firstSlot_5 hl (by decide) rfl (fun ls hl => ?_)
  have LP1 : ∀ (n1 : Nat) (w1_4 w1_3 w1_2 : Int32), 2147483647 - w1_4.toInt < (n1 : Int) → 0 ≤ w1_4.toInt → ∀ (locs : List Loc) (ls : Array Slot), va_S (h_A Y) s.heap H0 locs → lv_has ls 6 [(4, .int w1_4), (3, .int w1_3), (2, .int w1_2), (0, .ref (o)), (1, .int u1)] → W p l e (h_rm 1 22) s m args below meth c H0 locs 0 0 Q (F0 m 7 ls []) := by
    intro n1
    induction n1 with
    | zero =>
      intro w1_4 w1_3 w1_2 hm
      exact absurd hm (by have := Int32.toInt_lt w1_4; have := Int32.le_toInt w1_4; omega)
    | succ n1 ih1 =>
      intro w1_4 w1_3 w1_2 hm1 hz1 locs ls hS1 hl
      refine lv_iload hx hb dX2_firstSlot_7 (lv_at hl 0 rfl) ?_
      refine lv_aload_n hx hb dX2_firstSlot_9 rfl (lv_at hl 3 rfl) ?_
      refine lv_iload_n hx hb dX2_firstSlot_10 rfl (lv_at hl 4 rfl) ?_
      refine h_callVi (T := TX2) (rest := [.int w1_4]) (As := [.int u1]) hx hb hml hown hts hK hT0 hZ (fun _ h => h) hS1 (c_X2_sizeOf l G Y P (o) hY u1) trivial wd_X2_sizeOf wV_X2_sizeOf wL_X2_39 (hY.o rfl) rfl rfl hl.1 rfl (Nat.le_of_ble_eq_true rfl) dX2_firstSlot_11 ⟨Nat.le_of_ble_eq_true rfl, Nat.le_of_ble_eq_true rfl⟩ ⟨Nat.zero_le _, Nat.zero_le _⟩ (fun r1 H2 locs hp2 hT2 hS2 hk2 => ?_)
      obtain ⟨hp2, he⟩ := hp2
      have he := he.symm
      subst he
      refine lv_icmp_ge (tgt := 53) hx hb dX2_firstSlot_14 (by decide) (fun c2 => ?_) (fun c2 => ?_)
      · skip
        refine lv_iload_n hx hb dX2_firstSlot_53 rfl (lv_at hl 2 rfl) ?_
        exact hret _ _ _ _ _ hT0 hS2 ⟨trivial, rfl⟩ dX2_firstSlot_54
      · skip
        refine lv_aload_n hx hb dX2_firstSlot_17 rfl (lv_at hl 3 rfl) ?_
        refine lv_aload_n hx hb dX2_firstSlot_18 rfl (lv_at hl 3 rfl) ?_
        refine lv_iload_n hx hb dX2_firstSlot_19 rfl (lv_at hl 4 rfl) ?_
        refine lv_iload hx hb dX2_firstSlot_20 (lv_at hl 0 rfl) ?_
        refine h_callVi (T := TX2) (rest := [.ref (o)]) (As := [.int u1, .int w1_4]) hx hb hml hown hts hK hT0 hZ (fun _ h => h) hS2 (c_X2_slotAt l G Y P (o) hY u1 w1_4) trivial wd_X2_slotAt wV_X2_slotAt wL_X2_43 (hY.o rfl) rfl rfl hl.1 rfl (Nat.le_of_ble_eq_true rfl) dX2_firstSlot_22 ⟨Nat.le_of_ble_eq_true rfl, Nat.le_of_ble_eq_true rfl⟩ ⟨Nat.zero_le _, Nat.zero_le _⟩ (fun r3 H3 locs hp3 hT3 hS3 hk3 => ?_)
        obtain ⟨hp3, he⟩ := hp3
        have he := he.symm
        subst he
        refine h_callVi (T := TX2) (rest := []) (As := [.int r3]) hx hb hml hown hts hK hT0 hZ (fun _ h => h) hS3 (c_X2_rankIn l G Y P (o) hY r3) trivial wd_X2_rankIn wV_X2_rankIn wL_X2_51 (hY.o rfl) rfl rfl hl.1 rfl (Nat.le_of_ble_eq_true rfl) dX2_firstSlot_25 ⟨Nat.le_of_ble_eq_true rfl, Nat.le_of_ble_eq_true rfl⟩ ⟨Nat.zero_le _, Nat.zero_le _⟩ (fun r4 H4 locs hp4 hT4 hS4 hk4 => ?_)
        obtain ⟨hp4, he⟩ := hp4
        have he := he.symm
        subst he
        refine lv_istore (lv' := [(5, .int r4), (4, .int w1_4), (3, .int w1_3), (2, .int w1_2), (0, .ref (o)), (1, .int u1)]) hx hb dX2_firstSlot_28 hl (by decide) rfl (fun ls hl => ?_)
        refine lv_iload hx hb dX2_firstSlot_30 (lv_at hl 0 rfl) ?_
        refine lv_iload_n hx hb dX2_firstSlot_32 rfl (lv_at hl 2 rfl) ?_
        refine lv_icmp_le (tgt := 47) hx hb dX2_firstSlot_33 (by decide) (fun c5 => ?_) (fun c5 => ?_)
        · skip
          obtain ⟨x6, ex6⟩ : ∃ y : Int32, y = w1_4 + 1 := ⟨_, rfl⟩
          refine lv_iinc (v := x6) (lv' := [(4, .int x6), (5, .int r4), (3, .int w1_3), (2, .int w1_2), (0, .ref (o)), (1, .int u1)]) hx hb dX2_firstSlot_47 hl (k := 1) rfl (by rw [ex6]; rfl) (by decide) rfl (fun ls hl => ?_)
          refine lv_goto (tgt := 7) hx hb dX2_firstSlot_50 (by decide) ?_
          exact ih1 x6 w1_3 w1_2 (h_dn hm1 ex6 (by first | exact h_lu c2 | exact h_lu2 c2 | ((try simp only [Int32.lt_iff_toInt_lt, Int32.le_iff_toInt_le, ← Int32.toInt_inj, Int32.reduceToInt, (show (-1 : Int32).toInt = -1 from rfl)] at c2 ⊢); omega))) (h_nn hz1 ex6 (by first | exact h_lu c2 | exact h_lu2 c2 | ((try simp only [Int32.lt_iff_toInt_lt, Int32.le_iff_toInt_le, ← Int32.toInt_inj, Int32.reduceToInt, (show (-1 : Int32).toInt = -1 from rfl)] at c2 ⊢); omega))) _ _ hS4 (lv_sub hl [0, 2, 3, 4, 5] rfl)
        · skip
          refine lv_aload_n hx hb dX2_firstSlot_36 rfl (lv_at hl 4 rfl) ?_
          refine lv_iload_n hx hb dX2_firstSlot_37 rfl (lv_at hl 5 rfl) ?_
          refine lv_iload hx hb dX2_firstSlot_38 (lv_at hl 1 rfl) ?_
          refine h_callVi (T := TX2) (rest := []) (As := [.int u1, .int w1_4]) hx hb hml hown hts hK hT0 hZ (fun _ h => h) hS4 (c_X2_slotAt l G Y P (o) hY u1 w1_4) trivial wd_X2_slotAt wV_X2_slotAt wL_X2_43 (hY.o rfl) rfl rfl hl.1 rfl (Nat.le_of_ble_eq_true rfl) dX2_firstSlot_40 ⟨Nat.le_of_ble_eq_true rfl, Nat.le_of_ble_eq_true rfl⟩ ⟨Nat.zero_le _, Nat.zero_le _⟩ (fun r7 H5 locs hp5 hT5 hS5 hk5 => ?_)
          obtain ⟨hp5, he⟩ := hp5
          have he := he.symm
          subst he
          refine lv_istore_n (lv' := [(2, .int r7), (5, .int r4), (4, .int w1_4), (3, .int w1_3), (0, .ref (o)), (1, .int u1)]) hx hb dX2_firstSlot_43 rfl hl (by decide) rfl (fun ls hl => ?_)
          refine lv_iload hx hb dX2_firstSlot_44 (lv_at hl 1 rfl) ?_
          refine lv_istore_n (lv' := [(3, .int r4), (2, .int r7), (5, .int r4), (4, .int w1_4), (0, .ref (o)), (1, .int u1)]) hx hb dX2_firstSlot_46 rfl hl (by decide) rfl (fun ls hl => ?_)
          obtain ⟨x8, ex8⟩ : ∃ y : Int32, y = w1_4 + 1 := ⟨_, rfl⟩
          refine lv_iinc (v := x8) (lv' := [(4, .int x8), (3, .int r4), (2, .int r7), (5, .int r4), (0, .ref (o)), (1, .int u1)]) hx hb dX2_firstSlot_47 hl (k := 3) rfl (by rw [ex8]; rfl) (by decide) rfl (fun ls hl => ?_)
          refine lv_goto (tgt := 7) hx hb dX2_firstSlot_50 (by decide) ?_
          exact ih1 x8 r4 r7 (h_dn hm1 ex8 (by first | exact h_lu c2 | exact h_lu2 c2 | ((try simp only [Int32.lt_iff_toInt_lt, Int32.le_iff_toInt_le, ← Int32.toInt_inj, Int32.reduceToInt, (show (-1 : Int32).toInt = -1 from rfl)] at c2 ⊢); omega))) (h_nn hz1 ex8 (by first | exact h_lu c2 | exact h_lu2 c2 | ((try simp only [Int32.lt_iff_toInt_lt, Int32.le_iff_toInt_le, ← Int32.toInt_inj, Int32.reduceToInt, (show (-1 : Int32).toInt = -1 from rfl)] at c2 ⊢); omega))) _ _ hS5 (lv_sub hl [0, 1, 2, 4, 5] rfl)
  exact LP1 4294967296 0 (-1) (-1) (h_m0 _) (by decide) _ _ hS0 (lv_sub hl [0, 1, 2, 3, 4] rfl)
set_option maxHeartbeats 4000000 in
set_option maxRecDepth 100000 in
theorem c_X2_firstRank (l : Launch) (G : hG) (Y : hW) (P : Int32 → Prop) (o : Nat) (hY : h_On Y o (quE (tC P) o)) (u1 : Int32) : hMi l yX2_firstRank cX2_firstRank 2 (some .int) 2 47 G Y [.ref (o), .int u1] (fun H => True) (fun H r H1 => (True) ∧ H1 = H) := by
  refine h_ofi (by decide +kernel) (Nat.le_of_ble_eq_true rfl) ?_
  intro p e s m args below meth c H0 ls Q hx hb hts hown hml hK hZ hT0 hpr hS0 hl hret
  have hl : lv_has ls 2 [(0, .ref (o)), (1, .int u1)] := hl
  refine lv_aload_n hx hb dX2_firstRank_0 rfl (lv_at hl 0 rfl) ?_
  refine lv_aload_n hx hb dX2_firstRank_1 rfl (lv_at hl 0 rfl) ?_
  refine lv_iload_n hx hb dX2_firstRank_2 rfl (lv_at hl 1 rfl) ?_
  refine h_callVi (T := TX2) (rest := [.ref (o)]) (As := [.int u1]) hx hb hml hown hts hK hT0 hZ (fun _ h => h) hS0 (c_X2_firstSlot l G Y P (o) hY u1) trivial wd_X2_firstSlot wV_X2_firstSlot wL_X2_54 (hY.o rfl) rfl rfl hl.1 rfl (Nat.le_of_ble_eq_true rfl) dX2_firstRank_3 ⟨Nat.le_of_ble_eq_true rfl, Nat.le_of_ble_eq_true rfl⟩ ⟨Nat.zero_le _, Nat.zero_le _⟩ (fun r1 H1 locs hp1 hT1 hS1 hk1 => ?_)
  obtain ⟨hp1, he⟩ := hp1
  have he := he.symm
  subst he
  refine h_callVi (T := TX2) (rest := []) (As := [.int r1]) hx hb hml hown hts hK hT0 hZ (fun _ h => h) hS1 (c_X2_rankIn l G Y P (o) hY r1) trivial wd_X2_rankIn wV_X2_rankIn wL_X2_51 (hY.o rfl) rfl rfl hl.1 rfl (Nat.le_of_ble_eq_true rfl) dX2_firstRank_6 ⟨Nat.le_of_ble_eq_true rfl, Nat.le_of_ble_eq_true rfl⟩ ⟨Nat.zero_le _, Nat.zero_le _⟩ (fun r2 H2 locs hp2 hT2 hS2 hk2 => ?_)
  obtain ⟨hp2, he⟩ := hp2
  have he := he.symm
  subst he
  exact hret _ _ _ _ _ hT0 hS2 ⟨trivial, rfl⟩ dX2_firstRank_9
set_option maxHeartbeats 4000000 in
set_option maxRecDepth 100000 in
theorem c_X2_slotOf (l : Launch) (G : hG) (Y : hW) (P : Int32 → Prop) (o : Nat) (hY : h_On Y o (quE (tC P) o)) (u1 : Int32) : hMi l yX2_slotOf cX2_slotOf 4 (some .int) 1 22 G Y [.ref (o), .int u1] (fun H => True) (fun H r H1 => (True) ∧ H1 = H) := by
  refine h_ofi (by decide +kernel) (Nat.le_of_ble_eq_true rfl) ?_
  intro p e s m args below meth c H0 ls Q hx hb hts hown hml hK hZ hT0 hpr hS0 hl hret
  have hl : lv_has ls 4 [(0, .ref (o)), (1, .int u1)] := hl
  refine lv_iconst (v := 0) hx hb dX2_slotOf_0 (by decide) ?_
  refine lv_istore_n (lv' := [(2, .int 0), (0, .ref (o)), (1, .int u1)]) hx hb dX2_slotOf_1 rfl hl (by decide) rfl (fun ls hl => ?_)
  have LP1 : ∀ (n1 : Nat) (w1_2 : Int32), 2147483647 - w1_2.toInt < (n1 : Int) → 0 ≤ w1_2.toInt → ∀ (locs : List Loc) (ls : Array Slot), va_S (h_A Y) s.heap H0 locs → lv_has ls 4 [(2, .int w1_2), (0, .ref (o)), (1, .int u1)] → W p l e (h_rm 1 22) s m args below meth c H0 locs 0 0 Q (F0 m 2 ls []) := by
    intro n1
    induction n1 with
    | zero =>
      intro w1_2 hm
      exact absurd hm (by have := Int32.toInt_lt w1_2; have := Int32.le_toInt w1_2; omega)
    | succ n1 ih1 =>
      intro w1_2 hm1 hz1 locs ls hS1 hl
      refine lv_iload_n hx hb dX2_slotOf_2 rfl (lv_at hl 0 rfl) ?_
      refine lv_bipush (v := 8) hx hb dX2_slotOf_3 (by decide) ?_
      refine lv_icmp_ge (tgt := 53) hx hb dX2_slotOf_5 (by decide) (fun c1 => ?_) (fun c1 => ?_)
      · skip
        refine lv_iconst (v := (-1)) hx hb dX2_slotOf_53 (by decide) ?_
        exact hret _ _ _ _ _ hT0 hS1 ⟨trivial, rfl⟩ dX2_slotOf_54
      · skip
        refine lv_iconst (v := 0) hx hb dX2_slotOf_8 (by decide) ?_
        refine lv_istore_n (lv' := [(3, .int 0), (2, .int w1_2), (0, .ref (o)), (1, .int u1)]) hx hb dX2_slotOf_9 rfl hl (by decide) rfl (fun ls hl => ?_)
        have LP2 : ∀ (n2 : Nat) (w2_3 : Int32), 2147483647 - w2_3.toInt < (n2 : Int) → 0 ≤ w2_3.toInt → ∀ (locs : List Loc) (ls : Array Slot), va_S (h_A Y) s.heap H0 locs → lv_has ls 4 [(3, .int w2_3), (2, .int w1_2), (0, .ref (o)), (1, .int u1)] → W p l e (h_rm 1 22) s m args below meth c H0 locs 0 0 Q (F0 m 10 ls []) := by
          intro n2
          induction n2 with
          | zero =>
            intro w2_3 hm
            exact absurd hm (by have := Int32.toInt_lt w2_3; have := Int32.le_toInt w2_3; omega)
          | succ n2 ih2 =>
            intro w2_3 hm2 hz2 locs ls hS2 hl
            refine lv_iload_n hx hb dX2_slotOf_10 rfl (lv_at hl 0 rfl) ?_
            refine lv_aload_n hx hb dX2_slotOf_11 rfl (lv_at hl 2 rfl) ?_
            refine h_getr (C := RX2) (T := TX2) (N := 5) hx hb hts inX2 hown hK hT0 (hY.o rfl) rfl 4 rfl wF_X2_24 rfl dX2_slotOf_12 ?_
            refine lv_iload_n hx hb dX2_slotOf_15 rfl (lv_at hl 1 rfl) ?_
            refine h_iald hx hb hK hT0 (hY.at 5 rfl) (vp_in_iff.mpr (by (try simp only [Int32.lt_iff_toInt_lt, Int32.le_iff_toInt_le, ← Int32.toInt_inj, Int32.reduceToInt, (show (-1 : Int32).toInt = -1 from rfl)] at hz1 c1 ⊢); omega)) dX2_slotOf_16 (fun p2 => ?_)
            refine lv_topi (fun x3 ex3 => ?_)
            refine lv_icmp_ge (tgt := 47) hx hb dX2_slotOf_17 (by decide) (fun c4 => ?_) (fun c4 => ?_)
            · skip
              obtain ⟨x5, ex5⟩ : ∃ y : Int32, y = w1_2 + 1 := ⟨_, rfl⟩
              refine lv_iinc (v := x5) (lv' := [(2, .int x5), (3, .int w2_3), (0, .ref (o)), (1, .int u1)]) hx hb dX2_slotOf_47 hl (k := 1) rfl (by rw [ex5]; rfl) (by decide) rfl (fun ls hl => ?_)
              refine lv_goto (tgt := 2) hx hb dX2_slotOf_50 (by decide) ?_
              exact ih1 x5 (h_dn hm1 ex5 (by first | exact h_lu c1 | exact h_lu2 c1 | ((try simp only [Int32.lt_iff_toInt_lt, Int32.le_iff_toInt_le, ← Int32.toInt_inj, Int32.reduceToInt, (show (-1 : Int32).toInt = -1 from rfl)] at c1 ⊢); omega))) (h_nn hz1 ex5 (by first | exact h_lu c1 | exact h_lu2 c1 | ((try simp only [Int32.lt_iff_toInt_lt, Int32.le_iff_toInt_le, ← Int32.toInt_inj, Int32.reduceToInt, (show (-1 : Int32).toInt = -1 from rfl)] at c1 ⊢); omega))) _ _ hS2 (lv_sub hl [0, 2, 3] rfl)
            · skip
              refine lv_aload_n hx hb dX2_slotOf_20 rfl (lv_at hl 2 rfl) ?_
              refine lv_aload_n hx hb dX2_slotOf_21 rfl (lv_at hl 2 rfl) ?_
              refine lv_iload_n hx hb dX2_slotOf_22 rfl (lv_at hl 1 rfl) ?_
              refine lv_iload_n hx hb dX2_slotOf_23 rfl (lv_at hl 0 rfl) ?_
              refine h_callVi (T := TX2) (rest := [.ref (o)]) (As := [.int w1_2, .int w2_3]) hx hb hml hown hts hK hT0 hZ (fun _ h => h) hS2 (c_X2_slotAt l G Y P (o) hY w1_2 w2_3) trivial wd_X2_slotAt wV_X2_slotAt wL_X2_43 (hY.o rfl) rfl rfl hl.1 rfl (Nat.le_of_ble_eq_true rfl) dX2_slotOf_24 ⟨Nat.le_of_ble_eq_true rfl, Nat.le_of_ble_eq_true rfl⟩ ⟨Nat.zero_le _, Nat.zero_le _⟩ (fun r6 H3 locs hp3 hT3 hS3 hk3 => ?_)
              obtain ⟨hp3, he⟩ := hp3
              have he := he.symm
              subst he
              refine h_callVi (T := TX2) (rest := []) (As := [.int r6]) hx hb hml hown hts hK hT0 hZ (fun _ h => h) hS3 (c_X2_numberIn l G Y P (o) hY r6) trivial wd_X2_numberIn wV_X2_numberIn wL_X2_57 (hY.o rfl) rfl rfl hl.1 rfl (Nat.le_of_ble_eq_true rfl) dX2_slotOf_27 ⟨Nat.le_of_ble_eq_true rfl, Nat.le_of_ble_eq_true rfl⟩ ⟨Nat.zero_le _, Nat.zero_le _⟩ (fun r7 H4 locs hp4 hT4 hS4 hk4 => ?_)
              obtain ⟨hp4, he⟩ := hp4
              have he := he.symm
              subst he
              refine lv_iload_n hx hb dX2_slotOf_30 rfl (lv_at hl 3 rfl) ?_
              refine lv_icmp_ne (tgt := 41) hx hb dX2_slotOf_31 (by decide) (fun c8 => ?_) (fun c8 => ?_)
              · skip
                obtain ⟨x9, ex9⟩ : ∃ y : Int32, y = w2_3 + 1 := ⟨_, rfl⟩
                refine lv_iinc (v := x9) (lv' := [(3, .int x9), (2, .int w1_2), (0, .ref (o)), (1, .int u1)]) hx hb dX2_slotOf_41 hl (k := 0) rfl (by rw [ex9]; rfl) (by decide) rfl (fun ls hl => ?_)
                refine lv_goto (tgt := 10) hx hb dX2_slotOf_44 (by decide) ?_
                exact ih2 x9 (h_dn hm2 ex9 (by first | exact h_lu c4 | exact h_lu2 c4 | ((try simp only [Int32.lt_iff_toInt_lt, Int32.le_iff_toInt_le, ← Int32.toInt_inj, Int32.reduceToInt, (show (-1 : Int32).toInt = -1 from rfl)] at c4 ⊢); omega))) (h_nn hz2 ex9 (by first | exact h_lu c4 | exact h_lu2 c4 | ((try simp only [Int32.lt_iff_toInt_lt, Int32.le_iff_toInt_le, ← Int32.toInt_inj, Int32.reduceToInt, (show (-1 : Int32).toInt = -1 from rfl)] at c4 ⊢); omega))) _ _ hS4 (lv_sub hl [0, 1, 2, 3] rfl)
              · skip
                refine lv_aload_n hx hb dX2_slotOf_34 rfl (lv_at hl 2 rfl) ?_
                refine lv_iload_n hx hb dX2_slotOf_35 rfl (lv_at hl 1 rfl) ?_
                refine lv_iload_n hx hb dX2_slotOf_36 rfl (lv_at hl 0 rfl) ?_
                refine h_callVi (T := TX2) (rest := []) (As := [.int w1_2, .int w2_3]) hx hb hml hown hts hK hT0 hZ (fun _ h => h) hS4 (c_X2_slotAt l G Y P (o) hY w1_2 w2_3) trivial wd_X2_slotAt wV_X2_slotAt wL_X2_43 (hY.o rfl) rfl rfl hl.1 rfl (Nat.le_of_ble_eq_true rfl) dX2_slotOf_37 ⟨Nat.le_of_ble_eq_true rfl, Nat.le_of_ble_eq_true rfl⟩ ⟨Nat.zero_le _, Nat.zero_le _⟩ (fun r10 H5 locs hp5 hT5 hS5 hk5 => ?_)
                obtain ⟨hp5, he⟩ := hp5
                have he := he.symm
                subst he
                exact hret _ _ _ _ _ hT0 hS5 ⟨trivial, rfl⟩ dX2_slotOf_40
        exact LP2 4294967296 0 (h_m0 _) (by decide) _ _ hS1 (lv_sub hl [0, 1, 2, 3] rfl)
  exact LP1 4294967296 0 (h_m0 _) (by decide) _ _ hS0 (lv_sub hl [0, 1, 2] rfl)
set_option maxHeartbeats 4000000 in
set_option maxRecDepth 100000 in
theorem c_X2_moveSlot (l : Launch) (G : hG) (Y : hW) (P : Int32 → Prop) (o : Nat) (hY : h_On Y o (quE (tC P) o)) (u1 u2 : Int32) : hMv l yX2_moveSlot cX2_moveSlot 3 none 0 0 G Y [.ref (o), .int u1, .int u2] (fun H => True) (fun H H1 => True) := by
  refine h_ofv (by decide +kernel) (Nat.le_of_ble_eq_true rfl) ?_
  intro p e s m args below meth c H0 ls Q hx hb hts hown hml hK hZ hT0 hpr hS0 hl hret
  have hl : lv_has ls 3 [(0, .ref (o)), (1, .int u1), (2, .int u2)] := hl
  refine lv_iload_n hx hb dX2_moveSlot_0 rfl (lv_at hl 1 rfl) ?_
  refine lv_if_lt (tgt := 68) hx hb dX2_moveSlot_1 (by decide) (fun c1 => ?_) (fun c1 => ?_)
  · skip
    exact hret _ _ _ _ hT0 hS0 trivial dX2_moveSlot_68
  · skip
    refine lv_iload_n hx hb dX2_moveSlot_4 rfl (lv_at hl 1 rfl) ?_
    refine lv_bipush (v := 48) hx hb dX2_moveSlot_5 (by decide) ?_
    refine lv_icmp_ge (tgt := 68) hx hb dX2_moveSlot_7 (by decide) (fun c2 => ?_) (fun c2 => ?_)
    · skip
      exact hret _ _ _ _ hT0 hS0 trivial dX2_moveSlot_68
    · skip
      refine lv_iload_n hx hb dX2_moveSlot_10 rfl (lv_at hl 2 rfl) ?_
      refine lv_if_lt (tgt := 68) hx hb dX2_moveSlot_11 (by decide) (fun c3 => ?_) (fun c3 => ?_)
      · skip
        exact hret _ _ _ _ hT0 hS0 trivial dX2_moveSlot_68
      · skip
        refine lv_iload_n hx hb dX2_moveSlot_14 rfl (lv_at hl 2 rfl) ?_
        refine lv_bipush (v := 48) hx hb dX2_moveSlot_15 (by decide) ?_
        refine lv_icmp_ge (tgt := 68) hx hb dX2_moveSlot_17 (by decide) (fun c4 => ?_) (fun c4 => ?_)
        · skip
          exact hret _ _ _ _ hT0 hS0 trivial dX2_moveSlot_68
        · skip
          refine lv_aload_n hx hb dX2_moveSlot_20 rfl (lv_at hl 0 rfl) ?_
          refine h_getr (C := RX2) (T := TX2) (N := 5) hx hb hts inX2 hown hK hT0 (hY.o rfl) rfl 0 rfl wF_X2_9 rfl dX2_moveSlot_21 ?_
          refine lv_iload_n hx hb dX2_moveSlot_24 rfl (lv_at hl 2 rfl) ?_
          refine lv_aload_n hx hb dX2_moveSlot_25 rfl (lv_at hl 0 rfl) ?_
          refine h_getr (C := RX2) (T := TX2) (N := 5) hx hb hts inX2 hown hK hT0 (hY.o rfl) rfl 0 rfl wF_X2_9 rfl dX2_moveSlot_26 ?_
          refine lv_iload_n hx hb dX2_moveSlot_29 rfl (lv_at hl 1 rfl) ?_
          refine h_iald hx hb hK hT0 (hY.at 1 rfl) (vp_in_iff.mpr (by (try simp only [Int32.lt_iff_toInt_lt, Int32.le_iff_toInt_le, ← Int32.toInt_inj, Int32.reduceToInt, (show (-1 : Int32).toInt = -1 from rfl)] at c1 c2 ⊢); omega)) dX2_moveSlot_30 (fun p5 => ?_)
          refine lv_topi (fun x6 ex6 => ?_)
          refine h_iast hx hb hK hT0 (fun _ h => h) hS0 (hY.at 1 rfl) (vp_in_iff.mpr (by (try simp only [Int32.lt_iff_toInt_lt, Int32.le_iff_toInt_le, ← Int32.toInt_inj, Int32.reduceToInt, (show (-1 : Int32).toInt = -1 from rfl)] at c3 c4 ⊢); omega)) trivial dX2_moveSlot_31 (fun H1 locs hT1 hS1 hu1 => ?_)
          refine lv_aload_n hx hb dX2_moveSlot_32 rfl (lv_at hl 0 rfl) ?_
          refine h_getr (C := RX2) (T := TX2) (N := 5) hx hb hts inX2 hown hK hT1 (hY.o rfl) rfl 1 rfl wF_X2_15 rfl dX2_moveSlot_33 ?_
          refine lv_iload_n hx hb dX2_moveSlot_36 rfl (lv_at hl 2 rfl) ?_
          refine lv_aload_n hx hb dX2_moveSlot_37 rfl (lv_at hl 0 rfl) ?_
          refine h_getr (C := RX2) (T := TX2) (N := 5) hx hb hts inX2 hown hK hT1 (hY.o rfl) rfl 1 rfl wF_X2_15 rfl dX2_moveSlot_38 ?_
          refine lv_iload_n hx hb dX2_moveSlot_41 rfl (lv_at hl 1 rfl) ?_
          refine h_iald hx hb hK hT1 (hY.at 2 rfl) (vp_in_iff.mpr (by (try simp only [Int32.lt_iff_toInt_lt, Int32.le_iff_toInt_le, ← Int32.toInt_inj, Int32.reduceToInt, (show (-1 : Int32).toInt = -1 from rfl)] at c1 c2 ⊢); omega)) dX2_moveSlot_42 (fun p7 => ?_)
          refine lv_topi (fun x8 ex8 => ?_)
          refine h_iast hx hb hK hT1 (fun _ h => h) hS1 (hY.at 2 rfl) (vp_in_iff.mpr (by (try simp only [Int32.lt_iff_toInt_lt, Int32.le_iff_toInt_le, ← Int32.toInt_inj, Int32.reduceToInt, (show (-1 : Int32).toInt = -1 from rfl)] at c3 c4 ⊢); omega)) trivial dX2_moveSlot_43 (fun H2 locs hT2 hS2 hu2 => ?_)
          refine lv_aload_n hx hb dX2_moveSlot_44 rfl (lv_at hl 0 rfl) ?_
          refine h_getr (C := RX2) (T := TX2) (N := 5) hx hb hts inX2 hown hK hT2 (hY.o rfl) rfl 2 rfl wF_X2_18 rfl dX2_moveSlot_45 ?_
          refine lv_iload_n hx hb dX2_moveSlot_48 rfl (lv_at hl 2 rfl) ?_
          refine lv_aload_n hx hb dX2_moveSlot_49 rfl (lv_at hl 0 rfl) ?_
          refine h_getr (C := RX2) (T := TX2) (N := 5) hx hb hts inX2 hown hK hT2 (hY.o rfl) rfl 2 rfl wF_X2_18 rfl dX2_moveSlot_50 ?_
          refine lv_iload_n hx hb dX2_moveSlot_53 rfl (lv_at hl 1 rfl) ?_
          refine h_iald hx hb hK hT2 (hY.at 3 rfl) (vp_in_iff.mpr (by (try simp only [Int32.lt_iff_toInt_lt, Int32.le_iff_toInt_le, ← Int32.toInt_inj, Int32.reduceToInt, (show (-1 : Int32).toInt = -1 from rfl)] at c1 c2 ⊢); omega)) dX2_moveSlot_54 (fun p9 => ?_)
          refine lv_topi (fun x10 ex10 => ?_)
          refine h_iast hx hb hK hT2 (fun _ h => h) hS2 (hY.at 3 rfl) (vp_in_iff.mpr (by (try simp only [Int32.lt_iff_toInt_lt, Int32.le_iff_toInt_le, ← Int32.toInt_inj, Int32.reduceToInt, (show (-1 : Int32).toInt = -1 from rfl)] at c3 c4 ⊢); omega)) trivial dX2_moveSlot_55 (fun H3 locs hT3 hS3 hu3 => ?_)
          refine lv_aload_n hx hb dX2_moveSlot_56 rfl (lv_at hl 0 rfl) ?_
          refine h_getr (C := RX2) (T := TX2) (N := 5) hx hb hts inX2 hown hK hT3 (hY.o rfl) rfl 3 rfl wF_X2_21 rfl dX2_moveSlot_57 ?_
          refine lv_iload_n hx hb dX2_moveSlot_60 rfl (lv_at hl 2 rfl) ?_
          refine lv_aload_n hx hb dX2_moveSlot_61 rfl (lv_at hl 0 rfl) ?_
          refine h_getr (C := RX2) (T := TX2) (N := 5) hx hb hts inX2 hown hK hT3 (hY.o rfl) rfl 3 rfl wF_X2_21 rfl dX2_moveSlot_62 ?_
          refine lv_iload_n hx hb dX2_moveSlot_65 rfl (lv_at hl 1 rfl) ?_
          refine h_iald hx hb hK hT3 (hY.at 4 rfl) (vp_in_iff.mpr (by (try simp only [Int32.lt_iff_toInt_lt, Int32.le_iff_toInt_le, ← Int32.toInt_inj, Int32.reduceToInt, (show (-1 : Int32).toInt = -1 from rfl)] at c1 c2 ⊢); omega)) dX2_moveSlot_66 (fun p11 => ?_)
          refine lv_topi (fun x12 ex12 => ?_)
          refine h_iast hx hb hK hT3 (fun _ h => h) hS3 (hY.at 4 rfl) (vp_in_iff.mpr (by (try simp only [Int32.lt_iff_toInt_lt, Int32.le_iff_toInt_le, ← Int32.toInt_inj, Int32.reduceToInt, (show (-1 : Int32).toInt = -1 from rfl)] at c3 c4 ⊢); omega)) trivial dX2_moveSlot_67 (fun H4 locs hT4 hS4 hu4 => ?_)
          exact hret _ _ _ _ hT4 hS4 trivial dX2_moveSlot_68
set_option maxHeartbeats 4000000 in
set_option maxRecDepth 100000 in
theorem c_X2_removeSlot (l : Launch) (G : hG) (Y : hW) (P : Int32 → Prop) (o : Nat) (hY : h_On Y o (quE (tC P) o)) (u1 : Int32) : hMv l yX2_removeSlot cX2_removeSlot 5 none 1 22 G Y [.ref (o), .int u1] (fun H => True) (fun H H1 => True) := by
  refine h_ofv (by decide +kernel) (Nat.le_of_ble_eq_true rfl) ?_
  intro p e s m args below meth c H0 ls Q hx hb hts hown hml hK hZ hT0 hpr hS0 hl hret
  have hl : lv_has ls 5 [(0, .ref (o)), (1, .int u1)] := hl
  refine lv_iload_n hx hb dX2_removeSlot_0 rfl (lv_at hl 1 rfl) ?_
  refine lv_if_lt (tgt := 10) hx hb dX2_removeSlot_1 (by decide) (fun c1 => ?_) (fun c1 => ?_)
  · skip
    exact hret _ _ _ _ hT0 hS0 trivial dX2_removeSlot_10
  · skip
    refine lv_iload_n hx hb dX2_removeSlot_4 rfl (lv_at hl 1 rfl) ?_
    refine lv_bipush (v := 48) hx hb dX2_removeSlot_5 (by decide) ?_
    refine lv_icmp_lt (tgt := 11) hx hb dX2_removeSlot_7 (by decide) (fun c2 => ?_) (fun c2 => ?_)
    · skip
      refine lv_iload_n hx hb dX2_removeSlot_11 rfl (lv_at hl 1 rfl) ?_
      refine lv_bipush (v := 6) hx hb dX2_removeSlot_12 (by decide) ?_
      refine lv_idiv hx hb dX2_removeSlot_14 (by decide) ?_
      refine lv_topi (fun x3 ex3 => ?_)
      obtain ⟨g4a, g4b⟩ := h_div6 ex3 (by (try simp only [Int32.lt_iff_toInt_lt, Int32.le_iff_toInt_le, ← Int32.toInt_inj, Int32.reduceToInt, (show (-1 : Int32).toInt = -1 from rfl)] at c1 c2 ⊢); omega) (by (try simp only [Int32.lt_iff_toInt_lt, Int32.le_iff_toInt_le, ← Int32.toInt_inj, Int32.reduceToInt, (show (-1 : Int32).toInt = -1 from rfl)] at c1 c2 ⊢); omega)
      refine lv_istore_n (lv' := [(2, .int x3), (0, .ref (o)), (1, .int u1)]) hx hb dX2_removeSlot_15 rfl hl (by decide) rfl (fun ls hl => ?_)
      refine lv_aload_n hx hb dX2_removeSlot_16 rfl (lv_at hl 1 rfl) ?_
      refine lv_iload_n hx hb dX2_removeSlot_17 rfl (lv_at hl 0 rfl) ?_
      refine lv_aload_n hx hb dX2_removeSlot_18 rfl (lv_at hl 1 rfl) ?_
      refine lv_iload_n hx hb dX2_removeSlot_19 rfl (lv_at hl 0 rfl) ?_
      refine h_callVi (T := TX2) (rest := [.int x3, .ref (o)]) (As := [.int x3]) hx hb hml hown hts hK hT0 hZ (fun _ h => h) hS0 (c_X2_sizeOf l G Y P (o) hY x3) trivial wd_X2_sizeOf wV_X2_sizeOf wL_X2_39 (hY.o rfl) rfl rfl hl.1 rfl (Nat.le_of_ble_eq_true rfl) dX2_removeSlot_20 ⟨Nat.le_of_ble_eq_true rfl, Nat.le_of_ble_eq_true rfl⟩ ⟨Nat.zero_le _, Nat.zero_le _⟩ (fun r5 H1 locs hp1 hT1 hS1 hk1 => ?_)
      obtain ⟨hp1, he⟩ := hp1
      have he := he.symm
      subst he
      refine h_callVi (T := TX2) (rest := []) (As := [.int x3, .int r5]) hx hb hml hown hts hK hT0 hZ (fun _ h => h) hS1 (c_X2_slotAt l G Y P (o) hY x3 r5) trivial wd_X2_slotAt wV_X2_slotAt wL_X2_43 (hY.o rfl) rfl rfl hl.1 rfl (Nat.le_of_ble_eq_true rfl) dX2_removeSlot_23 ⟨Nat.le_of_ble_eq_true rfl, Nat.le_of_ble_eq_true rfl⟩ ⟨Nat.zero_le _, Nat.zero_le _⟩ (fun r6 H2 locs hp2 hT2 hS2 hk2 => ?_)
      obtain ⟨hp2, he⟩ := hp2
      have he := he.symm
      subst he
      refine lv_istore_n (lv' := [(3, .int r6), (2, .int x3), (0, .ref (o)), (1, .int u1)]) hx hb dX2_removeSlot_26 rfl hl (by decide) rfl (fun ls hl => ?_)
      refine lv_iload_n hx hb dX2_removeSlot_27 rfl (lv_at hl 3 rfl) ?_
      refine lv_iload_n hx hb dX2_removeSlot_28 rfl (lv_at hl 0 rfl) ?_
      refine lv_icmp_lt (tgt := 33) hx hb dX2_removeSlot_29 (by decide) (fun c7 => ?_) (fun c7 => ?_)
      · skip
        refine lv_iload_n hx hb dX2_removeSlot_33 rfl (lv_at hl 3 rfl) ?_
        refine lv_iconst (v := 1) hx hb dX2_removeSlot_34 (by decide) ?_
        refine lv_iadd hx hb dX2_removeSlot_35 ?_
        refine lv_topi (fun x8 ex8 => ?_)
        refine lv_istore (lv' := [(4, .int x8), (3, .int r6), (2, .int x3), (0, .ref (o)), (1, .int u1)]) hx hb dX2_removeSlot_36 hl (by decide) rfl (fun ls hl => ?_)
        have LP1 : ∀ (n1 : Nat) (w1_4 : Int32), 2147483647 - w1_4.toInt < (n1 : Int) → ∀ (H3 : Heap) (locs : List Loc) (ls : Array Slot), hT G Y H3 → va_S (h_A Y) s.heap H3 locs → lv_has ls 5 [(4, .int w1_4), (3, .int r6), (2, .int x3), (0, .ref (o))] → W p l e (h_rm 1 22) s m args below meth c H3 locs 0 0 Q (F0 m 38 ls []) := by
          intro n1
          induction n1 with
          | zero =>
            intro w1_4 hm
            exact absurd hm (by have := Int32.toInt_lt w1_4; have := Int32.le_toInt w1_4; omega)
          | succ n1 ih1 =>
            intro w1_4 hm1 H3 locs ls hT3 hS3 hl
            refine lv_iload hx hb dX2_removeSlot_38 (lv_at hl 0 rfl) ?_
            refine lv_iload_n hx hb dX2_removeSlot_40 rfl (lv_at hl 1 rfl) ?_
            refine lv_icmp_ge (tgt := 60) hx hb dX2_removeSlot_41 (by decide) (fun c9 => ?_) (fun c9 => ?_)
            · skip
              refine lv_aload_n hx hb dX2_removeSlot_60 rfl (lv_at hl 3 rfl) ?_
              refine h_getr (C := RX2) (T := TX2) (N := 5) hx hb hts inX2 hown hK hT3 (hY.o rfl) rfl 4 rfl wF_X2_24 rfl dX2_removeSlot_61 ?_
              refine lv_iload_n hx hb dX2_removeSlot_64 rfl (lv_at hl 2 rfl) ?_
              refine lv_dup2_11 hx hb dX2_removeSlot_65 rfl rfl ?_
              refine h_iald hx hb hK hT3 (hY.at 5 rfl) (vp_in_iff.mpr (by (try simp only [Int32.lt_iff_toInt_lt, Int32.le_iff_toInt_le, ← Int32.toInt_inj, Int32.reduceToInt, (show (-1 : Int32).toInt = -1 from rfl)] at g4a g4b ⊢); omega)) dX2_removeSlot_66 (fun p10 => ?_)
              refine lv_topi (fun x11 ex11 => ?_)
              refine lv_iconst (v := 1) hx hb dX2_removeSlot_67 (by decide) ?_
              refine lv_isub hx hb dX2_removeSlot_68 ?_
              refine lv_topi (fun x12 ex12 => ?_)
              refine h_iast hx hb hK hT3 (fun _ h => h) hS3 (hY.at 5 rfl) (vp_in_iff.mpr (by (try simp only [Int32.lt_iff_toInt_lt, Int32.le_iff_toInt_le, ← Int32.toInt_inj, Int32.reduceToInt, (show (-1 : Int32).toInt = -1 from rfl)] at g4a g4b ⊢); omega)) trivial dX2_removeSlot_69 (fun H4 locs hT4 hS4 hu4 => ?_)
              exact hret _ _ _ _ hT4 hS4 trivial dX2_removeSlot_70
            · skip
              refine lv_aload_n hx hb dX2_removeSlot_44 rfl (lv_at hl 3 rfl) ?_
              refine lv_iload hx hb dX2_removeSlot_45 (lv_at hl 0 rfl) ?_
              refine lv_iload hx hb dX2_removeSlot_47 (lv_at hl 0 rfl) ?_
              refine lv_iconst (v := 1) hx hb dX2_removeSlot_49 (by decide) ?_
              refine lv_isub hx hb dX2_removeSlot_50 ?_
              refine lv_topi (fun x13 ex13 => ?_)
              refine h_callVv (T := TX2) (rest := []) (As := [.int w1_4, .int x13]) hx hb hml hown hts hK hT3 hZ (fun _ h => h) hS3 (c_X2_moveSlot l G Y P (o) hY w1_4 x13) trivial wd_X2_moveSlot wV_X2_moveSlot wL_X2_60 (hY.o rfl) rfl rfl hl.1 rfl (Nat.le_of_ble_eq_true rfl) dX2_removeSlot_51 ⟨Nat.le_of_ble_eq_true rfl, Nat.le_of_ble_eq_true rfl⟩ ⟨Nat.zero_le _, Nat.zero_le _⟩ (fun H5 locs hp5 hT5 hS5 hk5 => ?_)
              obtain ⟨x14, ex14⟩ : ∃ y : Int32, y = w1_4 + 1 := ⟨_, rfl⟩
              refine lv_iinc (v := x14) (lv' := [(4, .int x14), (3, .int r6), (2, .int x3), (0, .ref (o))]) hx hb dX2_removeSlot_54 hl (k := 0) rfl (by rw [ex14]; rfl) (by decide) rfl (fun ls hl => ?_)
              refine lv_goto (tgt := 38) hx hb dX2_removeSlot_57 (by decide) ?_
              exact ih1 x14 (h_dn hm1 ex14 (by first | exact h_lu c9 | exact h_lu2 c9 | ((try simp only [Int32.lt_iff_toInt_lt, Int32.le_iff_toInt_le, ← Int32.toInt_inj, Int32.reduceToInt, (show (-1 : Int32).toInt = -1 from rfl)] at c9 ⊢); omega))) _ _ _ hT5 hS5 (lv_sub hl [0, 1, 2, 3] rfl)
        exact LP1 4294967296 x8 (h_m0 _) _ _ _ hT0 hS2 (lv_sub hl [0, 1, 2, 3] rfl)
      · skip
        exact hret _ _ _ _ hT0 hS2 trivial dX2_removeSlot_32
    · skip
      exact hret _ _ _ _ hT0 hS0 trivial dX2_removeSlot_10
set_option maxHeartbeats 4000000 in
set_option maxRecDepth 100000 in
theorem c_X2_removeBelow (l : Launch) (G : hG) (Y : hW) (P : Int32 → Prop) (o : Nat) (hY : h_On Y o (quE (tC P) o)) (u1 u2 : Int32) : hMi l yX2_removeBelow cX2_removeBelow 6 (some .int) 1 22 G Y [.ref (o), .int u1, .int u2] (fun H => True) (fun H r H1 => True) := by
  refine h_ofi (by decide +kernel) (Nat.le_of_ble_eq_true rfl) ?_
  intro p e s m args below meth c H0 ls Q hx hb hts hown hml hK hZ hT0 hpr hS0 hl hret
  have hl : lv_has ls 6 [(0, .ref (o)), (1, .int u1), (2, .int u2)] := hl
  refine lv_aload_n hx hb dX2_removeBelow_0 rfl (lv_at hl 0 rfl) ?_
  refine lv_iload_n hx hb dX2_removeBelow_1 rfl (lv_at hl 1 rfl) ?_
  refine h_callVi (T := TX2) (rest := []) (As := [.int u1]) hx hb hml hown hts hK hT0 hZ (fun _ h => h) hS0 (c_X2_sizeOf l G Y P (o) hY u1) trivial wd_X2_sizeOf wV_X2_sizeOf wL_X2_39 (hY.o rfl) rfl rfl hl.1 rfl (Nat.le_of_ble_eq_true rfl) dX2_removeBelow_2 ⟨Nat.le_of_ble_eq_true rfl, Nat.le_of_ble_eq_true rfl⟩ ⟨Nat.zero_le _, Nat.zero_le _⟩ (fun r1 H1 locs hp1 hT1 hS1 hk1 => ?_)
  obtain ⟨hp1, he⟩ := hp1
  have he := he.symm
  subst he
  refine lv_istore_n (lv' := [(3, .int r1), (0, .ref (o)), (1, .int u1), (2, .int u2)]) hx hb dX2_removeBelow_5 rfl hl (by decide) rfl (fun ls hl => ?_)
  refine lv_iconst (v := 0) hx hb dX2_removeBelow_6 (by decide) ?_
  refine lv_istore (lv' := [(4, .int 0), (3, .int r1), (0, .ref (o)), (1, .int u1), (2, .int u2)]) hx hb dX2_removeBelow_7 hl (by decide) rfl (fun ls hl => ?_)
  refine lv_iconst (v := 0) hx hb dX2_removeBelow_9 (by decide) ?_
  refine lv_istore (lv' := [(5, .int 0), (4, .int 0), (3, .int r1), (0, .ref (o)), (1, .int u1), (2, .int u2)]) hx hb dX2_removeBelow_10 hl (by decide) rfl (fun ls hl => ?_)
  have LP1 : ∀ (n1 : Nat) (w1_5 w1_4 : Int32), 2147483647 - w1_5.toInt < (n1 : Int) → 0 ≤ w1_5.toInt → ∀ (H2 : Heap) (locs : List Loc) (ls : Array Slot), hT G Y H2 → va_S (h_A Y) s.heap H2 locs → lv_has ls 6 [(5, .int w1_5), (4, .int w1_4), (3, .int r1), (0, .ref (o)), (1, .int u1), (2, .int u2)] → W p l e (h_rm 1 22) s m args below meth c H2 locs 0 0 Q (F0 m 12 ls []) := by
    intro n1
    induction n1 with
    | zero =>
      intro w1_5 w1_4 hm
      exact absurd hm (by have := Int32.toInt_lt w1_5; have := Int32.le_toInt w1_5; omega)
    | succ n1 ih1 =>
      intro w1_5 w1_4 hm1 hz1 H2 locs ls hT2 hS2 hl
      refine lv_iload hx hb dX2_removeBelow_12 (lv_at hl 0 rfl) ?_
      refine lv_iload_n hx hb dX2_removeBelow_14 rfl (lv_at hl 2 rfl) ?_
      refine lv_icmp_ge (tgt := 60) hx hb dX2_removeBelow_15 (by decide) (fun c2 => ?_) (fun c2 => ?_)
      · skip
        refine lv_iload_n hx hb dX2_removeBelow_60 rfl (lv_at hl 4 rfl) ?_
        refine lv_if_lt (tgt := 78) hx hb dX2_removeBelow_61 (by decide) (fun c3 => ?_) (fun c3 => ?_)
        · skip
          refine lv_iload_n hx hb dX2_removeBelow_78 rfl (lv_at hl 2 rfl) ?_
          refine lv_iload hx hb dX2_removeBelow_79 (lv_at hl 1 rfl) ?_
          refine lv_isub hx hb dX2_removeBelow_81 ?_
          refine lv_topi (fun x4 ex4 => ?_)
          exact hret _ _ _ _ _ hT2 hS2 trivial dX2_removeBelow_82
        · skip
          refine lv_iload_n hx hb dX2_removeBelow_64 rfl (lv_at hl 4 rfl) ?_
          refine lv_bipush (v := 8) hx hb dX2_removeBelow_65 (by decide) ?_
          refine lv_icmp_ge (tgt := 78) hx hb dX2_removeBelow_67 (by decide) (fun c5 => ?_) (fun c5 => ?_)
          · skip
            refine lv_iload_n hx hb dX2_removeBelow_78 rfl (lv_at hl 2 rfl) ?_
            refine lv_iload hx hb dX2_removeBelow_79 (lv_at hl 1 rfl) ?_
            refine lv_isub hx hb dX2_removeBelow_81 ?_
            refine lv_topi (fun x6 ex6 => ?_)
            exact hret _ _ _ _ _ hT2 hS2 trivial dX2_removeBelow_82
          · skip
            refine lv_aload_n hx hb dX2_removeBelow_70 rfl (lv_at hl 3 rfl) ?_
            refine h_getr (C := RX2) (T := TX2) (N := 5) hx hb hts inX2 hown hK hT2 (hY.o rfl) rfl 4 rfl wF_X2_24 rfl dX2_removeBelow_71 ?_
            refine lv_iload_n hx hb dX2_removeBelow_74 rfl (lv_at hl 4 rfl) ?_
            refine lv_iload hx hb dX2_removeBelow_75 (lv_at hl 1 rfl) ?_
            refine h_iast hx hb hK hT2 (fun _ h => h) hS2 (hY.at 5 rfl) (vp_in_iff.mpr (by (try simp only [Int32.lt_iff_toInt_lt, Int32.le_iff_toInt_le, ← Int32.toInt_inj, Int32.reduceToInt, (show (-1 : Int32).toInt = -1 from rfl)] at c3 c5 ⊢); omega)) trivial dX2_removeBelow_77 (fun H3 locs hT3 hS3 hu3 => ?_)
            refine lv_iload_n hx hb dX2_removeBelow_78 rfl (lv_at hl 2 rfl) ?_
            refine lv_iload hx hb dX2_removeBelow_79 (lv_at hl 1 rfl) ?_
            refine lv_isub hx hb dX2_removeBelow_81 ?_
            refine lv_topi (fun x7 ex7 => ?_)
            exact hret _ _ _ _ _ hT3 hS3 trivial dX2_removeBelow_82
      · skip
        refine lv_aload_n hx hb dX2_removeBelow_18 rfl (lv_at hl 3 rfl) ?_
        refine lv_aload_n hx hb dX2_removeBelow_19 rfl (lv_at hl 3 rfl) ?_
        refine lv_iload_n hx hb dX2_removeBelow_20 rfl (lv_at hl 4 rfl) ?_
        refine lv_iload hx hb dX2_removeBelow_21 (lv_at hl 0 rfl) ?_
        refine h_callVi (T := TX2) (rest := [.ref (o)]) (As := [.int u1, .int w1_5]) hx hb hml hown hts hK hT2 hZ (fun _ h => h) hS2 (c_X2_slotAt l G Y P (o) hY u1 w1_5) trivial wd_X2_slotAt wV_X2_slotAt wL_X2_43 (hY.o rfl) rfl rfl hl.1 rfl (Nat.le_of_ble_eq_true rfl) dX2_removeBelow_23 ⟨Nat.le_of_ble_eq_true rfl, Nat.le_of_ble_eq_true rfl⟩ ⟨Nat.zero_le _, Nat.zero_le _⟩ (fun r8 H4 locs hp4 hT4 hS4 hk4 => ?_)
        obtain ⟨hp4, he⟩ := hp4
        have he := he.symm
        subst he
        refine h_callVi (T := TX2) (rest := []) (As := [.int r8]) hx hb hml hown hts hK hT2 hZ (fun _ h => h) hS4 (c_X2_rankIn l G Y P (o) hY r8) trivial wd_X2_rankIn wV_X2_rankIn wL_X2_51 (hY.o rfl) rfl rfl hl.1 rfl (Nat.le_of_ble_eq_true rfl) dX2_removeBelow_26 ⟨Nat.le_of_ble_eq_true rfl, Nat.le_of_ble_eq_true rfl⟩ ⟨Nat.zero_le _, Nat.zero_le _⟩ (fun r9 H5 locs hp5 hT5 hS5 hk5 => ?_)
        obtain ⟨hp5, he⟩ := hp5
        have he := he.symm
        subst he
        refine lv_iload_n hx hb dX2_removeBelow_29 rfl (lv_at hl 5 rfl) ?_
        refine lv_icmp_lt (tgt := 54) hx hb dX2_removeBelow_30 (by decide) (fun c10 => ?_) (fun c10 => ?_)
        · skip
          obtain ⟨x11, ex11⟩ : ∃ y : Int32, y = w1_5 + 1 := ⟨_, rfl⟩
          refine lv_iinc (v := x11) (lv' := [(5, .int x11), (4, .int w1_4), (3, .int r1), (0, .ref (o)), (1, .int u1), (2, .int u2)]) hx hb dX2_removeBelow_54 hl (k := 0) rfl (by rw [ex11]; rfl) (by decide) rfl (fun ls hl => ?_)
          refine lv_goto (tgt := 12) hx hb dX2_removeBelow_57 (by decide) ?_
          exact ih1 x11 w1_4 (h_dn hm1 ex11 (by first | exact h_lu c2 | exact h_lu2 c2 | ((try simp only [Int32.lt_iff_toInt_lt, Int32.le_iff_toInt_le, ← Int32.toInt_inj, Int32.reduceToInt, (show (-1 : Int32).toInt = -1 from rfl)] at c2 ⊢); omega))) (h_nn hz1 ex11 (by first | exact h_lu c2 | exact h_lu2 c2 | ((try simp only [Int32.lt_iff_toInt_lt, Int32.le_iff_toInt_le, ← Int32.toInt_inj, Int32.reduceToInt, (show (-1 : Int32).toInt = -1 from rfl)] at c2 ⊢); omega))) _ _ _ hT2 hS5 (lv_sub hl [0, 1, 2, 3, 4, 5] rfl)
        · skip
          refine lv_aload_n hx hb dX2_removeBelow_33 rfl (lv_at hl 3 rfl) ?_
          refine lv_aload_n hx hb dX2_removeBelow_34 rfl (lv_at hl 3 rfl) ?_
          refine lv_iload_n hx hb dX2_removeBelow_35 rfl (lv_at hl 4 rfl) ?_
          refine lv_iload hx hb dX2_removeBelow_36 (lv_at hl 0 rfl) ?_
          refine h_callVi (T := TX2) (rest := [.ref (o)]) (As := [.int u1, .int w1_5]) hx hb hml hown hts hK hT2 hZ (fun _ h => h) hS5 (c_X2_slotAt l G Y P (o) hY u1 w1_5) trivial wd_X2_slotAt wV_X2_slotAt wL_X2_43 (hY.o rfl) rfl rfl hl.1 rfl (Nat.le_of_ble_eq_true rfl) dX2_removeBelow_38 ⟨Nat.le_of_ble_eq_true rfl, Nat.le_of_ble_eq_true rfl⟩ ⟨Nat.zero_le _, Nat.zero_le _⟩ (fun r12 H6 locs hp6 hT6 hS6 hk6 => ?_)
          obtain ⟨hp6, he⟩ := hp6
          have he := he.symm
          subst he
          refine lv_aload_n hx hb dX2_removeBelow_41 rfl (lv_at hl 3 rfl) ?_
          refine lv_iload_n hx hb dX2_removeBelow_42 rfl (lv_at hl 4 rfl) ?_
          refine lv_iload hx hb dX2_removeBelow_43 (lv_at hl 1 rfl) ?_
          refine h_callVi (T := TX2) (rest := [.int r12, .ref (o)]) (As := [.int u1, .int w1_4]) hx hb hml hown hts hK hT2 hZ (fun _ h => h) hS6 (c_X2_slotAt l G Y P (o) hY u1 w1_4) trivial wd_X2_slotAt wV_X2_slotAt wL_X2_43 (hY.o rfl) rfl rfl hl.1 rfl (Nat.le_of_ble_eq_true rfl) dX2_removeBelow_45 ⟨Nat.le_of_ble_eq_true rfl, Nat.le_of_ble_eq_true rfl⟩ ⟨Nat.zero_le _, Nat.zero_le _⟩ (fun r13 H7 locs hp7 hT7 hS7 hk7 => ?_)
          obtain ⟨hp7, he⟩ := hp7
          have he := he.symm
          subst he
          refine h_callVv (T := TX2) (rest := []) (As := [.int r12, .int r13]) hx hb hml hown hts hK hT2 hZ (fun _ h => h) hS7 (c_X2_moveSlot l G Y P (o) hY r12 r13) trivial wd_X2_moveSlot wV_X2_moveSlot wL_X2_60 (hY.o rfl) rfl rfl hl.1 rfl (Nat.le_of_ble_eq_true rfl) dX2_removeBelow_48 ⟨Nat.le_of_ble_eq_true rfl, Nat.le_of_ble_eq_true rfl⟩ ⟨Nat.zero_le _, Nat.zero_le _⟩ (fun H8 locs hp8 hT8 hS8 hk8 => ?_)
          obtain ⟨x14, ex14⟩ : ∃ y : Int32, y = w1_4 + 1 := ⟨_, rfl⟩
          refine lv_iinc (v := x14) (lv' := [(4, .int x14), (5, .int w1_5), (3, .int r1), (0, .ref (o)), (1, .int u1), (2, .int u2)]) hx hb dX2_removeBelow_51 hl (k := 1) rfl (by rw [ex14]; rfl) (by decide) rfl (fun ls hl => ?_)
          obtain ⟨x15, ex15⟩ : ∃ y : Int32, y = w1_5 + 1 := ⟨_, rfl⟩
          refine lv_iinc (v := x15) (lv' := [(5, .int x15), (4, .int x14), (3, .int r1), (0, .ref (o)), (1, .int u1), (2, .int u2)]) hx hb dX2_removeBelow_54 hl (k := 1) rfl (by rw [ex15]; rfl) (by decide) rfl (fun ls hl => ?_)
          refine lv_goto (tgt := 12) hx hb dX2_removeBelow_57 (by decide) ?_
          exact ih1 x15 x14 (h_dn hm1 ex15 (by first | exact h_lu c2 | exact h_lu2 c2 | ((try simp only [Int32.lt_iff_toInt_lt, Int32.le_iff_toInt_le, ← Int32.toInt_inj, Int32.reduceToInt, (show (-1 : Int32).toInt = -1 from rfl)] at c2 ⊢); omega))) (h_nn hz1 ex15 (by first | exact h_lu c2 | exact h_lu2 c2 | ((try simp only [Int32.lt_iff_toInt_lt, Int32.le_iff_toInt_le, ← Int32.toInt_inj, Int32.reduceToInt, (show (-1 : Int32).toInt = -1 from rfl)] at c2 ⊢); omega))) _ _ _ hT8 hS8 (lv_sub hl [0, 1, 2, 3, 4, 5] rfl)
  exact LP1 4294967296 0 0 (h_m0 _) (by decide) _ _ _ hT0 hS1 (lv_sub hl [0, 1, 2, 3, 4, 5] rfl)
set_option maxHeartbeats 4000000 in
set_option maxRecDepth 100000 in
theorem c_X2_total (l : Launch) (G : hG) (Y : hW) (P : Int32 → Prop) (o : Nat) (hY : h_On Y o (quE (tC P) o)) : hMi l yX2_total cX2_total 3 (some .int) 0 0 G Y [.ref (o)] (fun H => True) (fun H r H1 => (True) ∧ H1 = H) := by
  refine h_ofi (by decide +kernel) (Nat.le_of_ble_eq_true rfl) ?_
  intro p e s m args below meth c H0 ls Q hx hb hts hown hml hK hZ hT0 hpr hS0 hl hret
  have hl : lv_has ls 3 [(0, .ref (o))] := hl
  refine lv_iconst (v := 0) hx hb dX2_total_0 (by decide) ?_
  refine lv_istore_n (lv' := [(1, .int 0), (0, .ref (o))]) hx hb dX2_total_1 rfl hl (by decide) rfl (fun ls hl => ?_)
  refine lv_iconst (v := 0) hx hb dX2_total_2 (by decide) ?_
  refine lv_istore_n (lv' := [(2, .int 0), (1, .int 0), (0, .ref (o))]) hx hb dX2_total_3 rfl hl (by decide) rfl (fun ls hl => ?_)
  have LP1 : ∀ (n1 : Nat) (w1_2 w1_1 : Int32), 2147483647 - w1_2.toInt < (n1 : Int) → 0 ≤ w1_2.toInt → ∀ (locs : List Loc) (ls : Array Slot), va_S (h_A Y) s.heap H0 locs → lv_has ls 3 [(2, .int w1_2), (1, .int w1_1), (0, .ref (o))] → W p l e (h_rm 0 0) s m args below meth c H0 locs 0 0 Q (F0 m 4 ls []) := by
    intro n1
    induction n1 with
    | zero =>
      intro w1_2 w1_1 hm
      exact absurd hm (by have := Int32.toInt_lt w1_2; have := Int32.le_toInt w1_2; omega)
    | succ n1 ih1 =>
      intro w1_2 w1_1 hm1 hz1 locs ls hS1 hl
      refine lv_iload_n hx hb dX2_total_4 rfl (lv_at hl 0 rfl) ?_
      refine lv_bipush (v := 8) hx hb dX2_total_5 (by decide) ?_
      refine lv_icmp_ge (tgt := 25) hx hb dX2_total_7 (by decide) (fun c1 => ?_) (fun c1 => ?_)
      · skip
        refine lv_iload_n hx hb dX2_total_25 rfl (lv_at hl 1 rfl) ?_
        exact hret _ _ _ _ _ hT0 hS1 ⟨trivial, rfl⟩ dX2_total_26
      · skip
        refine lv_iload_n hx hb dX2_total_10 rfl (lv_at hl 1 rfl) ?_
        refine lv_aload_n hx hb dX2_total_11 rfl (lv_at hl 2 rfl) ?_
        refine h_getr (C := RX2) (T := TX2) (N := 5) hx hb hts inX2 hown hK hT0 (hY.o rfl) rfl 4 rfl wF_X2_24 rfl dX2_total_12 ?_
        refine lv_iload_n hx hb dX2_total_15 rfl (lv_at hl 0 rfl) ?_
        refine h_iald hx hb hK hT0 (hY.at 5 rfl) (vp_in_iff.mpr (by (try simp only [Int32.lt_iff_toInt_lt, Int32.le_iff_toInt_le, ← Int32.toInt_inj, Int32.reduceToInt, (show (-1 : Int32).toInt = -1 from rfl)] at hz1 c1 ⊢); omega)) dX2_total_16 (fun p2 => ?_)
        refine lv_topi (fun x3 ex3 => ?_)
        refine lv_iadd hx hb dX2_total_17 ?_
        refine lv_topi (fun x4 ex4 => ?_)
        refine lv_istore_n (lv' := [(1, .int x4), (2, .int w1_2), (0, .ref (o))]) hx hb dX2_total_18 rfl hl (by decide) rfl (fun ls hl => ?_)
        obtain ⟨x5, ex5⟩ : ∃ y : Int32, y = w1_2 + 1 := ⟨_, rfl⟩
        refine lv_iinc (v := x5) (lv' := [(2, .int x5), (1, .int x4), (0, .ref (o))]) hx hb dX2_total_19 hl (k := 1) rfl (by rw [ex5]; rfl) (by decide) rfl (fun ls hl => ?_)
        refine lv_goto (tgt := 4) hx hb dX2_total_22 (by decide) ?_
        exact ih1 x5 x4 (h_dn hm1 ex5 (by first | exact h_lu c1 | exact h_lu2 c1 | ((try simp only [Int32.lt_iff_toInt_lt, Int32.le_iff_toInt_le, ← Int32.toInt_inj, Int32.reduceToInt, (show (-1 : Int32).toInt = -1 from rfl)] at c1 ⊢); omega))) (h_nn hz1 ex5 (by first | exact h_lu c1 | exact h_lu2 c1 | ((try simp only [Int32.lt_iff_toInt_lt, Int32.le_iff_toInt_le, ← Int32.toInt_inj, Int32.reduceToInt, (show (-1 : Int32).toInt = -1 from rfl)] at c1 ⊢); omega))) _ _ hS1 (lv_sub hl [0, 1, 2] rfl)
  exact LP1 4294967296 0 0 (h_m0 _) (by decide) _ _ hS0 (lv_sub hl [0, 1, 2] rfl)
set_option maxHeartbeats 4000000 in
set_option maxRecDepth 100000 in
theorem c_X2_totalOf (l : Launch) (G : hG) (Y : hW) (P : Int32 → Prop) (o : Nat) (hY : h_On Y o (quE (tC P) o)) (u1 : Int32) : hMi l yX2_totalOf cX2_totalOf 5 (some .int) 1 22 G Y [.ref (o), .int u1] (fun H => True) (fun H r H1 => (True) ∧ H1 = H) := by
  refine h_ofi (by decide +kernel) (Nat.le_of_ble_eq_true rfl) ?_
  intro p e s m args below meth c H0 ls Q hx hb hts hown hml hK hZ hT0 hpr hS0 hl hret
  have hl : lv_has ls 5 [(0, .ref (o)), (1, .int u1)] := hl
  refine lv_iconst (v := 0) hx hb dX2_totalOf_0 (by decide) ?_
  refine lv_istore_n (lv' := [(2, .int 0), (0, .ref (o)), (1, .int u1)]) hx hb dX2_totalOf_1 rfl hl (by decide) rfl (fun ls hl => ?_)
  refine lv_iconst (v := 0) hx hb dX2_totalOf_2 (by decide) ?_
  refine lv_istore_n (lv' := [(3, .int 0), (2, .int 0), (0, .ref (o)), (1, .int u1)]) hx hb dX2_totalOf_3 rfl hl (by decide) rfl (fun ls hl => ?_)
  have LP1 : ∀ (n1 : Nat) (w1_3 w1_2 : Int32), 2147483647 - w1_3.toInt < (n1 : Int) → 0 ≤ w1_3.toInt → ∀ (locs : List Loc) (ls : Array Slot), va_S (h_A Y) s.heap H0 locs → lv_has ls 5 [(3, .int w1_3), (2, .int w1_2), (0, .ref (o)), (1, .int u1)] → W p l e (h_rm 1 22) s m args below meth c H0 locs 0 0 Q (F0 m 4 ls []) := by
    intro n1
    induction n1 with
    | zero =>
      intro w1_3 w1_2 hm
      exact absurd hm (by have := Int32.toInt_lt w1_3; have := Int32.le_toInt w1_3; omega)
    | succ n1 ih1 =>
      intro w1_3 w1_2 hm1 hz1 locs ls hS1 hl
      refine lv_iload_n hx hb dX2_totalOf_4 rfl (lv_at hl 0 rfl) ?_
      refine lv_bipush (v := 8) hx hb dX2_totalOf_5 (by decide) ?_
      refine lv_icmp_ge (tgt := 54) hx hb dX2_totalOf_7 (by decide) (fun c1 => ?_) (fun c1 => ?_)
      · skip
        refine lv_iload_n hx hb dX2_totalOf_54 rfl (lv_at hl 1 rfl) ?_
        exact hret _ _ _ _ _ hT0 hS1 ⟨trivial, rfl⟩ dX2_totalOf_55
      · skip
        refine lv_iconst (v := 0) hx hb dX2_totalOf_10 (by decide) ?_
        refine lv_istore (lv' := [(4, .int 0), (3, .int w1_3), (2, .int w1_2), (0, .ref (o)), (1, .int u1)]) hx hb dX2_totalOf_11 hl (by decide) rfl (fun ls hl => ?_)
        have LP2 : ∀ (n2 : Nat) (w2_4 w2_2 : Int32), 2147483647 - w2_4.toInt < (n2 : Int) → 0 ≤ w2_4.toInt → ∀ (locs : List Loc) (ls : Array Slot), va_S (h_A Y) s.heap H0 locs → lv_has ls 5 [(4, .int w2_4), (3, .int w1_3), (2, .int w2_2), (0, .ref (o)), (1, .int u1)] → W p l e (h_rm 1 22) s m args below meth c H0 locs 0 0 Q (F0 m 13 ls []) := by
          intro n2
          induction n2 with
          | zero =>
            intro w2_4 w2_2 hm
            exact absurd hm (by have := Int32.toInt_lt w2_4; have := Int32.le_toInt w2_4; omega)
          | succ n2 ih2 =>
            intro w2_4 w2_2 hm2 hz2 locs ls hS2 hl
            refine lv_iload hx hb dX2_totalOf_13 (lv_at hl 0 rfl) ?_
            refine lv_aload_n hx hb dX2_totalOf_15 rfl (lv_at hl 3 rfl) ?_
            refine h_getr (C := RX2) (T := TX2) (N := 5) hx hb hts inX2 hown hK hT0 (hY.o rfl) rfl 4 rfl wF_X2_24 rfl dX2_totalOf_16 ?_
            refine lv_iload_n hx hb dX2_totalOf_19 rfl (lv_at hl 1 rfl) ?_
            refine h_iald hx hb hK hT0 (hY.at 5 rfl) (vp_in_iff.mpr (by (try simp only [Int32.lt_iff_toInt_lt, Int32.le_iff_toInt_le, ← Int32.toInt_inj, Int32.reduceToInt, (show (-1 : Int32).toInt = -1 from rfl)] at hz1 c1 ⊢); omega)) dX2_totalOf_20 (fun p2 => ?_)
            refine lv_topi (fun x3 ex3 => ?_)
            refine lv_icmp_ge (tgt := 48) hx hb dX2_totalOf_21 (by decide) (fun c4 => ?_) (fun c4 => ?_)
            · skip
              obtain ⟨x5, ex5⟩ : ∃ y : Int32, y = w1_3 + 1 := ⟨_, rfl⟩
              refine lv_iinc (v := x5) (lv' := [(3, .int x5), (4, .int w2_4), (2, .int w2_2), (0, .ref (o)), (1, .int u1)]) hx hb dX2_totalOf_48 hl (k := 1) rfl (by rw [ex5]; rfl) (by decide) rfl (fun ls hl => ?_)
              refine lv_goto (tgt := 4) hx hb dX2_totalOf_51 (by decide) ?_
              exact ih1 x5 w2_2 (h_dn hm1 ex5 (by first | exact h_lu c1 | exact h_lu2 c1 | ((try simp only [Int32.lt_iff_toInt_lt, Int32.le_iff_toInt_le, ← Int32.toInt_inj, Int32.reduceToInt, (show (-1 : Int32).toInt = -1 from rfl)] at c1 ⊢); omega))) (h_nn hz1 ex5 (by first | exact h_lu c1 | exact h_lu2 c1 | ((try simp only [Int32.lt_iff_toInt_lt, Int32.le_iff_toInt_le, ← Int32.toInt_inj, Int32.reduceToInt, (show (-1 : Int32).toInt = -1 from rfl)] at c1 ⊢); omega))) _ _ hS2 (lv_sub hl [0, 2, 3, 4] rfl)
            · skip
              refine lv_aload_n hx hb dX2_totalOf_24 rfl (lv_at hl 3 rfl) ?_
              refine lv_aload_n hx hb dX2_totalOf_25 rfl (lv_at hl 3 rfl) ?_
              refine lv_iload_n hx hb dX2_totalOf_26 rfl (lv_at hl 1 rfl) ?_
              refine lv_iload hx hb dX2_totalOf_27 (lv_at hl 0 rfl) ?_
              refine h_callVi (T := TX2) (rest := [.ref (o)]) (As := [.int w1_3, .int w2_4]) hx hb hml hown hts hK hT0 hZ (fun _ h => h) hS2 (c_X2_slotAt l G Y P (o) hY w1_3 w2_4) trivial wd_X2_slotAt wV_X2_slotAt wL_X2_43 (hY.o rfl) rfl rfl hl.1 rfl (Nat.le_of_ble_eq_true rfl) dX2_totalOf_29 ⟨Nat.le_of_ble_eq_true rfl, Nat.le_of_ble_eq_true rfl⟩ ⟨Nat.zero_le _, Nat.zero_le _⟩ (fun r6 H3 locs hp3 hT3 hS3 hk3 => ?_)
              obtain ⟨hp3, he⟩ := hp3
              have he := he.symm
              subst he
              refine h_callVi (T := TX2) (rest := []) (As := [.int r6]) hx hb hml hown hts hK hT0 hZ (fun _ h => h) hS3 (c_X2_rankIn l G Y P (o) hY r6) trivial wd_X2_rankIn wV_X2_rankIn wL_X2_51 (hY.o rfl) rfl rfl hl.1 rfl (Nat.le_of_ble_eq_true rfl) dX2_totalOf_32 ⟨Nat.le_of_ble_eq_true rfl, Nat.le_of_ble_eq_true rfl⟩ ⟨Nat.zero_le _, Nat.zero_le _⟩ (fun r7 H4 locs hp4 hT4 hS4 hk4 => ?_)
              obtain ⟨hp4, he⟩ := hp4
              have he := he.symm
              subst he
              refine lv_iload_n hx hb dX2_totalOf_35 rfl (lv_at hl 4 rfl) ?_
              refine lv_icmp_ne (tgt := 42) hx hb dX2_totalOf_36 (by decide) (fun c8 => ?_) (fun c8 => ?_)
              · skip
                obtain ⟨x9, ex9⟩ : ∃ y : Int32, y = w2_4 + 1 := ⟨_, rfl⟩
                refine lv_iinc (v := x9) (lv' := [(4, .int x9), (3, .int w1_3), (2, .int w2_2), (0, .ref (o)), (1, .int u1)]) hx hb dX2_totalOf_42 hl (k := 0) rfl (by rw [ex9]; rfl) (by decide) rfl (fun ls hl => ?_)
                refine lv_goto (tgt := 13) hx hb dX2_totalOf_45 (by decide) ?_
                exact ih2 x9 w2_2 (h_dn hm2 ex9 (by first | exact h_lu c4 | exact h_lu2 c4 | ((try simp only [Int32.lt_iff_toInt_lt, Int32.le_iff_toInt_le, ← Int32.toInt_inj, Int32.reduceToInt, (show (-1 : Int32).toInt = -1 from rfl)] at c4 ⊢); omega))) (h_nn hz2 ex9 (by first | exact h_lu c4 | exact h_lu2 c4 | ((try simp only [Int32.lt_iff_toInt_lt, Int32.le_iff_toInt_le, ← Int32.toInt_inj, Int32.reduceToInt, (show (-1 : Int32).toInt = -1 from rfl)] at c4 ⊢); omega))) _ _ hS4 (lv_sub hl [0, 1, 2, 3, 4] rfl)
              · skip
                obtain ⟨x10, ex10⟩ : ∃ y : Int32, y = w2_2 + 1 := ⟨_, rfl⟩
                refine lv_iinc (v := x10) (lv' := [(2, .int x10), (4, .int w2_4), (3, .int w1_3), (0, .ref (o)), (1, .int u1)]) hx hb dX2_totalOf_39 hl (k := 2) rfl (by rw [ex10]; rfl) (by decide) rfl (fun ls hl => ?_)
                obtain ⟨x11, ex11⟩ : ∃ y : Int32, y = w2_4 + 1 := ⟨_, rfl⟩
                refine lv_iinc (v := x11) (lv' := [(4, .int x11), (2, .int x10), (3, .int w1_3), (0, .ref (o)), (1, .int u1)]) hx hb dX2_totalOf_42 hl (k := 1) rfl (by rw [ex11]; rfl) (by decide) rfl (fun ls hl => ?_)
                refine lv_goto (tgt := 13) hx hb dX2_totalOf_45 (by decide) ?_
                exact ih2 x11 x10 (h_dn hm2 ex11 (by first | exact h_lu c4 | exact h_lu2 c4 | ((try simp only [Int32.lt_iff_toInt_lt, Int32.le_iff_toInt_le, ← Int32.toInt_inj, Int32.reduceToInt, (show (-1 : Int32).toInt = -1 from rfl)] at c4 ⊢); omega))) (h_nn hz2 ex11 (by first | exact h_lu c4 | exact h_lu2 c4 | ((try simp only [Int32.lt_iff_toInt_lt, Int32.le_iff_toInt_le, ← Int32.toInt_inj, Int32.reduceToInt, (show (-1 : Int32).toInt = -1 from rfl)] at c4 ⊢); omega))) _ _ hS4 (lv_sub hl [0, 2, 1, 3, 4] rfl)
        exact LP2 4294967296 0 w1_2 (h_m0 _) (by decide) _ _ hS1 (lv_sub hl [0, 1, 2, 3, 4] rfl)
  exact LP1 4294967296 0 0 (h_m0 _) (by decide) _ _ hS0 (lv_sub hl [0, 1, 2, 3] rfl)
set_option maxHeartbeats 4000000 in
set_option maxRecDepth 100000 in
theorem c_X3_depthOf (l : Launch) (G : hG) (Y : hW) (P : Int32 → Prop) (o : Nat) (hY : h_On Y o (raE (tC P) o)) (u1 : Int32) : hMi l yX3_depthOf cX3_depthOf 2 (some .int) 0 0 G Y [.ref (o), .int u1] (fun H => True) (fun H r H1 => ((0 < r.toInt → 0 ≤ u1.toInt ∧ u1.toInt < 8)) ∧ H1 = H) := by
  refine h_ofi (by decide +kernel) (Nat.le_of_ble_eq_true rfl) ?_
  intro p e s m args below meth c H0 ls Q hx hb hts hown hml hK hZ hT0 hpr hS0 hl hret
  have hl : lv_has ls 2 [(0, .ref (o)), (1, .int u1)] := hl
  refine lv_iload_n hx hb dX3_depthOf_0 rfl (lv_at hl 1 rfl) ?_
  refine lv_if_lt (tgt := 19) hx hb dX3_depthOf_1 (by decide) (fun c1 => ?_) (fun c1 => ?_)
  · skip
    refine lv_iconst (v := 0) hx hb dX3_depthOf_19 (by decide) ?_
    exact hret _ _ _ _ _ hT0 hS0 ⟨(fun h => absurd h (by decide)), rfl⟩ dX3_depthOf_20
  · skip
    refine lv_iload_n hx hb dX3_depthOf_4 rfl (lv_at hl 1 rfl) ?_
    refine lv_bipush (v := 8) hx hb dX3_depthOf_5 (by decide) ?_
    refine lv_icmp_ge (tgt := 19) hx hb dX3_depthOf_7 (by decide) (fun c2 => ?_) (fun c2 => ?_)
    · skip
      refine lv_iconst (v := 0) hx hb dX3_depthOf_19 (by decide) ?_
      exact hret _ _ _ _ _ hT0 hS0 ⟨(fun h => absurd h (by decide)), rfl⟩ dX3_depthOf_20
    · skip
      refine lv_aload_n hx hb dX3_depthOf_10 rfl (lv_at hl 0 rfl) ?_
      refine h_getr (C := RX3) (T := TX3) (N := 3) hx hb hts inX3 hown hK hT0 (hY.o rfl) rfl 2 rfl wF_X3_18 rfl dX3_depthOf_11 ?_
      refine lv_iload_n hx hb dX3_depthOf_14 rfl (lv_at hl 1 rfl) ?_
      refine h_iald hx hb hK hT0 (hY.at 3 rfl) (vp_in_iff.mpr (by (try simp only [Int32.lt_iff_toInt_lt, Int32.le_iff_toInt_le, ← Int32.toInt_inj, Int32.reduceToInt, (show (-1 : Int32).toInt = -1 from rfl)] at c1 c2 ⊢); omega)) dX3_depthOf_15 (fun p3 => ?_)
      refine lv_topi (fun x4 ex4 => ?_)
      refine lv_goto (tgt := 20) hx hb dX3_depthOf_16 (by decide) ?_
      exact hret _ _ _ _ _ hT0 hS0 ⟨(fun _ => by refine ⟨?_, ?_⟩ <;> ((try simp only [Int32.lt_iff_toInt_lt, Int32.le_iff_toInt_le, ← Int32.toInt_inj, Int32.reduceToInt, (show (-1 : Int32).toInt = -1 from rfl)] at c1 c2 ⊢); omega)), rfl⟩ dX3_depthOf_20
set_option maxHeartbeats 4000000 in
set_option maxRecDepth 100000 in
theorem c_X3_placeOf (l : Launch) (G : hG) (Y : hW) (P : Int32 → Prop) (o : Nat) (hY : h_On Y o (raE (tC P) o)) (u1 u2 : Int32) : hMi l yX3_placeOf cX3_placeOf 3 (some .int) 0 0 G Y [.ref (o), .int u1, .int u2] (fun H => True) (fun H r H1 => (True) ∧ H1 = H) := by
  refine h_ofi (by decide +kernel) (Nat.le_of_ble_eq_true rfl) ?_
  intro p e s m args below meth c H0 ls Q hx hb hts hown hml hK hZ hT0 hpr hS0 hl hret
  have hl : lv_has ls 3 [(0, .ref (o)), (1, .int u1), (2, .int u2)] := hl
  refine lv_iload_n hx hb dX3_placeOf_0 rfl (lv_at hl 1 rfl) ?_
  refine lv_if_lt (tgt := 24) hx hb dX3_placeOf_1 (by decide) (fun c1 => ?_) (fun c1 => ?_)
  · skip
    refine lv_iconst (v := (-1)) hx hb dX3_placeOf_24 (by decide) ?_
    exact hret _ _ _ _ _ hT0 hS0 ⟨trivial, rfl⟩ dX3_placeOf_25
  · skip
    refine lv_iload_n hx hb dX3_placeOf_4 rfl (lv_at hl 1 rfl) ?_
    refine lv_bipush (v := 8) hx hb dX3_placeOf_5 (by decide) ?_
    refine lv_icmp_ge (tgt := 24) hx hb dX3_placeOf_7 (by decide) (fun c2 => ?_) (fun c2 => ?_)
    · skip
      refine lv_iconst (v := (-1)) hx hb dX3_placeOf_24 (by decide) ?_
      exact hret _ _ _ _ _ hT0 hS0 ⟨trivial, rfl⟩ dX3_placeOf_25
    · skip
      refine lv_iload_n hx hb dX3_placeOf_10 rfl (lv_at hl 2 rfl) ?_
      refine lv_if_lt (tgt := 24) hx hb dX3_placeOf_11 (by decide) (fun c3 => ?_) (fun c3 => ?_)
      · skip
        refine lv_iconst (v := (-1)) hx hb dX3_placeOf_24 (by decide) ?_
        exact hret _ _ _ _ _ hT0 hS0 ⟨trivial, rfl⟩ dX3_placeOf_25
      · skip
        refine lv_iload_n hx hb dX3_placeOf_14 rfl (lv_at hl 2 rfl) ?_
        refine lv_aload_n hx hb dX3_placeOf_15 rfl (lv_at hl 0 rfl) ?_
        refine h_getr (C := RX3) (T := TX3) (N := 3) hx hb hts inX3 hown hK hT0 (hY.o rfl) rfl 2 rfl wF_X3_18 rfl dX3_placeOf_16 ?_
        refine lv_iload_n hx hb dX3_placeOf_19 rfl (lv_at hl 1 rfl) ?_
        refine h_iald hx hb hK hT0 (hY.at 3 rfl) (vp_in_iff.mpr (by (try simp only [Int32.lt_iff_toInt_lt, Int32.le_iff_toInt_le, ← Int32.toInt_inj, Int32.reduceToInt, (show (-1 : Int32).toInt = -1 from rfl)] at c1 c2 ⊢); omega)) dX3_placeOf_20 (fun p4 => ?_)
        refine lv_topi (fun x5 ex5 => ?_)
        refine lv_icmp_lt (tgt := 26) hx hb dX3_placeOf_21 (by decide) (fun c6 => ?_) (fun c6 => ?_)
        · skip
          refine lv_iload_n hx hb dX3_placeOf_26 rfl (lv_at hl 1 rfl) ?_
          refine lv_bipush (v := 8) hx hb dX3_placeOf_27 (by decide) ?_
          refine lv_imul hx hb dX3_placeOf_29 ?_
          obtain ⟨j7, hj7, qj7⟩ := h_toN (n := 8) (x := u1) (by (try simp only [Int32.lt_iff_toInt_lt, Int32.le_iff_toInt_le, ← Int32.toInt_inj, Int32.reduceToInt, (show (-1 : Int32).toInt = -1 from rfl)] at c1 c2 ⊢); omega) (by (try simp only [Int32.lt_iff_toInt_lt, Int32.le_iff_toInt_le, ← Int32.toInt_inj, Int32.reduceToInt, (show (-1 : Int32).toInt = -1 from rfl)] at c1 c2 ⊢); omega)
          refine h_top (v := (nI (j7 * 8))) (by rw [qj7]; exact h_nmul j7 8) ?_
          refine lv_aload_n hx hb dX3_placeOf_30 rfl (lv_at hl 0 rfl) ?_
          refine h_getr (C := RX3) (T := TX3) (N := 3) hx hb hts inX3 hown hK hT0 (hY.o rfl) rfl 2 rfl wF_X3_18 rfl dX3_placeOf_31 ?_
          refine lv_iload_n hx hb dX3_placeOf_34 rfl (lv_at hl 1 rfl) ?_
          refine h_iald hx hb hK hT0 (hY.at 3 rfl) (vp_in_iff.mpr (by (try simp only [Int32.lt_iff_toInt_lt, Int32.le_iff_toInt_le, ← Int32.toInt_inj, Int32.reduceToInt, (show (-1 : Int32).toInt = -1 from rfl)] at c1 c2 ⊢); omega)) dX3_placeOf_35 (fun p8 => ?_)
          refine h_top (v := x5) ex5.symm ?_
          refine lv_iadd hx hb dX3_placeOf_36 ?_
          refine lv_topi (fun x9 ex9 => ?_)
          refine lv_iconst (v := 1) hx hb dX3_placeOf_37 (by decide) ?_
          refine lv_isub hx hb dX3_placeOf_38 ?_
          refine lv_topi (fun x10 ex10 => ?_)
          refine lv_iload_n hx hb dX3_placeOf_39 rfl (lv_at hl 2 rfl) ?_
          refine lv_isub hx hb dX3_placeOf_40 ?_
          refine lv_topi (fun x11 ex11 => ?_)
          exact hret _ _ _ _ _ hT0 hS0 ⟨trivial, rfl⟩ dX3_placeOf_41
        · skip
          refine lv_iconst (v := (-1)) hx hb dX3_placeOf_24 (by decide) ?_
          exact hret _ _ _ _ _ hT0 hS0 ⟨trivial, rfl⟩ dX3_placeOf_25
set_option maxHeartbeats 4000000 in
set_option maxRecDepth 100000 in
theorem c_X3_oldAt (l : Launch) (G : hG) (Y : hW) (P : Int32 → Prop) (o : Nat) (hY : h_On Y o (raE (tC P) o)) (u1 u2 : Int32) : hMi l yX3_oldAt cX3_oldAt 4 (some .int) 1 22 G Y [.ref (o), .int u1, .int u2] (fun H => True) (fun H r H1 => (True) ∧ H1 = H) := by
  refine h_ofi (by decide +kernel) (Nat.le_of_ble_eq_true rfl) ?_
  intro p e s m args below meth c H0 ls Q hx hb hts hown hml hK hZ hT0 hpr hS0 hl hret
  have hl : lv_has ls 4 [(0, .ref (o)), (1, .int u1), (2, .int u2)] := hl
  refine lv_aload_n hx hb dX3_oldAt_0 rfl (lv_at hl 0 rfl) ?_
  refine lv_iload_n hx hb dX3_oldAt_1 rfl (lv_at hl 1 rfl) ?_
  refine lv_iload_n hx hb dX3_oldAt_2 rfl (lv_at hl 2 rfl) ?_
  refine h_callVi (T := TX3) (rest := []) (As := [.int u1, .int u2]) hx hb hml hown hts hK hT0 hZ (fun _ h => h) hS0 (c_X3_placeOf l G Y P (o) hY u1 u2) trivial wd_X3_placeOf wV_X3_placeOf wL_X3_33 (hY.o rfl) rfl rfl hl.1 rfl (Nat.le_of_ble_eq_true rfl) dX3_oldAt_3 ⟨Nat.le_of_ble_eq_true rfl, Nat.le_of_ble_eq_true rfl⟩ ⟨Nat.zero_le _, Nat.zero_le _⟩ (fun r1 H1 locs hp1 hT1 hS1 hk1 => ?_)
  obtain ⟨hp1, he⟩ := hp1
  have he := he.symm
  subst he
  refine lv_istore_n (lv' := [(3, .int r1), (0, .ref (o)), (1, .int u1), (2, .int u2)]) hx hb dX3_oldAt_6 rfl hl (by decide) rfl (fun ls hl => ?_)
  refine lv_iload_n hx hb dX3_oldAt_7 rfl (lv_at hl 0 rfl) ?_
  refine lv_if_lt (tgt := 29) hx hb dX3_oldAt_8 (by decide) (fun c2 => ?_) (fun c2 => ?_)
  · skip
    refine lv_iconst (v := (-1)) hx hb dX3_oldAt_29 (by decide) ?_
    exact hret _ _ _ _ _ hT0 hS1 ⟨trivial, rfl⟩ dX3_oldAt_30
  · skip
    refine lv_iload_n hx hb dX3_oldAt_11 rfl (lv_at hl 0 rfl) ?_
    refine lv_aload_n hx hb dX3_oldAt_12 rfl (lv_at hl 1 rfl) ?_
    refine h_getr (C := RX3) (T := TX3) (N := 3) hx hb hts inX3 hown hK hT0 (hY.o rfl) rfl 0 rfl wF_X3_9 rfl dX3_oldAt_13 ?_
    refine h_alen (v := 64) hx hb hK hT0 (by decide) (hY.at 1 rfl) rfl dX3_oldAt_16 ?_
    refine lv_icmp_ge (tgt := 29) hx hb dX3_oldAt_17 (by decide) (fun c3 => ?_) (fun c3 => ?_)
    · skip
      refine lv_iconst (v := (-1)) hx hb dX3_oldAt_29 (by decide) ?_
      exact hret _ _ _ _ _ hT0 hS1 ⟨trivial, rfl⟩ dX3_oldAt_30
    · skip
      refine lv_aload_n hx hb dX3_oldAt_20 rfl (lv_at hl 1 rfl) ?_
      refine h_getr (C := RX3) (T := TX3) (N := 3) hx hb hts inX3 hown hK hT0 (hY.o rfl) rfl 0 rfl wF_X3_9 rfl dX3_oldAt_21 ?_
      refine lv_iload_n hx hb dX3_oldAt_24 rfl (lv_at hl 0 rfl) ?_
      refine h_iald hx hb hK hT0 (hY.at 1 rfl) (vp_in_iff.mpr (by (try simp only [Int32.lt_iff_toInt_lt, Int32.le_iff_toInt_le, ← Int32.toInt_inj, Int32.reduceToInt, (show (-1 : Int32).toInt = -1 from rfl)] at c2 c3 ⊢); omega)) dX3_oldAt_25 (fun p4 => ?_)
      refine lv_topi (fun x5 ex5 => ?_)
      refine lv_goto (tgt := 30) hx hb dX3_oldAt_26 (by decide) ?_
      exact hret _ _ _ _ _ hT0 hS1 ⟨trivial, rfl⟩ dX3_oldAt_30
set_option maxHeartbeats 4000000 in
set_option maxRecDepth 100000 in
theorem c_X3_newAt (l : Launch) (G : hG) (Y : hW) (P : Int32 → Prop) (o : Nat) (hY : h_On Y o (raE (tC P) o)) (u1 u2 : Int32) : hMi l yX3_newAt cX3_newAt 4 (some .int) 1 22 G Y [.ref (o), .int u1, .int u2] (fun H => True) (fun H r H1 => (True) ∧ H1 = H) := by
  refine h_ofi (by decide +kernel) (Nat.le_of_ble_eq_true rfl) ?_
  intro p e s m args below meth c H0 ls Q hx hb hts hown hml hK hZ hT0 hpr hS0 hl hret
  have hl : lv_has ls 4 [(0, .ref (o)), (1, .int u1), (2, .int u2)] := hl
  refine lv_aload_n hx hb dX3_newAt_0 rfl (lv_at hl 0 rfl) ?_
  refine lv_iload_n hx hb dX3_newAt_1 rfl (lv_at hl 1 rfl) ?_
  refine lv_iload_n hx hb dX3_newAt_2 rfl (lv_at hl 2 rfl) ?_
  refine h_callVi (T := TX3) (rest := []) (As := [.int u1, .int u2]) hx hb hml hown hts hK hT0 hZ (fun _ h => h) hS0 (c_X3_placeOf l G Y P (o) hY u1 u2) trivial wd_X3_placeOf wV_X3_placeOf wL_X3_33 (hY.o rfl) rfl rfl hl.1 rfl (Nat.le_of_ble_eq_true rfl) dX3_newAt_3 ⟨Nat.le_of_ble_eq_true rfl, Nat.le_of_ble_eq_true rfl⟩ ⟨Nat.zero_le _, Nat.zero_le _⟩ (fun r1 H1 locs hp1 hT1 hS1 hk1 => ?_)
  obtain ⟨hp1, he⟩ := hp1
  have he := he.symm
  subst he
  refine lv_istore_n (lv' := [(3, .int r1), (0, .ref (o)), (1, .int u1), (2, .int u2)]) hx hb dX3_newAt_6 rfl hl (by decide) rfl (fun ls hl => ?_)
  refine lv_iload_n hx hb dX3_newAt_7 rfl (lv_at hl 0 rfl) ?_
  refine lv_if_lt (tgt := 29) hx hb dX3_newAt_8 (by decide) (fun c2 => ?_) (fun c2 => ?_)
  · skip
    refine lv_iconst (v := (-1)) hx hb dX3_newAt_29 (by decide) ?_
    exact hret _ _ _ _ _ hT0 hS1 ⟨trivial, rfl⟩ dX3_newAt_30
  · skip
    refine lv_iload_n hx hb dX3_newAt_11 rfl (lv_at hl 0 rfl) ?_
    refine lv_aload_n hx hb dX3_newAt_12 rfl (lv_at hl 1 rfl) ?_
    refine h_getr (C := RX3) (T := TX3) (N := 3) hx hb hts inX3 hown hK hT0 (hY.o rfl) rfl 1 rfl wF_X3_15 rfl dX3_newAt_13 ?_
    refine h_alen (v := 64) hx hb hK hT0 (by decide) (hY.at 2 rfl) rfl dX3_newAt_16 ?_
    refine lv_icmp_ge (tgt := 29) hx hb dX3_newAt_17 (by decide) (fun c3 => ?_) (fun c3 => ?_)
    · skip
      refine lv_iconst (v := (-1)) hx hb dX3_newAt_29 (by decide) ?_
      exact hret _ _ _ _ _ hT0 hS1 ⟨trivial, rfl⟩ dX3_newAt_30
    · skip
      refine lv_aload_n hx hb dX3_newAt_20 rfl (lv_at hl 1 rfl) ?_
      refine h_getr (C := RX3) (T := TX3) (N := 3) hx hb hts inX3 hown hK hT0 (hY.o rfl) rfl 1 rfl wF_X3_15 rfl dX3_newAt_21 ?_
      refine lv_iload_n hx hb dX3_newAt_24 rfl (lv_at hl 0 rfl) ?_
      refine h_iald hx hb hK hT0 (hY.at 2 rfl) (vp_in_iff.mpr (by (try simp only [Int32.lt_iff_toInt_lt, Int32.le_iff_toInt_le, ← Int32.toInt_inj, Int32.reduceToInt, (show (-1 : Int32).toInt = -1 from rfl)] at c2 c3 ⊢); omega)) dX3_newAt_25 (fun p4 => ?_)
      refine lv_topi (fun x5 ex5 => ?_)
      refine lv_goto (tgt := 30) hx hb dX3_newAt_26 (by decide) ?_
      exact hret _ _ _ _ _ hT0 hS1 ⟨trivial, rfl⟩ dX3_newAt_30
set_option maxHeartbeats 4000000 in
set_option maxRecDepth 100000 in
theorem c_X3_setTopNew (l : Launch) (G : hG) (Y : hW) (P : Int32 → Prop) (o : Nat) (hY : h_On Y o (raE (tC P) o)) (u1 u2 : Int32) : hMv l yX3_setTopNew cX3_setTopNew 4 none 1 22 G Y [.ref (o), .int u1, .int u2] (fun H => True) (fun H H1 => True) := by
  refine h_ofv (by decide +kernel) (Nat.le_of_ble_eq_true rfl) ?_
  intro p e s m args below meth c H0 ls Q hx hb hts hown hml hK hZ hT0 hpr hS0 hl hret
  have hl : lv_has ls 4 [(0, .ref (o)), (1, .int u1), (2, .int u2)] := hl
  refine lv_aload_n hx hb dX3_setTopNew_0 rfl (lv_at hl 0 rfl) ?_
  refine lv_iload_n hx hb dX3_setTopNew_1 rfl (lv_at hl 1 rfl) ?_
  refine lv_iconst (v := 0) hx hb dX3_setTopNew_2 (by decide) ?_
  refine h_callVi (T := TX3) (rest := []) (As := [.int u1, .int 0]) hx hb hml hown hts hK hT0 hZ (fun _ h => h) hS0 (c_X3_placeOf l G Y P (o) hY u1 0) trivial wd_X3_placeOf wV_X3_placeOf wL_X3_33 (hY.o rfl) rfl rfl hl.1 rfl (Nat.le_of_ble_eq_true rfl) dX3_setTopNew_3 ⟨Nat.le_of_ble_eq_true rfl, Nat.le_of_ble_eq_true rfl⟩ ⟨Nat.zero_le _, Nat.zero_le _⟩ (fun r1 H1 locs hp1 hT1 hS1 hk1 => ?_)
  obtain ⟨hp1, he⟩ := hp1
  have he := he.symm
  subst he
  refine lv_istore_n (lv' := [(3, .int r1), (0, .ref (o)), (1, .int u1), (2, .int u2)]) hx hb dX3_setTopNew_6 rfl hl (by decide) rfl (fun ls hl => ?_)
  refine lv_iload_n hx hb dX3_setTopNew_7 rfl (lv_at hl 0 rfl) ?_
  refine lv_if_lt (tgt := 27) hx hb dX3_setTopNew_8 (by decide) (fun c2 => ?_) (fun c2 => ?_)
  · skip
    exact hret _ _ _ _ hT0 hS1 trivial dX3_setTopNew_27
  · skip
    refine lv_iload_n hx hb dX3_setTopNew_11 rfl (lv_at hl 0 rfl) ?_
    refine lv_aload_n hx hb dX3_setTopNew_12 rfl (lv_at hl 1 rfl) ?_
    refine h_getr (C := RX3) (T := TX3) (N := 3) hx hb hts inX3 hown hK hT0 (hY.o rfl) rfl 1 rfl wF_X3_15 rfl dX3_setTopNew_13 ?_
    refine h_alen (v := 64) hx hb hK hT0 (by decide) (hY.at 2 rfl) rfl dX3_setTopNew_16 ?_
    refine lv_icmp_ge (tgt := 27) hx hb dX3_setTopNew_17 (by decide) (fun c3 => ?_) (fun c3 => ?_)
    · skip
      exact hret _ _ _ _ hT0 hS1 trivial dX3_setTopNew_27
    · skip
      refine lv_aload_n hx hb dX3_setTopNew_20 rfl (lv_at hl 1 rfl) ?_
      refine h_getr (C := RX3) (T := TX3) (N := 3) hx hb hts inX3 hown hK hT0 (hY.o rfl) rfl 1 rfl wF_X3_15 rfl dX3_setTopNew_21 ?_
      refine lv_iload_n hx hb dX3_setTopNew_24 rfl (lv_at hl 0 rfl) ?_
      refine lv_iload_n hx hb dX3_setTopNew_25 rfl (lv_at hl 3 rfl) ?_
      refine h_iast hx hb hK hT0 (fun _ h => h) hS1 (hY.at 2 rfl) (vp_in_iff.mpr (by (try simp only [Int32.lt_iff_toInt_lt, Int32.le_iff_toInt_le, ← Int32.toInt_inj, Int32.reduceToInt, (show (-1 : Int32).toInt = -1 from rfl)] at c2 c3 ⊢); omega)) trivial dX3_setTopNew_26 (fun H2 locs hT2 hS2 hu2 => ?_)
      exact hret _ _ _ _ hT2 hS2 trivial dX3_setTopNew_27
set_option maxHeartbeats 4000000 in
set_option maxRecDepth 100000 in
theorem c_X3_drop (l : Launch) (G : hG) (Y : hW) (P : Int32 → Prop) (o : Nat) (hY : h_On Y o (raE (tC P) o)) (u1 : Int32) : hMv l yX3_drop cX3_drop 2 none 1 21 G Y [.ref (o), .int u1] (fun H => True) (fun H H1 => True) := by
  refine h_ofv (by decide +kernel) (Nat.le_of_ble_eq_true rfl) ?_
  intro p e s m args below meth c H0 ls Q hx hb hts hown hml hK hZ hT0 hpr hS0 hl hret
  have hl : lv_has ls 2 [(0, .ref (o)), (1, .int u1)] := hl
  refine lv_aload_n hx hb dX3_drop_0 rfl (lv_at hl 0 rfl) ?_
  refine lv_iload_n hx hb dX3_drop_1 rfl (lv_at hl 1 rfl) ?_
  refine h_callVi (T := TX3) (rest := []) (As := [.int u1]) hx hb hml hown hts hK hT0 hZ (fun _ h => h) hS0 (c_X3_depthOf l G Y P (o) hY u1) trivial wd_X3_depthOf wV_X3_depthOf wL_X3_37 (hY.o rfl) rfl rfl hl.1 rfl (Nat.le_of_ble_eq_true rfl) dX3_drop_2 ⟨Nat.le_of_ble_eq_true rfl, Nat.le_of_ble_eq_true rfl⟩ ⟨Nat.zero_le _, Nat.zero_le _⟩ (fun r1 H1 locs hp1 hT1 hS1 hk1 => ?_)
  obtain ⟨hp1, he⟩ := hp1
  have he := he.symm
  subst he
  refine lv_if_le (tgt := 18) hx hb dX3_drop_5 (by decide) (fun c2 => ?_) (fun c2 => ?_)
  · skip
    exact hret _ _ _ _ hT0 hS1 trivial dX3_drop_18
  · skip
    obtain ⟨g3a, g3b⟩ := hp1 (by (try simp only [Int32.lt_iff_toInt_lt, Int32.le_iff_toInt_le, ← Int32.toInt_inj, Int32.reduceToInt, (show (-1 : Int32).toInt = -1 from rfl)] at c2 ⊢); omega)
    refine lv_aload_n hx hb dX3_drop_8 rfl (lv_at hl 0 rfl) ?_
    refine h_getr (C := RX3) (T := TX3) (N := 3) hx hb hts inX3 hown hK hT0 (hY.o rfl) rfl 2 rfl wF_X3_18 rfl dX3_drop_9 ?_
    refine lv_iload_n hx hb dX3_drop_12 rfl (lv_at hl 1 rfl) ?_
    refine lv_dup2_11 hx hb dX3_drop_13 rfl rfl ?_
    refine h_iald hx hb hK hT0 (hY.at 3 rfl) (vp_in_iff.mpr (by (try simp only [Int32.lt_iff_toInt_lt, Int32.le_iff_toInt_le, ← Int32.toInt_inj, Int32.reduceToInt, (show (-1 : Int32).toInt = -1 from rfl)] at g3a g3b ⊢); omega)) dX3_drop_14 (fun p4 => ?_)
    refine lv_topi (fun x5 ex5 => ?_)
    refine lv_iconst (v := 1) hx hb dX3_drop_15 (by decide) ?_
    refine lv_isub hx hb dX3_drop_16 ?_
    refine lv_topi (fun x6 ex6 => ?_)
    refine h_iast hx hb hK hT0 (fun _ h => h) hS1 (hY.at 3 rfl) (vp_in_iff.mpr (by (try simp only [Int32.lt_iff_toInt_lt, Int32.le_iff_toInt_le, ← Int32.toInt_inj, Int32.reduceToInt, (show (-1 : Int32).toInt = -1 from rfl)] at g3a g3b ⊢); omega)) trivial dX3_drop_17 (fun H2 locs hT2 hS2 hu2 => ?_)
    exact hret _ _ _ _ hT2 hS2 trivial dX3_drop_18
set_option maxHeartbeats 4000000 in
set_option maxRecDepth 100000 in
theorem c_X3_push (l : Launch) (G : hG) (Y : hW) (P : Int32 → Prop) (o : Nat) (hY : h_On Y o (raE (tC P) o)) (u1 u2 u3 : Int32) : hMv l yX3_push cX3_push 5 none 0 0 G Y [.ref (o), .int u1, .int u2, .int u3] (fun H => True) (fun H H1 => True) := by
  refine h_ofv (by decide +kernel) (Nat.le_of_ble_eq_true rfl) ?_
  intro p e s m args below meth c H0 ls Q hx hb hts hown hml hK hZ hT0 hpr hS0 hl hret
  have hl : lv_has ls 5 [(0, .ref (o)), (1, .int u1), (2, .int u2), (3, .int u3)] := hl
  refine lv_iload_n hx hb dX3_push_0 rfl (lv_at hl 1 rfl) ?_
  refine lv_if_lt (tgt := 30) hx hb dX3_push_1 (by decide) (fun c1 => ?_) (fun c1 => ?_)
  · skip
    exact hret _ _ _ _ hT0 hS0 trivial dX3_push_30
  · skip
    refine lv_iload_n hx hb dX3_push_4 rfl (lv_at hl 1 rfl) ?_
    refine lv_bipush (v := 8) hx hb dX3_push_5 (by decide) ?_
    refine lv_icmp_ge (tgt := 30) hx hb dX3_push_7 (by decide) (fun c2 => ?_) (fun c2 => ?_)
    · skip
      exact hret _ _ _ _ hT0 hS0 trivial dX3_push_30
    · skip
      refine lv_aload_n hx hb dX3_push_10 rfl (lv_at hl 0 rfl) ?_
      refine h_getr (C := RX3) (T := TX3) (N := 3) hx hb hts inX3 hown hK hT0 (hY.o rfl) rfl 2 rfl wF_X3_18 rfl dX3_push_11 ?_
      refine lv_iload_n hx hb dX3_push_14 rfl (lv_at hl 1 rfl) ?_
      refine h_iald hx hb hK hT0 (hY.at 3 rfl) (vp_in_iff.mpr (by (try simp only [Int32.lt_iff_toInt_lt, Int32.le_iff_toInt_le, ← Int32.toInt_inj, Int32.reduceToInt, (show (-1 : Int32).toInt = -1 from rfl)] at c1 c2 ⊢); omega)) dX3_push_15 (fun p3 => ?_)
      refine lv_topi (fun x4 ex4 => ?_)
      refine lv_if_lt (tgt := 30) hx hb dX3_push_16 (by decide) (fun c5 => ?_) (fun c5 => ?_)
      · skip
        exact hret _ _ _ _ hT0 hS0 trivial dX3_push_30
      · skip
        refine lv_aload_n hx hb dX3_push_19 rfl (lv_at hl 0 rfl) ?_
        refine h_getr (C := RX3) (T := TX3) (N := 3) hx hb hts inX3 hown hK hT0 (hY.o rfl) rfl 2 rfl wF_X3_18 rfl dX3_push_20 ?_
        refine lv_iload_n hx hb dX3_push_23 rfl (lv_at hl 1 rfl) ?_
        refine h_iald hx hb hK hT0 (hY.at 3 rfl) (vp_in_iff.mpr (by (try simp only [Int32.lt_iff_toInt_lt, Int32.le_iff_toInt_le, ← Int32.toInt_inj, Int32.reduceToInt, (show (-1 : Int32).toInt = -1 from rfl)] at c1 c2 ⊢); omega)) dX3_push_24 (fun p6 => ?_)
        refine h_top (v := x4) ex4.symm ?_
        refine lv_bipush (v := 8) hx hb dX3_push_25 (by decide) ?_
        refine lv_icmp_lt (tgt := 31) hx hb dX3_push_27 (by decide) (fun c7 => ?_) (fun c7 => ?_)
        · skip
          refine lv_iload_n hx hb dX3_push_31 rfl (lv_at hl 1 rfl) ?_
          refine lv_bipush (v := 8) hx hb dX3_push_32 (by decide) ?_
          refine lv_imul hx hb dX3_push_34 ?_
          obtain ⟨j8, hj8, qj8⟩ := h_toN (n := 8) (x := u1) (by (try simp only [Int32.lt_iff_toInt_lt, Int32.le_iff_toInt_le, ← Int32.toInt_inj, Int32.reduceToInt, (show (-1 : Int32).toInt = -1 from rfl)] at c1 c2 ⊢); omega) (by (try simp only [Int32.lt_iff_toInt_lt, Int32.le_iff_toInt_le, ← Int32.toInt_inj, Int32.reduceToInt, (show (-1 : Int32).toInt = -1 from rfl)] at c1 c2 ⊢); omega)
          refine h_top (v := (nI (j8 * 8))) (by rw [qj8]; exact h_nmul j8 8) ?_
          refine lv_aload_n hx hb dX3_push_35 rfl (lv_at hl 0 rfl) ?_
          refine h_getr (C := RX3) (T := TX3) (N := 3) hx hb hts inX3 hown hK hT0 (hY.o rfl) rfl 2 rfl wF_X3_18 rfl dX3_push_36 ?_
          refine lv_iload_n hx hb dX3_push_39 rfl (lv_at hl 1 rfl) ?_
          refine h_iald hx hb hK hT0 (hY.at 3 rfl) (vp_in_iff.mpr (by (try simp only [Int32.lt_iff_toInt_lt, Int32.le_iff_toInt_le, ← Int32.toInt_inj, Int32.reduceToInt, (show (-1 : Int32).toInt = -1 from rfl)] at c1 c2 ⊢); omega)) dX3_push_40 (fun p9 => ?_)
          refine h_top (v := x4) ex4.symm ?_
          refine lv_iadd hx hb dX3_push_41 ?_
          obtain ⟨j10, hj10, qj10⟩ := h_toN (n := 8) (x := x4) (by (try simp only [Int32.lt_iff_toInt_lt, Int32.le_iff_toInt_le, ← Int32.toInt_inj, Int32.reduceToInt, (show (-1 : Int32).toInt = -1 from rfl)] at c5 c7 ⊢); omega) (by (try simp only [Int32.lt_iff_toInt_lt, Int32.le_iff_toInt_le, ← Int32.toInt_inj, Int32.reduceToInt, (show (-1 : Int32).toInt = -1 from rfl)] at c5 c7 ⊢); omega)
          refine h_top (v := (nI ((j8 * 8) + j10))) (by rw [qj10]; exact h_nadd (j8 * 8) j10) ?_
          refine lv_istore (lv' := [(4, .int (nI ((j8 * 8) + j10))), (0, .ref (o)), (1, .int u1), (2, .int u2), (3, .int u3)]) hx hb dX3_push_42 hl (by decide) rfl (fun ls hl => ?_)
          refine lv_aload_n hx hb dX3_push_44 rfl (lv_at hl 1 rfl) ?_
          refine h_getr (C := RX3) (T := TX3) (N := 3) hx hb hts inX3 hown hK hT0 (hY.o rfl) rfl 0 rfl wF_X3_9 rfl dX3_push_45 ?_
          refine lv_iload hx hb dX3_push_48 (lv_at hl 0 rfl) ?_
          refine lv_iload_n hx hb dX3_push_50 rfl (lv_at hl 3 rfl) ?_
          refine h_iast hx hb hK hT0 (fun _ h => h) hS0 (hY.at 1 rfl) (vp_in_nI (by omega) (by decide)) trivial dX3_push_51 (fun H1 locs hT1 hS1 hu1 => ?_)
          refine lv_aload_n hx hb dX3_push_52 rfl (lv_at hl 1 rfl) ?_
          refine h_getr (C := RX3) (T := TX3) (N := 3) hx hb hts inX3 hown hK hT1 (hY.o rfl) rfl 1 rfl wF_X3_15 rfl dX3_push_53 ?_
          refine lv_iload hx hb dX3_push_56 (lv_at hl 0 rfl) ?_
          refine lv_iload_n hx hb dX3_push_58 rfl (lv_at hl 4 rfl) ?_
          refine h_iast hx hb hK hT1 (fun _ h => h) hS1 (hY.at 2 rfl) (vp_in_nI (by omega) (by decide)) trivial dX3_push_59 (fun H2 locs hT2 hS2 hu2 => ?_)
          refine lv_aload_n hx hb dX3_push_60 rfl (lv_at hl 1 rfl) ?_
          refine h_getr (C := RX3) (T := TX3) (N := 3) hx hb hts inX3 hown hK hT2 (hY.o rfl) rfl 2 rfl wF_X3_18 rfl dX3_push_61 ?_
          refine lv_iload_n hx hb dX3_push_64 rfl (lv_at hl 2 rfl) ?_
          refine lv_dup2_11 hx hb dX3_push_65 rfl rfl ?_
          refine h_iald hx hb hK hT2 (hY.at 3 rfl) (vp_in_iff.mpr (by (try simp only [Int32.lt_iff_toInt_lt, Int32.le_iff_toInt_le, ← Int32.toInt_inj, Int32.reduceToInt, (show (-1 : Int32).toInt = -1 from rfl)] at c1 c2 ⊢); omega)) dX3_push_66 (fun p11 => ?_)
          refine h_top (v := x4) ((h_ai_same (hu2.2.1 _ (by omega))).trans ((h_ai_same (hu1.2.1 _ (by omega))).trans ex4.symm)) ?_
          refine lv_iconst (v := 1) hx hb dX3_push_67 (by decide) ?_
          refine lv_iadd hx hb dX3_push_68 ?_
          refine lv_topi (fun x12 ex12 => ?_)
          refine h_iast hx hb hK hT2 (fun _ h => h) hS2 (hY.at 3 rfl) (vp_in_iff.mpr (by (try simp only [Int32.lt_iff_toInt_lt, Int32.le_iff_toInt_le, ← Int32.toInt_inj, Int32.reduceToInt, (show (-1 : Int32).toInt = -1 from rfl)] at c1 c2 ⊢); omega)) trivial dX3_push_69 (fun H3 locs hT3 hS3 hu3 => ?_)
          exact hret _ _ _ _ hT3 hS3 trivial dX3_push_70
        · skip
          exact hret _ _ _ _ hT0 hS0 trivial dX3_push_30
set_option maxHeartbeats 4000000 in
set_option maxRecDepth 100000 in
theorem c_X3_clearOf (l : Launch) (G : hG) (Y : hW) (P : Int32 → Prop) (o : Nat) (hY : h_On Y o (raE (tC P) o)) (u1 : Int32) : hMv l yX3_clearOf cX3_clearOf 2 none 0 0 G Y [.ref (o), .int u1] (fun H => True) (fun H H1 => True) := by
  refine h_ofv (by decide +kernel) (Nat.le_of_ble_eq_true rfl) ?_
  intro p e s m args below meth c H0 ls Q hx hb hts hown hml hK hZ hT0 hpr hS0 hl hret
  have hl : lv_has ls 2 [(0, .ref (o)), (1, .int u1)] := hl
  refine lv_iload_n hx hb dX3_clearOf_0 rfl (lv_at hl 1 rfl) ?_
  refine lv_if_lt (tgt := 17) hx hb dX3_clearOf_1 (by decide) (fun c1 => ?_) (fun c1 => ?_)
  · skip
    exact hret _ _ _ _ hT0 hS0 trivial dX3_clearOf_17
  · skip
    refine lv_iload_n hx hb dX3_clearOf_4 rfl (lv_at hl 1 rfl) ?_
    refine lv_bipush (v := 8) hx hb dX3_clearOf_5 (by decide) ?_
    refine lv_icmp_ge (tgt := 17) hx hb dX3_clearOf_7 (by decide) (fun c2 => ?_) (fun c2 => ?_)
    · skip
      exact hret _ _ _ _ hT0 hS0 trivial dX3_clearOf_17
    · skip
      refine lv_aload_n hx hb dX3_clearOf_10 rfl (lv_at hl 0 rfl) ?_
      refine h_getr (C := RX3) (T := TX3) (N := 3) hx hb hts inX3 hown hK hT0 (hY.o rfl) rfl 2 rfl wF_X3_18 rfl dX3_clearOf_11 ?_
      refine lv_iload_n hx hb dX3_clearOf_14 rfl (lv_at hl 1 rfl) ?_
      refine lv_iconst (v := 0) hx hb dX3_clearOf_15 (by decide) ?_
      refine h_iast hx hb hK hT0 (fun _ h => h) hS0 (hY.at 3 rfl) (vp_in_iff.mpr (by (try simp only [Int32.lt_iff_toInt_lt, Int32.le_iff_toInt_le, ← Int32.toInt_inj, Int32.reduceToInt, (show (-1 : Int32).toInt = -1 from rfl)] at c1 c2 ⊢); omega)) trivial dX3_clearOf_16 (fun H1 locs hT1 hS1 hu1 => ?_)
      exact hret _ _ _ _ hT1 hS1 trivial dX3_clearOf_17
set_option maxHeartbeats 4000000 in
set_option maxRecDepth 100000 in
theorem c_X3_isEmpty (l : Launch) (G : hG) (Y : hW) (P : Int32 → Prop) (o : Nat) (hY : h_On Y o (raE (tC P) o)) : hMi l yX3_isEmpty cX3_isEmpty 2 (some .boolean) 0 0 G Y [.ref (o)] (fun H => True) (fun H r H1 => ((r = 0 ∨ r = 1) ∧ True) ∧ H1 = H) := by
  refine h_ofz (by decide +kernel) (Nat.le_of_ble_eq_true rfl) ?_
  intro p e s m args below meth c H0 ls Q hx hb hts hown hml hK hZ hT0 hpr hS0 hl hret
  have hl : lv_has ls 2 [(0, .ref (o))] := hl
  refine lv_iconst (v := 0) hx hb dX3_isEmpty_0 (by decide) ?_
  refine lv_istore_n (lv' := [(1, .int 0), (0, .ref (o))]) hx hb dX3_isEmpty_1 rfl hl (by decide) rfl (fun ls hl => ?_)
  have LP1 : ∀ (n1 : Nat) (w1_1 : Int32), 2147483647 - w1_1.toInt < (n1 : Int) → 0 ≤ w1_1.toInt → ∀ (locs : List Loc) (ls : Array Slot), va_S (h_A Y) s.heap H0 locs → lv_has ls 2 [(1, .int w1_1), (0, .ref (o))] → W p l e (h_rm 0 0) s m args below meth c H0 locs 0 0 Q (F0 m 2 ls []) := by
    intro n1
    induction n1 with
    | zero =>
      intro w1_1 hm
      exact absurd hm (by have := Int32.toInt_lt w1_1; have := Int32.le_toInt w1_1; omega)
    | succ n1 ih1 =>
      intro w1_1 hm1 hz1 locs ls hS1 hl
      refine lv_iload_n hx hb dX3_isEmpty_2 rfl (lv_at hl 0 rfl) ?_
      refine lv_bipush (v := 8) hx hb dX3_isEmpty_3 (by decide) ?_
      refine lv_icmp_ge (tgt := 25) hx hb dX3_isEmpty_5 (by decide) (fun c1 => ?_) (fun c1 => ?_)
      · skip
        refine lv_iconst (v := 1) hx hb dX3_isEmpty_25 (by decide) ?_
        exact hret _ _ _ _ _ hT0 hS1 ⟨(by decide), ⟨(by decide), trivial⟩, rfl⟩ dX3_isEmpty_26
      · skip
        refine lv_aload_n hx hb dX3_isEmpty_8 rfl (lv_at hl 1 rfl) ?_
        refine h_getr (C := RX3) (T := TX3) (N := 3) hx hb hts inX3 hown hK hT0 (hY.o rfl) rfl 2 rfl wF_X3_18 rfl dX3_isEmpty_9 ?_
        refine lv_iload_n hx hb dX3_isEmpty_12 rfl (lv_at hl 0 rfl) ?_
        refine h_iald hx hb hK hT0 (hY.at 3 rfl) (vp_in_iff.mpr (by (try simp only [Int32.lt_iff_toInt_lt, Int32.le_iff_toInt_le, ← Int32.toInt_inj, Int32.reduceToInt, (show (-1 : Int32).toInt = -1 from rfl)] at hz1 c1 ⊢); omega)) dX3_isEmpty_13 (fun p2 => ?_)
        refine lv_topi (fun x3 ex3 => ?_)
        refine lv_if_le (tgt := 19) hx hb dX3_isEmpty_14 (by decide) (fun c4 => ?_) (fun c4 => ?_)
        · skip
          obtain ⟨x5, ex5⟩ : ∃ y : Int32, y = w1_1 + 1 := ⟨_, rfl⟩
          refine lv_iinc (v := x5) (lv' := [(1, .int x5), (0, .ref (o))]) hx hb dX3_isEmpty_19 hl (k := 0) rfl (by rw [ex5]; rfl) (by decide) rfl (fun ls hl => ?_)
          refine lv_goto (tgt := 2) hx hb dX3_isEmpty_22 (by decide) ?_
          exact ih1 x5 (h_dn hm1 ex5 (by first | exact h_lu c1 | exact h_lu2 c1 | ((try simp only [Int32.lt_iff_toInt_lt, Int32.le_iff_toInt_le, ← Int32.toInt_inj, Int32.reduceToInt, (show (-1 : Int32).toInt = -1 from rfl)] at c1 ⊢); omega))) (h_nn hz1 ex5 (by first | exact h_lu c1 | exact h_lu2 c1 | ((try simp only [Int32.lt_iff_toInt_lt, Int32.le_iff_toInt_le, ← Int32.toInt_inj, Int32.reduceToInt, (show (-1 : Int32).toInt = -1 from rfl)] at c1 ⊢); omega))) _ _ hS1 (lv_sub hl [0, 1] rfl)
        · skip
          refine lv_iconst (v := 0) hx hb dX3_isEmpty_17 (by decide) ?_
          exact hret _ _ _ _ _ hT0 hS1 ⟨(by decide), ⟨(by decide), trivial⟩, rfl⟩ dX3_isEmpty_18
  exact LP1 4294967296 0 (h_m0 _) (by decide) _ _ hS0 (lv_sub hl [0, 1] rfl)
set_option maxHeartbeats 4000000 in
set_option maxRecDepth 100000 in
theorem c_X3_clear (l : Launch) (G : hG) (Y : hW) (P : Int32 → Prop) (o : Nat) (hY : h_On Y o (raE (tC P) o)) : hMv l yX3_clear cX3_clear 1 none 1 23 G Y [.ref (o)] (fun H => True) (fun H H1 => True) := by
  refine h_ofv (by decide +kernel) (Nat.le_of_ble_eq_true rfl) ?_
  intro p e s m args below meth c H0 ls Q hx hb hts hown hml hK hZ hT0 hpr hS0 hl hret
  have hl : lv_has ls 1 [(0, .ref (o))] := hl
  refine lv_aload_n hx hb dX3_clear_0 rfl (lv_at hl 0 rfl) ?_
  refine h_getr (C := RX3) (T := TX3) (N := 3) hx hb hts inX3 hown hK hT0 (hY.o rfl) rfl 2 rfl wF_X3_18 rfl dX3_clear_1 ?_
  refine lv_iconst (v := 0) hx hb dX3_clear_4 (by decide) ?_
  refine h_callSv (rest := []) (As := [.ref (o + 3), .int 0]) hx hb hml hown hts hK hT0 hZ (fun _ h => h) hS0 (c_fill l G Y (o + 3) 8 _ 0 (hY.at 3 rfl) (by decide) (fun _ _ => trivial)) trivial wd_J7_fill_53178 wS_J7_fill_53178 wL_X3_21 rfl hl.1 rfl (Nat.le_of_ble_eq_true rfl) dX3_clear_5 ⟨Nat.le_of_ble_eq_true rfl, Nat.le_of_ble_eq_true rfl⟩ ⟨Nat.zero_le _, Nat.zero_le _⟩ (fun H1 locs hp1 hT1 hS1 hk1 => ?_)
  exact hret _ _ _ _ hT1 hS1 trivial dX3_clear_8
set_option maxHeartbeats 4000000 in
set_option maxRecDepth 100000 in
theorem c_X9_clear (l : Launch) (G : hG) (Y : hW) (P : Int32 → Prop) (o : Nat) (hY : h_On Y o (waE (tC P) o)) : hMv l yX9_clear cX9_clear 1 none 0 0 G Y [.ref (o)] (fun H => True) (fun H H1 => True) := by
  refine h_ofv (by decide +kernel) (Nat.le_of_ble_eq_true rfl) ?_
  intro p e s m args below meth c H0 ls Q hx hb hts hown hml hK hZ hT0 hpr hS0 hl hret
  have hl : lv_has ls 1 [(0, .ref (o))] := hl
  refine lv_aload_n hx hb dX9_clear_0 rfl (lv_at hl 0 rfl) ?_
  refine lv_iconst (v := 0) hx hb dX9_clear_1 (by decide) ?_
  refine h_puti (C := RX9) (T := TX9) (N := 11) hx hb hts inX9 tyX9 tyX9_ok nmX9 hown hK hT0 (fun _ h => h) hS0 (hY.o rfl) rfl 0 rfl wF_X9_9 rfl rfl trivial rfl rfl dX9_clear_2 (fun H1 locs hT1 hS1 hu1 => ?_)
  refine lv_aload_n hx hb dX9_clear_5 rfl (lv_at hl 0 rfl) ?_
  refine lv_iconst (v := (-1)) hx hb dX9_clear_6 (by decide) ?_
  refine h_puti (C := RX9) (T := TX9) (N := 11) hx hb hts inX9 tyX9 tyX9_ok nmX9 hown hK hT1 (fun _ h => h) hS1 (hY.o rfl) rfl 1 rfl wF_X9_15 rfl rfl trivial rfl rfl dX9_clear_7 (fun H2 locs hT2 hS2 hu2 => ?_)
  refine lv_aload_n hx hb dX9_clear_10 rfl (lv_at hl 0 rfl) ?_
  refine lv_iconst (v := 0) hx hb dX9_clear_11 (by decide) ?_
  refine h_puti (C := RX9) (T := TX9) (N := 11) hx hb hts inX9 tyX9 tyX9_ok nmX9 hown hK hT2 (fun _ h => h) hS2 (hY.o rfl) rfl 2 rfl wF_X9_18 rfl rfl trivial rfl rfl dX9_clear_12 (fun H3 locs hT3 hS3 hu3 => ?_)
  refine lv_aload_n hx hb dX9_clear_15 rfl (lv_at hl 0 rfl) ?_
  refine lv_iconst (v := 0) hx hb dX9_clear_16 (by decide) ?_
  refine h_puti (C := RX9) (T := TX9) (N := 11) hx hb hts inX9 tyX9 tyX9_ok nmX9 hown hK hT3 (fun _ h => h) hS3 (hY.o rfl) rfl 3 rfl wF_X9_21 rfl rfl trivial rfl rfl dX9_clear_17 (fun H4 locs hT4 hS4 hu4 => ?_)
  refine lv_aload_n hx hb dX9_clear_20 rfl (lv_at hl 0 rfl) ?_
  refine lv_iconst (v := 0) hx hb dX9_clear_21 (by decide) ?_
  refine h_puti (C := RX9) (T := TX9) (N := 11) hx hb hts inX9 tyX9 tyX9_ok nmX9 hown hK hT4 (fun _ h => h) hS4 (hY.o rfl) rfl 4 rfl wF_X9_24 rfl rfl (Or.inl rfl) rfl rfl dX9_clear_22 (fun H5 locs hT5 hS5 hu5 => ?_)
  exact hret _ _ _ _ hT5 hS5 trivial dX9_clear_25
set_option maxHeartbeats 4000000 in
set_option maxRecDepth 100000 in
theorem c_X9_becomeToken (l : Launch) (G : hG) (Y : hW) (P : Int32 → Prop) (o : Nat) (hY : h_On Y o (waE (tC P) o)) (u1 u2 u3 : Int32) : hMv l yX9_becomeToken cX9_becomeToken 4 none 0 0 G Y [.ref (o), .int u1, .int u2, .int u3] (fun H => True) (fun H H1 => True) := by
  refine h_ofv (by decide +kernel) (Nat.le_of_ble_eq_true rfl) ?_
  intro p e s m args below meth c H0 ls Q hx hb hts hown hml hK hZ hT0 hpr hS0 hl hret
  have hl : lv_has ls 4 [(0, .ref (o)), (1, .int u1), (2, .int u2), (3, .int u3)] := hl
  refine lv_aload_n hx hb dX9_becomeToken_0 rfl (lv_at hl 0 rfl) ?_
  refine lv_iconst (v := 1) hx hb dX9_becomeToken_1 (by decide) ?_
  refine h_puti (C := RX9) (T := TX9) (N := 11) hx hb hts inX9 tyX9 tyX9_ok nmX9 hown hK hT0 (fun _ h => h) hS0 (hY.o rfl) rfl 0 rfl wF_X9_9 rfl rfl trivial rfl rfl dX9_becomeToken_2 (fun H1 locs hT1 hS1 hu1 => ?_)
  refine lv_aload_n hx hb dX9_becomeToken_5 rfl (lv_at hl 0 rfl) ?_
  refine lv_iload_n hx hb dX9_becomeToken_6 rfl (lv_at hl 1 rfl) ?_
  refine h_puti (C := RX9) (T := TX9) (N := 11) hx hb hts inX9 tyX9 tyX9_ok nmX9 hown hK hT1 (fun _ h => h) hS1 (hY.o rfl) rfl 1 rfl wF_X9_15 rfl rfl trivial rfl rfl dX9_becomeToken_7 (fun H2 locs hT2 hS2 hu2 => ?_)
  refine lv_aload_n hx hb dX9_becomeToken_10 rfl (lv_at hl 0 rfl) ?_
  refine lv_iload_n hx hb dX9_becomeToken_11 rfl (lv_at hl 2 rfl) ?_
  refine h_puti (C := RX9) (T := TX9) (N := 11) hx hb hts inX9 tyX9 tyX9_ok nmX9 hown hK hT2 (fun _ h => h) hS2 (hY.o rfl) rfl 2 rfl wF_X9_18 rfl rfl trivial rfl rfl dX9_becomeToken_12 (fun H3 locs hT3 hS3 hu3 => ?_)
  refine lv_aload_n hx hb dX9_becomeToken_15 rfl (lv_at hl 0 rfl) ?_
  refine lv_iload_n hx hb dX9_becomeToken_16 rfl (lv_at hl 3 rfl) ?_
  refine h_puti (C := RX9) (T := TX9) (N := 11) hx hb hts inX9 tyX9 tyX9_ok nmX9 hown hK hT3 (fun _ h => h) hS3 (hY.o rfl) rfl 3 rfl wF_X9_21 rfl rfl trivial rfl rfl dX9_becomeToken_17 (fun H4 locs hT4 hS4 hu4 => ?_)
  refine lv_aload_n hx hb dX9_becomeToken_20 rfl (lv_at hl 0 rfl) ?_
  refine lv_iconst (v := 0) hx hb dX9_becomeToken_21 (by decide) ?_
  refine h_puti (C := RX9) (T := TX9) (N := 11) hx hb hts inX9 tyX9 tyX9_ok nmX9 hown hK hT4 (fun _ h => h) hS4 (hY.o rfl) rfl 4 rfl wF_X9_24 rfl rfl (Or.inl rfl) rfl rfl dX9_becomeToken_22 (fun H5 locs hT5 hS5 hu5 => ?_)
  exact hret _ _ _ _ hT5 hS5 trivial dX9_becomeToken_25
set_option maxHeartbeats 4000000 in
set_option maxRecDepth 100000 in
theorem c_X9_tell (l : Launch) (G : hG) (Y : hW) (P : Int32 → Prop) (o : Nat) (hY : h_On Y o (waE (tC P) o)) (u1 : Int32) : hMi l yX9_tell cX9_tell 2 (some .int) 0 0 G Y [.ref (o), .int u1] (fun H => True) (fun H r H1 => (True) ∧ H1 = H) := by
  refine h_ofi (by decide +kernel) (Nat.le_of_ble_eq_true rfl) ?_
  intro p e s m args below meth c H0 ls Q hx hb hts hown hml hK hZ hT0 hpr hS0 hl hret
  have hl : lv_has ls 2 [(0, .ref (o)), (1, .int u1)] := hl
  refine lv_iload_n hx hb dX9_tell_0 rfl (lv_at hl 1 rfl) ?_
  rcases h_sw10 u1 with c1 | c1 | c1 | c1 | c1 | c1 | c1 | c1 | c1 | c1 | c1
  · skip
    refine lv_tableOut (tgt := 122) hx hb dX9_tell_1 c1 (by decide) ?_
    refine lv_iconst (v := (-1)) hx hb dX9_tell_122 (by decide) ?_
    exact hret _ _ _ _ _ hT0 hS0 ⟨trivial, rfl⟩ dX9_tell_123
  · subst c1
    refine lv_tableIn (tgt := 56) hx hb dX9_tell_1 (by decide) (by decide) rfl (by decide) ?_
    refine lv_aload_n hx hb dX9_tell_56 rfl (lv_at hl 0 rfl) ?_
    refine h_geti (C := RX9) (T := TX9) (N := 11) hx hb hts inX9 hown hK hT0 (hY.o rfl) rfl 0 rfl wF_X9_9 rfl dX9_tell_57 (fun p2 => ?_)
    refine lv_topi (fun x3 ex3 => ?_)
    exact hret _ _ _ _ _ hT0 hS0 ⟨trivial, rfl⟩ dX9_tell_60
  · subst c1
    refine lv_tableIn (tgt := 61) hx hb dX9_tell_1 (by decide) (by decide) rfl (by decide) ?_
    refine lv_aload_n hx hb dX9_tell_61 rfl (lv_at hl 0 rfl) ?_
    refine h_geti (C := RX9) (T := TX9) (N := 11) hx hb hts inX9 hown hK hT0 (hY.o rfl) rfl 1 rfl wF_X9_15 rfl dX9_tell_62 (fun p4 => ?_)
    refine lv_topi (fun x5 ex5 => ?_)
    exact hret _ _ _ _ _ hT0 hS0 ⟨trivial, rfl⟩ dX9_tell_65
  · subst c1
    refine lv_tableIn (tgt := 66) hx hb dX9_tell_1 (by decide) (by decide) rfl (by decide) ?_
    refine lv_aload_n hx hb dX9_tell_66 rfl (lv_at hl 0 rfl) ?_
    refine h_geti (C := RX9) (T := TX9) (N := 11) hx hb hts inX9 hown hK hT0 (hY.o rfl) rfl 2 rfl wF_X9_18 rfl dX9_tell_67 (fun p6 => ?_)
    refine lv_topi (fun x7 ex7 => ?_)
    exact hret _ _ _ _ _ hT0 hS0 ⟨trivial, rfl⟩ dX9_tell_70
  · subst c1
    refine lv_tableIn (tgt := 71) hx hb dX9_tell_1 (by decide) (by decide) rfl (by decide) ?_
    refine lv_aload_n hx hb dX9_tell_71 rfl (lv_at hl 0 rfl) ?_
    refine h_geti (C := RX9) (T := TX9) (N := 11) hx hb hts inX9 hown hK hT0 (hY.o rfl) rfl 3 rfl wF_X9_21 rfl dX9_tell_72 (fun p8 => ?_)
    refine lv_topi (fun x9 ex9 => ?_)
    exact hret _ _ _ _ _ hT0 hS0 ⟨trivial, rfl⟩ dX9_tell_75
  · subst c1
    refine lv_tableIn (tgt := 76) hx hb dX9_tell_1 (by decide) (by decide) rfl (by decide) ?_
    refine lv_aload_n hx hb dX9_tell_76 rfl (lv_at hl 0 rfl) ?_
    refine h_geti (C := RX9) (T := TX9) (N := 11) hx hb hts inX9 hown hK hT0 (hY.o rfl) rfl 4 rfl wF_X9_24 rfl dX9_tell_77 (fun p10 => ?_)
    refine lv_topi (fun x11 ex11 => ?_)
    refine lv_if_eq (tgt := 87) hx hb dX9_tell_80 (by decide) (fun c12 => ?_) (fun c12 => ?_)
    · skip
      refine lv_iconst (v := 0) hx hb dX9_tell_87 (by decide) ?_
      exact hret _ _ _ _ _ hT0 hS0 ⟨trivial, rfl⟩ dX9_tell_88
    · skip
      refine lv_iconst (v := 1) hx hb dX9_tell_83 (by decide) ?_
      refine lv_goto (tgt := 88) hx hb dX9_tell_84 (by decide) ?_
      exact hret _ _ _ _ _ hT0 hS0 ⟨trivial, rfl⟩ dX9_tell_88
  · subst c1
    refine lv_tableIn (tgt := 89) hx hb dX9_tell_1 (by decide) (by decide) rfl (by decide) ?_
    refine lv_aload_n hx hb dX9_tell_89 rfl (lv_at hl 0 rfl) ?_
    refine h_geti (C := RX9) (T := TX9) (N := 11) hx hb hts inX9 hown hK hT0 (hY.o rfl) rfl 5 rfl wF_X9_28 rfl dX9_tell_90 (fun p13 => ?_)
    refine lv_topi (fun x14 ex14 => ?_)
    exact hret _ _ _ _ _ hT0 hS0 ⟨trivial, rfl⟩ dX9_tell_93
  · subst c1
    refine lv_tableIn (tgt := 94) hx hb dX9_tell_1 (by decide) (by decide) rfl (by decide) ?_
    refine lv_aload_n hx hb dX9_tell_94 rfl (lv_at hl 0 rfl) ?_
    refine h_geti (C := RX9) (T := TX9) (N := 11) hx hb hts inX9 hown hK hT0 (hY.o rfl) rfl 6 rfl wF_X9_31 rfl dX9_tell_95 (fun p15 => ?_)
    refine lv_topi (fun x16 ex16 => ?_)
    exact hret _ _ _ _ _ hT0 hS0 ⟨trivial, rfl⟩ dX9_tell_98
  · subst c1
    refine lv_tableIn (tgt := 99) hx hb dX9_tell_1 (by decide) (by decide) rfl (by decide) ?_
    refine lv_aload_n hx hb dX9_tell_99 rfl (lv_at hl 0 rfl) ?_
    refine h_geti (C := RX9) (T := TX9) (N := 11) hx hb hts inX9 hown hK hT0 (hY.o rfl) rfl 7 rfl wF_X9_34 rfl dX9_tell_100 (fun p17 => ?_)
    refine lv_topi (fun x18 ex18 => ?_)
    exact hret _ _ _ _ _ hT0 hS0 ⟨trivial, rfl⟩ dX9_tell_103
  · subst c1
    refine lv_tableIn (tgt := 104) hx hb dX9_tell_1 (by decide) (by decide) rfl (by decide) ?_
    refine lv_aload_n hx hb dX9_tell_104 rfl (lv_at hl 0 rfl) ?_
    refine h_geti (C := RX9) (T := TX9) (N := 11) hx hb hts inX9 hown hK hT0 (hY.o rfl) rfl 8 rfl wF_X9_37 rfl dX9_tell_105 (fun p19 => ?_)
    refine lv_topi (fun x20 ex20 => ?_)
    refine lv_if_eq (tgt := 115) hx hb dX9_tell_108 (by decide) (fun c21 => ?_) (fun c21 => ?_)
    · skip
      refine lv_iconst (v := 0) hx hb dX9_tell_115 (by decide) ?_
      exact hret _ _ _ _ _ hT0 hS0 ⟨trivial, rfl⟩ dX9_tell_116
    · skip
      refine lv_iconst (v := 1) hx hb dX9_tell_111 (by decide) ?_
      refine lv_goto (tgt := 116) hx hb dX9_tell_112 (by decide) ?_
      exact hret _ _ _ _ _ hT0 hS0 ⟨trivial, rfl⟩ dX9_tell_116
  · subst c1
    refine lv_tableIn (tgt := 117) hx hb dX9_tell_1 (by decide) (by decide) rfl (by decide) ?_
    refine lv_aload_n hx hb dX9_tell_117 rfl (lv_at hl 0 rfl) ?_
    refine h_geti (C := RX9) (T := TX9) (N := 11) hx hb hts inX9 hown hK hT0 (hY.o rfl) rfl 9 rfl wF_X9_40 rfl dX9_tell_118 (fun p22 => ?_)
    refine lv_topi (fun x23 ex23 => ?_)
    exact hret _ _ _ _ _ hT0 hS0 ⟨trivial, rfl⟩ dX9_tell_121
set_option maxHeartbeats 4000000 in
set_option maxRecDepth 100000 in
theorem c_X9_becomeFrame (l : Launch) (G : hG) (Y : hW) (P : Int32 → Prop) (o o2 : Nat) (hY : h_On Y o (waE (tC P) o)) (hY2 : h_On Y o2 (quE (tC P) o2)) (u1 u2 : Int32) : hMv l yX9_becomeFrame cX9_becomeFrame 4 none 1 21 G Y [.ref (o), .int u1, .ref (o2), .int u2] (fun H => True) (fun H H1 => True) := by
  refine h_ofv (by decide +kernel) (Nat.le_of_ble_eq_true rfl) ?_
  intro p e s m args below meth c H0 ls Q hx hb hts hown hml hK hZ hT0 hpr hS0 hl hret
  have hl : lv_has ls 4 [(0, .ref (o)), (1, .int u1), (2, .ref (o2)), (3, .int u2)] := hl
  refine lv_aload_n hx hb dX9_becomeFrame_0 rfl (lv_at hl 0 rfl) ?_
  refine lv_iconst (v := 2) hx hb dX9_becomeFrame_1 (by decide) ?_
  refine h_puti (C := RX9) (T := TX9) (N := 11) hx hb hts inX9 tyX9 tyX9_ok nmX9 hown hK hT0 (fun _ h => h) hS0 (hY.o rfl) rfl 0 rfl wF_X9_9 rfl rfl trivial rfl rfl dX9_becomeFrame_2 (fun H1 locs hT1 hS1 hu1 => ?_)
  refine lv_aload_n hx hb dX9_becomeFrame_5 rfl (lv_at hl 0 rfl) ?_
  refine lv_iload_n hx hb dX9_becomeFrame_6 rfl (lv_at hl 1 rfl) ?_
  refine h_puti (C := RX9) (T := TX9) (N := 11) hx hb hts inX9 tyX9 tyX9_ok nmX9 hown hK hT1 (fun _ h => h) hS1 (hY.o rfl) rfl 1 rfl wF_X9_15 rfl rfl trivial rfl rfl dX9_becomeFrame_7 (fun H2 locs hT2 hS2 hu2 => ?_)
  refine lv_aload_n hx hb dX9_becomeFrame_10 rfl (lv_at hl 0 rfl) ?_
  refine lv_iconst (v := 0) hx hb dX9_becomeFrame_11 (by decide) ?_
  refine h_puti (C := RX9) (T := TX9) (N := 11) hx hb hts inX9 tyX9 tyX9_ok nmX9 hown hK hT2 (fun _ h => h) hS2 (hY.o rfl) rfl 3 rfl wF_X9_21 rfl rfl trivial rfl rfl dX9_becomeFrame_12 (fun H3 locs hT3 hS3 hu3 => ?_)
  refine lv_aload_n hx hb dX9_becomeFrame_15 rfl (lv_at hl 0 rfl) ?_
  refine lv_iconst (v := 0) hx hb dX9_becomeFrame_16 (by decide) ?_
  refine h_puti (C := RX9) (T := TX9) (N := 11) hx hb hts inX9 tyX9 tyX9_ok nmX9 hown hK hT3 (fun _ h => h) hS3 (hY.o rfl) rfl 4 rfl wF_X9_24 rfl rfl (Or.inl rfl) rfl rfl dX9_becomeFrame_17 (fun H4 locs hT4 hS4 hu4 => ?_)
  refine lv_aload_n hx hb dX9_becomeFrame_20 rfl (lv_at hl 0 rfl) ?_
  refine lv_iload_n hx hb dX9_becomeFrame_21 rfl (lv_at hl 1 rfl) ?_
  refine h_puti (C := RX9) (T := TX9) (N := 11) hx hb hts inX9 tyX9 tyX9_ok nmX9 hown hK hT4 (fun _ h => h) hS4 (hY.o rfl) rfl 5 rfl wF_X9_28 rfl rfl trivial rfl rfl dX9_becomeFrame_22 (fun H5 locs hT5 hS5 hu5 => ?_)
  refine lv_aload_n hx hb dX9_becomeFrame_25 rfl (lv_at hl 0 rfl) ?_
  refine lv_aload_n hx hb dX9_becomeFrame_26 rfl (lv_at hl 2 rfl) ?_
  refine lv_iload_n hx hb dX9_becomeFrame_27 rfl (lv_at hl 3 rfl) ?_
  refine h_callVi (T := TX2) (rest := [.ref (o)]) (As := [.int u2]) hx hb hml hown hts hK hT5 hZ (fun _ h => h) hS5 (c_X2_toIn l G Y P (o2) hY2 u2) trivial wd_X2_toIn wV_X2_toIn wL_X9_46 (hY2.o rfl) rfl rfl hl.1 rfl (Nat.le_of_ble_eq_true rfl) dX9_becomeFrame_28 ⟨Nat.le_of_ble_eq_true rfl, Nat.le_of_ble_eq_true rfl⟩ ⟨Nat.zero_le _, Nat.zero_le _⟩ (fun r1 H6 locs hp6 hT6 hS6 hk6 => ?_)
  obtain ⟨hp6, he⟩ := hp6
  have he := he.symm
  subst he
  refine h_puti (C := RX9) (T := TX9) (N := 11) hx hb hts inX9 tyX9 tyX9_ok nmX9 hown hK hT5 (fun _ h => h) hS6 (hY.o rfl) rfl 6 rfl wF_X9_31 rfl rfl trivial rfl rfl dX9_becomeFrame_31 (fun H7 locs hT7 hS7 hu7 => ?_)
  refine lv_aload_n hx hb dX9_becomeFrame_34 rfl (lv_at hl 0 rfl) ?_
  refine lv_aload_n hx hb dX9_becomeFrame_35 rfl (lv_at hl 2 rfl) ?_
  refine lv_iload_n hx hb dX9_becomeFrame_36 rfl (lv_at hl 3 rfl) ?_
  refine h_callVi (T := TX2) (rest := [.ref (o)]) (As := [.int u2]) hx hb hml hown hts hK hT7 hZ (fun _ h => h) hS7 (c_X2_rankIn l G Y P (o2) hY2 u2) trivial wd_X2_rankIn wV_X2_rankIn wL_X9_52 (hY2.o rfl) rfl rfl hl.1 rfl (Nat.le_of_ble_eq_true rfl) dX9_becomeFrame_37 ⟨Nat.le_of_ble_eq_true rfl, Nat.le_of_ble_eq_true rfl⟩ ⟨Nat.zero_le _, Nat.zero_le _⟩ (fun r2 H8 locs hp8 hT8 hS8 hk8 => ?_)
  obtain ⟨hp8, he⟩ := hp8
  have he := he.symm
  subst he
  refine h_puti (C := RX9) (T := TX9) (N := 11) hx hb hts inX9 tyX9 tyX9_ok nmX9 hown hK hT7 (fun _ h => h) hS8 (hY.o rfl) rfl 7 rfl wF_X9_34 rfl rfl trivial rfl rfl dX9_becomeFrame_40 (fun H9 locs hT9 hS9 hu9 => ?_)
  refine lv_aload_n hx hb dX9_becomeFrame_43 rfl (lv_at hl 0 rfl) ?_
  refine lv_iconst (v := 0) hx hb dX9_becomeFrame_44 (by decide) ?_
  refine h_puti (C := RX9) (T := TX9) (N := 11) hx hb hts inX9 tyX9 tyX9_ok nmX9 hown hK hT9 (fun _ h => h) hS9 (hY.o rfl) rfl 8 rfl wF_X9_37 rfl rfl (Or.inl rfl) rfl rfl dX9_becomeFrame_45 (fun H10 locs hT10 hS10 hu10 => ?_)
  refine lv_aload_n hx hb dX9_becomeFrame_48 rfl (lv_at hl 0 rfl) ?_
  refine lv_aload_n hx hb dX9_becomeFrame_49 rfl (lv_at hl 2 rfl) ?_
  refine lv_iload_n hx hb dX9_becomeFrame_50 rfl (lv_at hl 3 rfl) ?_
  refine h_callVi (T := TX2) (rest := [.ref (o)]) (As := [.int u2]) hx hb hml hown hts hK hT10 hZ (fun _ h => h) hS10 (c_X2_numberIn l G Y P (o2) hY2 u2) trivial wd_X2_numberIn wV_X2_numberIn wL_X9_55 (hY2.o rfl) rfl rfl hl.1 rfl (Nat.le_of_ble_eq_true rfl) dX9_becomeFrame_51 ⟨Nat.le_of_ble_eq_true rfl, Nat.le_of_ble_eq_true rfl⟩ ⟨Nat.zero_le _, Nat.zero_le _⟩ (fun r3 H11 locs hp11 hT11 hS11 hk11 => ?_)
  obtain ⟨hp11, he⟩ := hp11
  have he := he.symm
  subst he
  refine h_puti (C := RX9) (T := TX9) (N := 11) hx hb hts inX9 tyX9 tyX9_ok nmX9 hown hK hT10 (fun _ h => h) hS11 (hY.o rfl) rfl 9 rfl wF_X9_40 rfl rfl trivial rfl rfl dX9_becomeFrame_54 (fun H12 locs hT12 hS12 hu12 => ?_)
  refine lv_aload_n hx hb dX9_becomeFrame_57 rfl (lv_at hl 0 rfl) ?_
  refine lv_aload_n hx hb dX9_becomeFrame_58 rfl (lv_at hl 2 rfl) ?_
  refine lv_iload_n hx hb dX9_becomeFrame_59 rfl (lv_at hl 3 rfl) ?_
  refine h_callVi (T := TX2) (rest := [.ref (o)]) (As := [.int u2]) hx hb hml hown hts hK hT12 hZ (fun _ h => h) hS12 (c_X2_birthIn l G Y P (o2) hY2 u2) trivial wd_X2_birthIn wV_X2_birthIn wL_X9_58 (hY2.o rfl) rfl rfl hl.1 rfl (Nat.le_of_ble_eq_true rfl) dX9_becomeFrame_60 ⟨Nat.le_of_ble_eq_true rfl, Nat.le_of_ble_eq_true rfl⟩ ⟨Nat.zero_le _, Nat.zero_le _⟩ (fun r4 H13 locs hp13 hT13 hS13 hk13 => ?_)
  obtain ⟨hp13, he⟩ := hp13
  have he := he.symm
  subst he
  refine h_puti (C := RX9) (T := TX9) (N := 11) hx hb hts inX9 tyX9 tyX9_ok nmX9 hown hK hT12 (fun _ h => h) hS13 (hY.o rfl) rfl 10 rfl wF_X9_43 rfl rfl trivial rfl rfl dX9_becomeFrame_63 (fun H14 locs hT14 hS14 hu14 => ?_)
  exact hret _ _ _ _ hT14 hS14 trivial dX9_becomeFrame_66
set_option maxHeartbeats 4000000 in
set_option maxRecDepth 100000 in
theorem c_X6_restart (l : Launch) (G : hG) (Y : hW) (P : Int32 → Prop) (o : Nat) (hY : h_On Y o (siE (tC P) o)) : hMv l yX6_restart cX6_restart 1 none 0 0 G Y [.ref (o)] (fun H => True) (fun H H1 => True) := by
  refine h_ofv (by decide +kernel) (Nat.le_of_ble_eq_true rfl) ?_
  intro p e s m args below meth c H0 ls Q hx hb hts hown hml hK hZ hT0 hpr hS0 hl hret
  have hl : lv_has ls 1 [(0, .ref (o))] := hl
  refine lv_aload_n hx hb dX6_restart_0 rfl (lv_at hl 0 rfl) ?_
  refine lv_iconst (v := 0) hx hb dX6_restart_1 (by decide) ?_
  refine h_puti (C := RX6) (T := TX6) (N := 4) hx hb hts inX6 tyX6 tyX6_ok nmX6 hown hK hT0 (fun _ h => h) hS0 (hY.o rfl) rfl 0 rfl wF_X6_9 rfl rfl trivial rfl rfl dX6_restart_2 (fun H1 locs hT1 hS1 hu1 => ?_)
  refine lv_aload_n hx hb dX6_restart_5 rfl (lv_at hl 0 rfl) ?_
  refine lv_iconst (v := 0) hx hb dX6_restart_6 (by decide) ?_
  refine h_puti (C := RX6) (T := TX6) (N := 4) hx hb hts inX6 tyX6 tyX6_ok nmX6 hown hK hT1 (fun _ h => h) hS1 (hY.o rfl) rfl 1 rfl wF_X6_15 rfl rfl trivial rfl rfl dX6_restart_7 (fun H2 locs hT2 hS2 hu2 => ?_)
  refine lv_aload_n hx hb dX6_restart_10 rfl (lv_at hl 0 rfl) ?_
  refine lv_iconst (v := (-1)) hx hb dX6_restart_11 (by decide) ?_
  refine h_puti (C := RX6) (T := TX6) (N := 4) hx hb hts inX6 tyX6 tyX6_ok nmX6 hown hK hT2 (fun _ h => h) hS2 (hY.o rfl) rfl 2 rfl wF_X6_18 rfl rfl trivial rfl rfl dX6_restart_12 (fun H3 locs hT3 hS3 hu3 => ?_)
  refine lv_aload_n hx hb dX6_restart_15 rfl (lv_at hl 0 rfl) ?_
  refine lv_iconst (v := (-1)) hx hb dX6_restart_16 (by decide) ?_
  refine h_puti (C := RX6) (T := TX6) (N := 4) hx hb hts inX6 tyX6 tyX6_ok nmX6 hown hK hT3 (fun _ h => h) hS3 (hY.o rfl) rfl 3 rfl wF_X6_21 rfl rfl trivial rfl rfl dX6_restart_17 (fun H4 locs hT4 hS4 hu4 => ?_)
  exact hret _ _ _ _ hT4 hS4 trivial dX6_restart_20
set_option maxHeartbeats 4000000 in
set_option maxRecDepth 100000 in
theorem c_X0_counted (l : Launch) (G : hG) (Y : hW) (P : Int32 → Prop) (o : Nat) (hY : h_On Y o (boE (tC P) o)) (u1 : Int32) : hMi l yX0_counted cX0_counted 2 (some .int) 0 0 G Y [.ref (o), .int u1] (fun H => True) (fun H r H1 => (True) ∧ H1 = H) := by
  refine h_ofi (by decide +kernel) (Nat.le_of_ble_eq_true rfl) ?_
  intro p e s m args below meth c H0 ls Q hx hb hts hown hml hK hZ hT0 hpr hS0 hl hret
  have hl : lv_has ls 2 [(0, .ref (o)), (1, .int u1)] := hl
  refine lv_iload_n hx hb dX0_counted_0 rfl (lv_at hl 1 rfl) ?_
  refine lv_if_lt (tgt := 19) hx hb dX0_counted_1 (by decide) (fun c1 => ?_) (fun c1 => ?_)
  · skip
    refine lv_iconst (v := 0) hx hb dX0_counted_19 (by decide) ?_
    exact hret _ _ _ _ _ hT0 hS0 ⟨trivial, rfl⟩ dX0_counted_20
  · skip
    refine lv_iload_n hx hb dX0_counted_4 rfl (lv_at hl 1 rfl) ?_
    refine lv_bipush (v := 10) hx hb dX0_counted_5 (by decide) ?_
    refine lv_icmp_ge (tgt := 19) hx hb dX0_counted_7 (by decide) (fun c2 => ?_) (fun c2 => ?_)
    · skip
      refine lv_iconst (v := 0) hx hb dX0_counted_19 (by decide) ?_
      exact hret _ _ _ _ _ hT0 hS0 ⟨trivial, rfl⟩ dX0_counted_20
    · skip
      refine lv_aload_n hx hb dX0_counted_10 rfl (lv_at hl 0 rfl) ?_
      refine h_getr (C := RX0) (T := TX0) (N := 6) hx hb hts inX0 hown hK hT0 (hY.o rfl) rfl 0 rfl wF_X0_9 rfl dX0_counted_11 ?_
      refine lv_iload_n hx hb dX0_counted_14 rfl (lv_at hl 1 rfl) ?_
      refine h_iald hx hb hK hT0 (hY.at 1 rfl) (vp_in_iff.mpr (by (try simp only [Int32.lt_iff_toInt_lt, Int32.le_iff_toInt_le, ← Int32.toInt_inj, Int32.reduceToInt, (show (-1 : Int32).toInt = -1 from rfl)] at c1 c2 ⊢); omega)) dX0_counted_15 (fun p3 => ?_)
      refine lv_topi (fun x4 ex4 => ?_)
      refine lv_goto (tgt := 20) hx hb dX0_counted_16 (by decide) ?_
      exact hret _ _ _ _ _ hT0 hS0 ⟨trivial, rfl⟩ dX0_counted_20
set_option maxHeartbeats 4000000 in
set_option maxRecDepth 100000 in
theorem c_X0_gotOf (l : Launch) (G : hG) (Y : hW) (P : Int32 → Prop) (o : Nat) (hY : h_On Y o (boE (tC P) o)) (u1 : Int32) : hMi l yX0_gotOf cX0_gotOf 2 (some .int) 0 0 G Y [.ref (o), .int u1] (fun H => True) (fun H r H1 => (True) ∧ H1 = H) := by
  refine h_ofi (by decide +kernel) (Nat.le_of_ble_eq_true rfl) ?_
  intro p e s m args below meth c H0 ls Q hx hb hts hown hml hK hZ hT0 hpr hS0 hl hret
  have hl : lv_has ls 2 [(0, .ref (o)), (1, .int u1)] := hl
  refine lv_iload_n hx hb dX0_gotOf_0 rfl (lv_at hl 1 rfl) ?_
  refine lv_if_lt (tgt := 19) hx hb dX0_gotOf_1 (by decide) (fun c1 => ?_) (fun c1 => ?_)
  · skip
    refine lv_iconst (v := 0) hx hb dX0_gotOf_19 (by decide) ?_
    exact hret _ _ _ _ _ hT0 hS0 ⟨trivial, rfl⟩ dX0_gotOf_20
  · skip
    refine lv_iload_n hx hb dX0_gotOf_4 rfl (lv_at hl 1 rfl) ?_
    refine lv_bipush (v := 8) hx hb dX0_gotOf_5 (by decide) ?_
    refine lv_icmp_ge (tgt := 19) hx hb dX0_gotOf_7 (by decide) (fun c2 => ?_) (fun c2 => ?_)
    · skip
      refine lv_iconst (v := 0) hx hb dX0_gotOf_19 (by decide) ?_
      exact hret _ _ _ _ _ hT0 hS0 ⟨trivial, rfl⟩ dX0_gotOf_20
    · skip
      refine lv_aload_n hx hb dX0_gotOf_10 rfl (lv_at hl 0 rfl) ?_
      refine h_getr (C := RX0) (T := TX0) (N := 6) hx hb hts inX0 hown hK hT0 (hY.o rfl) rfl 1 rfl wF_X0_15 rfl dX0_gotOf_11 ?_
      refine lv_iload_n hx hb dX0_gotOf_14 rfl (lv_at hl 1 rfl) ?_
      refine h_iald hx hb hK hT0 (hY.at 2 rfl) (vp_in_iff.mpr (by (try simp only [Int32.lt_iff_toInt_lt, Int32.le_iff_toInt_le, ← Int32.toInt_inj, Int32.reduceToInt, (show (-1 : Int32).toInt = -1 from rfl)] at c1 c2 ⊢); omega)) dX0_gotOf_15 (fun p3 => ?_)
      refine lv_topi (fun x4 ex4 => ?_)
      refine lv_goto (tgt := 20) hx hb dX0_gotOf_16 (by decide) ?_
      exact hret _ _ _ _ _ hT0 hS0 ⟨trivial, rfl⟩ dX0_gotOf_20
set_option maxHeartbeats 4000000 in
set_option maxRecDepth 100000 in
theorem c_X0_agesOf (l : Launch) (G : hG) (Y : hW) (P : Int32 → Prop) (o : Nat) (hY : h_On Y o (boE (tC P) o)) (u1 : Int32) : hMi l yX0_agesOf cX0_agesOf 2 (some .int) 0 0 G Y [.ref (o), .int u1] (fun H => True) (fun H r H1 => (True) ∧ H1 = H) := by
  refine h_ofi (by decide +kernel) (Nat.le_of_ble_eq_true rfl) ?_
  intro p e s m args below meth c H0 ls Q hx hb hts hown hml hK hZ hT0 hpr hS0 hl hret
  have hl : lv_has ls 2 [(0, .ref (o)), (1, .int u1)] := hl
  refine lv_iload_n hx hb dX0_agesOf_0 rfl (lv_at hl 1 rfl) ?_
  refine lv_if_lt (tgt := 19) hx hb dX0_agesOf_1 (by decide) (fun c1 => ?_) (fun c1 => ?_)
  · skip
    refine lv_iconst (v := 0) hx hb dX0_agesOf_19 (by decide) ?_
    exact hret _ _ _ _ _ hT0 hS0 ⟨trivial, rfl⟩ dX0_agesOf_20
  · skip
    refine lv_iload_n hx hb dX0_agesOf_4 rfl (lv_at hl 1 rfl) ?_
    refine lv_bipush (v := 8) hx hb dX0_agesOf_5 (by decide) ?_
    refine lv_icmp_ge (tgt := 19) hx hb dX0_agesOf_7 (by decide) (fun c2 => ?_) (fun c2 => ?_)
    · skip
      refine lv_iconst (v := 0) hx hb dX0_agesOf_19 (by decide) ?_
      exact hret _ _ _ _ _ hT0 hS0 ⟨trivial, rfl⟩ dX0_agesOf_20
    · skip
      refine lv_aload_n hx hb dX0_agesOf_10 rfl (lv_at hl 0 rfl) ?_
      refine h_getr (C := RX0) (T := TX0) (N := 6) hx hb hts inX0 hown hK hT0 (hY.o rfl) rfl 2 rfl wF_X0_18 rfl dX0_agesOf_11 ?_
      refine lv_iload_n hx hb dX0_agesOf_14 rfl (lv_at hl 1 rfl) ?_
      refine h_iald hx hb hK hT0 (hY.at 3 rfl) (vp_in_iff.mpr (by (try simp only [Int32.lt_iff_toInt_lt, Int32.le_iff_toInt_le, ← Int32.toInt_inj, Int32.reduceToInt, (show (-1 : Int32).toInt = -1 from rfl)] at c1 c2 ⊢); omega)) dX0_agesOf_15 (fun p3 => ?_)
      refine lv_topi (fun x4 ex4 => ?_)
      refine lv_goto (tgt := 20) hx hb dX0_agesOf_16 (by decide) ?_
      exact hret _ _ _ _ _ hT0 hS0 ⟨trivial, rfl⟩ dX0_agesOf_20
set_option maxHeartbeats 4000000 in
set_option maxRecDepth 100000 in
theorem c_X0_clear (l : Launch) (G : hG) (Y : hW) (P : Int32 → Prop) (o : Nat) (hY : h_On Y o (boE (tC P) o)) : hMv l yX0_clear cX0_clear 1 none 1 23 G Y [.ref (o)] (fun H => True) (fun H H1 => True) := by
  refine h_ofv (by decide +kernel) (Nat.le_of_ble_eq_true rfl) ?_
  intro p e s m args below meth c H0 ls Q hx hb hts hown hml hK hZ hT0 hpr hS0 hl hret
  have hl : lv_has ls 1 [(0, .ref (o))] := hl
  refine lv_aload_n hx hb dX0_clear_0 rfl (lv_at hl 0 rfl) ?_
  refine h_getr (C := RX0) (T := TX0) (N := 6) hx hb hts inX0 hown hK hT0 (hY.o rfl) rfl 0 rfl wF_X0_9 rfl dX0_clear_1 ?_
  refine lv_iconst (v := 0) hx hb dX0_clear_4 (by decide) ?_
  refine h_callSv (rest := []) (As := [.ref (o + 1), .int 0]) hx hb hml hown hts hK hT0 hZ (fun _ h => h) hS0 (c_fill l G Y (o + 1) 10 _ 0 (hY.at 1 rfl) (by decide) (fun _ _ => trivial)) trivial wd_J7_fill_53178 wS_J7_fill_53178 wL_X0_31 rfl hl.1 rfl (Nat.le_of_ble_eq_true rfl) dX0_clear_5 ⟨Nat.le_of_ble_eq_true rfl, Nat.le_of_ble_eq_true rfl⟩ ⟨Nat.zero_le _, Nat.zero_le _⟩ (fun H1 locs hp1 hT1 hS1 hk1 => ?_)
  refine lv_aload_n hx hb dX0_clear_8 rfl (lv_at hl 0 rfl) ?_
  refine h_getr (C := RX0) (T := TX0) (N := 6) hx hb hts inX0 hown hK hT1 (hY.o rfl) rfl 1 rfl wF_X0_15 rfl dX0_clear_9 ?_
  refine lv_iconst (v := 0) hx hb dX0_clear_12 (by decide) ?_
  refine h_callSv (rest := []) (As := [.ref (o + 2), .int 0]) hx hb hml hown hts hK hT1 hZ (fun _ h => h) hS1 (c_fill l G Y (o + 2) 8 _ 0 (hY.at 2 rfl) (by decide) (fun _ _ => trivial)) trivial wd_J7_fill_53178 wS_J7_fill_53178 wL_X0_31 rfl hl.1 rfl (Nat.le_of_ble_eq_true rfl) dX0_clear_13 ⟨Nat.le_of_ble_eq_true rfl, Nat.le_of_ble_eq_true rfl⟩ ⟨Nat.zero_le _, Nat.zero_le _⟩ (fun H2 locs hp2 hT2 hS2 hk2 => ?_)
  refine lv_aload_n hx hb dX0_clear_16 rfl (lv_at hl 0 rfl) ?_
  refine h_getr (C := RX0) (T := TX0) (N := 6) hx hb hts inX0 hown hK hT2 (hY.o rfl) rfl 2 rfl wF_X0_18 rfl dX0_clear_17 ?_
  refine lv_iconst (v := 0) hx hb dX0_clear_20 (by decide) ?_
  refine h_callSv (rest := []) (As := [.ref (o + 3), .int 0]) hx hb hml hown hts hK hT2 hZ (fun _ h => h) hS2 (c_fill l G Y (o + 3) 8 _ 0 (hY.at 3 rfl) (by decide) (fun _ _ => trivial)) trivial wd_J7_fill_53178 wS_J7_fill_53178 wL_X0_31 rfl hl.1 rfl (Nat.le_of_ble_eq_true rfl) dX0_clear_21 ⟨Nat.le_of_ble_eq_true rfl, Nat.le_of_ble_eq_true rfl⟩ ⟨Nat.zero_le _, Nat.zero_le _⟩ (fun H3 locs hp3 hT3 hS3 hk3 => ?_)
  refine lv_aload_n hx hb dX0_clear_24 rfl (lv_at hl 0 rfl) ?_
  refine lv_iconst (v := 0) hx hb dX0_clear_25 (by decide) ?_
  refine h_puti (C := RX0) (T := TX0) (N := 6) hx hb hts inX0 tyX0 tyX0_ok nmX0 hown hK hT3 (fun _ h => h) hS3 (hY.o rfl) rfl 5 rfl wF_X0_27 rfl rfl trivial rfl rfl dX0_clear_26 (fun H4 locs hT4 hS4 hu4 => ?_)
  exact hret _ _ _ _ hT4 hS4 trivial dX0_clear_29
set_option maxHeartbeats 4000000 in
set_option maxRecDepth 100000 in
theorem c_X0_countRefused (l : Launch) (G : hG) (Y : hW) (P : Int32 → Prop) (o : Nat) (hY : h_On Y o (boE (tC P) o)) : hMv l yX0_countRefused cX0_countRefused 1 none 0 0 G Y [.ref (o)] (fun H => True) (fun H H1 => True) := by
  refine h_ofv (by decide +kernel) (Nat.le_of_ble_eq_true rfl) ?_
  intro p e s m args below meth c H0 ls Q hx hb hts hown hml hK hZ hT0 hpr hS0 hl hret
  have hl : lv_has ls 1 [(0, .ref (o))] := hl
  refine lv_aload_n hx hb dX0_countRefused_0 rfl (lv_at hl 0 rfl) ?_
  refine h_getr (C := RX0) (T := TX0) (N := 6) hx hb hts inX0 hown hK hT0 (hY.o rfl) rfl 0 rfl wF_X0_9 rfl dX0_countRefused_1 ?_
  refine lv_bipush (v := 7) hx hb dX0_countRefused_4 (by decide) ?_
  refine lv_dup2_11 hx hb dX0_countRefused_6 rfl rfl ?_
  refine h_iald hx hb hK hT0 (hY.at 1 rfl) (h_inc (by decide)) dX0_countRefused_7 (fun p1 => ?_)
  refine lv_topi (fun x2 ex2 => ?_)
  refine lv_iconst (v := 1) hx hb dX0_countRefused_8 (by decide) ?_
  refine lv_iadd hx hb dX0_countRefused_9 ?_
  refine lv_topi (fun x3 ex3 => ?_)
  refine h_iast hx hb hK hT0 (fun _ h => h) hS0 (hY.at 1 rfl) (h_inc (by decide)) trivial dX0_countRefused_10 (fun H1 locs hT1 hS1 hu1 => ?_)
  exact hret _ _ _ _ hT1 hS1 trivial dX0_countRefused_11
set_option maxHeartbeats 4000000 in
set_option maxRecDepth 100000 in
theorem c_X0_countLevel (l : Launch) (G : hG) (Y : hW) (P : Int32 → Prop) (o : Nat) (hY : h_On Y o (boE (tC P) o)) (u1 : Int32) : hMv l yX0_countLevel cX0_countLevel 2 none 1 21 G Y [.ref (o), .int u1] (fun H => True) (fun H H1 => True) := by
  refine h_ofv (by decide +kernel) (Nat.le_of_ble_eq_true rfl) ?_
  intro p e s m args below meth c H0 ls Q hx hb hts hown hml hK hZ hT0 hpr hS0 hl hret
  have hl : lv_has ls 2 [(0, .ref (o)), (1, .int u1)] := hl
  refine lv_aload_n hx hb dX0_countLevel_0 rfl (lv_at hl 0 rfl) ?_
  refine h_getr (C := RX0) (T := TX0) (N := 6) hx hb hts inX0 hown hK hT0 (hY.o rfl) rfl 0 rfl wF_X0_9 rfl dX0_countLevel_1 ?_
  refine lv_bipush (v := 6) hx hb dX0_countLevel_4 (by decide) ?_
  refine lv_aload_n hx hb dX0_countLevel_6 rfl (lv_at hl 0 rfl) ?_
  refine h_getr (C := RX0) (T := TX0) (N := 6) hx hb hts inX0 hown hK hT0 (hY.o rfl) rfl 0 rfl wF_X0_9 rfl dX0_countLevel_7 ?_
  refine lv_bipush (v := 6) hx hb dX0_countLevel_10 (by decide) ?_
  refine h_iald hx hb hK hT0 (hY.at 1 rfl) (h_inc (by decide)) dX0_countLevel_12 (fun p1 => ?_)
  refine lv_topi (fun x2 ex2 => ?_)
  refine lv_iload_n hx hb dX0_countLevel_13 rfl (lv_at hl 1 rfl) ?_
  refine h_callSi (rest := [.int 6, .ref (o + 1)]) (As := [.int x2, .int u1]) hx hb hml hown hts hK hT0 hZ (fun _ h => h) hS0 (c_max l G Y x2 u1) trivial wd_J9_max_7cf53 wS_J9_max_7cf53 wL_X0_43 rfl hl.1 rfl (Nat.le_of_ble_eq_true rfl) dX0_countLevel_14 ⟨Nat.le_of_ble_eq_true rfl, Nat.le_of_ble_eq_true rfl⟩ ⟨Nat.zero_le _, Nat.zero_le _⟩ (fun r3 H1 locs hp1 hT1 hS1 hk1 => ?_)
  obtain ⟨hp1, he⟩ := hp1
  have he := he.symm
  subst he
  refine h_iast hx hb hK hT0 (fun _ h => h) hS1 (hY.at 1 rfl) (h_inc (by decide)) trivial dX0_countLevel_17 (fun H2 locs hT2 hS2 hu2 => ?_)
  exact hret _ _ _ _ hT2 hS2 trivial dX0_countLevel_18
set_option maxHeartbeats 4000000 in
set_option maxRecDepth 100000 in
theorem c_X0_enter (l : Launch) (G : hG) (Y : hW) (P : Int32 → Prop) (o : Nat) (hY : h_On Y o (boE (tC P) o)) (u1 u2 u3 : Int32) : hMv l yX0_enter cX0_enter 5 none 1 22 G Y [.ref (o), .int u1, .int u2, .int u3] (fun H => True) (fun H H1 => True) := by
  refine h_ofv (by decide +kernel) (Nat.le_of_ble_eq_true rfl) ?_
  intro p e s m args below meth c H0 ls Q hx hb hts hown hml hK hZ hT0 hpr hS0 hl hret
  have hl : lv_has ls 5 [(0, .ref (o)), (1, .int u1), (2, .int u2), (3, .int u3)] := hl
  refine lv_iload_n hx hb dX0_enter_0 rfl (lv_at hl 1 rfl) ?_
  refine lv_if_lt (tgt := 19) hx hb dX0_enter_1 (by decide) (fun c1 => ?_) (fun c1 => ?_)
  · skip
    refine lv_aload_n hx hb dX0_enter_19 rfl (lv_at hl 0 rfl) ?_
    refine h_geti (C := RX0) (T := TX0) (N := 6) hx hb hts inX0 hown hK hT0 (hY.o rfl) rfl 5 rfl wF_X0_27 rfl dX0_enter_20 (fun p2 => ?_)
    refine lv_topi (fun x3 ex3 => ?_)
    refine lv_bipush (v := 24) hx hb dX0_enter_23 (by decide) ?_
    refine h_callSi (rest := []) (As := [.int x3, .int 24]) hx hb hml hown hts hK hT0 hZ (fun _ h => h) hS0 (c_floorMod24 l G Y x3) trivial wd_J9_floorMod_7cf53 wS_J9_floorMod_7cf53 wL_X0_49 rfl hl.1 rfl (Nat.le_of_ble_eq_true rfl) dX0_enter_25 ⟨Nat.le_of_ble_eq_true rfl, Nat.le_of_ble_eq_true rfl⟩ ⟨Nat.zero_le _, Nat.zero_le _⟩ (fun r4 H1 locs hp1 hT1 hS1 hk1 => ?_)
    obtain ⟨hp1, he⟩ := hp1
    have he := he.symm
    subst he
    obtain ⟨j5, hj5, qj5⟩ := h_toN (n := 24) hp1.1 hp1.2
    subst qj5
    refine lv_iconst (v := 3) hx hb dX0_enter_28 (by decide) ?_
    refine lv_imul hx hb dX0_enter_29 ?_
    refine h_top (v := (nI (j5 * 3))) (h_nmul j5 3) ?_
    refine lv_istore (lv' := [(4, .int (nI (j5 * 3))), (0, .ref (o)), (1, .int u1), (2, .int u2), (3, .int u3)]) hx hb dX0_enter_30 hl (by decide) rfl (fun ls hl => ?_)
    refine lv_aload_n hx hb dX0_enter_32 rfl (lv_at hl 1 rfl) ?_
    refine h_getr (C := RX0) (T := TX0) (N := 6) hx hb hts inX0 hown hK hT0 (hY.o rfl) rfl 4 rfl wF_X0_24 rfl dX0_enter_33 ?_
    refine lv_iload hx hb dX0_enter_36 (lv_at hl 0 rfl) ?_
    refine lv_iload_n hx hb dX0_enter_38 rfl (lv_at hl 2 rfl) ?_
    refine h_iast hx hb hK hT0 (fun _ h => h) hS1 (hY.at 5 rfl) (vp_in_nI (by omega) (by decide)) trivial dX0_enter_39 (fun H2 locs hT2 hS2 hu2 => ?_)
    refine lv_aload_n hx hb dX0_enter_40 rfl (lv_at hl 1 rfl) ?_
    refine h_getr (C := RX0) (T := TX0) (N := 6) hx hb hts inX0 hown hK hT2 (hY.o rfl) rfl 4 rfl wF_X0_24 rfl dX0_enter_41 ?_
    refine lv_iload hx hb dX0_enter_44 (lv_at hl 0 rfl) ?_
    refine lv_iconst (v := 1) hx hb dX0_enter_46 (by decide) ?_
    refine lv_iadd hx hb dX0_enter_47 ?_
    refine h_top (v := (nI ((j5 * 3) + 1))) (h_nadd (j5 * 3) 1) ?_
    refine lv_iload_n hx hb dX0_enter_48 rfl (lv_at hl 3 rfl) ?_
    refine h_iast hx hb hK hT2 (fun _ h => h) hS2 (hY.at 5 rfl) (vp_in_nI (by omega) (by decide)) trivial dX0_enter_49 (fun H3 locs hT3 hS3 hu3 => ?_)
    refine lv_aload_n hx hb dX0_enter_50 rfl (lv_at hl 1 rfl) ?_
    refine h_getr (C := RX0) (T := TX0) (N := 6) hx hb hts inX0 hown hK hT3 (hY.o rfl) rfl 4 rfl wF_X0_24 rfl dX0_enter_51 ?_
    refine lv_iload hx hb dX0_enter_54 (lv_at hl 0 rfl) ?_
    refine lv_iconst (v := 2) hx hb dX0_enter_56 (by decide) ?_
    refine lv_iadd hx hb dX0_enter_57 ?_
    refine h_top (v := (nI ((j5 * 3) + 2))) (h_nadd (j5 * 3) 2) ?_
    refine lv_iload_n hx hb dX0_enter_58 rfl (lv_at hl 4 rfl) ?_
    refine h_iast hx hb hK hT3 (fun _ h => h) hS3 (hY.at 5 rfl) (vp_in_nI (by omega) (by decide)) trivial dX0_enter_59 (fun H4 locs hT4 hS4 hu4 => ?_)
    refine lv_aload_n hx hb dX0_enter_60 rfl (lv_at hl 1 rfl) ?_
    refine lv_dup hx hb dX0_enter_61 rfl ?_
    refine h_geti (C := RX0) (T := TX0) (N := 6) hx hb hts inX0 hown hK hT4 (hY.o rfl) rfl 5 rfl wF_X0_27 rfl dX0_enter_62 (fun p6 => ?_)
    refine h_top (v := x3) ((h_gi_same (hu4.2.1 _ (by omega))).trans ((h_gi_same (hu3.2.1 _ (by omega))).trans ((h_gi_same (hu2.2.1 _ (by omega))).trans ex3.symm))) ?_
    refine lv_iconst (v := 1) hx hb dX0_enter_65 (by decide) ?_
    refine lv_iadd hx hb dX0_enter_66 ?_
    refine lv_topi (fun x7 ex7 => ?_)
    refine h_puti (C := RX0) (T := TX0) (N := 6) hx hb hts inX0 tyX0 tyX0_ok nmX0 hown hK hT4 (fun _ h => h) hS4 (hY.o rfl) rfl 5 rfl wF_X0_27 rfl rfl trivial rfl rfl dX0_enter_67 (fun H5 locs hT5 hS5 hu5 => ?_)
    exact hret _ _ _ _ hT5 hS5 trivial dX0_enter_70
  · skip
    refine lv_iload_n hx hb dX0_enter_4 rfl (lv_at hl 1 rfl) ?_
    refine lv_iconst (v := 5) hx hb dX0_enter_5 (by decide) ?_
    refine lv_icmp_gt (tgt := 19) hx hb dX0_enter_6 (by decide) (fun c8 => ?_) (fun c8 => ?_)
    · skip
      refine lv_aload_n hx hb dX0_enter_19 rfl (lv_at hl 0 rfl) ?_
      refine h_geti (C := RX0) (T := TX0) (N := 6) hx hb hts inX0 hown hK hT0 (hY.o rfl) rfl 5 rfl wF_X0_27 rfl dX0_enter_20 (fun p9 => ?_)
      refine lv_topi (fun x10 ex10 => ?_)
      refine lv_bipush (v := 24) hx hb dX0_enter_23 (by decide) ?_
      refine h_callSi (rest := []) (As := [.int x10, .int 24]) hx hb hml hown hts hK hT0 hZ (fun _ h => h) hS0 (c_floorMod24 l G Y x10) trivial wd_J9_floorMod_7cf53 wS_J9_floorMod_7cf53 wL_X0_49 rfl hl.1 rfl (Nat.le_of_ble_eq_true rfl) dX0_enter_25 ⟨Nat.le_of_ble_eq_true rfl, Nat.le_of_ble_eq_true rfl⟩ ⟨Nat.zero_le _, Nat.zero_le _⟩ (fun r11 H6 locs hp6 hT6 hS6 hk6 => ?_)
      obtain ⟨hp6, he⟩ := hp6
      have he := he.symm
      subst he
      obtain ⟨j12, hj12, qj12⟩ := h_toN (n := 24) hp6.1 hp6.2
      subst qj12
      refine lv_iconst (v := 3) hx hb dX0_enter_28 (by decide) ?_
      refine lv_imul hx hb dX0_enter_29 ?_
      refine h_top (v := (nI (j12 * 3))) (h_nmul j12 3) ?_
      refine lv_istore (lv' := [(4, .int (nI (j12 * 3))), (0, .ref (o)), (1, .int u1), (2, .int u2), (3, .int u3)]) hx hb dX0_enter_30 hl (by decide) rfl (fun ls hl => ?_)
      refine lv_aload_n hx hb dX0_enter_32 rfl (lv_at hl 1 rfl) ?_
      refine h_getr (C := RX0) (T := TX0) (N := 6) hx hb hts inX0 hown hK hT0 (hY.o rfl) rfl 4 rfl wF_X0_24 rfl dX0_enter_33 ?_
      refine lv_iload hx hb dX0_enter_36 (lv_at hl 0 rfl) ?_
      refine lv_iload_n hx hb dX0_enter_38 rfl (lv_at hl 2 rfl) ?_
      refine h_iast hx hb hK hT0 (fun _ h => h) hS6 (hY.at 5 rfl) (vp_in_nI (by omega) (by decide)) trivial dX0_enter_39 (fun H7 locs hT7 hS7 hu7 => ?_)
      refine lv_aload_n hx hb dX0_enter_40 rfl (lv_at hl 1 rfl) ?_
      refine h_getr (C := RX0) (T := TX0) (N := 6) hx hb hts inX0 hown hK hT7 (hY.o rfl) rfl 4 rfl wF_X0_24 rfl dX0_enter_41 ?_
      refine lv_iload hx hb dX0_enter_44 (lv_at hl 0 rfl) ?_
      refine lv_iconst (v := 1) hx hb dX0_enter_46 (by decide) ?_
      refine lv_iadd hx hb dX0_enter_47 ?_
      refine h_top (v := (nI ((j12 * 3) + 1))) (h_nadd (j12 * 3) 1) ?_
      refine lv_iload_n hx hb dX0_enter_48 rfl (lv_at hl 3 rfl) ?_
      refine h_iast hx hb hK hT7 (fun _ h => h) hS7 (hY.at 5 rfl) (vp_in_nI (by omega) (by decide)) trivial dX0_enter_49 (fun H8 locs hT8 hS8 hu8 => ?_)
      refine lv_aload_n hx hb dX0_enter_50 rfl (lv_at hl 1 rfl) ?_
      refine h_getr (C := RX0) (T := TX0) (N := 6) hx hb hts inX0 hown hK hT8 (hY.o rfl) rfl 4 rfl wF_X0_24 rfl dX0_enter_51 ?_
      refine lv_iload hx hb dX0_enter_54 (lv_at hl 0 rfl) ?_
      refine lv_iconst (v := 2) hx hb dX0_enter_56 (by decide) ?_
      refine lv_iadd hx hb dX0_enter_57 ?_
      refine h_top (v := (nI ((j12 * 3) + 2))) (h_nadd (j12 * 3) 2) ?_
      refine lv_iload_n hx hb dX0_enter_58 rfl (lv_at hl 4 rfl) ?_
      refine h_iast hx hb hK hT8 (fun _ h => h) hS8 (hY.at 5 rfl) (vp_in_nI (by omega) (by decide)) trivial dX0_enter_59 (fun H9 locs hT9 hS9 hu9 => ?_)
      refine lv_aload_n hx hb dX0_enter_60 rfl (lv_at hl 1 rfl) ?_
      refine lv_dup hx hb dX0_enter_61 rfl ?_
      refine h_geti (C := RX0) (T := TX0) (N := 6) hx hb hts inX0 hown hK hT9 (hY.o rfl) rfl 5 rfl wF_X0_27 rfl dX0_enter_62 (fun p13 => ?_)
      refine h_top (v := x10) ((h_gi_same (hu9.2.1 _ (by omega))).trans ((h_gi_same (hu8.2.1 _ (by omega))).trans ((h_gi_same (hu7.2.1 _ (by omega))).trans ex10.symm))) ?_
      refine lv_iconst (v := 1) hx hb dX0_enter_65 (by decide) ?_
      refine lv_iadd hx hb dX0_enter_66 ?_
      refine lv_topi (fun x14 ex14 => ?_)
      refine h_puti (C := RX0) (T := TX0) (N := 6) hx hb hts inX0 tyX0 tyX0_ok nmX0 hown hK hT9 (fun _ h => h) hS9 (hY.o rfl) rfl 5 rfl wF_X0_27 rfl rfl trivial rfl rfl dX0_enter_67 (fun H10 locs hT10 hS10 hu10 => ?_)
      exact hret _ _ _ _ hT10 hS10 trivial dX0_enter_70
    · skip
      refine lv_aload_n hx hb dX0_enter_9 rfl (lv_at hl 0 rfl) ?_
      refine h_getr (C := RX0) (T := TX0) (N := 6) hx hb hts inX0 hown hK hT0 (hY.o rfl) rfl 0 rfl wF_X0_9 rfl dX0_enter_10 ?_
      refine lv_iload_n hx hb dX0_enter_13 rfl (lv_at hl 1 rfl) ?_
      refine lv_dup2_11 hx hb dX0_enter_14 rfl rfl ?_
      refine h_iald hx hb hK hT0 (hY.at 1 rfl) (vp_in_iff.mpr (by (try simp only [Int32.lt_iff_toInt_lt, Int32.le_iff_toInt_le, ← Int32.toInt_inj, Int32.reduceToInt, (show (-1 : Int32).toInt = -1 from rfl)] at c1 c8 ⊢); omega)) dX0_enter_15 (fun p15 => ?_)
      refine lv_topi (fun x16 ex16 => ?_)
      refine lv_iconst (v := 1) hx hb dX0_enter_16 (by decide) ?_
      refine lv_iadd hx hb dX0_enter_17 ?_
      refine lv_topi (fun x17 ex17 => ?_)
      refine h_iast hx hb hK hT0 (fun _ h => h) hS0 (hY.at 1 rfl) (vp_in_iff.mpr (by (try simp only [Int32.lt_iff_toInt_lt, Int32.le_iff_toInt_le, ← Int32.toInt_inj, Int32.reduceToInt, (show (-1 : Int32).toInt = -1 from rfl)] at c1 c8 ⊢); omega)) trivial dX0_enter_18 (fun H11 locs hT11 hS11 hu11 => ?_)
      refine lv_aload_n hx hb dX0_enter_19 rfl (lv_at hl 0 rfl) ?_
      refine h_geti (C := RX0) (T := TX0) (N := 6) hx hb hts inX0 hown hK hT11 (hY.o rfl) rfl 5 rfl wF_X0_27 rfl dX0_enter_20 (fun p18 => ?_)
      refine lv_topi (fun x19 ex19 => ?_)
      refine lv_bipush (v := 24) hx hb dX0_enter_23 (by decide) ?_
      refine h_callSi (rest := []) (As := [.int x19, .int 24]) hx hb hml hown hts hK hT11 hZ (fun _ h => h) hS11 (c_floorMod24 l G Y x19) trivial wd_J9_floorMod_7cf53 wS_J9_floorMod_7cf53 wL_X0_49 rfl hl.1 rfl (Nat.le_of_ble_eq_true rfl) dX0_enter_25 ⟨Nat.le_of_ble_eq_true rfl, Nat.le_of_ble_eq_true rfl⟩ ⟨Nat.zero_le _, Nat.zero_le _⟩ (fun r20 H12 locs hp12 hT12 hS12 hk12 => ?_)
      obtain ⟨hp12, he⟩ := hp12
      have he := he.symm
      subst he
      obtain ⟨j21, hj21, qj21⟩ := h_toN (n := 24) hp12.1 hp12.2
      subst qj21
      refine lv_iconst (v := 3) hx hb dX0_enter_28 (by decide) ?_
      refine lv_imul hx hb dX0_enter_29 ?_
      refine h_top (v := (nI (j21 * 3))) (h_nmul j21 3) ?_
      refine lv_istore (lv' := [(4, .int (nI (j21 * 3))), (0, .ref (o)), (1, .int u1), (2, .int u2), (3, .int u3)]) hx hb dX0_enter_30 hl (by decide) rfl (fun ls hl => ?_)
      refine lv_aload_n hx hb dX0_enter_32 rfl (lv_at hl 1 rfl) ?_
      refine h_getr (C := RX0) (T := TX0) (N := 6) hx hb hts inX0 hown hK hT11 (hY.o rfl) rfl 4 rfl wF_X0_24 rfl dX0_enter_33 ?_
      refine lv_iload hx hb dX0_enter_36 (lv_at hl 0 rfl) ?_
      refine lv_iload_n hx hb dX0_enter_38 rfl (lv_at hl 2 rfl) ?_
      refine h_iast hx hb hK hT11 (fun _ h => h) hS12 (hY.at 5 rfl) (vp_in_nI (by omega) (by decide)) trivial dX0_enter_39 (fun H13 locs hT13 hS13 hu13 => ?_)
      refine lv_aload_n hx hb dX0_enter_40 rfl (lv_at hl 1 rfl) ?_
      refine h_getr (C := RX0) (T := TX0) (N := 6) hx hb hts inX0 hown hK hT13 (hY.o rfl) rfl 4 rfl wF_X0_24 rfl dX0_enter_41 ?_
      refine lv_iload hx hb dX0_enter_44 (lv_at hl 0 rfl) ?_
      refine lv_iconst (v := 1) hx hb dX0_enter_46 (by decide) ?_
      refine lv_iadd hx hb dX0_enter_47 ?_
      refine h_top (v := (nI ((j21 * 3) + 1))) (h_nadd (j21 * 3) 1) ?_
      refine lv_iload_n hx hb dX0_enter_48 rfl (lv_at hl 3 rfl) ?_
      refine h_iast hx hb hK hT13 (fun _ h => h) hS13 (hY.at 5 rfl) (vp_in_nI (by omega) (by decide)) trivial dX0_enter_49 (fun H14 locs hT14 hS14 hu14 => ?_)
      refine lv_aload_n hx hb dX0_enter_50 rfl (lv_at hl 1 rfl) ?_
      refine h_getr (C := RX0) (T := TX0) (N := 6) hx hb hts inX0 hown hK hT14 (hY.o rfl) rfl 4 rfl wF_X0_24 rfl dX0_enter_51 ?_
      refine lv_iload hx hb dX0_enter_54 (lv_at hl 0 rfl) ?_
      refine lv_iconst (v := 2) hx hb dX0_enter_56 (by decide) ?_
      refine lv_iadd hx hb dX0_enter_57 ?_
      refine h_top (v := (nI ((j21 * 3) + 2))) (h_nadd (j21 * 3) 2) ?_
      refine lv_iload_n hx hb dX0_enter_58 rfl (lv_at hl 4 rfl) ?_
      refine h_iast hx hb hK hT14 (fun _ h => h) hS14 (hY.at 5 rfl) (vp_in_nI (by omega) (by decide)) trivial dX0_enter_59 (fun H15 locs hT15 hS15 hu15 => ?_)
      refine lv_aload_n hx hb dX0_enter_60 rfl (lv_at hl 1 rfl) ?_
      refine lv_dup hx hb dX0_enter_61 rfl ?_
      refine h_geti (C := RX0) (T := TX0) (N := 6) hx hb hts inX0 hown hK hT15 (hY.o rfl) rfl 5 rfl wF_X0_27 rfl dX0_enter_62 (fun p22 => ?_)
      refine h_top (v := x19) ((h_gi_same (hu15.2.1 _ (by omega))).trans ((h_gi_same (hu14.2.1 _ (by omega))).trans ((h_gi_same (hu13.2.1 _ (by omega))).trans ex19.symm))) ?_
      refine lv_iconst (v := 1) hx hb dX0_enter_65 (by decide) ?_
      refine lv_iadd hx hb dX0_enter_66 ?_
      refine lv_topi (fun x23 ex23 => ?_)
      refine h_puti (C := RX0) (T := TX0) (N := 6) hx hb hts inX0 tyX0 tyX0_ok nmX0 hown hK hT15 (fun _ h => h) hS15 (hY.o rfl) rfl 5 rfl wF_X0_27 rfl rfl trivial rfl rfl dX0_enter_67 (fun H16 locs hT16 hS16 hu16 => ?_)
      exact hret _ _ _ _ hT16 hS16 trivial dX0_enter_70
set_option maxHeartbeats 4000000 in
set_option maxRecDepth 100000 in
theorem c_X0_eventAt (l : Launch) (G : hG) (Y : hW) (P : Int32 → Prop) (o : Nat) (hY : h_On Y o (boE (tC P) o)) (u1 u2 : Int32) : hMi l yX0_eventAt cX0_eventAt 4 (some .int) 1 22 G Y [.ref (o), .int u1, .int u2] (fun H => True) (fun H r H1 => (True) ∧ H1 = H) := by
  refine h_ofi (by decide +kernel) (Nat.le_of_ble_eq_true rfl) ?_
  intro p e s m args below meth c H0 ls Q hx hb hts hown hml hK hZ hT0 hpr hS0 hl hret
  have hl : lv_has ls 4 [(0, .ref (o)), (1, .int u1), (2, .int u2)] := hl
  refine lv_aload_n hx hb dX0_eventAt_0 rfl (lv_at hl 0 rfl) ?_
  refine h_geti (C := RX0) (T := TX0) (N := 6) hx hb hts inX0 hown hK hT0 (hY.o rfl) rfl 5 rfl wF_X0_27 rfl dX0_eventAt_1 (fun p1 => ?_)
  refine lv_topi (fun x2 ex2 => ?_)
  refine lv_iconst (v := 1) hx hb dX0_eventAt_4 (by decide) ?_
  refine lv_isub hx hb dX0_eventAt_5 ?_
  refine lv_topi (fun x3 ex3 => ?_)
  refine lv_iload_n hx hb dX0_eventAt_6 rfl (lv_at hl 1 rfl) ?_
  refine lv_isub hx hb dX0_eventAt_7 ?_
  refine lv_topi (fun x4 ex4 => ?_)
  refine lv_bipush (v := 24) hx hb dX0_eventAt_8 (by decide) ?_
  refine h_callSi (rest := []) (As := [.int x4, .int 24]) hx hb hml hown hts hK hT0 hZ (fun _ h => h) hS0 (c_floorMod24 l G Y x4) trivial wd_J9_floorMod_7cf53 wS_J9_floorMod_7cf53 wL_X0_49 rfl hl.1 rfl (Nat.le_of_ble_eq_true rfl) dX0_eventAt_10 ⟨Nat.le_of_ble_eq_true rfl, Nat.le_of_ble_eq_true rfl⟩ ⟨Nat.zero_le _, Nat.zero_le _⟩ (fun r5 H1 locs hp1 hT1 hS1 hk1 => ?_)
  obtain ⟨hp1, he⟩ := hp1
  have he := he.symm
  subst he
  obtain ⟨j6, hj6, qj6⟩ := h_toN (n := 24) hp1.1 hp1.2
  subst qj6
  refine lv_istore_n (lv' := [(3, .int (nI j6)), (0, .ref (o)), (1, .int u1), (2, .int u2)]) hx hb dX0_eventAt_13 rfl hl (by decide) rfl (fun ls hl => ?_)
  refine lv_iload_n hx hb dX0_eventAt_14 rfl (lv_at hl 3 rfl) ?_
  refine lv_if_lt (tgt := 36) hx hb dX0_eventAt_15 (by decide) (fun c7 => ?_) (fun c7 => ?_)
  · skip
    refine lv_iconst (v := (-1)) hx hb dX0_eventAt_36 (by decide) ?_
    exact hret _ _ _ _ _ hT0 hS1 ⟨trivial, rfl⟩ dX0_eventAt_37
  · skip
    refine lv_iload_n hx hb dX0_eventAt_18 rfl (lv_at hl 3 rfl) ?_
    refine lv_iconst (v := 3) hx hb dX0_eventAt_19 (by decide) ?_
    refine lv_icmp_ge (tgt := 36) hx hb dX0_eventAt_20 (by decide) (fun c8 => ?_) (fun c8 => ?_)
    · skip
      refine lv_iconst (v := (-1)) hx hb dX0_eventAt_36 (by decide) ?_
      exact hret _ _ _ _ _ hT0 hS1 ⟨trivial, rfl⟩ dX0_eventAt_37
    · skip
      refine lv_aload_n hx hb dX0_eventAt_23 rfl (lv_at hl 1 rfl) ?_
      refine h_getr (C := RX0) (T := TX0) (N := 6) hx hb hts inX0 hown hK hT0 (hY.o rfl) rfl 4 rfl wF_X0_24 rfl dX0_eventAt_24 ?_
      refine lv_iload_n hx hb dX0_eventAt_27 rfl (lv_at hl 0 rfl) ?_
      refine lv_iconst (v := 3) hx hb dX0_eventAt_28 (by decide) ?_
      refine lv_imul hx hb dX0_eventAt_29 ?_
      refine h_top (v := (nI (j6 * 3))) (h_nmul j6 3) ?_
      refine lv_iload_n hx hb dX0_eventAt_30 rfl (lv_at hl 3 rfl) ?_
      refine lv_iadd hx hb dX0_eventAt_31 ?_
      obtain ⟨j9, hj9, qj9⟩ := h_toN (n := 3) (x := u2) (by (try simp only [Int32.lt_iff_toInt_lt, Int32.le_iff_toInt_le, ← Int32.toInt_inj, Int32.reduceToInt, (show (-1 : Int32).toInt = -1 from rfl)] at c7 c8 ⊢); omega) (by (try simp only [Int32.lt_iff_toInt_lt, Int32.le_iff_toInt_le, ← Int32.toInt_inj, Int32.reduceToInt, (show (-1 : Int32).toInt = -1 from rfl)] at c7 c8 ⊢); omega)
      refine h_top (v := (nI ((j6 * 3) + j9))) (by rw [qj9]; exact h_nadd (j6 * 3) j9) ?_
      refine h_iald hx hb hK hT0 (hY.at 5 rfl) (vp_in_nI (by omega) (by decide)) dX0_eventAt_32 (fun p10 => ?_)
      refine lv_topi (fun x11 ex11 => ?_)
      refine lv_goto (tgt := 37) hx hb dX0_eventAt_33 (by decide) ?_
      exact hret _ _ _ _ _ hT0 hS1 ⟨trivial, rfl⟩ dX0_eventAt_37
set_option maxHeartbeats 4000000 in
set_option maxRecDepth 100000 in
theorem c_X0_gotAt (l : Launch) (G : hG) (Y : hW) (P : Int32 → Prop) (o : Nat) (hY : h_On Y o (boE (tC P) o)) (u1 u2 : Int32) : hMi l yX0_gotAt cX0_gotAt 4 (some .int) 1 22 G Y [.ref (o), .int u1, .int u2] (fun H => True) (fun H r H1 => (True) ∧ H1 = H) := by
  refine h_ofi (by decide +kernel) (Nat.le_of_ble_eq_true rfl) ?_
  intro p e s m args below meth c H0 ls Q hx hb hts hown hml hK hZ hT0 hpr hS0 hl hret
  have hl : lv_has ls 4 [(0, .ref (o)), (1, .int u1), (2, .int u2)] := hl
  refine lv_aload_n hx hb dX0_gotAt_0 rfl (lv_at hl 0 rfl) ?_
  refine h_getr (C := RX0) (T := TX0) (N := 6) hx hb hts inX0 hown hK hT0 (hY.o rfl) rfl 0 rfl wF_X0_9 rfl dX0_gotAt_1 ?_
  refine lv_iconst (v := 0) hx hb dX0_gotAt_4 (by decide) ?_
  refine h_iald hx hb hK hT0 (hY.at 1 rfl) (h_inc (by decide)) dX0_gotAt_5 (fun p1 => ?_)
  refine lv_topi (fun x2 ex2 => ?_)
  refine lv_iconst (v := 1) hx hb dX0_gotAt_6 (by decide) ?_
  refine lv_isub hx hb dX0_gotAt_7 ?_
  refine lv_topi (fun x3 ex3 => ?_)
  refine lv_iload_n hx hb dX0_gotAt_8 rfl (lv_at hl 1 rfl) ?_
  refine lv_isub hx hb dX0_gotAt_9 ?_
  refine lv_topi (fun x4 ex4 => ?_)
  refine lv_bipush (v := 16) hx hb dX0_gotAt_10 (by decide) ?_
  refine h_callSi (rest := []) (As := [.int x4, .int 16]) hx hb hml hown hts hK hT0 hZ (fun _ h => h) hS0 (c_floorMod16 l G Y x4) trivial wd_J9_floorMod_7cf53 wS_J9_floorMod_7cf53 wL_X0_49 rfl hl.1 rfl (Nat.le_of_ble_eq_true rfl) dX0_gotAt_12 ⟨Nat.le_of_ble_eq_true rfl, Nat.le_of_ble_eq_true rfl⟩ ⟨Nat.zero_le _, Nat.zero_le _⟩ (fun r5 H1 locs hp1 hT1 hS1 hk1 => ?_)
  obtain ⟨hp1, he⟩ := hp1
  have he := he.symm
  subst he
  obtain ⟨j6, hj6, qj6⟩ := h_toN (n := 16) hp1.1 hp1.2
  subst qj6
  refine lv_istore_n (lv' := [(3, .int (nI j6)), (0, .ref (o)), (1, .int u1), (2, .int u2)]) hx hb dX0_gotAt_15 rfl hl (by decide) rfl (fun ls hl => ?_)
  refine lv_iload_n hx hb dX0_gotAt_16 rfl (lv_at hl 3 rfl) ?_
  refine lv_if_lt (tgt := 40) hx hb dX0_gotAt_17 (by decide) (fun c7 => ?_) (fun c7 => ?_)
  · skip
    refine lv_iconst (v := (-1)) hx hb dX0_gotAt_40 (by decide) ?_
    exact hret _ _ _ _ _ hT0 hS1 ⟨trivial, rfl⟩ dX0_gotAt_41
  · skip
    refine lv_iload_n hx hb dX0_gotAt_20 rfl (lv_at hl 3 rfl) ?_
    refine lv_bipush (v := 6) hx hb dX0_gotAt_21 (by decide) ?_
    refine lv_icmp_ge (tgt := 40) hx hb dX0_gotAt_23 (by decide) (fun c8 => ?_) (fun c8 => ?_)
    · skip
      refine lv_iconst (v := (-1)) hx hb dX0_gotAt_40 (by decide) ?_
      exact hret _ _ _ _ _ hT0 hS1 ⟨trivial, rfl⟩ dX0_gotAt_41
    · skip
      refine lv_aload_n hx hb dX0_gotAt_26 rfl (lv_at hl 1 rfl) ?_
      refine h_getr (C := RX0) (T := TX0) (N := 6) hx hb hts inX0 hown hK hT0 (hY.o rfl) rfl 3 rfl wF_X0_21 rfl dX0_gotAt_27 ?_
      refine lv_iload_n hx hb dX0_gotAt_30 rfl (lv_at hl 0 rfl) ?_
      refine lv_bipush (v := 6) hx hb dX0_gotAt_31 (by decide) ?_
      refine lv_imul hx hb dX0_gotAt_33 ?_
      refine h_top (v := (nI (j6 * 6))) (h_nmul j6 6) ?_
      refine lv_iload_n hx hb dX0_gotAt_34 rfl (lv_at hl 3 rfl) ?_
      refine lv_iadd hx hb dX0_gotAt_35 ?_
      obtain ⟨j9, hj9, qj9⟩ := h_toN (n := 6) (x := u2) (by (try simp only [Int32.lt_iff_toInt_lt, Int32.le_iff_toInt_le, ← Int32.toInt_inj, Int32.reduceToInt, (show (-1 : Int32).toInt = -1 from rfl)] at c7 c8 ⊢); omega) (by (try simp only [Int32.lt_iff_toInt_lt, Int32.le_iff_toInt_le, ← Int32.toInt_inj, Int32.reduceToInt, (show (-1 : Int32).toInt = -1 from rfl)] at c7 c8 ⊢); omega)
      refine h_top (v := (nI ((j6 * 6) + j9))) (by rw [qj9]; exact h_nadd (j6 * 6) j9) ?_
      refine h_iald hx hb hK hT0 (hY.at 4 rfl) (vp_in_nI (by omega) (by decide)) dX0_gotAt_36 (fun p10 => ?_)
      refine lv_topi (fun x11 ex11 => ?_)
      refine lv_goto (tgt := 41) hx hb dX0_gotAt_37 (by decide) ?_
      exact hret _ _ _ _ _ hT0 hS1 ⟨trivial, rfl⟩ dX0_gotAt_41
set_option maxHeartbeats 4000000 in
set_option maxRecDepth 100000 in
theorem c_X0_keepGot (l : Launch) (G : hG) (Y : hW) (P : Int32 → Prop) (o o2 : Nat) (hY : h_On Y o (boE (tC P) o)) (hY2 : h_On Y o2 (waE (tC P) o2)) (hd : o2 < o) (u1 : Int32) : hMv l yX0_keepGot cX0_keepGot 5 none 1 22 G Y [.ref (o), .ref (o2), .int u1] (fun H => True) (fun H H1 => True) := by
  refine h_ofv (by decide +kernel) (Nat.le_of_ble_eq_true rfl) ?_
  intro p e s m args below meth c H0 ls Q hx hb hts hown hml hK hZ hT0 hpr hS0 hl hret
  have hl : lv_has ls 5 [(0, .ref (o)), (1, .ref (o2)), (2, .int u1)] := hl
  refine lv_iload_n hx hb dX0_keepGot_0 rfl (lv_at hl 2 rfl) ?_
  refine lv_aload_n hx hb dX0_keepGot_1 rfl (lv_at hl 1 rfl) ?_
  refine h_geti (C := RX9) (T := TX9) (N := 11) hx hb hts inX9 hown hK hT0 (hY2.o rfl) rfl 10 rfl wF_X0_52 rfl dX0_keepGot_2 (fun p1 => ?_)
  refine lv_topi (fun x2 ex2 => ?_)
  refine lv_isub hx hb dX0_keepGot_5 ?_
  refine lv_topi (fun x3 ex3 => ?_)
  refine lv_istore_n (lv' := [(3, .int x3), (0, .ref (o)), (1, .ref (o2)), (2, .int u1)]) hx hb dX0_keepGot_6 rfl hl (by decide) rfl (fun ls hl => ?_)
  refine lv_aload_n hx hb dX0_keepGot_7 rfl (lv_at hl 1 rfl) ?_
  refine h_getr (C := RX0) (T := TX0) (N := 6) hx hb hts inX0 hown hK hT0 (hY.o rfl) rfl 0 rfl wF_X0_9 rfl dX0_keepGot_8 ?_
  refine lv_iconst (v := 0) hx hb dX0_keepGot_11 (by decide) ?_
  refine h_iald hx hb hK hT0 (hY.at 1 rfl) (h_inc (by decide)) dX0_keepGot_12 (fun p4 => ?_)
  refine lv_topi (fun x5 ex5 => ?_)
  refine lv_bipush (v := 16) hx hb dX0_keepGot_13 (by decide) ?_
  refine h_callSi (rest := []) (As := [.int x5, .int 16]) hx hb hml hown hts hK hT0 hZ (fun _ h => h) hS0 (c_floorMod16 l G Y x5) trivial wd_J9_floorMod_7cf53 wS_J9_floorMod_7cf53 wL_X0_49 rfl hl.1 rfl (Nat.le_of_ble_eq_true rfl) dX0_keepGot_15 ⟨Nat.le_of_ble_eq_true rfl, Nat.le_of_ble_eq_true rfl⟩ ⟨Nat.zero_le _, Nat.zero_le _⟩ (fun r6 H1 locs hp1 hT1 hS1 hk1 => ?_)
  obtain ⟨hp1, he⟩ := hp1
  have he := he.symm
  subst he
  obtain ⟨j7, hj7, qj7⟩ := h_toN (n := 16) hp1.1 hp1.2
  subst qj7
  refine lv_bipush (v := 6) hx hb dX0_keepGot_18 (by decide) ?_
  refine lv_imul hx hb dX0_keepGot_20 ?_
  refine h_top (v := (nI (j7 * 6))) (h_nmul j7 6) ?_
  refine lv_istore (lv' := [(4, .int (nI (j7 * 6))), (3, .int x3), (0, .ref (o)), (1, .ref (o2)), (2, .int u1)]) hx hb dX0_keepGot_21 hl (by decide) rfl (fun ls hl => ?_)
  refine lv_aload_n hx hb dX0_keepGot_23 rfl (lv_at hl 2 rfl) ?_
  refine h_getr (C := RX0) (T := TX0) (N := 6) hx hb hts inX0 hown hK hT0 (hY.o rfl) rfl 3 rfl wF_X0_21 rfl dX0_keepGot_24 ?_
  refine lv_iload hx hb dX0_keepGot_27 (lv_at hl 0 rfl) ?_
  refine lv_aload_n hx hb dX0_keepGot_29 rfl (lv_at hl 3 rfl) ?_
  refine h_geti (C := RX9) (T := TX9) (N := 11) hx hb hts inX9 hown hK hT0 (hY2.o rfl) rfl 9 rfl wF_X0_57 rfl dX0_keepGot_30 (fun p8 => ?_)
  refine lv_topi (fun x9 ex9 => ?_)
  refine h_iast hx hb hK hT0 (fun _ h => h) hS1 (hY.at 4 rfl) (vp_in_nI (by omega) (by decide)) trivial dX0_keepGot_33 (fun H2 locs hT2 hS2 hu2 => ?_)
  refine lv_aload_n hx hb dX0_keepGot_34 rfl (lv_at hl 2 rfl) ?_
  refine h_getr (C := RX0) (T := TX0) (N := 6) hx hb hts inX0 hown hK hT2 (hY.o rfl) rfl 3 rfl wF_X0_21 rfl dX0_keepGot_35 ?_
  refine lv_iload hx hb dX0_keepGot_38 (lv_at hl 0 rfl) ?_
  refine lv_iconst (v := 1) hx hb dX0_keepGot_40 (by decide) ?_
  refine lv_iadd hx hb dX0_keepGot_41 ?_
  refine h_top (v := (nI ((j7 * 6) + 1))) (h_nadd (j7 * 6) 1) ?_
  refine lv_aload_n hx hb dX0_keepGot_42 rfl (lv_at hl 3 rfl) ?_
  refine h_geti (C := RX9) (T := TX9) (N := 11) hx hb hts inX9 hown hK hT2 (hY2.o rfl) rfl 5 rfl wF_X0_60 rfl dX0_keepGot_43 (fun p10 => ?_)
  refine lv_topi (fun x11 ex11 => ?_)
  refine h_iast hx hb hK hT2 (fun _ h => h) hS2 (hY.at 4 rfl) (vp_in_nI (by omega) (by decide)) trivial dX0_keepGot_46 (fun H3 locs hT3 hS3 hu3 => ?_)
  refine lv_aload_n hx hb dX0_keepGot_47 rfl (lv_at hl 2 rfl) ?_
  refine h_getr (C := RX0) (T := TX0) (N := 6) hx hb hts inX0 hown hK hT3 (hY.o rfl) rfl 3 rfl wF_X0_21 rfl dX0_keepGot_48 ?_
  refine lv_iload hx hb dX0_keepGot_51 (lv_at hl 0 rfl) ?_
  refine lv_iconst (v := 2) hx hb dX0_keepGot_53 (by decide) ?_
  refine lv_iadd hx hb dX0_keepGot_54 ?_
  refine h_top (v := (nI ((j7 * 6) + 2))) (h_nadd (j7 * 6) 2) ?_
  refine lv_aload_n hx hb dX0_keepGot_55 rfl (lv_at hl 3 rfl) ?_
  refine h_geti (C := RX9) (T := TX9) (N := 11) hx hb hts inX9 hown hK hT3 (hY2.o rfl) rfl 6 rfl wF_X0_63 rfl dX0_keepGot_56 (fun p12 => ?_)
  refine lv_topi (fun x13 ex13 => ?_)
  refine h_iast hx hb hK hT3 (fun _ h => h) hS3 (hY.at 4 rfl) (vp_in_nI (by omega) (by decide)) trivial dX0_keepGot_59 (fun H4 locs hT4 hS4 hu4 => ?_)
  refine lv_aload_n hx hb dX0_keepGot_60 rfl (lv_at hl 2 rfl) ?_
  refine h_getr (C := RX0) (T := TX0) (N := 6) hx hb hts inX0 hown hK hT4 (hY.o rfl) rfl 3 rfl wF_X0_21 rfl dX0_keepGot_61 ?_
  refine lv_iload hx hb dX0_keepGot_64 (lv_at hl 0 rfl) ?_
  refine lv_iconst (v := 3) hx hb dX0_keepGot_66 (by decide) ?_
  refine lv_iadd hx hb dX0_keepGot_67 ?_
  refine h_top (v := (nI ((j7 * 6) + 3))) (h_nadd (j7 * 6) 3) ?_
  refine lv_aload_n hx hb dX0_keepGot_68 rfl (lv_at hl 3 rfl) ?_
  refine h_geti (C := RX9) (T := TX9) (N := 11) hx hb hts inX9 hown hK hT4 (hY2.o rfl) rfl 7 rfl wF_X0_66 rfl dX0_keepGot_69 (fun p14 => ?_)
  refine lv_topi (fun x15 ex15 => ?_)
  refine h_iast hx hb hK hT4 (fun _ h => h) hS4 (hY.at 4 rfl) (vp_in_nI (by omega) (by decide)) trivial dX0_keepGot_72 (fun H5 locs hT5 hS5 hu5 => ?_)
  refine lv_aload_n hx hb dX0_keepGot_73 rfl (lv_at hl 2 rfl) ?_
  refine h_getr (C := RX0) (T := TX0) (N := 6) hx hb hts inX0 hown hK hT5 (hY.o rfl) rfl 3 rfl wF_X0_21 rfl dX0_keepGot_74 ?_
  refine lv_iload hx hb dX0_keepGot_77 (lv_at hl 0 rfl) ?_
  refine lv_iconst (v := 4) hx hb dX0_keepGot_79 (by decide) ?_
  refine lv_iadd hx hb dX0_keepGot_80 ?_
  refine h_top (v := (nI ((j7 * 6) + 4))) (h_nadd (j7 * 6) 4) ?_
  refine lv_iload_n hx hb dX0_keepGot_81 rfl (lv_at hl 4 rfl) ?_
  refine h_iast hx hb hK hT5 (fun _ h => h) hS5 (hY.at 4 rfl) (vp_in_nI (by omega) (by decide)) trivial dX0_keepGot_82 (fun H6 locs hT6 hS6 hu6 => ?_)
  refine lv_aload_n hx hb dX0_keepGot_83 rfl (lv_at hl 2 rfl) ?_
  refine h_getr (C := RX0) (T := TX0) (N := 6) hx hb hts inX0 hown hK hT6 (hY.o rfl) rfl 3 rfl wF_X0_21 rfl dX0_keepGot_84 ?_
  refine lv_iload hx hb dX0_keepGot_87 (lv_at hl 0 rfl) ?_
  refine lv_iconst (v := 5) hx hb dX0_keepGot_89 (by decide) ?_
  refine lv_iadd hx hb dX0_keepGot_90 ?_
  refine h_top (v := (nI ((j7 * 6) + 5))) (h_nadd (j7 * 6) 5) ?_
  refine lv_iload_n hx hb dX0_keepGot_91 rfl (lv_at hl 1 rfl) ?_
  refine h_iast hx hb hK hT6 (fun _ h => h) hS6 (hY.at 4 rfl) (vp_in_nI (by omega) (by decide)) trivial dX0_keepGot_92 (fun H7 locs hT7 hS7 hu7 => ?_)
  refine lv_aload_n hx hb dX0_keepGot_93 rfl (lv_at hl 2 rfl) ?_
  refine h_getr (C := RX0) (T := TX0) (N := 6) hx hb hts inX0 hown hK hT7 (hY.o rfl) rfl 0 rfl wF_X0_9 rfl dX0_keepGot_94 ?_
  refine lv_bipush (v := 8) hx hb dX0_keepGot_97 (by decide) ?_
  refine lv_dup2_11 hx hb dX0_keepGot_99 rfl rfl ?_
  refine h_iald hx hb hK hT7 (hY.at 1 rfl) (h_inc (by decide)) dX0_keepGot_100 (fun p16 => ?_)
  refine lv_topi (fun x17 ex17 => ?_)
  refine lv_iload_n hx hb dX0_keepGot_101 rfl (lv_at hl 1 rfl) ?_
  refine lv_iadd hx hb dX0_keepGot_102 ?_
  refine lv_topi (fun x18 ex18 => ?_)
  refine h_iast hx hb hK hT7 (fun _ h => h) hS7 (hY.at 1 rfl) (h_inc (by decide)) trivial dX0_keepGot_103 (fun H8 locs hT8 hS8 hu8 => ?_)
  refine lv_aload_n hx hb dX0_keepGot_104 rfl (lv_at hl 2 rfl) ?_
  refine h_getr (C := RX0) (T := TX0) (N := 6) hx hb hts inX0 hown hK hT8 (hY.o rfl) rfl 0 rfl wF_X0_9 rfl dX0_keepGot_105 ?_
  refine lv_bipush (v := 9) hx hb dX0_keepGot_108 (by decide) ?_
  refine lv_aload_n hx hb dX0_keepGot_110 rfl (lv_at hl 2 rfl) ?_
  refine h_getr (C := RX0) (T := TX0) (N := 6) hx hb hts inX0 hown hK hT8 (hY.o rfl) rfl 0 rfl wF_X0_9 rfl dX0_keepGot_111 ?_
  refine lv_bipush (v := 9) hx hb dX0_keepGot_114 (by decide) ?_
  refine h_iald hx hb hK hT8 (hY.at 1 rfl) (h_inc (by decide)) dX0_keepGot_116 (fun p19 => ?_)
  refine lv_topi (fun x20 ex20 => ?_)
  refine lv_iload_n hx hb dX0_keepGot_117 rfl (lv_at hl 1 rfl) ?_
  refine h_callSi (rest := [.int 9, .ref (o + 1)]) (As := [.int x20, .int x3]) hx hb hml hown hts hK hT8 hZ (fun _ h => h) hS8 (c_max l G Y x20 x3) trivial wd_J9_max_7cf53 wS_J9_max_7cf53 wL_X0_43 rfl hl.1 rfl (Nat.le_of_ble_eq_true rfl) dX0_keepGot_118 ⟨Nat.le_of_ble_eq_true rfl, Nat.le_of_ble_eq_true rfl⟩ ⟨Nat.zero_le _, Nat.zero_le _⟩ (fun r21 H9 locs hp9 hT9 hS9 hk9 => ?_)
  obtain ⟨hp9, he⟩ := hp9
  have he := he.symm
  subst he
  refine h_iast hx hb hK hT8 (fun _ h => h) hS9 (hY.at 1 rfl) (h_inc (by decide)) trivial dX0_keepGot_121 (fun H10 locs hT10 hS10 hu10 => ?_)
  refine lv_aload_n hx hb dX0_keepGot_122 rfl (lv_at hl 3 rfl) ?_
  refine h_geti (C := RX9) (T := TX9) (N := 11) hx hb hts inX9 hown hK hT10 (hY2.o rfl) rfl 7 rfl wF_X0_66 rfl dX0_keepGot_123 (fun p22 => ?_)
  refine h_top (v := x15) ((h_gi_same (hu10.2.1 _ (by omega))).trans ((h_gi_same (hu8.2.1 _ (by omega))).trans ((h_gi_same (hu7.2.1 _ (by omega))).trans ((h_gi_same (hu6.2.1 _ (by omega))).trans ((h_gi_same (hu5.2.1 _ (by omega))).trans ex15.symm))))) ?_
  refine lv_if_lt (tgt := 164) hx hb dX0_keepGot_126 (by decide) (fun c23 => ?_) (fun c23 => ?_)
  · skip
    exact hret _ _ _ _ hT10 hS10 trivial dX0_keepGot_164
  · skip
    refine lv_aload_n hx hb dX0_keepGot_129 rfl (lv_at hl 3 rfl) ?_
    refine h_geti (C := RX9) (T := TX9) (N := 11) hx hb hts inX9 hown hK hT10 (hY2.o rfl) rfl 7 rfl wF_X0_66 rfl dX0_keepGot_130 (fun p24 => ?_)
    refine h_top (v := x15) ((h_gi_same (hu10.2.1 _ (by omega))).trans ((h_gi_same (hu8.2.1 _ (by omega))).trans ((h_gi_same (hu7.2.1 _ (by omega))).trans ((h_gi_same (hu6.2.1 _ (by omega))).trans ((h_gi_same (hu5.2.1 _ (by omega))).trans ex15.symm))))) ?_
    refine lv_bipush (v := 8) hx hb dX0_keepGot_133 (by decide) ?_
    refine lv_icmp_ge (tgt := 164) hx hb dX0_keepGot_135 (by decide) (fun c25 => ?_) (fun c25 => ?_)
    · skip
      exact hret _ _ _ _ hT10 hS10 trivial dX0_keepGot_164
    · skip
      refine lv_aload_n hx hb dX0_keepGot_138 rfl (lv_at hl 2 rfl) ?_
      refine h_getr (C := RX0) (T := TX0) (N := 6) hx hb hts inX0 hown hK hT10 (hY.o rfl) rfl 1 rfl wF_X0_15 rfl dX0_keepGot_139 ?_
      refine lv_aload_n hx hb dX0_keepGot_142 rfl (lv_at hl 3 rfl) ?_
      refine h_geti (C := RX9) (T := TX9) (N := 11) hx hb hts inX9 hown hK hT10 (hY2.o rfl) rfl 7 rfl wF_X0_66 rfl dX0_keepGot_143 (fun p26 => ?_)
      refine h_top (v := x15) ((h_gi_same (hu10.2.1 _ (by omega))).trans ((h_gi_same (hu8.2.1 _ (by omega))).trans ((h_gi_same (hu7.2.1 _ (by omega))).trans ((h_gi_same (hu6.2.1 _ (by omega))).trans ((h_gi_same (hu5.2.1 _ (by omega))).trans ex15.symm))))) ?_
      refine lv_dup2_11 hx hb dX0_keepGot_146 rfl rfl ?_
      refine h_iald hx hb hK hT10 (hY.at 2 rfl) (vp_in_iff.mpr (by (try simp only [Int32.lt_iff_toInt_lt, Int32.le_iff_toInt_le, ← Int32.toInt_inj, Int32.reduceToInt, (show (-1 : Int32).toInt = -1 from rfl)] at c23 c25 ⊢); omega)) dX0_keepGot_147 (fun p27 => ?_)
      refine lv_topi (fun x28 ex28 => ?_)
      refine lv_iconst (v := 1) hx hb dX0_keepGot_148 (by decide) ?_
      refine lv_iadd hx hb dX0_keepGot_149 ?_
      refine lv_topi (fun x29 ex29 => ?_)
      refine h_iast hx hb hK hT10 (fun _ h => h) hS10 (hY.at 2 rfl) (vp_in_iff.mpr (by (try simp only [Int32.lt_iff_toInt_lt, Int32.le_iff_toInt_le, ← Int32.toInt_inj, Int32.reduceToInt, (show (-1 : Int32).toInt = -1 from rfl)] at c23 c25 ⊢); omega)) trivial dX0_keepGot_150 (fun H11 locs hT11 hS11 hu11 => ?_)
      refine lv_aload_n hx hb dX0_keepGot_151 rfl (lv_at hl 2 rfl) ?_
      refine h_getr (C := RX0) (T := TX0) (N := 6) hx hb hts inX0 hown hK hT11 (hY.o rfl) rfl 2 rfl wF_X0_18 rfl dX0_keepGot_152 ?_
      refine lv_aload_n hx hb dX0_keepGot_155 rfl (lv_at hl 3 rfl) ?_
      refine h_geti (C := RX9) (T := TX9) (N := 11) hx hb hts inX9 hown hK hT11 (hY2.o rfl) rfl 7 rfl wF_X0_66 rfl dX0_keepGot_156 (fun p30 => ?_)
      refine h_top (v := x15) ((h_gi_same (hu11.2.1 _ (by omega))).trans ((h_gi_same (hu10.2.1 _ (by omega))).trans ((h_gi_same (hu8.2.1 _ (by omega))).trans ((h_gi_same (hu7.2.1 _ (by omega))).trans ((h_gi_same (hu6.2.1 _ (by omega))).trans ((h_gi_same (hu5.2.1 _ (by omega))).trans ex15.symm)))))) ?_
      refine lv_dup2_11 hx hb dX0_keepGot_159 rfl rfl ?_
      refine h_iald hx hb hK hT11 (hY.at 3 rfl) (vp_in_iff.mpr (by (try simp only [Int32.lt_iff_toInt_lt, Int32.le_iff_toInt_le, ← Int32.toInt_inj, Int32.reduceToInt, (show (-1 : Int32).toInt = -1 from rfl)] at c23 c25 ⊢); omega)) dX0_keepGot_160 (fun p31 => ?_)
      refine lv_topi (fun x32 ex32 => ?_)
      refine lv_iload_n hx hb dX0_keepGot_161 rfl (lv_at hl 1 rfl) ?_
      refine lv_iadd hx hb dX0_keepGot_162 ?_
      refine lv_topi (fun x33 ex33 => ?_)
      refine h_iast hx hb hK hT11 (fun _ h => h) hS11 (hY.at 3 rfl) (vp_in_iff.mpr (by (try simp only [Int32.lt_iff_toInt_lt, Int32.le_iff_toInt_le, ← Int32.toInt_inj, Int32.reduceToInt, (show (-1 : Int32).toInt = -1 from rfl)] at c23 c25 ⊢); omega)) trivial dX0_keepGot_163 (fun H12 locs hT12 hS12 hu12 => ?_)
      exact hret _ _ _ _ hT12 hS12 trivial dX0_keepGot_164
