set_option maxHeartbeats 4000000 in
set_option maxRecDepth 100000 in
theorem c_X1_hasCome (l : Launch) (G : hG) (Y : hW) (P : Int32 → Prop) (pa o c0 : Nat) (hP : h_On Y pa (paE (tC P) pa o c0)) (hY : h_On Y o (ringE (tC P) o)) (hC : h_On Y c0 (ringE (tC P) c0)) (u1 u2 : Int32) : hMi l yX1_hasCome cX1_hasCome 3 (some .boolean) 2 42 G Y [.ref (pa), .int u1, .int u2] (fun H => True) (fun H r H1 => ((r = 0 ∨ r = 1) ∧ True) ∧ H1 = H) := by
  refine h_ofz (by decide +kernel) (Nat.le_of_ble_eq_true rfl) ?_
  intro p e s m args below meth c H0 ls Q hx hb hts hown hml hK hZ hT0 hpr hS0 hl hret
  have hl : lv_has ls 3 [(0, .ref (pa)), (1, .int u1), (2, .int u2)] := hl
  refine lv_iload_n hx hb dX1_hasCome_0 rfl (lv_at hl 1 rfl) ?_
  rcases h_sw6 u1 with c1 | c1 | c1 | c1 | c1 | c1 | c1
  · skip
    refine lv_tableOut (tgt := 121) hx hb dX1_hasCome_1 c1 (by decide) ?_
    refine lv_iconst (v := 0) hx hb dX1_hasCome_121 (by decide) ?_
    exact hret _ _ _ _ _ hT0 hS0 ⟨(by decide), ⟨(by decide), trivial⟩, rfl⟩ dX1_hasCome_122
  · subst c1
    refine lv_tableIn (tgt := 40) hx hb dX1_hasCome_1 (by decide) (by decide) rfl (by decide) ?_
    refine lv_aload_n hx hb dX1_hasCome_40 rfl (lv_at hl 0 rfl) ?_
    refine h_getr (C := RX1) (T := TX1) (N := 4) hx hb hts inX1 hown hK hT0 (hP.o rfl) rfl 1 rfl wF_X1_22 rfl dX1_hasCome_41 ?_
    refine h_callVi (T := TX5) (rest := []) (As := []) hx hb hml hown hts hK hT0 hZ (fun _ h => h) hS0 (c_X5_isQuiet l G Y P (c0) hC) trivial wd_X5_isQuiet wV_X5_isQuiet wL_X1_39 (on_rg hC) rfl rfl hl.1 rfl (Nat.le_of_ble_eq_true rfl) dX1_hasCome_44 ⟨Nat.le_of_ble_eq_true rfl, Nat.le_of_ble_eq_true rfl⟩ ⟨Nat.zero_le _, Nat.zero_le _⟩ (fun r2 H1 locs hp1 hT1 hS1 hk1 => ?_)
    obtain ⟨hp1, he⟩ := hp1
    have he := he.symm
    subst he
    exact hret _ _ _ _ _ hT0 hS1 ⟨hp1.1, ⟨hp1.1, trivial⟩, rfl⟩ dX1_hasCome_47
  · subst c1
    refine lv_tableIn (tgt := 48) hx hb dX1_hasCome_1 (by decide) (by decide) rfl (by decide) ?_
    refine lv_aload_n hx hb dX1_hasCome_48 rfl (lv_at hl 0 rfl) ?_
    refine h_getr (C := RX1) (T := TX1) (N := 4) hx hb hts inX1 hown hK hT0 (hP.o rfl) rfl 1 rfl wF_X1_22 rfl dX1_hasCome_49 ?_
    refine h_geti (C := RX5) (T := TX5) (N := 11) hx hb hts inX5 hown hK hT0 (on_rg hC) rfl 8 rfl wF_X1_43 rfl dX1_hasCome_52 (fun p3 => ?_)
    refine lv_topi (fun x4 ex4 => ?_)
    refine lv_iload_n hx hb dX1_hasCome_55 rfl (lv_at hl 2 rfl) ?_
    refine lv_icmp_ne (tgt := 63) hx hb dX1_hasCome_56 (by decide) (fun c5 => ?_) (fun c5 => ?_)
    · skip
      refine lv_iconst (v := 0) hx hb dX1_hasCome_63 (by decide) ?_
      exact hret _ _ _ _ _ hT0 hS0 ⟨(by decide), ⟨(by decide), trivial⟩, rfl⟩ dX1_hasCome_64
    · skip
      refine lv_iconst (v := 1) hx hb dX1_hasCome_59 (by decide) ?_
      refine lv_goto (tgt := 64) hx hb dX1_hasCome_60 (by decide) ?_
      exact hret _ _ _ _ _ hT0 hS0 ⟨(by decide), ⟨(by decide), trivial⟩, rfl⟩ dX1_hasCome_64
  · subst c1
    refine lv_tableIn (tgt := 65) hx hb dX1_hasCome_1 (by decide) (by decide) rfl (by decide) ?_
    refine lv_aload_n hx hb dX1_hasCome_65 rfl (lv_at hl 0 rfl) ?_
    refine h_getr (C := RX1) (T := TX1) (N := 4) hx hb hts inX1 hown hK hT0 (hP.o rfl) rfl 1 rfl wF_X1_22 rfl dX1_hasCome_66 ?_
    refine h_getr (C := RX5) (T := TX5) (N := 11) hx hb hts inX5 hown hK hT0 (on_rg hC) rfl 2 rfl wF_X1_47 rfl dX1_hasCome_69 ?_
    refine h_callVi (T := TX3) (rest := []) (As := []) hx hb hml hown hts hK hT0 hZ (fun _ h => h) hS0 (c_X3_isEmpty l G Y P (c0 + 13) (on_ra hC)) trivial wd_X3_isEmpty wV_X3_isEmpty wL_X1_51 ((on_ra hC).o rfl) rfl rfl hl.1 rfl (Nat.le_of_ble_eq_true rfl) dX1_hasCome_72 ⟨Nat.le_of_ble_eq_true rfl, Nat.le_of_ble_eq_true rfl⟩ ⟨Nat.zero_le _, Nat.zero_le _⟩ (fun r6 H2 locs hp2 hT2 hS2 hk2 => ?_)
    obtain ⟨hp2, he⟩ := hp2
    have he := he.symm
    subst he
    exact hret _ _ _ _ _ hT0 hS2 ⟨hp2.1, ⟨hp2.1, trivial⟩, rfl⟩ dX1_hasCome_75
  · subst c1
    refine lv_tableIn (tgt := 76) hx hb dX1_hasCome_1 (by decide) (by decide) rfl (by decide) ?_
    refine lv_aload_n hx hb dX1_hasCome_76 rfl (lv_at hl 0 rfl) ?_
    refine h_getr (C := RX1) (T := TX1) (N := 4) hx hb hts inX1 hown hK hT0 (hP.o rfl) rfl 1 rfl wF_X1_22 rfl dX1_hasCome_77 ?_
    refine h_getr (C := RX5) (T := TX5) (N := 11) hx hb hts inX5 hown hK hT0 (on_rg hC) rfl 3 rfl wF_X1_56 rfl dX1_hasCome_80 ?_
    refine h_geti (C := RX9) (T := TX9) (N := 11) hx hb hts inX9 hown hK hT0 ((on_wa hC).o rfl) rfl 0 rfl wF_X1_60 rfl dX1_hasCome_83 (fun p7 => ?_)
    refine lv_topi (fun x8 ex8 => ?_)
    refine lv_iconst (v := 1) hx hb dX1_hasCome_86 (by decide) ?_
    refine lv_icmp_ne (tgt := 94) hx hb dX1_hasCome_87 (by decide) (fun c9 => ?_) (fun c9 => ?_)
    · skip
      refine lv_iconst (v := 0) hx hb dX1_hasCome_94 (by decide) ?_
      exact hret _ _ _ _ _ hT0 hS0 ⟨(by decide), ⟨(by decide), trivial⟩, rfl⟩ dX1_hasCome_95
    · skip
      refine lv_iconst (v := 1) hx hb dX1_hasCome_90 (by decide) ?_
      refine lv_goto (tgt := 95) hx hb dX1_hasCome_91 (by decide) ?_
      exact hret _ _ _ _ _ hT0 hS0 ⟨(by decide), ⟨(by decide), trivial⟩, rfl⟩ dX1_hasCome_95
  · subst c1
    refine lv_tableIn (tgt := 96) hx hb dX1_hasCome_1 (by decide) (by decide) rfl (by decide) ?_
    refine lv_aload_n hx hb dX1_hasCome_96 rfl (lv_at hl 0 rfl) ?_
    refine h_getr (C := RX1) (T := TX1) (N := 4) hx hb hts inX1 hown hK hT0 (hP.o rfl) rfl 1 rfl wF_X1_22 rfl dX1_hasCome_97 ?_
    refine h_geti (C := RX5) (T := TX5) (N := 11) hx hb hts inX5 hown hK hT0 (on_rg hC) rfl 10 rfl wF_X1_65 rfl dX1_hasCome_100 (fun p10 => ?_)
    refine lv_topi (fun x11 ex11 => ?_)
    exact hret _ _ _ _ _ hT0 hS0 ⟨(by rw [ex11]; exact p10), ⟨(by rw [ex11]; exact p10), trivial⟩, rfl⟩ dX1_hasCome_103
  · subst c1
    refine lv_tableIn (tgt := 104) hx hb dX1_hasCome_1 (by decide) (by decide) rfl (by decide) ?_
    refine lv_aload_n hx hb dX1_hasCome_104 rfl (lv_at hl 0 rfl) ?_
    refine h_getr (C := RX1) (T := TX1) (N := 4) hx hb hts inX1 hown hK hT0 (hP.o rfl) rfl 1 rfl wF_X1_22 rfl dX1_hasCome_105 ?_
    refine h_geti (C := RX5) (T := TX5) (N := 11) hx hb hts inX5 hown hK hT0 (on_rg hC) rfl 9 rfl wF_X1_69 rfl dX1_hasCome_108 (fun p12 => ?_)
    refine lv_topi (fun x13 ex13 => ?_)
    refine lv_iconst (v := (-1)) hx hb dX1_hasCome_111 (by decide) ?_
    refine lv_icmp_eq (tgt := 119) hx hb dX1_hasCome_112 (by decide) (fun c14 => ?_) (fun c14 => ?_)
    · skip
      refine lv_iconst (v := 0) hx hb dX1_hasCome_119 (by decide) ?_
      exact hret _ _ _ _ _ hT0 hS0 ⟨(by decide), ⟨(by decide), trivial⟩, rfl⟩ dX1_hasCome_120
    · skip
      refine lv_iconst (v := 1) hx hb dX1_hasCome_115 (by decide) ?_
      refine lv_goto (tgt := 120) hx hb dX1_hasCome_116 (by decide) ?_
      exact hret _ _ _ _ _ hT0 hS0 ⟨(by decide), ⟨(by decide), trivial⟩, rfl⟩ dX1_hasCome_120
set_option maxHeartbeats 4000000 in
set_option maxRecDepth 100000 in
theorem c_X1_ticksTill (l : Launch) (G : hG) (Y : hW) (P : Int32 → Prop) (pa o c0 : Nat) (hP : h_On Y pa (paE (tC P) pa o c0)) (hY : h_On Y o (ringE (tC P) o)) (hC : h_On Y c0 (ringE (tC P) c0)) (u1 u2 u3 : Int32) : hMi l yX1_ticksTill cX1_ticksTill 5 (some .int) 6 135 G Y [.ref (pa), .int u1, .int u2, .int u3] (fun H => True) (fun H r H1 => True) := by
  refine h_ofi (by decide +kernel) (Nat.le_of_ble_eq_true rfl) ?_
  intro p e s m args below meth c H0 ls Q hx hb hts hown hml hK hZ hT0 hpr hS0 hl hret
  have hl : lv_has ls 5 [(0, .ref (pa)), (1, .int u1), (2, .int u2), (3, .int u3)] := hl
  refine lv_aload_n hx hb dX1_ticksTill_0 rfl (lv_at hl 0 rfl) ?_
  refine h_getr (C := RX1) (T := TX1) (N := 4) hx hb hts inX1 hown hK hT0 (hP.o rfl) rfl 1 rfl wF_X1_22 rfl dX1_ticksTill_1 ?_
  refine lv_aload_n hx hb dX1_ticksTill_4 rfl (lv_at hl 0 rfl) ?_
  refine h_getr (C := RX1) (T := TX1) (N := 4) hx hb hts inX1 hown hK hT0 (hP.o rfl) rfl 0 rfl wF_X1_18 rfl dX1_ticksTill_5 ?_
  refine h_callVv (T := TX5) (rest := []) (As := [.ref (o)]) hx hb hml hown hts hK hT0 hZ (fun _ h => h) hS0 (c_X5_copyFrom l G Y P (c0) (o) hC hY) trivial wd_X5_copyFrom wV_X5_copyFrom wL_X1_25 (on_rg hC) rfl rfl hl.1 rfl (Nat.le_of_ble_eq_true rfl) dX1_ticksTill_8 ⟨Nat.le_of_ble_eq_true rfl, Nat.le_of_ble_eq_true rfl⟩ ⟨Nat.zero_le _, Nat.zero_le _⟩ (fun H1 locs hp1 hT1 hS1 hk1 => ?_)
  refine lv_iconst (v := 0) hx hb dX1_ticksTill_11 (by decide) ?_
  refine lv_istore (lv' := [(4, .int 0), (0, .ref (pa)), (1, .int u1), (2, .int u2), (3, .int u3)]) hx hb dX1_ticksTill_12 hl (by decide) rfl (fun ls hl => ?_)
  have LP1 : ∀ (n1 : Nat) (w1_4 : Int32), 2147483647 - w1_4.toInt < (n1 : Int) → 0 ≤ w1_4.toInt → ∀ (H2 : Heap) (locs : List Loc) (ls : Array Slot), hT G Y H2 → va_S (h_A Y) s.heap H2 locs → lv_has ls 5 [(4, .int w1_4), (0, .ref (pa)), (1, .int u1), (2, .int u2), (3, .int u3)] → W p l e (h_rm 6 135) s m args below meth c H2 locs 0 0 Q (F0 m 14 ls []) := by
    intro n1
    induction n1 with
    | zero =>
      intro w1_4 hm
      exact absurd hm (by have := Int32.toInt_lt w1_4; have := Int32.le_toInt w1_4; omega)
    | succ n1 ih1 =>
      intro w1_4 hm1 hz1 H2 locs ls hT2 hS2 hl
      refine lv_iload hx hb dX1_ticksTill_14 (lv_at hl 0 rfl) ?_
      refine lv_sipush (v := 3000) hx hb dX1_ticksTill_16 (by decide) ?_
      refine lv_icmp_gt (tgt := 48) hx hb dX1_ticksTill_19 (by decide) (fun c1 => ?_) (fun c1 => ?_)
      · skip
        refine lv_iconst (v := (-1)) hx hb dX1_ticksTill_48 (by decide) ?_
        exact hret _ _ _ _ _ hT2 hS2 trivial dX1_ticksTill_49
      · skip
        refine lv_aload_n hx hb dX1_ticksTill_22 rfl (lv_at hl 1 rfl) ?_
        refine lv_iload_n hx hb dX1_ticksTill_23 rfl (lv_at hl 2 rfl) ?_
        refine lv_iload_n hx hb dX1_ticksTill_24 rfl (lv_at hl 3 rfl) ?_
        refine h_callVi (T := TX1) (rest := []) (As := [.int u1, .int u2]) hx hb hml hown hts hK hT2 hZ (fun _ h => h) hS2 (c_X1_hasCome l G Y P (pa) (o) (c0) hP hY hC u1 u2) trivial wd_X1_hasCome wV_X1_hasCome wL_X1_31 (hP.o rfl) rfl rfl hl.1 rfl (Nat.le_of_ble_eq_true rfl) dX1_ticksTill_25 ⟨Nat.le_of_ble_eq_true rfl, Nat.le_of_ble_eq_true rfl⟩ ⟨Nat.zero_le _, Nat.zero_le _⟩ (fun r2 H3 locs hp3 hT3 hS3 hk3 => ?_)
        obtain ⟨hp3, he⟩ := hp3
        have he := he.symm
        subst he
        refine lv_if_eq (tgt := 34) hx hb dX1_ticksTill_28 (by decide) (fun c3 => ?_) (fun c3 => ?_)
        · skip
          refine lv_aload_n hx hb dX1_ticksTill_34 rfl (lv_at hl 1 rfl) ?_
          refine h_getr (C := RX1) (T := TX1) (N := 4) hx hb hts inX1 hown hK hT2 (hP.o rfl) rfl 1 rfl wF_X1_22 rfl dX1_ticksTill_35 ?_
          refine lv_iload_n hx hb dX1_ticksTill_38 rfl (lv_at hl 4 rfl) ?_
          refine h_callVv (T := TX5) (rest := []) (As := [.int u3]) hx hb hml hown hts hK hT2 hZ (fun _ h => h) hS3 (c_X5_passTick l G Y P (c0) hC u3) trivial wd_X5_passTick wV_X5_passTick wL_X1_35 (on_rg hC) rfl rfl hl.1 rfl (Nat.le_of_ble_eq_true rfl) dX1_ticksTill_39 ⟨Nat.le_of_ble_eq_true rfl, Nat.le_of_ble_eq_true rfl⟩ ⟨Nat.zero_le _, Nat.zero_le _⟩ (fun H4 locs hp4 hT4 hS4 hk4 => ?_)
          obtain ⟨x4, ex4⟩ : ∃ y : Int32, y = w1_4 + 1 := ⟨_, rfl⟩
          refine lv_iinc (v := x4) (lv' := [(4, .int x4), (0, .ref (pa)), (1, .int u1), (2, .int u2), (3, .int u3)]) hx hb dX1_ticksTill_42 hl (k := 0) rfl (by rw [ex4]; rfl) (by decide) rfl (fun ls hl => ?_)
          refine lv_goto (tgt := 14) hx hb dX1_ticksTill_45 (by decide) ?_
          exact ih1 x4 (h_dn hm1 ex4 (by (try simp only [Int32.lt_iff_toInt_lt, Int32.le_iff_toInt_le, ← Int32.toInt_inj, Int32.reduceToInt, (show (-1 : Int32).toInt = -1 from rfl)] at c1 ⊢); omega)) (h_nn hz1 ex4 (by (try simp only [Int32.lt_iff_toInt_lt, Int32.le_iff_toInt_le, ← Int32.toInt_inj, Int32.reduceToInt, (show (-1 : Int32).toInt = -1 from rfl)] at c1 ⊢); omega)) _ _ _ hT4 hS4 (lv_sub hl [0, 1, 2, 3, 4] rfl)
        · skip
          refine lv_iload hx hb dX1_ticksTill_31 (lv_at hl 0 rfl) ?_
          exact hret _ _ _ _ _ hT2 hS3 trivial dX1_ticksTill_33
  exact LP1 4294967296 0 (h_m0 _) (by decide) _ _ _ hT1 hS1 (lv_sub hl [0, 1, 2, 3, 4] rfl)
set_option maxHeartbeats 4000000 in
set_option maxRecDepth 100000 in
theorem c_X1_numberGot (l : Launch) (G : hG) (Y : hW) (P : Int32 → Prop) (pa o c0 : Nat) (hP : h_On Y pa (paE (tC P) pa o c0)) (hY : h_On Y o (ringE (tC P) o)) (hC : h_On Y c0 (ringE (tC P) c0)) (u1 u2 : Int32) : hMi l yX1_numberGot cX1_numberGot 5 (some .int) 6 135 G Y [.ref (pa), .int u1, .int u2] (fun H => True) (fun H r H1 => True) := by
  refine h_ofi (by decide +kernel) (Nat.le_of_ble_eq_true rfl) ?_
  intro p e s m args below meth c H0 ls Q hx hb hts hown hml hK hZ hT0 hpr hS0 hl hret
  have hl : lv_has ls 5 [(0, .ref (pa)), (1, .int u1), (2, .int u2)] := hl
  refine lv_aload_n hx hb dX1_numberGot_0 rfl (lv_at hl 0 rfl) ?_
  refine h_getr (C := RX1) (T := TX1) (N := 4) hx hb hts inX1 hown hK hT0 (hP.o rfl) rfl 1 rfl wF_X1_22 rfl dX1_numberGot_1 ?_
  refine lv_aload_n hx hb dX1_numberGot_4 rfl (lv_at hl 0 rfl) ?_
  refine h_getr (C := RX1) (T := TX1) (N := 4) hx hb hts inX1 hown hK hT0 (hP.o rfl) rfl 0 rfl wF_X1_18 rfl dX1_numberGot_5 ?_
  refine h_callVv (T := TX5) (rest := []) (As := [.ref (o)]) hx hb hml hown hts hK hT0 hZ (fun _ h => h) hS0 (c_X5_copyFrom l G Y P (c0) (o) hC hY) trivial wd_X5_copyFrom wV_X5_copyFrom wL_X1_25 (on_rg hC) rfl rfl hl.1 rfl (Nat.le_of_ble_eq_true rfl) dX1_numberGot_8 ⟨Nat.le_of_ble_eq_true rfl, Nat.le_of_ble_eq_true rfl⟩ ⟨Nat.zero_le _, Nat.zero_le _⟩ (fun H1 locs hp1 hT1 hS1 hk1 => ?_)
  refine lv_iconst (v := 0) hx hb dX1_numberGot_11 (by decide) ?_
  refine lv_istore_n (lv' := [(3, .int 0), (0, .ref (pa)), (1, .int u1), (2, .int u2)]) hx hb dX1_numberGot_12 rfl hl (by decide) rfl (fun ls hl => ?_)
  refine lv_iconst (v := 1) hx hb dX1_numberGot_13 (by decide) ?_
  refine lv_istore (lv' := [(4, .int 1), (3, .int 0), (0, .ref (pa)), (1, .int u1), (2, .int u2)]) hx hb dX1_numberGot_14 hl (by decide) rfl (fun ls hl => ?_)
  have LP1 : ∀ (n1 : Nat) (w1_4 w1_3 : Int32), 2147483647 - w1_4.toInt < (n1 : Int) → 0 ≤ w1_4.toInt → ∀ (H2 : Heap) (locs : List Loc) (ls : Array Slot), hT G Y H2 → va_S (h_A Y) s.heap H2 locs → lv_has ls 5 [(4, .int w1_4), (3, .int w1_3), (0, .ref (pa)), (1, .int u1), (2, .int u2)] → W p l e (h_rm 6 135) s m args below meth c H2 locs 0 0 Q (F0 m 16 ls []) := by
    intro n1
    induction n1 with
    | zero =>
      intro w1_4 w1_3 hm
      exact absurd hm (by have := Int32.toInt_lt w1_4; have := Int32.le_toInt w1_4; omega)
    | succ n1 ih1 =>
      intro w1_4 w1_3 hm1 hz1 H2 locs ls hT2 hS2 hl
      refine lv_iload hx hb dX1_numberGot_16 (lv_at hl 0 rfl) ?_
      refine lv_sipush (v := 3000) hx hb dX1_numberGot_18 (by decide) ?_
      refine lv_icmp_gt (tgt := 65) hx hb dX1_numberGot_21 (by decide) (fun c1 => ?_) (fun c1 => ?_)
      · skip
        refine lv_iconst (v := (-1)) hx hb dX1_numberGot_65 (by decide) ?_
        exact hret _ _ _ _ _ hT2 hS2 trivial dX1_numberGot_66
      · skip
        refine lv_aload_n hx hb dX1_numberGot_24 rfl (lv_at hl 2 rfl) ?_
        refine h_getr (C := RX1) (T := TX1) (N := 4) hx hb hts inX1 hown hK hT2 (hP.o rfl) rfl 1 rfl wF_X1_22 rfl dX1_numberGot_25 ?_
        refine lv_iload_n hx hb dX1_numberGot_28 rfl (lv_at hl 4 rfl) ?_
        refine h_callVv (T := TX5) (rest := []) (As := [.int u2]) hx hb hml hown hts hK hT2 hZ (fun _ h => h) hS2 (c_X5_passTick l G Y P (c0) hC u2) trivial wd_X5_passTick wV_X5_passTick wL_X1_35 (on_rg hC) rfl rfl hl.1 rfl (Nat.le_of_ble_eq_true rfl) dX1_numberGot_29 ⟨Nat.le_of_ble_eq_true rfl, Nat.le_of_ble_eq_true rfl⟩ ⟨Nat.zero_le _, Nat.zero_le _⟩ (fun H3 locs hp3 hT3 hS3 hk3 => ?_)
        refine lv_aload_n hx hb dX1_numberGot_32 rfl (lv_at hl 2 rfl) ?_
        refine h_getr (C := RX1) (T := TX1) (N := 4) hx hb hts inX1 hown hK hT3 (hP.o rfl) rfl 1 rfl wF_X1_22 rfl dX1_numberGot_33 ?_
        refine h_geti (C := RX5) (T := TX5) (N := 11) hx hb hts inX5 hown hK hT3 (on_rg hC) rfl 8 rfl wF_X1_43 rfl dX1_numberGot_36 (fun p2 => ?_)
        refine lv_topi (fun x3 ex3 => ?_)
        refine lv_iconst (v := (-1)) hx hb dX1_numberGot_39 (by decide) ?_
        refine lv_icmp_eq (tgt := 59) hx hb dX1_numberGot_40 (by decide) (fun c4 => ?_) (fun c4 => ?_)
        · skip
          obtain ⟨x5, ex5⟩ : ∃ y : Int32, y = w1_4 + 1 := ⟨_, rfl⟩
          refine lv_iinc (v := x5) (lv' := [(4, .int x5), (3, .int w1_3), (0, .ref (pa)), (1, .int u1), (2, .int u2)]) hx hb dX1_numberGot_59 hl (k := 0) rfl (by rw [ex5]; rfl) (by decide) rfl (fun ls hl => ?_)
          refine lv_goto (tgt := 16) hx hb dX1_numberGot_62 (by decide) ?_
          exact ih1 x5 w1_3 (h_dn hm1 ex5 (by (try simp only [Int32.lt_iff_toInt_lt, Int32.le_iff_toInt_le, ← Int32.toInt_inj, Int32.reduceToInt, (show (-1 : Int32).toInt = -1 from rfl)] at c1 ⊢); omega)) (h_nn hz1 ex5 (by (try simp only [Int32.lt_iff_toInt_lt, Int32.le_iff_toInt_le, ← Int32.toInt_inj, Int32.reduceToInt, (show (-1 : Int32).toInt = -1 from rfl)] at c1 ⊢); omega)) _ _ _ hT3 hS3 (lv_sub hl [0, 1, 2, 3, 4] rfl)
        · skip
          refine lv_iload_n hx hb dX1_numberGot_43 rfl (lv_at hl 1 rfl) ?_
          refine lv_iload_n hx hb dX1_numberGot_44 rfl (lv_at hl 3 rfl) ?_
          refine lv_icmp_ne (tgt := 56) hx hb dX1_numberGot_45 (by decide) (fun c6 => ?_) (fun c6 => ?_)
          · skip
            obtain ⟨x7, ex7⟩ : ∃ y : Int32, y = w1_3 + 1 := ⟨_, rfl⟩
            refine lv_iinc (v := x7) (lv' := [(3, .int x7), (4, .int w1_4), (0, .ref (pa)), (1, .int u1), (2, .int u2)]) hx hb dX1_numberGot_56 hl (k := 1) rfl (by rw [ex7]; rfl) (by decide) rfl (fun ls hl => ?_)
            obtain ⟨x8, ex8⟩ : ∃ y : Int32, y = w1_4 + 1 := ⟨_, rfl⟩
            refine lv_iinc (v := x8) (lv' := [(4, .int x8), (3, .int x7), (0, .ref (pa)), (1, .int u1), (2, .int u2)]) hx hb dX1_numberGot_59 hl (k := 1) rfl (by rw [ex8]; rfl) (by decide) rfl (fun ls hl => ?_)
            refine lv_goto (tgt := 16) hx hb dX1_numberGot_62 (by decide) ?_
            exact ih1 x8 x7 (h_dn hm1 ex8 (by (try simp only [Int32.lt_iff_toInt_lt, Int32.le_iff_toInt_le, ← Int32.toInt_inj, Int32.reduceToInt, (show (-1 : Int32).toInt = -1 from rfl)] at c1 ⊢); omega)) (h_nn hz1 ex8 (by (try simp only [Int32.lt_iff_toInt_lt, Int32.le_iff_toInt_le, ← Int32.toInt_inj, Int32.reduceToInt, (show (-1 : Int32).toInt = -1 from rfl)] at c1 ⊢); omega)) _ _ _ hT3 hS3 (lv_sub hl [0, 1, 2, 3, 4] rfl)
          · skip
            refine lv_aload_n hx hb dX1_numberGot_48 rfl (lv_at hl 2 rfl) ?_
            refine h_getr (C := RX1) (T := TX1) (N := 4) hx hb hts inX1 hown hK hT3 (hP.o rfl) rfl 1 rfl wF_X1_22 rfl dX1_numberGot_49 ?_
            refine h_geti (C := RX5) (T := TX5) (N := 11) hx hb hts inX5 hown hK hT3 (on_rg hC) rfl 8 rfl wF_X1_43 rfl dX1_numberGot_52 (fun p9 => ?_)
            refine h_top (v := x3) ex3.symm ?_
            exact hret _ _ _ _ _ hT3 hS3 trivial dX1_numberGot_55
  exact LP1 4294967296 1 0 (h_m0 _) (by decide) _ _ _ hT1 hS1 (lv_sub hl [0, 1, 2, 3, 4] rfl)
set_option maxHeartbeats 4000000 in
set_option maxRecDepth 100000 in
theorem c_X1_greatestLevel (l : Launch) (G : hG) (Y : hW) (P : Int32 → Prop) (pa o c0 : Nat) (hP : h_On Y pa (paE (tC P) pa o c0)) (hY : h_On Y o (ringE (tC P) o)) (hC : h_On Y c0 (ringE (tC P) c0)) : hMi l yX1_greatestLevel cX1_greatestLevel 3 (some .int) 6 135 G Y [.ref (pa)] (fun H => True) (fun H r H1 => True) := by
  refine h_ofi (by decide +kernel) (Nat.le_of_ble_eq_true rfl) ?_
  intro p e s m args below meth c H0 ls Q hx hb hts hown hml hK hZ hT0 hpr hS0 hl hret
  have hl : lv_has ls 3 [(0, .ref (pa))] := hl
  refine lv_aload_n hx hb dX1_greatestLevel_0 rfl (lv_at hl 0 rfl) ?_
  refine h_getr (C := RX1) (T := TX1) (N := 4) hx hb hts inX1 hown hK hT0 (hP.o rfl) rfl 1 rfl wF_X1_22 rfl dX1_greatestLevel_1 ?_
  refine lv_aload_n hx hb dX1_greatestLevel_4 rfl (lv_at hl 0 rfl) ?_
  refine h_getr (C := RX1) (T := TX1) (N := 4) hx hb hts inX1 hown hK hT0 (hP.o rfl) rfl 0 rfl wF_X1_18 rfl dX1_greatestLevel_5 ?_
  refine h_callVv (T := TX5) (rest := []) (As := [.ref (o)]) hx hb hml hown hts hK hT0 hZ (fun _ h => h) hS0 (c_X5_copyFrom l G Y P (c0) (o) hC hY) trivial wd_X5_copyFrom wV_X5_copyFrom wL_X1_25 (on_rg hC) rfl rfl hl.1 rfl (Nat.le_of_ble_eq_true rfl) dX1_greatestLevel_8 ⟨Nat.le_of_ble_eq_true rfl, Nat.le_of_ble_eq_true rfl⟩ ⟨Nat.zero_le _, Nat.zero_le _⟩ (fun H1 locs hp1 hT1 hS1 hk1 => ?_)
  refine lv_iconst (v := 0) hx hb dX1_greatestLevel_11 (by decide) ?_
  refine lv_istore_n (lv' := [(1, .int 0), (0, .ref (pa))]) hx hb dX1_greatestLevel_12 rfl hl (by decide) rfl (fun ls hl => ?_)
  refine lv_iconst (v := 0) hx hb dX1_greatestLevel_13 (by decide) ?_
  refine lv_istore_n (lv' := [(2, .int 0), (1, .int 0), (0, .ref (pa))]) hx hb dX1_greatestLevel_14 rfl hl (by decide) rfl (fun ls hl => ?_)
  have LP1 : ∀ (n1 : Nat) (w1_2 w1_1 : Int32), 2147483647 - w1_2.toInt < (n1 : Int) → 0 ≤ w1_2.toInt → ∀ (H2 : Heap) (locs : List Loc) (ls : Array Slot), hT G Y H2 → va_S (h_A Y) s.heap H2 locs → lv_has ls 3 [(2, .int w1_2), (1, .int w1_1), (0, .ref (pa))] → W p l e (h_rm 6 135) s m args below meth c H2 locs 0 0 Q (F0 m 15 ls []) := by
    intro n1
    induction n1 with
    | zero =>
      intro w1_2 w1_1 hm
      exact absurd hm (by have := Int32.toInt_lt w1_2; have := Int32.le_toInt w1_2; omega)
    | succ n1 ih1 =>
      intro w1_2 w1_1 hm1 hz1 H2 locs ls hT2 hS2 hl
      refine lv_iload_n hx hb dX1_greatestLevel_15 rfl (lv_at hl 0 rfl) ?_
      refine lv_sipush (v := 3000) hx hb dX1_greatestLevel_16 (by decide) ?_
      refine lv_icmp_gt (tgt := 76) hx hb dX1_greatestLevel_19 (by decide) (fun c1 => ?_) (fun c1 => ?_)
      · skip
        refine lv_iconst (v := (-1)) hx hb dX1_greatestLevel_76 (by decide) ?_
        exact hret _ _ _ _ _ hT2 hS2 trivial dX1_greatestLevel_77
      · skip
        refine lv_aload_n hx hb dX1_greatestLevel_22 rfl (lv_at hl 2 rfl) ?_
        refine h_getr (C := RX1) (T := TX1) (N := 4) hx hb hts inX1 hown hK hT2 (hP.o rfl) rfl 1 rfl wF_X1_22 rfl dX1_greatestLevel_23 ?_
        refine h_getr (C := RX5) (T := TX5) (N := 11) hx hb hts inX5 hown hK hT2 (on_rg hC) rfl 3 rfl wF_X1_56 rfl dX1_greatestLevel_26 ?_
        refine h_geti (C := RX9) (T := TX9) (N := 11) hx hb hts inX9 hown hK hT2 ((on_wa hC).o rfl) rfl 0 rfl wF_X1_60 rfl dX1_greatestLevel_29 (fun p2 => ?_)
        refine lv_topi (fun x3 ex3 => ?_)
        refine lv_if_eq (tgt := 50) hx hb dX1_greatestLevel_32 (by decide) (fun c4 => ?_) (fun c4 => ?_)
        · skip
          refine lv_aload_n hx hb dX1_greatestLevel_50 rfl (lv_at hl 2 rfl) ?_
          refine h_getr (C := RX1) (T := TX1) (N := 4) hx hb hts inX1 hown hK hT2 (hP.o rfl) rfl 1 rfl wF_X1_22 rfl dX1_greatestLevel_51 ?_
          refine h_callVi (T := TX5) (rest := []) (As := []) hx hb hml hown hts hK hT2 hZ (fun _ h => h) hS2 (c_X5_isQuiet l G Y P (c0) hC) trivial wd_X5_isQuiet wV_X5_isQuiet wL_X1_39 (on_rg hC) rfl rfl hl.1 rfl (Nat.le_of_ble_eq_true rfl) dX1_greatestLevel_54 ⟨Nat.le_of_ble_eq_true rfl, Nat.le_of_ble_eq_true rfl⟩ ⟨Nat.zero_le _, Nat.zero_le _⟩ (fun r5 H3 locs hp3 hT3 hS3 hk3 => ?_)
          obtain ⟨hp3, he⟩ := hp3
          have he := he.symm
          subst he
          refine lv_if_eq (tgt := 62) hx hb dX1_greatestLevel_57 (by decide) (fun c6 => ?_) (fun c6 => ?_)
          · skip
            refine lv_aload_n hx hb dX1_greatestLevel_62 rfl (lv_at hl 2 rfl) ?_
            refine h_getr (C := RX1) (T := TX1) (N := 4) hx hb hts inX1 hown hK hT2 (hP.o rfl) rfl 1 rfl wF_X1_22 rfl dX1_greatestLevel_63 ?_
            refine lv_iconst (v := 0) hx hb dX1_greatestLevel_66 (by decide) ?_
            refine h_callVv (T := TX5) (rest := []) (As := [.int 0]) hx hb hml hown hts hK hT2 hZ (fun _ h => h) hS3 (c_X5_passTick l G Y P (c0) hC 0) trivial wd_X5_passTick wV_X5_passTick wL_X1_35 (on_rg hC) rfl rfl hl.1 rfl (Nat.le_of_ble_eq_true rfl) dX1_greatestLevel_67 ⟨Nat.le_of_ble_eq_true rfl, Nat.le_of_ble_eq_true rfl⟩ ⟨Nat.zero_le _, Nat.zero_le _⟩ (fun H4 locs hp4 hT4 hS4 hk4 => ?_)
            obtain ⟨x7, ex7⟩ : ∃ y : Int32, y = w1_2 + 1 := ⟨_, rfl⟩
            refine lv_iinc (v := x7) (lv' := [(2, .int x7), (1, .int w1_1), (0, .ref (pa))]) hx hb dX1_greatestLevel_70 hl (k := 0) rfl (by rw [ex7]; rfl) (by decide) rfl (fun ls hl => ?_)
            refine lv_goto (tgt := 15) hx hb dX1_greatestLevel_73 (by decide) ?_
            exact ih1 x7 w1_1 (h_dn hm1 ex7 (by (try simp only [Int32.lt_iff_toInt_lt, Int32.le_iff_toInt_le, ← Int32.toInt_inj, Int32.reduceToInt, (show (-1 : Int32).toInt = -1 from rfl)] at c1 ⊢); omega)) (h_nn hz1 ex7 (by (try simp only [Int32.lt_iff_toInt_lt, Int32.le_iff_toInt_le, ← Int32.toInt_inj, Int32.reduceToInt, (show (-1 : Int32).toInt = -1 from rfl)] at c1 ⊢); omega)) _ _ _ hT4 hS4 (lv_sub hl [0, 1, 2] rfl)
          · skip
            refine lv_iload_n hx hb dX1_greatestLevel_60 rfl (lv_at hl 1 rfl) ?_
            exact hret _ _ _ _ _ hT2 hS3 trivial dX1_greatestLevel_61
        · skip
          refine lv_iload_n hx hb dX1_greatestLevel_35 rfl (lv_at hl 1 rfl) ?_
          refine lv_aload_n hx hb dX1_greatestLevel_36 rfl (lv_at hl 2 rfl) ?_
          refine h_getr (C := RX1) (T := TX1) (N := 4) hx hb hts inX1 hown hK hT2 (hP.o rfl) rfl 1 rfl wF_X1_22 rfl dX1_greatestLevel_37 ?_
          refine h_getr (C := RX5) (T := TX5) (N := 11) hx hb hts inX5 hown hK hT2 (on_rg hC) rfl 3 rfl wF_X1_56 rfl dX1_greatestLevel_40 ?_
          refine h_geti (C := RX9) (T := TX9) (N := 11) hx hb hts inX9 hown hK hT2 ((on_wa hC).o rfl) rfl 2 rfl wF_X1_72 rfl dX1_greatestLevel_43 (fun p8 => ?_)
          refine lv_topi (fun x9 ex9 => ?_)
          refine h_callSi (rest := []) (As := [.int w1_1, .int x9]) hx hb hml hown hts hK hT2 hZ (fun _ h => h) hS2 (c_max l G Y w1_1 x9) trivial wd_J9_max_7cf53 wS_J9_max_7cf53 wL_X1_75 rfl hl.1 rfl (Nat.le_of_ble_eq_true rfl) dX1_greatestLevel_46 ⟨Nat.le_of_ble_eq_true rfl, Nat.le_of_ble_eq_true rfl⟩ ⟨Nat.zero_le _, Nat.zero_le _⟩ (fun r10 H5 locs hp5 hT5 hS5 hk5 => ?_)
          obtain ⟨hp5, he⟩ := hp5
          have he := he.symm
          subst he
          refine lv_istore_n (lv' := [(1, .int r10), (2, .int w1_2), (0, .ref (pa))]) hx hb dX1_greatestLevel_49 rfl hl (by decide) rfl (fun ls hl => ?_)
          refine lv_aload_n hx hb dX1_greatestLevel_50 rfl (lv_at hl 2 rfl) ?_
          refine h_getr (C := RX1) (T := TX1) (N := 4) hx hb hts inX1 hown hK hT2 (hP.o rfl) rfl 1 rfl wF_X1_22 rfl dX1_greatestLevel_51 ?_
          refine h_callVi (T := TX5) (rest := []) (As := []) hx hb hml hown hts hK hT2 hZ (fun _ h => h) hS5 (c_X5_isQuiet l G Y P (c0) hC) trivial wd_X5_isQuiet wV_X5_isQuiet wL_X1_39 (on_rg hC) rfl rfl hl.1 rfl (Nat.le_of_ble_eq_true rfl) dX1_greatestLevel_54 ⟨Nat.le_of_ble_eq_true rfl, Nat.le_of_ble_eq_true rfl⟩ ⟨Nat.zero_le _, Nat.zero_le _⟩ (fun r11 H6 locs hp6 hT6 hS6 hk6 => ?_)
          obtain ⟨hp6, he⟩ := hp6
          have he := he.symm
          subst he
          refine lv_if_eq (tgt := 62) hx hb dX1_greatestLevel_57 (by decide) (fun c12 => ?_) (fun c12 => ?_)
          · skip
            refine lv_aload_n hx hb dX1_greatestLevel_62 rfl (lv_at hl 2 rfl) ?_
            refine h_getr (C := RX1) (T := TX1) (N := 4) hx hb hts inX1 hown hK hT2 (hP.o rfl) rfl 1 rfl wF_X1_22 rfl dX1_greatestLevel_63 ?_
            refine lv_iconst (v := 0) hx hb dX1_greatestLevel_66 (by decide) ?_
            refine h_callVv (T := TX5) (rest := []) (As := [.int 0]) hx hb hml hown hts hK hT2 hZ (fun _ h => h) hS6 (c_X5_passTick l G Y P (c0) hC 0) trivial wd_X5_passTick wV_X5_passTick wL_X1_35 (on_rg hC) rfl rfl hl.1 rfl (Nat.le_of_ble_eq_true rfl) dX1_greatestLevel_67 ⟨Nat.le_of_ble_eq_true rfl, Nat.le_of_ble_eq_true rfl⟩ ⟨Nat.zero_le _, Nat.zero_le _⟩ (fun H7 locs hp7 hT7 hS7 hk7 => ?_)
            obtain ⟨x13, ex13⟩ : ∃ y : Int32, y = w1_2 + 1 := ⟨_, rfl⟩
            refine lv_iinc (v := x13) (lv' := [(2, .int x13), (1, .int r10), (0, .ref (pa))]) hx hb dX1_greatestLevel_70 hl (k := 1) rfl (by rw [ex13]; rfl) (by decide) rfl (fun ls hl => ?_)
            refine lv_goto (tgt := 15) hx hb dX1_greatestLevel_73 (by decide) ?_
            exact ih1 x13 r10 (h_dn hm1 ex13 (by (try simp only [Int32.lt_iff_toInt_lt, Int32.le_iff_toInt_le, ← Int32.toInt_inj, Int32.reduceToInt, (show (-1 : Int32).toInt = -1 from rfl)] at c1 ⊢); omega)) (h_nn hz1 ex13 (by (try simp only [Int32.lt_iff_toInt_lt, Int32.le_iff_toInt_le, ← Int32.toInt_inj, Int32.reduceToInt, (show (-1 : Int32).toInt = -1 from rfl)] at c1 ⊢); omega)) _ _ _ hT7 hS7 (lv_sub hl [0, 1, 2] rfl)
          · skip
            refine lv_iload_n hx hb dX1_greatestLevel_60 rfl (lv_at hl 0 rfl) ?_
            exact hret _ _ _ _ _ hT2 hS6 trivial dX1_greatestLevel_61
  exact LP1 4294967296 0 0 (h_m0 _) (by decide) _ _ _ hT1 hS1 (lv_sub hl [0, 1, 2] rfl)
set_option maxHeartbeats 4000000 in
set_option maxRecDepth 100000 in
theorem c_X1_noteGot (l : Launch) (G : hG) (Y : hW) (P : Int32 → Prop) (pa o c0 : Nat) (hP : h_On Y pa (paE (tC P) pa o c0)) (hY : h_On Y o (ringE (tC P) o)) (hC : h_On Y c0 (ringE (tC P) c0)) (u1 : Int32) : hMv l yX1_noteGot cX1_noteGot 5 none 6 135 G Y [.ref (pa), .int u1] (fun H => True) (fun H H1 => True) := by
  refine h_ofv (by decide +kernel) (Nat.le_of_ble_eq_true rfl) ?_
  intro p e s m args below meth c H0 ls Q hx hb hts hown hml hK hZ hT0 hpr hS0 hl hret
  have hl : lv_has ls 5 [(0, .ref (pa)), (1, .int u1)] := hl
  refine lv_iload_n hx hb dX1_noteGot_0 rfl (lv_at hl 1 rfl) ?_
  refine lv_if_eq (tgt := 11) hx hb dX1_noteGot_1 (by decide) (fun c1 => ?_) (fun c1 => ?_)
  · skip
    refine lv_aload_n hx hb dX1_noteGot_11 rfl (lv_at hl 0 rfl) ?_
    refine h_getr (C := RX1) (T := TX1) (N := 4) hx hb hts inX1 hown hK hT0 (hP.o rfl) rfl 2 rfl wF_X1_9 rfl dX1_noteGot_12 ?_
    refine lv_astore_n (lv' := [(2, .ref (pa + 1)), (0, .ref (pa)), (1, .int u1)]) hx hb dX1_noteGot_15 rfl hl (by decide) rfl (fun ls hl => ?_)
    refine lv_aload_n hx hb dX1_noteGot_16 rfl (lv_at hl 0 rfl) ?_
    refine lv_iconst (v := (-1)) hx hb dX1_noteGot_17 (by decide) ?_
    refine h_callSv (rest := []) (As := [.ref (pa + 1), .int (-1)]) hx hb hml hown hts hK hT0 hZ (fun _ h => h) hS0 (c_fill l G Y (pa + 1) 48 _ (-1) (hP.at 1 rfl) (by decide) (fun _ _ => trivial)) trivial wd_J7_fill_53178 wS_J7_fill_53178 wL_X1_81 rfl hl.1 rfl (Nat.le_of_ble_eq_true rfl) dX1_noteGot_18 ⟨Nat.le_of_ble_eq_true rfl, Nat.le_of_ble_eq_true rfl⟩ ⟨Nat.zero_le _, Nat.zero_le _⟩ (fun H1 locs hp1 hT1 hS1 hk1 => ?_)
    refine lv_aload_n hx hb dX1_noteGot_21 rfl (lv_at hl 1 rfl) ?_
    refine h_getr (C := RX1) (T := TX1) (N := 4) hx hb hts inX1 hown hK hT1 (hP.o rfl) rfl 1 rfl wF_X1_22 rfl dX1_noteGot_22 ?_
    refine lv_aload_n hx hb dX1_noteGot_25 rfl (lv_at hl 1 rfl) ?_
    refine h_getr (C := RX1) (T := TX1) (N := 4) hx hb hts inX1 hown hK hT1 (hP.o rfl) rfl 0 rfl wF_X1_18 rfl dX1_noteGot_26 ?_
    refine h_callVv (T := TX5) (rest := []) (As := [.ref (o)]) hx hb hml hown hts hK hT1 hZ (fun _ h => h) hS1 (c_X5_copyFrom l G Y P (c0) (o) hC hY) trivial wd_X5_copyFrom wV_X5_copyFrom wL_X1_25 (on_rg hC) rfl rfl hl.1 rfl (Nat.le_of_ble_eq_true rfl) dX1_noteGot_29 ⟨Nat.le_of_ble_eq_true rfl, Nat.le_of_ble_eq_true rfl⟩ ⟨Nat.zero_le _, Nat.zero_le _⟩ (fun H2 locs hp2 hT2 hS2 hk2 => ?_)
    refine lv_iconst (v := 1) hx hb dX1_noteGot_32 (by decide) ?_
    refine lv_istore_n (lv' := [(3, .int 1), (2, .ref (pa + 1)), (0, .ref (pa)), (1, .int u1)]) hx hb dX1_noteGot_33 rfl hl (by decide) rfl (fun ls hl => ?_)
    have LP1 : ∀ (n1 : Nat) (w1_3 : Int32), 2147483647 - w1_3.toInt < (n1 : Int) → 0 ≤ w1_3.toInt → ∀ (H3 : Heap) (locs : List Loc) (ls : Array Slot), hT G Y H3 → va_S (h_A Y) s.heap H3 locs → lv_has ls 5 [(3, .int w1_3), (2, .ref (pa + 1)), (0, .ref (pa)), (1, .int u1)] → W p l e (h_rm 6 135) s m args below meth c H3 locs 0 0 Q (F0 m 34 ls []) := by
      intro n1
      induction n1 with
      | zero =>
        intro w1_3 hm
        exact absurd hm (by have := Int32.toInt_lt w1_3; have := Int32.le_toInt w1_3; omega)
      | succ n1 ih1 =>
        intro w1_3 hm1 hz1 H3 locs ls hT3 hS3 hl
        refine lv_iload_n hx hb dX1_noteGot_34 rfl (lv_at hl 0 rfl) ?_
        refine lv_sipush (v := 3000) hx hb dX1_noteGot_35 (by decide) ?_
        refine lv_icmp_gt (tgt := 106) hx hb dX1_noteGot_38 (by decide) (fun c2 => ?_) (fun c2 => ?_)
        · skip
          exact hret _ _ _ _ hT3 hS3 trivial dX1_noteGot_106
        · skip
          refine lv_aload_n hx hb dX1_noteGot_41 rfl (lv_at hl 2 rfl) ?_
          refine h_getr (C := RX1) (T := TX1) (N := 4) hx hb hts inX1 hown hK hT3 (hP.o rfl) rfl 1 rfl wF_X1_22 rfl dX1_noteGot_42 ?_
          refine lv_iload_n hx hb dX1_noteGot_45 rfl (lv_at hl 3 rfl) ?_
          refine h_callVv (T := TX5) (rest := []) (As := [.int u1]) hx hb hml hown hts hK hT3 hZ (fun _ h => h) hS3 (c_X5_passTick l G Y P (c0) hC u1) trivial wd_X5_passTick wV_X5_passTick wL_X1_35 (on_rg hC) rfl rfl hl.1 rfl (Nat.le_of_ble_eq_true rfl) dX1_noteGot_46 ⟨Nat.le_of_ble_eq_true rfl, Nat.le_of_ble_eq_true rfl⟩ ⟨Nat.zero_le _, Nat.zero_le _⟩ (fun H4 locs hp4 hT4 hS4 hk4 => ?_)
          refine lv_aload_n hx hb dX1_noteGot_49 rfl (lv_at hl 2 rfl) ?_
          refine h_getr (C := RX1) (T := TX1) (N := 4) hx hb hts inX1 hown hK hT4 (hP.o rfl) rfl 1 rfl wF_X1_22 rfl dX1_noteGot_50 ?_
          refine h_geti (C := RX5) (T := TX5) (N := 11) hx hb hts inX5 hown hK hT4 (on_rg hC) rfl 8 rfl wF_X1_43 rfl dX1_noteGot_53 (fun p3 => ?_)
          refine lv_topi (fun x4 ex4 => ?_)
          refine lv_iconst (v := (-1)) hx hb dX1_noteGot_56 (by decide) ?_
          refine lv_icmp_ne (tgt := 64) hx hb dX1_noteGot_57 (by decide) (fun c5 => ?_) (fun c5 => ?_)
          · skip
            refine lv_aload_n hx hb dX1_noteGot_64 rfl (lv_at hl 2 rfl) ?_
            refine h_getr (C := RX1) (T := TX1) (N := 4) hx hb hts inX1 hown hK hT4 (hP.o rfl) rfl 0 rfl wF_X1_18 rfl dX1_noteGot_65 ?_
            refine h_getr (C := RX5) (T := TX5) (N := 11) hx hb hts inX5 hown hK hT4 (on_rg hY) rfl 1 rfl wF_X1_87 rfl dX1_noteGot_68 ?_
            refine lv_aload_n hx hb dX1_noteGot_71 rfl (lv_at hl 2 rfl) ?_
            refine h_getr (C := RX1) (T := TX1) (N := 4) hx hb hts inX1 hown hK hT4 (hP.o rfl) rfl 1 rfl wF_X1_22 rfl dX1_noteGot_72 ?_
            refine h_geti (C := RX5) (T := TX5) (N := 11) hx hb hts inX5 hown hK hT4 (on_rg hC) rfl 8 rfl wF_X1_43 rfl dX1_noteGot_75 (fun p6 => ?_)
            refine h_top (v := x4) ex4.symm ?_
            refine h_callVi (T := TX2) (rest := []) (As := [.int x4]) hx hb hml hown hts hK hT4 hZ (fun _ h => h) hS4 (c_X2_slotOf l G Y P (o + 7) (on_qu hY) x4) trivial wd_X2_slotOf wV_X2_slotOf wL_X1_91 ((on_qu hY).o rfl) rfl rfl hl.1 rfl (Nat.le_of_ble_eq_true rfl) dX1_noteGot_78 ⟨Nat.le_of_ble_eq_true rfl, Nat.le_of_ble_eq_true rfl⟩ ⟨Nat.zero_le _, Nat.zero_le _⟩ (fun r7 H5 locs hp5 hT5 hS5 hk5 => ?_)
            obtain ⟨hp5, he⟩ := hp5
            have he := he.symm
            subst he
            refine lv_istore (lv' := [(4, .int r7), (3, .int w1_3), (2, .ref (pa + 1)), (0, .ref (pa)), (1, .int u1)]) hx hb dX1_noteGot_81 hl (by decide) rfl (fun ls hl => ?_)
            refine lv_iload hx hb dX1_noteGot_83 (lv_at hl 0 rfl) ?_
            refine lv_if_lt (tgt := 100) hx hb dX1_noteGot_85 (by decide) (fun c8 => ?_) (fun c8 => ?_)
            · skip
              obtain ⟨x9, ex9⟩ : ∃ y : Int32, y = w1_3 + 1 := ⟨_, rfl⟩
              refine lv_iinc (v := x9) (lv' := [(3, .int x9), (4, .int r7), (2, .ref (pa + 1)), (0, .ref (pa)), (1, .int u1)]) hx hb dX1_noteGot_100 hl (k := 1) rfl (by rw [ex9]; rfl) (by decide) rfl (fun ls hl => ?_)
              refine lv_goto (tgt := 34) hx hb dX1_noteGot_103 (by decide) ?_
              exact ih1 x9 (h_dn hm1 ex9 (by (try simp only [Int32.lt_iff_toInt_lt, Int32.le_iff_toInt_le, ← Int32.toInt_inj, Int32.reduceToInt, (show (-1 : Int32).toInt = -1 from rfl)] at c2 ⊢); omega)) (h_nn hz1 ex9 (by (try simp only [Int32.lt_iff_toInt_lt, Int32.le_iff_toInt_le, ← Int32.toInt_inj, Int32.reduceToInt, (show (-1 : Int32).toInt = -1 from rfl)] at c2 ⊢); omega)) _ _ _ hT4 hS5 (lv_sub hl [0, 2, 3, 4] rfl)
            · skip
              refine lv_iload hx hb dX1_noteGot_88 (lv_at hl 0 rfl) ?_
              refine lv_aload_n hx hb dX1_noteGot_90 rfl (lv_at hl 2 rfl) ?_
              refine h_alen (v := 48) hx hb hK hT4 (by decide) (hP.at 1 rfl) rfl dX1_noteGot_91 ?_
              refine lv_icmp_ge (tgt := 100) hx hb dX1_noteGot_92 (by decide) (fun c10 => ?_) (fun c10 => ?_)
              · skip
                obtain ⟨x11, ex11⟩ : ∃ y : Int32, y = w1_3 + 1 := ⟨_, rfl⟩
                refine lv_iinc (v := x11) (lv' := [(3, .int x11), (4, .int r7), (2, .ref (pa + 1)), (0, .ref (pa)), (1, .int u1)]) hx hb dX1_noteGot_100 hl (k := 1) rfl (by rw [ex11]; rfl) (by decide) rfl (fun ls hl => ?_)
                refine lv_goto (tgt := 34) hx hb dX1_noteGot_103 (by decide) ?_
                exact ih1 x11 (h_dn hm1 ex11 (by (try simp only [Int32.lt_iff_toInt_lt, Int32.le_iff_toInt_le, ← Int32.toInt_inj, Int32.reduceToInt, (show (-1 : Int32).toInt = -1 from rfl)] at c2 ⊢); omega)) (h_nn hz1 ex11 (by (try simp only [Int32.lt_iff_toInt_lt, Int32.le_iff_toInt_le, ← Int32.toInt_inj, Int32.reduceToInt, (show (-1 : Int32).toInt = -1 from rfl)] at c2 ⊢); omega)) _ _ _ hT4 hS5 (lv_sub hl [0, 2, 3, 4] rfl)
              · skip
                refine lv_aload_n hx hb dX1_noteGot_95 rfl (lv_at hl 2 rfl) ?_
                refine lv_iload hx hb dX1_noteGot_96 (lv_at hl 0 rfl) ?_
                refine lv_iload_n hx hb dX1_noteGot_98 rfl (lv_at hl 1 rfl) ?_
                refine h_iast hx hb hK hT4 (fun _ h => h) hS5 (hP.at 1 rfl) (vp_in_iff.mpr (by (try simp only [Int32.lt_iff_toInt_lt, Int32.le_iff_toInt_le, ← Int32.toInt_inj, Int32.reduceToInt, (show (-1 : Int32).toInt = -1 from rfl)] at c8 c10 ⊢); omega)) trivial dX1_noteGot_99 (fun H6 locs hT6 hS6 hu6 => ?_)
                obtain ⟨x12, ex12⟩ : ∃ y : Int32, y = w1_3 + 1 := ⟨_, rfl⟩
                refine lv_iinc (v := x12) (lv' := [(3, .int x12), (4, .int r7), (2, .ref (pa + 1)), (0, .ref (pa)), (1, .int u1)]) hx hb dX1_noteGot_100 hl (k := 1) rfl (by rw [ex12]; rfl) (by decide) rfl (fun ls hl => ?_)
                refine lv_goto (tgt := 34) hx hb dX1_noteGot_103 (by decide) ?_
                exact ih1 x12 (h_dn hm1 ex12 (by (try simp only [Int32.lt_iff_toInt_lt, Int32.le_iff_toInt_le, ← Int32.toInt_inj, Int32.reduceToInt, (show (-1 : Int32).toInt = -1 from rfl)] at c2 ⊢); omega)) (h_nn hz1 ex12 (by (try simp only [Int32.lt_iff_toInt_lt, Int32.le_iff_toInt_le, ← Int32.toInt_inj, Int32.reduceToInt, (show (-1 : Int32).toInt = -1 from rfl)] at c2 ⊢); omega)) _ _ _ hT6 hS6 (lv_sub hl [0, 2, 3, 4] rfl)
          · skip
            refine lv_iconst (v := (-1)) hx hb dX1_noteGot_60 (by decide) ?_
            refine lv_goto (tgt := 81) hx hb dX1_noteGot_61 (by decide) ?_
            refine lv_istore (lv' := [(4, .int (-1)), (3, .int w1_3), (2, .ref (pa + 1)), (0, .ref (pa)), (1, .int u1)]) hx hb dX1_noteGot_81 hl (by decide) rfl (fun ls hl => ?_)
            refine lv_iload hx hb dX1_noteGot_83 (lv_at hl 0 rfl) ?_
            refine lv_if_lt (tgt := 100) hx hb dX1_noteGot_85 (by decide) (fun _ => ?_) (fun h => absurd (by decide) h)
            obtain ⟨x14, ex14⟩ : ∃ y : Int32, y = w1_3 + 1 := ⟨_, rfl⟩
            refine lv_iinc (v := x14) (lv' := [(3, .int x14), (4, .int (-1)), (2, .ref (pa + 1)), (0, .ref (pa)), (1, .int u1)]) hx hb dX1_noteGot_100 hl (k := 1) rfl (by rw [ex14]; rfl) (by decide) rfl (fun ls hl => ?_)
            refine lv_goto (tgt := 34) hx hb dX1_noteGot_103 (by decide) ?_
            exact ih1 x14 (h_dn hm1 ex14 (by (try simp only [Int32.lt_iff_toInt_lt, Int32.le_iff_toInt_le, ← Int32.toInt_inj, Int32.reduceToInt, (show (-1 : Int32).toInt = -1 from rfl)] at c2 ⊢); omega)) (h_nn hz1 ex14 (by (try simp only [Int32.lt_iff_toInt_lt, Int32.le_iff_toInt_le, ← Int32.toInt_inj, Int32.reduceToInt, (show (-1 : Int32).toInt = -1 from rfl)] at c2 ⊢); omega)) _ _ _ hT4 hS4 (lv_sub hl [0, 2, 3, 4] rfl)
    exact LP1 4294967296 1 (h_m0 _) (by decide) _ _ _ hT2 hS2 (lv_sub hl [0, 1, 2, 3] rfl)
  · skip
    refine lv_aload_n hx hb dX1_noteGot_4 rfl (lv_at hl 0 rfl) ?_
    refine h_getr (C := RX1) (T := TX1) (N := 4) hx hb hts inX1 hown hK hT0 (hP.o rfl) rfl 3 rfl wF_X1_15 rfl dX1_noteGot_5 ?_
    refine lv_goto (tgt := 15) hx hb dX1_noteGot_8 (by decide) ?_
    refine lv_astore_n (lv' := [(2, .ref (pa + 2)), (0, .ref (pa)), (1, .int u1)]) hx hb dX1_noteGot_15 rfl hl (by decide) rfl (fun ls hl => ?_)
    refine lv_aload_n hx hb dX1_noteGot_16 rfl (lv_at hl 0 rfl) ?_
    refine lv_iconst (v := (-1)) hx hb dX1_noteGot_17 (by decide) ?_
    refine h_callSv (rest := []) (As := [.ref (pa + 2), .int (-1)]) hx hb hml hown hts hK hT0 hZ (fun _ h => h) hS0 (c_fill l G Y (pa + 2) 48 _ (-1) (hP.at 2 rfl) (by decide) (fun _ _ => trivial)) trivial wd_J7_fill_53178 wS_J7_fill_53178 wL_X1_81 rfl hl.1 rfl (Nat.le_of_ble_eq_true rfl) dX1_noteGot_18 ⟨Nat.le_of_ble_eq_true rfl, Nat.le_of_ble_eq_true rfl⟩ ⟨Nat.zero_le _, Nat.zero_le _⟩ (fun H7 locs hp7 hT7 hS7 hk7 => ?_)
    refine lv_aload_n hx hb dX1_noteGot_21 rfl (lv_at hl 1 rfl) ?_
    refine h_getr (C := RX1) (T := TX1) (N := 4) hx hb hts inX1 hown hK hT7 (hP.o rfl) rfl 1 rfl wF_X1_22 rfl dX1_noteGot_22 ?_
    refine lv_aload_n hx hb dX1_noteGot_25 rfl (lv_at hl 1 rfl) ?_
    refine h_getr (C := RX1) (T := TX1) (N := 4) hx hb hts inX1 hown hK hT7 (hP.o rfl) rfl 0 rfl wF_X1_18 rfl dX1_noteGot_26 ?_
    refine h_callVv (T := TX5) (rest := []) (As := [.ref (o)]) hx hb hml hown hts hK hT7 hZ (fun _ h => h) hS7 (c_X5_copyFrom l G Y P (c0) (o) hC hY) trivial wd_X5_copyFrom wV_X5_copyFrom wL_X1_25 (on_rg hC) rfl rfl hl.1 rfl (Nat.le_of_ble_eq_true rfl) dX1_noteGot_29 ⟨Nat.le_of_ble_eq_true rfl, Nat.le_of_ble_eq_true rfl⟩ ⟨Nat.zero_le _, Nat.zero_le _⟩ (fun H8 locs hp8 hT8 hS8 hk8 => ?_)
    refine lv_iconst (v := 1) hx hb dX1_noteGot_32 (by decide) ?_
    refine lv_istore_n (lv' := [(3, .int 1), (2, .ref (pa + 2)), (0, .ref (pa)), (1, .int u1)]) hx hb dX1_noteGot_33 rfl hl (by decide) rfl (fun ls hl => ?_)
    have LP2 : ∀ (n2 : Nat) (w2_3 : Int32), 2147483647 - w2_3.toInt < (n2 : Int) → 0 ≤ w2_3.toInt → ∀ (H9 : Heap) (locs : List Loc) (ls : Array Slot), hT G Y H9 → va_S (h_A Y) s.heap H9 locs → lv_has ls 5 [(3, .int w2_3), (2, .ref (pa + 2)), (0, .ref (pa)), (1, .int u1)] → W p l e (h_rm 6 135) s m args below meth c H9 locs 0 0 Q (F0 m 34 ls []) := by
      intro n2
      induction n2 with
      | zero =>
        intro w2_3 hm
        exact absurd hm (by have := Int32.toInt_lt w2_3; have := Int32.le_toInt w2_3; omega)
      | succ n2 ih2 =>
        intro w2_3 hm2 hz2 H9 locs ls hT9 hS9 hl
        refine lv_iload_n hx hb dX1_noteGot_34 rfl (lv_at hl 0 rfl) ?_
        refine lv_sipush (v := 3000) hx hb dX1_noteGot_35 (by decide) ?_
        refine lv_icmp_gt (tgt := 106) hx hb dX1_noteGot_38 (by decide) (fun c15 => ?_) (fun c15 => ?_)
        · skip
          exact hret _ _ _ _ hT9 hS9 trivial dX1_noteGot_106
        · skip
          refine lv_aload_n hx hb dX1_noteGot_41 rfl (lv_at hl 2 rfl) ?_
          refine h_getr (C := RX1) (T := TX1) (N := 4) hx hb hts inX1 hown hK hT9 (hP.o rfl) rfl 1 rfl wF_X1_22 rfl dX1_noteGot_42 ?_
          refine lv_iload_n hx hb dX1_noteGot_45 rfl (lv_at hl 3 rfl) ?_
          refine h_callVv (T := TX5) (rest := []) (As := [.int u1]) hx hb hml hown hts hK hT9 hZ (fun _ h => h) hS9 (c_X5_passTick l G Y P (c0) hC u1) trivial wd_X5_passTick wV_X5_passTick wL_X1_35 (on_rg hC) rfl rfl hl.1 rfl (Nat.le_of_ble_eq_true rfl) dX1_noteGot_46 ⟨Nat.le_of_ble_eq_true rfl, Nat.le_of_ble_eq_true rfl⟩ ⟨Nat.zero_le _, Nat.zero_le _⟩ (fun H10 locs hp10 hT10 hS10 hk10 => ?_)
          refine lv_aload_n hx hb dX1_noteGot_49 rfl (lv_at hl 2 rfl) ?_
          refine h_getr (C := RX1) (T := TX1) (N := 4) hx hb hts inX1 hown hK hT10 (hP.o rfl) rfl 1 rfl wF_X1_22 rfl dX1_noteGot_50 ?_
          refine h_geti (C := RX5) (T := TX5) (N := 11) hx hb hts inX5 hown hK hT10 (on_rg hC) rfl 8 rfl wF_X1_43 rfl dX1_noteGot_53 (fun p16 => ?_)
          refine lv_topi (fun x17 ex17 => ?_)
          refine lv_iconst (v := (-1)) hx hb dX1_noteGot_56 (by decide) ?_
          refine lv_icmp_ne (tgt := 64) hx hb dX1_noteGot_57 (by decide) (fun c18 => ?_) (fun c18 => ?_)
          · skip
            refine lv_aload_n hx hb dX1_noteGot_64 rfl (lv_at hl 2 rfl) ?_
            refine h_getr (C := RX1) (T := TX1) (N := 4) hx hb hts inX1 hown hK hT10 (hP.o rfl) rfl 0 rfl wF_X1_18 rfl dX1_noteGot_65 ?_
            refine h_getr (C := RX5) (T := TX5) (N := 11) hx hb hts inX5 hown hK hT10 (on_rg hY) rfl 1 rfl wF_X1_87 rfl dX1_noteGot_68 ?_
            refine lv_aload_n hx hb dX1_noteGot_71 rfl (lv_at hl 2 rfl) ?_
            refine h_getr (C := RX1) (T := TX1) (N := 4) hx hb hts inX1 hown hK hT10 (hP.o rfl) rfl 1 rfl wF_X1_22 rfl dX1_noteGot_72 ?_
            refine h_geti (C := RX5) (T := TX5) (N := 11) hx hb hts inX5 hown hK hT10 (on_rg hC) rfl 8 rfl wF_X1_43 rfl dX1_noteGot_75 (fun p19 => ?_)
            refine h_top (v := x17) ex17.symm ?_
            refine h_callVi (T := TX2) (rest := []) (As := [.int x17]) hx hb hml hown hts hK hT10 hZ (fun _ h => h) hS10 (c_X2_slotOf l G Y P (o + 7) (on_qu hY) x17) trivial wd_X2_slotOf wV_X2_slotOf wL_X1_91 ((on_qu hY).o rfl) rfl rfl hl.1 rfl (Nat.le_of_ble_eq_true rfl) dX1_noteGot_78 ⟨Nat.le_of_ble_eq_true rfl, Nat.le_of_ble_eq_true rfl⟩ ⟨Nat.zero_le _, Nat.zero_le _⟩ (fun r20 H11 locs hp11 hT11 hS11 hk11 => ?_)
            obtain ⟨hp11, he⟩ := hp11
            have he := he.symm
            subst he
            refine lv_istore (lv' := [(4, .int r20), (3, .int w2_3), (2, .ref (pa + 2)), (0, .ref (pa)), (1, .int u1)]) hx hb dX1_noteGot_81 hl (by decide) rfl (fun ls hl => ?_)
            refine lv_iload hx hb dX1_noteGot_83 (lv_at hl 0 rfl) ?_
            refine lv_if_lt (tgt := 100) hx hb dX1_noteGot_85 (by decide) (fun c21 => ?_) (fun c21 => ?_)
            · skip
              obtain ⟨x22, ex22⟩ : ∃ y : Int32, y = w2_3 + 1 := ⟨_, rfl⟩
              refine lv_iinc (v := x22) (lv' := [(3, .int x22), (4, .int r20), (2, .ref (pa + 2)), (0, .ref (pa)), (1, .int u1)]) hx hb dX1_noteGot_100 hl (k := 1) rfl (by rw [ex22]; rfl) (by decide) rfl (fun ls hl => ?_)
              refine lv_goto (tgt := 34) hx hb dX1_noteGot_103 (by decide) ?_
              exact ih2 x22 (h_dn hm2 ex22 (by (try simp only [Int32.lt_iff_toInt_lt, Int32.le_iff_toInt_le, ← Int32.toInt_inj, Int32.reduceToInt, (show (-1 : Int32).toInt = -1 from rfl)] at c15 ⊢); omega)) (h_nn hz2 ex22 (by (try simp only [Int32.lt_iff_toInt_lt, Int32.le_iff_toInt_le, ← Int32.toInt_inj, Int32.reduceToInt, (show (-1 : Int32).toInt = -1 from rfl)] at c15 ⊢); omega)) _ _ _ hT10 hS11 (lv_sub hl [0, 2, 3, 4] rfl)
            · skip
              refine lv_iload hx hb dX1_noteGot_88 (lv_at hl 0 rfl) ?_
              refine lv_aload_n hx hb dX1_noteGot_90 rfl (lv_at hl 2 rfl) ?_
              refine h_alen (v := 48) hx hb hK hT10 (by decide) (hP.at 2 rfl) rfl dX1_noteGot_91 ?_
              refine lv_icmp_ge (tgt := 100) hx hb dX1_noteGot_92 (by decide) (fun c23 => ?_) (fun c23 => ?_)
              · skip
                obtain ⟨x24, ex24⟩ : ∃ y : Int32, y = w2_3 + 1 := ⟨_, rfl⟩
                refine lv_iinc (v := x24) (lv' := [(3, .int x24), (4, .int r20), (2, .ref (pa + 2)), (0, .ref (pa)), (1, .int u1)]) hx hb dX1_noteGot_100 hl (k := 1) rfl (by rw [ex24]; rfl) (by decide) rfl (fun ls hl => ?_)
                refine lv_goto (tgt := 34) hx hb dX1_noteGot_103 (by decide) ?_
                exact ih2 x24 (h_dn hm2 ex24 (by (try simp only [Int32.lt_iff_toInt_lt, Int32.le_iff_toInt_le, ← Int32.toInt_inj, Int32.reduceToInt, (show (-1 : Int32).toInt = -1 from rfl)] at c15 ⊢); omega)) (h_nn hz2 ex24 (by (try simp only [Int32.lt_iff_toInt_lt, Int32.le_iff_toInt_le, ← Int32.toInt_inj, Int32.reduceToInt, (show (-1 : Int32).toInt = -1 from rfl)] at c15 ⊢); omega)) _ _ _ hT10 hS11 (lv_sub hl [0, 2, 3, 4] rfl)
              · skip
                refine lv_aload_n hx hb dX1_noteGot_95 rfl (lv_at hl 2 rfl) ?_
                refine lv_iload hx hb dX1_noteGot_96 (lv_at hl 0 rfl) ?_
                refine lv_iload_n hx hb dX1_noteGot_98 rfl (lv_at hl 1 rfl) ?_
                refine h_iast hx hb hK hT10 (fun _ h => h) hS11 (hP.at 2 rfl) (vp_in_iff.mpr (by (try simp only [Int32.lt_iff_toInt_lt, Int32.le_iff_toInt_le, ← Int32.toInt_inj, Int32.reduceToInt, (show (-1 : Int32).toInt = -1 from rfl)] at c21 c23 ⊢); omega)) trivial dX1_noteGot_99 (fun H12 locs hT12 hS12 hu12 => ?_)
                obtain ⟨x25, ex25⟩ : ∃ y : Int32, y = w2_3 + 1 := ⟨_, rfl⟩
                refine lv_iinc (v := x25) (lv' := [(3, .int x25), (4, .int r20), (2, .ref (pa + 2)), (0, .ref (pa)), (1, .int u1)]) hx hb dX1_noteGot_100 hl (k := 1) rfl (by rw [ex25]; rfl) (by decide) rfl (fun ls hl => ?_)
                refine lv_goto (tgt := 34) hx hb dX1_noteGot_103 (by decide) ?_
                exact ih2 x25 (h_dn hm2 ex25 (by (try simp only [Int32.lt_iff_toInt_lt, Int32.le_iff_toInt_le, ← Int32.toInt_inj, Int32.reduceToInt, (show (-1 : Int32).toInt = -1 from rfl)] at c15 ⊢); omega)) (h_nn hz2 ex25 (by (try simp only [Int32.lt_iff_toInt_lt, Int32.le_iff_toInt_le, ← Int32.toInt_inj, Int32.reduceToInt, (show (-1 : Int32).toInt = -1 from rfl)] at c15 ⊢); omega)) _ _ _ hT12 hS12 (lv_sub hl [0, 2, 3, 4] rfl)
          · skip
            refine lv_iconst (v := (-1)) hx hb dX1_noteGot_60 (by decide) ?_
            refine lv_goto (tgt := 81) hx hb dX1_noteGot_61 (by decide) ?_
            refine lv_istore (lv' := [(4, .int (-1)), (3, .int w2_3), (2, .ref (pa + 2)), (0, .ref (pa)), (1, .int u1)]) hx hb dX1_noteGot_81 hl (by decide) rfl (fun ls hl => ?_)
            refine lv_iload hx hb dX1_noteGot_83 (lv_at hl 0 rfl) ?_
            refine lv_if_lt (tgt := 100) hx hb dX1_noteGot_85 (by decide) (fun _ => ?_) (fun h => absurd (by decide) h)
            obtain ⟨x27, ex27⟩ : ∃ y : Int32, y = w2_3 + 1 := ⟨_, rfl⟩
            refine lv_iinc (v := x27) (lv' := [(3, .int x27), (4, .int (-1)), (2, .ref (pa + 2)), (0, .ref (pa)), (1, .int u1)]) hx hb dX1_noteGot_100 hl (k := 1) rfl (by rw [ex27]; rfl) (by decide) rfl (fun ls hl => ?_)
            refine lv_goto (tgt := 34) hx hb dX1_noteGot_103 (by decide) ?_
            exact ih2 x27 (h_dn hm2 ex27 (by (try simp only [Int32.lt_iff_toInt_lt, Int32.le_iff_toInt_le, ← Int32.toInt_inj, Int32.reduceToInt, (show (-1 : Int32).toInt = -1 from rfl)] at c15 ⊢); omega)) (h_nn hz2 ex27 (by (try simp only [Int32.lt_iff_toInt_lt, Int32.le_iff_toInt_le, ← Int32.toInt_inj, Int32.reduceToInt, (show (-1 : Int32).toInt = -1 from rfl)] at c15 ⊢); omega)) _ _ _ hT10 hS10 (lv_sub hl [0, 2, 3, 4] rfl)
    exact LP2 4294967296 1 (h_m0 _) (by decide) _ _ _ hT8 hS8 (lv_sub hl [0, 1, 2, 3] rfl)
set_option maxHeartbeats 4000000 in
set_option maxRecDepth 100000 in
theorem c_X1_ticksGained (l : Launch) (G : hG) (Y : hW) (P : Int32 → Prop) (pa o c0 : Nat) (hP : h_On Y pa (paE (tC P) pa o c0)) (hY : h_On Y o (ringE (tC P) o)) (hC : h_On Y c0 (ringE (tC P) c0)) : hMi l yX1_ticksGained cX1_ticksGained 3 (some .int) 0 0 G Y [.ref (pa)] (fun H => True) (fun H r H1 => (True) ∧ H1 = H) := by
  refine h_ofi (by decide +kernel) (Nat.le_of_ble_eq_true rfl) ?_
  intro p e s m args below meth c H0 ls Q hx hb hts hown hml hK hZ hT0 hpr hS0 hl hret
  have hl : lv_has ls 3 [(0, .ref (pa))] := hl
  refine lv_iconst (v := 0) hx hb dX1_ticksGained_0 (by decide) ?_
  refine lv_istore_n (lv' := [(1, .int 0), (0, .ref (pa))]) hx hb dX1_ticksGained_1 rfl hl (by decide) rfl (fun ls hl => ?_)
  refine lv_iconst (v := 0) hx hb dX1_ticksGained_2 (by decide) ?_
  refine lv_istore_n (lv' := [(2, .int 0), (1, .int 0), (0, .ref (pa))]) hx hb dX1_ticksGained_3 rfl hl (by decide) rfl (fun ls hl => ?_)
  have LP1 : ∀ (n1 : Nat) (w1_2 w1_1 : Int32), 2147483647 - w1_2.toInt < (n1 : Int) → 0 ≤ w1_2.toInt → ∀ (locs : List Loc) (ls : Array Slot), va_S (h_A Y) s.heap H0 locs → lv_has ls 3 [(2, .int w1_2), (1, .int w1_1), (0, .ref (pa))] → W p l e (h_rm 0 0) s m args below meth c H0 locs 0 0 Q (F0 m 4 ls []) := by
    intro n1
    induction n1 with
    | zero =>
      intro w1_2 w1_1 hm
      exact absurd hm (by have := Int32.toInt_lt w1_2; have := Int32.le_toInt w1_2; omega)
    | succ n1 ih1 =>
      intro w1_2 w1_1 hm1 hz1 locs ls hS1 hl
      refine lv_iload_n hx hb dX1_ticksGained_4 rfl (lv_at hl 0 rfl) ?_
      refine lv_bipush (v := 48) hx hb dX1_ticksGained_5 (by decide) ?_
      refine lv_icmp_ge (tgt := 52) hx hb dX1_ticksGained_7 (by decide) (fun c1 => ?_) (fun c1 => ?_)
      · skip
        refine lv_iload_n hx hb dX1_ticksGained_52 rfl (lv_at hl 1 rfl) ?_
        exact hret _ _ _ _ _ hT0 hS1 ⟨trivial, rfl⟩ dX1_ticksGained_53
      · skip
        refine lv_aload_n hx hb dX1_ticksGained_10 rfl (lv_at hl 2 rfl) ?_
        refine h_getr (C := RX1) (T := TX1) (N := 4) hx hb hts inX1 hown hK hT0 (hP.o rfl) rfl 2 rfl wF_X1_9 rfl dX1_ticksGained_11 ?_
        refine lv_iload_n hx hb dX1_ticksGained_14 rfl (lv_at hl 0 rfl) ?_
        refine h_iald hx hb hK hT0 (hP.at 1 rfl) (vp_in_iff.mpr (by (try simp only [Int32.lt_iff_toInt_lt, Int32.le_iff_toInt_le, ← Int32.toInt_inj, Int32.reduceToInt, (show (-1 : Int32).toInt = -1 from rfl)] at hz1 c1 ⊢); omega)) dX1_ticksGained_15 (fun p2 => ?_)
        refine lv_topi (fun x3 ex3 => ?_)
        refine lv_iconst (v := (-1)) hx hb dX1_ticksGained_16 (by decide) ?_
        refine lv_icmp_eq (tgt := 46) hx hb dX1_ticksGained_17 (by decide) (fun c4 => ?_) (fun c4 => ?_)
        · skip
          obtain ⟨x5, ex5⟩ : ∃ y : Int32, y = w1_2 + 1 := ⟨_, rfl⟩
          refine lv_iinc (v := x5) (lv' := [(2, .int x5), (1, .int w1_1), (0, .ref (pa))]) hx hb dX1_ticksGained_46 hl (k := 0) rfl (by rw [ex5]; rfl) (by decide) rfl (fun ls hl => ?_)
          refine lv_goto (tgt := 4) hx hb dX1_ticksGained_49 (by decide) ?_
          exact ih1 x5 w1_1 (h_dn hm1 ex5 (by first | exact h_lu c1 | exact h_lu2 c1 | ((try simp only [Int32.lt_iff_toInt_lt, Int32.le_iff_toInt_le, ← Int32.toInt_inj, Int32.reduceToInt, (show (-1 : Int32).toInt = -1 from rfl)] at c1 ⊢); omega))) (h_nn hz1 ex5 (by first | exact h_lu c1 | exact h_lu2 c1 | ((try simp only [Int32.lt_iff_toInt_lt, Int32.le_iff_toInt_le, ← Int32.toInt_inj, Int32.reduceToInt, (show (-1 : Int32).toInt = -1 from rfl)] at c1 ⊢); omega))) _ _ hS1 (lv_sub hl [0, 1, 2] rfl)
        · skip
          refine lv_aload_n hx hb dX1_ticksGained_20 rfl (lv_at hl 2 rfl) ?_
          refine h_getr (C := RX1) (T := TX1) (N := 4) hx hb hts inX1 hown hK hT0 (hP.o rfl) rfl 3 rfl wF_X1_15 rfl dX1_ticksGained_21 ?_
          refine lv_iload_n hx hb dX1_ticksGained_24 rfl (lv_at hl 0 rfl) ?_
          refine h_iald hx hb hK hT0 (hP.at 2 rfl) (vp_in_iff.mpr (by (try simp only [Int32.lt_iff_toInt_lt, Int32.le_iff_toInt_le, ← Int32.toInt_inj, Int32.reduceToInt, (show (-1 : Int32).toInt = -1 from rfl)] at hz1 c1 ⊢); omega)) dX1_ticksGained_25 (fun p6 => ?_)
          refine lv_topi (fun x7 ex7 => ?_)
          refine lv_iconst (v := (-1)) hx hb dX1_ticksGained_26 (by decide) ?_
          refine lv_icmp_eq (tgt := 46) hx hb dX1_ticksGained_27 (by decide) (fun c8 => ?_) (fun c8 => ?_)
          · skip
            obtain ⟨x9, ex9⟩ : ∃ y : Int32, y = w1_2 + 1 := ⟨_, rfl⟩
            refine lv_iinc (v := x9) (lv' := [(2, .int x9), (1, .int w1_1), (0, .ref (pa))]) hx hb dX1_ticksGained_46 hl (k := 0) rfl (by rw [ex9]; rfl) (by decide) rfl (fun ls hl => ?_)
            refine lv_goto (tgt := 4) hx hb dX1_ticksGained_49 (by decide) ?_
            exact ih1 x9 w1_1 (h_dn hm1 ex9 (by first | exact h_lu c1 | exact h_lu2 c1 | ((try simp only [Int32.lt_iff_toInt_lt, Int32.le_iff_toInt_le, ← Int32.toInt_inj, Int32.reduceToInt, (show (-1 : Int32).toInt = -1 from rfl)] at c1 ⊢); omega))) (h_nn hz1 ex9 (by first | exact h_lu c1 | exact h_lu2 c1 | ((try simp only [Int32.lt_iff_toInt_lt, Int32.le_iff_toInt_le, ← Int32.toInt_inj, Int32.reduceToInt, (show (-1 : Int32).toInt = -1 from rfl)] at c1 ⊢); omega))) _ _ hS1 (lv_sub hl [0, 1, 2] rfl)
          · skip
            refine lv_iload_n hx hb dX1_ticksGained_30 rfl (lv_at hl 1 rfl) ?_
            refine lv_aload_n hx hb dX1_ticksGained_31 rfl (lv_at hl 2 rfl) ?_
            refine h_getr (C := RX1) (T := TX1) (N := 4) hx hb hts inX1 hown hK hT0 (hP.o rfl) rfl 3 rfl wF_X1_15 rfl dX1_ticksGained_32 ?_
            refine lv_iload_n hx hb dX1_ticksGained_35 rfl (lv_at hl 0 rfl) ?_
            refine h_iald hx hb hK hT0 (hP.at 2 rfl) (vp_in_iff.mpr (by (try simp only [Int32.lt_iff_toInt_lt, Int32.le_iff_toInt_le, ← Int32.toInt_inj, Int32.reduceToInt, (show (-1 : Int32).toInt = -1 from rfl)] at hz1 c1 ⊢); omega)) dX1_ticksGained_36 (fun p10 => ?_)
            refine h_top (v := x7) ex7.symm ?_
            refine lv_aload_n hx hb dX1_ticksGained_37 rfl (lv_at hl 2 rfl) ?_
            refine h_getr (C := RX1) (T := TX1) (N := 4) hx hb hts inX1 hown hK hT0 (hP.o rfl) rfl 2 rfl wF_X1_9 rfl dX1_ticksGained_38 ?_
            refine lv_iload_n hx hb dX1_ticksGained_41 rfl (lv_at hl 0 rfl) ?_
            refine h_iald hx hb hK hT0 (hP.at 1 rfl) (vp_in_iff.mpr (by (try simp only [Int32.lt_iff_toInt_lt, Int32.le_iff_toInt_le, ← Int32.toInt_inj, Int32.reduceToInt, (show (-1 : Int32).toInt = -1 from rfl)] at hz1 c1 ⊢); omega)) dX1_ticksGained_42 (fun p11 => ?_)
            refine h_top (v := x3) ex3.symm ?_
            refine lv_isub hx hb dX1_ticksGained_43 ?_
            refine lv_topi (fun x12 ex12 => ?_)
            refine lv_iadd hx hb dX1_ticksGained_44 ?_
            refine lv_topi (fun x13 ex13 => ?_)
            refine lv_istore_n (lv' := [(1, .int x13), (2, .int w1_2), (0, .ref (pa))]) hx hb dX1_ticksGained_45 rfl hl (by decide) rfl (fun ls hl => ?_)
            obtain ⟨x14, ex14⟩ : ∃ y : Int32, y = w1_2 + 1 := ⟨_, rfl⟩
            refine lv_iinc (v := x14) (lv' := [(2, .int x14), (1, .int x13), (0, .ref (pa))]) hx hb dX1_ticksGained_46 hl (k := 1) rfl (by rw [ex14]; rfl) (by decide) rfl (fun ls hl => ?_)
            refine lv_goto (tgt := 4) hx hb dX1_ticksGained_49 (by decide) ?_
            exact ih1 x14 x13 (h_dn hm1 ex14 (by first | exact h_lu c1 | exact h_lu2 c1 | ((try simp only [Int32.lt_iff_toInt_lt, Int32.le_iff_toInt_le, ← Int32.toInt_inj, Int32.reduceToInt, (show (-1 : Int32).toInt = -1 from rfl)] at c1 ⊢); omega))) (h_nn hz1 ex14 (by first | exact h_lu c1 | exact h_lu2 c1 | ((try simp only [Int32.lt_iff_toInt_lt, Int32.le_iff_toInt_le, ← Int32.toInt_inj, Int32.reduceToInt, (show (-1 : Int32).toInt = -1 from rfl)] at c1 ⊢); omega))) _ _ hS1 (lv_sub hl [0, 1, 2] rfl)
  exact LP1 4294967296 0 0 (h_m0 _) (by decide) _ _ hS0 (lv_sub hl [0, 1, 2] rfl)
