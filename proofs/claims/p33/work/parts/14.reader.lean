set_option maxHeartbeats 4000000 in
set_option maxRecDepth 100000 in
theorem c_X8_append (l : Launch) (G : hG) (Y : hW) (P : Int32 → Prop) (o : Nat) (hY : h_On Y o (taE (tC P) o)) (u1 : Int32) : hMv l yX8_append cX8_append 3 none 0 0 G Y [.ref (o), .int u1] (fun H => True) (fun H H1 => True) := by
  refine h_ofv (by decide +kernel) (Nat.le_of_ble_eq_true rfl) ?_
  intro p e s m args below meth c H0 ls Q hx hb hts hown hml hK hZ hT0 hpr hS0 hl hret
  have hl : lv_has ls 3 [(0, .ref (o)), (1, .int u1)] := hl
  refine lv_bipush (v := 24) hx hb dX8_append_0 (by decide) ?_
  refine lv_istore_n (lv' := [(2, .int 24), (0, .ref (o)), (1, .int u1)]) hx hb dX8_append_2 rfl hl (by decide) rfl (fun ls hl => ?_)
  have LP1 : ∀ (n1 : Nat) (w1_2 : Int32), w1_2.toInt + 2147483648 < (n1 : Int) → ∀ (H1 : Heap) (locs : List Loc) (ls : Array Slot), hT G Y H1 → va_S (h_A Y) s.heap H1 locs → lv_has ls 3 [(2, .int w1_2), (0, .ref (o)), (1, .int u1)] → W p l e (h_rm 0 0) s m args below meth c H1 locs 0 0 Q (F0 m 3 ls []) := by
    intro n1
    induction n1 with
    | zero =>
      intro w1_2 hm
      exact absurd hm (by have := Int32.toInt_lt w1_2; have := Int32.le_toInt w1_2; omega)
    | succ n1 ih1 =>
      intro w1_2 hm1 H1 locs ls hT1 hS1 hl
      refine lv_iload_n hx hb dX8_append_3 rfl (lv_at hl 0 rfl) ?_
      refine lv_if_lt (tgt := 53) hx hb dX8_append_4 (by decide) (fun c1 => ?_) (fun c1 => ?_)
      · skip
        exact hret _ _ _ _ hT1 hS1 trivial dX8_append_53
      · skip
        refine lv_aload_n hx hb dX8_append_7 rfl (lv_at hl 1 rfl) ?_
        refine h_geti (C := RX8) (T := TX8) (N := 4) hx hb hts inX8 hown hK hT1 (hY.o rfl) rfl 1 rfl wF_X8_15 rfl dX8_append_8 (fun p2 => ?_)
        refine lv_topi (fun x3 ex3 => ?_)
        refine lv_if_lt (tgt := 47) hx hb dX8_append_11 (by decide) (fun c4 => ?_) (fun c4 => ?_)
        · skip
          obtain ⟨x5, ex5⟩ : ∃ y : Int32, y = w1_2 + (-8) := ⟨_, rfl⟩
          refine lv_iinc (v := x5) (lv' := [(2, .int x5), (0, .ref (o)), (1, .int u1)]) hx hb dX8_append_47 hl (k := 0) rfl (by rw [ex5]; rfl) (by decide) rfl (fun ls hl => ?_)
          refine lv_goto (tgt := 3) hx hb dX8_append_50 (by decide) ?_
          exact ih1 x5 (h_dn8 hm1 ex5 (by (try simp only [Int32.lt_iff_toInt_lt, Int32.le_iff_toInt_le, ← Int32.toInt_inj, Int32.reduceToInt, (show (-1 : Int32).toInt = -1 from rfl)] at c1 ⊢); omega)) _ _ _ hT1 hS1 (lv_sub hl [0, 1, 2] rfl)
        · skip
          refine lv_aload_n hx hb dX8_append_14 rfl (lv_at hl 1 rfl) ?_
          refine h_geti (C := RX8) (T := TX8) (N := 4) hx hb hts inX8 hown hK hT1 (hY.o rfl) rfl 1 rfl wF_X8_15 rfl dX8_append_15 (fun p6 => ?_)
          refine h_top (v := x3) ex3.symm ?_
          refine lv_sipush (v := 500) hx hb dX8_append_18 (by decide) ?_
          refine lv_icmp_ge (tgt := 47) hx hb dX8_append_21 (by decide) (fun c7 => ?_) (fun c7 => ?_)
          · skip
            obtain ⟨x8, ex8⟩ : ∃ y : Int32, y = w1_2 + (-8) := ⟨_, rfl⟩
            refine lv_iinc (v := x8) (lv' := [(2, .int x8), (0, .ref (o)), (1, .int u1)]) hx hb dX8_append_47 hl (k := 0) rfl (by rw [ex8]; rfl) (by decide) rfl (fun ls hl => ?_)
            refine lv_goto (tgt := 3) hx hb dX8_append_50 (by decide) ?_
            exact ih1 x8 (h_dn8 hm1 ex8 (by (try simp only [Int32.lt_iff_toInt_lt, Int32.le_iff_toInt_le, ← Int32.toInt_inj, Int32.reduceToInt, (show (-1 : Int32).toInt = -1 from rfl)] at c1 ⊢); omega)) _ _ _ hT1 hS1 (lv_sub hl [0, 1, 2] rfl)
          · skip
            refine lv_aload_n hx hb dX8_append_24 rfl (lv_at hl 1 rfl) ?_
            refine h_getr (C := RX8) (T := TX8) (N := 4) hx hb hts inX8 hown hK hT1 (hY.o rfl) rfl 0 rfl wF_X8_9 rfl dX8_append_25 ?_
            refine lv_aload_n hx hb dX8_append_28 rfl (lv_at hl 1 rfl) ?_
            refine h_geti (C := RX8) (T := TX8) (N := 4) hx hb hts inX8 hown hK hT1 (hY.o rfl) rfl 1 rfl wF_X8_15 rfl dX8_append_29 (fun p9 => ?_)
            refine h_top (v := x3) ex3.symm ?_
            refine lv_iload_n hx hb dX8_append_32 rfl (lv_at hl 2 rfl) ?_
            refine lv_iload_n hx hb dX8_append_33 rfl (lv_at hl 0 rfl) ?_
            refine lv_ishr hx hb dX8_append_34 ?_
            refine lv_topi (fun x10 ex10 => ?_)
            refine lv_i2b hx hb dX8_append_35 rfl ?_
            refine lv_topi (fun x11 ex11 => ?_)
            refine h_bast hx hb hK hT1 (fun _ h => h) hS1 (hY.at 1 rfl) (vp_in_iff.mpr (by (try simp only [Int32.lt_iff_toInt_lt, Int32.le_iff_toInt_le, ← Int32.toInt_inj, Int32.reduceToInt, (show (-1 : Int32).toInt = -1 from rfl)] at c4 c7 ⊢); omega)) trivial dX8_append_36 (fun H2 locs hT2 hS2 hu2 => ?_)
            refine lv_aload_n hx hb dX8_append_37 rfl (lv_at hl 1 rfl) ?_
            refine lv_dup hx hb dX8_append_38 rfl ?_
            refine h_geti (C := RX8) (T := TX8) (N := 4) hx hb hts inX8 hown hK hT2 (hY.o rfl) rfl 1 rfl wF_X8_15 rfl dX8_append_39 (fun p12 => ?_)
            refine h_top (v := x3) ((h_gi_same (hu2.2.1 _ (by omega))).trans ex3.symm) ?_
            refine lv_iconst (v := 1) hx hb dX8_append_42 (by decide) ?_
            refine lv_iadd hx hb dX8_append_43 ?_
            refine lv_topi (fun x13 ex13 => ?_)
            refine h_puti (C := RX8) (T := TX8) (N := 4) hx hb hts inX8 tyX8 tyX8_ok nmX8 hown hK hT2 (fun _ h => h) hS2 (hY.o rfl) rfl 1 rfl wF_X8_15 rfl rfl trivial rfl rfl dX8_append_44 (fun H3 locs hT3 hS3 hu3 => ?_)
            obtain ⟨x14, ex14⟩ : ∃ y : Int32, y = w1_2 + (-8) := ⟨_, rfl⟩
            refine lv_iinc (v := x14) (lv' := [(2, .int x14), (0, .ref (o)), (1, .int u1)]) hx hb dX8_append_47 hl (k := 0) rfl (by rw [ex14]; rfl) (by decide) rfl (fun ls hl => ?_)
            refine lv_goto (tgt := 3) hx hb dX8_append_50 (by decide) ?_
            exact ih1 x14 (h_dn8 hm1 ex14 (by (try simp only [Int32.lt_iff_toInt_lt, Int32.le_iff_toInt_le, ← Int32.toInt_inj, Int32.reduceToInt, (show (-1 : Int32).toInt = -1 from rfl)] at c1 ⊢); omega)) _ _ _ hT3 hS3 (lv_sub hl [0, 1, 2] rfl)
  exact LP1 4294967296 24 (h_m1 _) _ _ _ hT0 hS0 (lv_sub hl [0, 1, 2] rfl)
set_option maxHeartbeats 4000000 in
set_option maxRecDepth 100000 in
theorem c_X8_byteAt (l : Launch) (G : hG) (Y : hW) (P : Int32 → Prop) (o : Nat) (hY : h_On Y o (taE (tC P) o)) (u1 : Int32) : hMi l yX8_byteAt cX8_byteAt 2 (some .int) 0 0 G Y [.ref (o), .int u1] (fun H => True) (fun H r H1 => (True) ∧ H1 = H) := by
  refine h_ofi (by decide +kernel) (Nat.le_of_ble_eq_true rfl) ?_
  intro p e s m args below meth c H0 ls Q hx hb hts hown hml hK hZ hT0 hpr hS0 hl hret
  have hl : lv_has ls 2 [(0, .ref (o)), (1, .int u1)] := hl
  refine lv_iload_n hx hb dX8_byteAt_0 rfl (lv_at hl 1 rfl) ?_
  refine lv_if_lt (tgt := 24) hx hb dX8_byteAt_1 (by decide) (fun c1 => ?_) (fun c1 => ?_)
  · skip
    refine lv_iconst (v := 0) hx hb dX8_byteAt_24 (by decide) ?_
    exact hret _ _ _ _ _ hT0 hS0 ⟨trivial, rfl⟩ dX8_byteAt_25
  · skip
    refine lv_iload_n hx hb dX8_byteAt_4 rfl (lv_at hl 1 rfl) ?_
    refine lv_sipush (v := 500) hx hb dX8_byteAt_5 (by decide) ?_
    refine lv_icmp_ge (tgt := 24) hx hb dX8_byteAt_8 (by decide) (fun c2 => ?_) (fun c2 => ?_)
    · skip
      refine lv_iconst (v := 0) hx hb dX8_byteAt_24 (by decide) ?_
      exact hret _ _ _ _ _ hT0 hS0 ⟨trivial, rfl⟩ dX8_byteAt_25
    · skip
      refine lv_aload_n hx hb dX8_byteAt_11 rfl (lv_at hl 0 rfl) ?_
      refine h_getr (C := RX8) (T := TX8) (N := 4) hx hb hts inX8 hown hK hT0 (hY.o rfl) rfl 0 rfl wF_X8_9 rfl dX8_byteAt_12 ?_
      refine lv_iload_n hx hb dX8_byteAt_15 rfl (lv_at hl 1 rfl) ?_
      refine h_bald hx hb hK hT0 (hY.at 1 rfl) (vp_in_iff.mpr (by (try simp only [Int32.lt_iff_toInt_lt, Int32.le_iff_toInt_le, ← Int32.toInt_inj, Int32.reduceToInt, (show (-1 : Int32).toInt = -1 from rfl)] at c1 c2 ⊢); omega)) dX8_byteAt_16 (fun p3 => ?_)
      refine lv_topi (fun x4 ex4 => ?_)
      refine lv_sipush (v := 255) hx hb dX8_byteAt_17 (by decide) ?_
      refine lv_iand hx hb dX8_byteAt_20 ?_
      refine lv_topi (fun x5 ex5 => ?_)
      refine lv_goto (tgt := 25) hx hb dX8_byteAt_21 (by decide) ?_
      exact hret _ _ _ _ _ hT0 hS0 ⟨trivial, rfl⟩ dX8_byteAt_25
set_option maxHeartbeats 4000000 in
set_option maxRecDepth 100000 in
theorem c_X4_isLetter (l : Launch) (G : hG) (Y : hW) (P : Int32 → Prop) (re tp o : Nat) (hE : h_On Y re (reE (tC P) re tp o)) (hP : h_On Y tp (taE (tC P) tp)) (hY : h_On Y o (ringE (tC P) o)) (u1 : Int32) : hMi l yX4_isLetter cX4_isLetter 2 (some .boolean) 0 0 G Y [.ref (re), .int u1] (fun H => True) (fun H r H1 => ((r = 0 ∨ r = 1) ∧ True) ∧ H1 = H) := by
  refine h_ofz (by decide +kernel) (Nat.le_of_ble_eq_true rfl) ?_
  intro p e s m args below meth c H0 ls Q hx hb hts hown hml hK hZ hT0 hpr hS0 hl hret
  have hl : lv_has ls 2 [(0, .ref (re)), (1, .int u1)] := hl
  refine lv_iload_n hx hb dX4_isLetter_0 rfl (lv_at hl 1 rfl) ?_
  refine lv_bipush (v := 97) hx hb dX4_isLetter_1 (by decide) ?_
  refine lv_icmp_lt (tgt := 16) hx hb dX4_isLetter_3 (by decide) (fun c1 => ?_) (fun c1 => ?_)
  · skip
    refine lv_iconst (v := 0) hx hb dX4_isLetter_16 (by decide) ?_
    exact hret _ _ _ _ _ hT0 hS0 ⟨(by decide), ⟨(by decide), trivial⟩, rfl⟩ dX4_isLetter_17
  · skip
    refine lv_iload_n hx hb dX4_isLetter_6 rfl (lv_at hl 1 rfl) ?_
    refine lv_bipush (v := 122) hx hb dX4_isLetter_7 (by decide) ?_
    refine lv_icmp_gt (tgt := 16) hx hb dX4_isLetter_9 (by decide) (fun c2 => ?_) (fun c2 => ?_)
    · skip
      refine lv_iconst (v := 0) hx hb dX4_isLetter_16 (by decide) ?_
      exact hret _ _ _ _ _ hT0 hS0 ⟨(by decide), ⟨(by decide), trivial⟩, rfl⟩ dX4_isLetter_17
    · skip
      refine lv_iconst (v := 1) hx hb dX4_isLetter_12 (by decide) ?_
      refine lv_goto (tgt := 17) hx hb dX4_isLetter_13 (by decide) ?_
      exact hret _ _ _ _ _ hT0 hS0 ⟨(by decide), ⟨(by decide), trivial⟩, rfl⟩ dX4_isLetter_17
set_option maxHeartbeats 4000000 in
set_option maxRecDepth 100000 in
theorem c_X4_isDigit (l : Launch) (G : hG) (Y : hW) (P : Int32 → Prop) (re tp o : Nat) (hE : h_On Y re (reE (tC P) re tp o)) (hP : h_On Y tp (taE (tC P) tp)) (hY : h_On Y o (ringE (tC P) o)) (u1 : Int32) : hMi l yX4_isDigit cX4_isDigit 2 (some .boolean) 0 0 G Y [.ref (re), .int u1] (fun H => True) (fun H r H1 => ((r = 0 ∨ r = 1) ∧ True) ∧ H1 = H) := by
  refine h_ofz (by decide +kernel) (Nat.le_of_ble_eq_true rfl) ?_
  intro p e s m args below meth c H0 ls Q hx hb hts hown hml hK hZ hT0 hpr hS0 hl hret
  have hl : lv_has ls 2 [(0, .ref (re)), (1, .int u1)] := hl
  refine lv_iload_n hx hb dX4_isDigit_0 rfl (lv_at hl 1 rfl) ?_
  refine lv_bipush (v := 48) hx hb dX4_isDigit_1 (by decide) ?_
  refine lv_icmp_lt (tgt := 16) hx hb dX4_isDigit_3 (by decide) (fun c1 => ?_) (fun c1 => ?_)
  · skip
    refine lv_iconst (v := 0) hx hb dX4_isDigit_16 (by decide) ?_
    exact hret _ _ _ _ _ hT0 hS0 ⟨(by decide), ⟨(by decide), trivial⟩, rfl⟩ dX4_isDigit_17
  · skip
    refine lv_iload_n hx hb dX4_isDigit_6 rfl (lv_at hl 1 rfl) ?_
    refine lv_bipush (v := 57) hx hb dX4_isDigit_7 (by decide) ?_
    refine lv_icmp_gt (tgt := 16) hx hb dX4_isDigit_9 (by decide) (fun c2 => ?_) (fun c2 => ?_)
    · skip
      refine lv_iconst (v := 0) hx hb dX4_isDigit_16 (by decide) ?_
      exact hret _ _ _ _ _ hT0 hS0 ⟨(by decide), ⟨(by decide), trivial⟩, rfl⟩ dX4_isDigit_17
    · skip
      refine lv_iconst (v := 1) hx hb dX4_isDigit_12 (by decide) ?_
      refine lv_goto (tgt := 17) hx hb dX4_isDigit_13 (by decide) ?_
      exact hret _ _ _ _ _ hT0 hS0 ⟨(by decide), ⟨(by decide), trivial⟩, rfl⟩ dX4_isDigit_17
set_option maxHeartbeats 4000000 in
set_option maxRecDepth 100000 in
theorem c_X4_skipBlanks (l : Launch) (G : hG) (Y : hW) (P : Int32 → Prop) (re tp o : Nat) (hE : h_On Y re (reE (tC P) re tp o)) (hP : h_On Y tp (taE (tC P) tp)) (hY : h_On Y o (ringE (tC P) o)) : hMv l yX4_skipBlanks cX4_skipBlanks 1 none 1 21 G Y [.ref (re)] (fun H => True) (fun H H1 => True) := by
  refine h_ofv (by decide +kernel) (Nat.le_of_ble_eq_true rfl) ?_
  intro p e s m args below meth c H0 ls Q hx hb hts hown hml hK hZ hT0 hpr hS0 hl hret
  have hl : lv_has ls 1 [(0, .ref (re))] := hl
  have LP1 : ∀ (n1 : Nat) (z1 : Int32), 2147483647 - z1.toInt < (n1 : Int) → ∀ (H1 : Heap) (locs : List Loc) (ls : Array Slot), hT G Y H1 → h_gi G H1 4 re 5 = z1 → va_S (h_A Y) s.heap H1 locs → lv_has ls 1 [(0, .ref (re))] → W p l e (h_rm 1 21) s m args below meth c H1 locs 0 0 Q (F0 m 0 ls []) := by
    intro n1
    induction n1 with
    | zero =>
      intro  z1 hm
      exact absurd hm (by have := Int32.toInt_lt z1; have := Int32.le_toInt z1; omega)
    | succ n1 ih1 =>
      intro  z1 hm1 H1 locs ls hT1 hf1 hS1 hl
      refine lv_aload_n hx hb dX4_skipBlanks_0 rfl (lv_at hl 0 rfl) ?_
      refine h_geti (C := RX4) (T := TX4) (N := 13) hx hb hts inX4 hown hK hT1 (hE.o rfl) rfl 5 rfl wF_X4_22 rfl dX4_skipBlanks_1 (fun p1 => ?_)
      refine h_top (v := z1) hf1 ?_
      refine lv_aload_n hx hb dX4_skipBlanks_4 rfl (lv_at hl 0 rfl) ?_
      refine h_geti (C := RX4) (T := TX4) (N := 13) hx hb hts inX4 hown hK hT1 (hE.o rfl) rfl 4 rfl wF_X4_18 rfl dX4_skipBlanks_5 (fun p2 => ?_)
      refine lv_topi (fun x3 ex3 => ?_)
      refine lv_icmp_ge (tgt := 56) hx hb dX4_skipBlanks_8 (by decide) (fun c4 => ?_) (fun c4 => ?_)
      · skip
        exact hret _ _ _ _ hT1 hS1 trivial dX4_skipBlanks_56
      · skip
        refine lv_aload_n hx hb dX4_skipBlanks_11 rfl (lv_at hl 0 rfl) ?_
        refine h_getr (C := RX4) (T := TX4) (N := 13) hx hb hts inX4 hown hK hT1 (hE.o rfl) rfl 0 rfl wF_X4_46 rfl dX4_skipBlanks_12 ?_
        refine lv_aload_n hx hb dX4_skipBlanks_15 rfl (lv_at hl 0 rfl) ?_
        refine h_geti (C := RX4) (T := TX4) (N := 13) hx hb hts inX4 hown hK hT1 (hE.o rfl) rfl 5 rfl wF_X4_22 rfl dX4_skipBlanks_16 (fun p5 => ?_)
        refine h_top (v := z1) hf1 ?_
        refine h_callVi (T := TX8) (rest := []) (As := [.int z1]) hx hb hml hown hts hK hT1 hZ (fun _ h => h) hS1 (c_X8_byteAt l G Y P (tp) hP z1) trivial wd_X8_byteAt wV_X8_byteAt wL_X4_163 (hP.o rfl) rfl rfl hl.1 rfl (Nat.le_of_ble_eq_true rfl) dX4_skipBlanks_19 ⟨Nat.le_of_ble_eq_true rfl, Nat.le_of_ble_eq_true rfl⟩ ⟨Nat.zero_le _, Nat.zero_le _⟩ (fun r6 H2 locs hp2 hT2 hS2 hk2 => ?_)
        obtain ⟨hp2, he⟩ := hp2
        have he := he.symm
        subst he
        refine lv_bipush (v := 10) hx hb dX4_skipBlanks_22 (by decide) ?_
        refine lv_icmp_eq (tgt := 43) hx hb dX4_skipBlanks_24 (by decide) (fun c7 => ?_) (fun c7 => ?_)
        · skip
          refine lv_aload_n hx hb dX4_skipBlanks_43 rfl (lv_at hl 0 rfl) ?_
          refine lv_dup hx hb dX4_skipBlanks_44 rfl ?_
          refine h_geti (C := RX4) (T := TX4) (N := 13) hx hb hts inX4 hown hK hT1 (hE.o rfl) rfl 5 rfl wF_X4_22 rfl dX4_skipBlanks_45 (fun p8 => ?_)
          refine h_top (v := z1) hf1 ?_
          refine lv_iconst (v := 1) hx hb dX4_skipBlanks_48 (by decide) ?_
          refine lv_iadd hx hb dX4_skipBlanks_49 ?_
          refine lv_topi (fun x9 ex9 => ?_)
          refine h_puti (C := RX4) (T := TX4) (N := 13) hx hb hts inX4 tyX4 tyX4_ok nmX4 hown hK hT1 (fun _ h => h) hS2 (hE.o rfl) rfl 5 rfl wF_X4_22 rfl rfl trivial rfl rfl dX4_skipBlanks_50 (fun H3 locs hT3 hS3 hu3 => ?_)
          refine lv_goto (tgt := 0) hx hb dX4_skipBlanks_53 (by decide) ?_
          exact ih1 x9 (h_dn hm1 ex9 (by first | exact h_lu c4 | exact h_lu2 c4 | ((try simp only [Int32.lt_iff_toInt_lt, Int32.le_iff_toInt_le, ← Int32.toInt_inj, Int32.reduceToInt, (show (-1 : Int32).toInt = -1 from rfl)] at c4 ⊢); omega))) _ _ _ hT3 (h_pu hu3) hS3 (lv_sub hl [0] rfl)
        · skip
          refine lv_aload_n hx hb dX4_skipBlanks_27 rfl (lv_at hl 0 rfl) ?_
          refine h_getr (C := RX4) (T := TX4) (N := 13) hx hb hts inX4 hown hK hT1 (hE.o rfl) rfl 0 rfl wF_X4_46 rfl dX4_skipBlanks_28 ?_
          refine lv_aload_n hx hb dX4_skipBlanks_31 rfl (lv_at hl 0 rfl) ?_
          refine h_geti (C := RX4) (T := TX4) (N := 13) hx hb hts inX4 hown hK hT1 (hE.o rfl) rfl 5 rfl wF_X4_22 rfl dX4_skipBlanks_32 (fun p10 => ?_)
          refine h_top (v := z1) hf1 ?_
          refine h_callVi (T := TX8) (rest := []) (As := [.int z1]) hx hb hml hown hts hK hT1 hZ (fun _ h => h) hS2 (c_X8_byteAt l G Y P (tp) hP z1) trivial wd_X8_byteAt wV_X8_byteAt wL_X4_163 (hP.o rfl) rfl rfl hl.1 rfl (Nat.le_of_ble_eq_true rfl) dX4_skipBlanks_35 ⟨Nat.le_of_ble_eq_true rfl, Nat.le_of_ble_eq_true rfl⟩ ⟨Nat.zero_le _, Nat.zero_le _⟩ (fun r11 H4 locs hp4 hT4 hS4 hk4 => ?_)
          obtain ⟨hp4, he⟩ := hp4
          have he := he.symm
          subst he
          refine lv_bipush (v := 32) hx hb dX4_skipBlanks_38 (by decide) ?_
          refine lv_icmp_ne (tgt := 56) hx hb dX4_skipBlanks_40 (by decide) (fun c12 => ?_) (fun c12 => ?_)
          · skip
            exact hret _ _ _ _ hT1 hS4 trivial dX4_skipBlanks_56
          · skip
            refine lv_aload_n hx hb dX4_skipBlanks_43 rfl (lv_at hl 0 rfl) ?_
            refine lv_dup hx hb dX4_skipBlanks_44 rfl ?_
            refine h_geti (C := RX4) (T := TX4) (N := 13) hx hb hts inX4 hown hK hT1 (hE.o rfl) rfl 5 rfl wF_X4_22 rfl dX4_skipBlanks_45 (fun p13 => ?_)
            refine h_top (v := z1) hf1 ?_
            refine lv_iconst (v := 1) hx hb dX4_skipBlanks_48 (by decide) ?_
            refine lv_iadd hx hb dX4_skipBlanks_49 ?_
            refine lv_topi (fun x14 ex14 => ?_)
            refine h_puti (C := RX4) (T := TX4) (N := 13) hx hb hts inX4 tyX4 tyX4_ok nmX4 hown hK hT1 (fun _ h => h) hS4 (hE.o rfl) rfl 5 rfl wF_X4_22 rfl rfl trivial rfl rfl dX4_skipBlanks_50 (fun H5 locs hT5 hS5 hu5 => ?_)
            refine lv_goto (tgt := 0) hx hb dX4_skipBlanks_53 (by decide) ?_
            exact ih1 x14 (h_dn hm1 ex14 (by first | exact h_lu c4 | exact h_lu2 c4 | ((try simp only [Int32.lt_iff_toInt_lt, Int32.le_iff_toInt_le, ← Int32.toInt_inj, Int32.reduceToInt, (show (-1 : Int32).toInt = -1 from rfl)] at c4 ⊢); omega))) _ _ _ hT5 (h_pu hu5) hS5 (lv_sub hl [0] rfl)
  exact LP1 4294967296 _ (h_m0 _) _ _ _ hT0 rfl hS0 (lv_sub hl [0] rfl)
set_option maxHeartbeats 4000000 in
set_option maxRecDepth 100000 in
theorem c_X4_takeLetters (l : Launch) (G : hG) (Y : hW) (P : Int32 → Prop) (re tp o : Nat) (hE : h_On Y re (reE (tC P) re tp o)) (hP : h_On Y tp (taE (tC P) tp)) (hY : h_On Y o (ringE (tC P) o)) : hMv l yX4_takeLetters cX4_takeLetters 1 none 1 21 G Y [.ref (re)] (fun H => True) (fun H H1 => True) := by
  refine h_ofv (by decide +kernel) (Nat.le_of_ble_eq_true rfl) ?_
  intro p e s m args below meth c H0 ls Q hx hb hts hown hml hK hZ hT0 hpr hS0 hl hret
  have hl : lv_has ls 1 [(0, .ref (re))] := hl
  have LP1 : ∀ (n1 : Nat) (z1 : Int32), 2147483647 - z1.toInt < (n1 : Int) → ∀ (H1 : Heap) (locs : List Loc) (ls : Array Slot), hT G Y H1 → h_gi G H1 4 re 5 = z1 → va_S (h_A Y) s.heap H1 locs → lv_has ls 1 [(0, .ref (re))] → W p l e (h_rm 1 21) s m args below meth c H1 locs 0 0 Q (F0 m 0 ls []) := by
    intro n1
    induction n1 with
    | zero =>
      intro  z1 hm
      exact absurd hm (by have := Int32.toInt_lt z1; have := Int32.le_toInt z1; omega)
    | succ n1 ih1 =>
      intro  z1 hm1 H1 locs ls hT1 hf1 hS1 hl
      refine lv_aload_n hx hb dX4_takeLetters_0 rfl (lv_at hl 0 rfl) ?_
      refine h_geti (C := RX4) (T := TX4) (N := 13) hx hb hts inX4 hown hK hT1 (hE.o rfl) rfl 5 rfl wF_X4_22 rfl dX4_takeLetters_1 (fun p1 => ?_)
      refine h_top (v := z1) hf1 ?_
      refine lv_aload_n hx hb dX4_takeLetters_4 rfl (lv_at hl 0 rfl) ?_
      refine h_geti (C := RX4) (T := TX4) (N := 13) hx hb hts inX4 hown hK hT1 (hE.o rfl) rfl 4 rfl wF_X4_18 rfl dX4_takeLetters_5 (fun p2 => ?_)
      refine lv_topi (fun x3 ex3 => ?_)
      refine lv_icmp_ge (tgt := 52) hx hb dX4_takeLetters_8 (by decide) (fun c4 => ?_) (fun c4 => ?_)
      · skip
        exact hret _ _ _ _ hT1 hS1 trivial dX4_takeLetters_52
      · skip
        refine lv_aload_n hx hb dX4_takeLetters_11 rfl (lv_at hl 0 rfl) ?_
        refine lv_aload_n hx hb dX4_takeLetters_12 rfl (lv_at hl 0 rfl) ?_
        refine h_getr (C := RX4) (T := TX4) (N := 13) hx hb hts inX4 hown hK hT1 (hE.o rfl) rfl 0 rfl wF_X4_46 rfl dX4_takeLetters_13 ?_
        refine lv_aload_n hx hb dX4_takeLetters_16 rfl (lv_at hl 0 rfl) ?_
        refine h_geti (C := RX4) (T := TX4) (N := 13) hx hb hts inX4 hown hK hT1 (hE.o rfl) rfl 5 rfl wF_X4_22 rfl dX4_takeLetters_17 (fun p5 => ?_)
        refine h_top (v := z1) hf1 ?_
        refine h_callVi (T := TX8) (rest := [.ref (re)]) (As := [.int z1]) hx hb hml hown hts hK hT1 hZ (fun _ h => h) hS1 (c_X8_byteAt l G Y P (tp) hP z1) trivial wd_X8_byteAt wV_X8_byteAt wL_X4_163 (hP.o rfl) rfl rfl hl.1 rfl (Nat.le_of_ble_eq_true rfl) dX4_takeLetters_20 ⟨Nat.le_of_ble_eq_true rfl, Nat.le_of_ble_eq_true rfl⟩ ⟨Nat.zero_le _, Nat.zero_le _⟩ (fun r6 H2 locs hp2 hT2 hS2 hk2 => ?_)
        obtain ⟨hp2, he⟩ := hp2
        have he := he.symm
        subst he
        refine h_callVi (T := TX4) (rest := []) (As := [.int r6]) hx hb hml hown hts hK hT1 hZ (fun _ h => h) hS2 (c_X4_isLetter l G Y P (re) (tp) (o) hE hP hY r6) trivial wd_X4_isLetter wV_X4_isLetter wL_X4_169 (hE.o rfl) rfl rfl hl.1 rfl (Nat.le_of_ble_eq_true rfl) dX4_takeLetters_23 ⟨Nat.le_of_ble_eq_true rfl, Nat.le_of_ble_eq_true rfl⟩ ⟨Nat.zero_le _, Nat.zero_le _⟩ (fun r7 H3 locs hp3 hT3 hS3 hk3 => ?_)
        obtain ⟨hp3, he⟩ := hp3
        have he := he.symm
        subst he
        refine lv_if_eq (tgt := 52) hx hb dX4_takeLetters_26 (by decide) (fun c8 => ?_) (fun c8 => ?_)
        · skip
          exact hret _ _ _ _ hT1 hS3 trivial dX4_takeLetters_52
        · skip
          refine lv_aload_n hx hb dX4_takeLetters_29 rfl (lv_at hl 0 rfl) ?_
          refine lv_dup hx hb dX4_takeLetters_30 rfl ?_
          refine h_geti (C := RX4) (T := TX4) (N := 13) hx hb hts inX4 hown hK hT1 (hE.o rfl) rfl 5 rfl wF_X4_22 rfl dX4_takeLetters_31 (fun p9 => ?_)
          refine h_top (v := z1) hf1 ?_
          refine lv_iconst (v := 1) hx hb dX4_takeLetters_34 (by decide) ?_
          refine lv_iadd hx hb dX4_takeLetters_35 ?_
          refine lv_topi (fun x10 ex10 => ?_)
          refine h_puti (C := RX4) (T := TX4) (N := 13) hx hb hts inX4 tyX4 tyX4_ok nmX4 hown hK hT1 (fun _ h => h) hS3 (hE.o rfl) rfl 5 rfl wF_X4_22 rfl rfl trivial rfl rfl dX4_takeLetters_36 (fun H4 locs hT4 hS4 hu4 => ?_)
          refine lv_aload_n hx hb dX4_takeLetters_39 rfl (lv_at hl 0 rfl) ?_
          refine lv_dup hx hb dX4_takeLetters_40 rfl ?_
          refine h_geti (C := RX4) (T := TX4) (N := 13) hx hb hts inX4 hown hK hT4 (hE.o rfl) rfl 8 rfl wF_X4_31 rfl dX4_takeLetters_41 (fun p11 => ?_)
          refine lv_topi (fun x12 ex12 => ?_)
          refine lv_iconst (v := 1) hx hb dX4_takeLetters_44 (by decide) ?_
          refine lv_iadd hx hb dX4_takeLetters_45 ?_
          refine lv_topi (fun x13 ex13 => ?_)
          refine h_puti (C := RX4) (T := TX4) (N := 13) hx hb hts inX4 tyX4 tyX4_ok nmX4 hown hK hT4 (fun _ h => h) hS4 (hE.o rfl) rfl 8 rfl wF_X4_31 rfl rfl trivial rfl rfl dX4_takeLetters_46 (fun H5 locs hT5 hS5 hu5 => ?_)
          refine lv_goto (tgt := 0) hx hb dX4_takeLetters_49 (by decide) ?_
          exact ih1 x10 (h_dn hm1 ex10 (by first | exact h_lu c4 | exact h_lu2 c4 | ((try simp only [Int32.lt_iff_toInt_lt, Int32.le_iff_toInt_le, ← Int32.toInt_inj, Int32.reduceToInt, (show (-1 : Int32).toInt = -1 from rfl)] at c4 ⊢); omega))) _ _ _ hT5 ((h_ps hu5 rfl (by decide) (by decide)).trans (h_pu hu4)) hS5 (lv_sub hl [0] rfl)
  exact LP1 4294967296 _ (h_m0 _) _ _ _ hT0 rfl hS0 (lv_sub hl [0] rfl)
set_option maxHeartbeats 4000000 in
set_option maxRecDepth 100000 in
theorem c_X4_takeDigits (l : Launch) (G : hG) (Y : hW) (P : Int32 → Prop) (re tp o : Nat) (hE : h_On Y re (reE (tC P) re tp o)) (hP : h_On Y tp (taE (tC P) tp)) (hY : h_On Y o (ringE (tC P) o)) : hMv l yX4_takeDigits cX4_takeDigits 1 none 1 21 G Y [.ref (re)] (fun H => True) (fun H H1 => True) := by
  refine h_ofv (by decide +kernel) (Nat.le_of_ble_eq_true rfl) ?_
  intro p e s m args below meth c H0 ls Q hx hb hts hown hml hK hZ hT0 hpr hS0 hl hret
  have hl : lv_has ls 1 [(0, .ref (re))] := hl
  refine lv_aload_n hx hb dX4_takeDigits_0 rfl (lv_at hl 0 rfl) ?_
  refine lv_iconst (v := 0) hx hb dX4_takeDigits_1 (by decide) ?_
  refine h_puti (C := RX4) (T := TX4) (N := 13) hx hb hts inX4 tyX4 tyX4_ok nmX4 hown hK hT0 (fun _ h => h) hS0 (hE.o rfl) rfl 9 rfl wF_X4_34 rfl rfl trivial rfl rfl dX4_takeDigits_2 (fun H1 locs hT1 hS1 hu1 => ?_)
  have LP1 : ∀ (n1 : Nat) (z1 : Int32), 2147483647 - z1.toInt < (n1 : Int) → ∀ (H2 : Heap) (locs : List Loc) (ls : Array Slot), hT G Y H2 → h_gi G H2 4 re 5 = z1 → va_S (h_A Y) s.heap H2 locs → lv_has ls 1 [(0, .ref (re))] → W p l e (h_rm 1 21) s m args below meth c H2 locs 0 0 Q (F0 m 5 ls []) := by
    intro n1
    induction n1 with
    | zero =>
      intro  z1 hm
      exact absurd hm (by have := Int32.toInt_lt z1; have := Int32.le_toInt z1; omega)
    | succ n1 ih1 =>
      intro  z1 hm1 H2 locs ls hT2 hf1 hS2 hl
      refine lv_aload_n hx hb dX4_takeDigits_5 rfl (lv_at hl 0 rfl) ?_
      refine h_geti (C := RX4) (T := TX4) (N := 13) hx hb hts inX4 hown hK hT2 (hE.o rfl) rfl 5 rfl wF_X4_22 rfl dX4_takeDigits_6 (fun p1 => ?_)
      refine h_top (v := z1) hf1 ?_
      refine lv_aload_n hx hb dX4_takeDigits_9 rfl (lv_at hl 0 rfl) ?_
      refine h_geti (C := RX4) (T := TX4) (N := 13) hx hb hts inX4 hown hK hT2 (hE.o rfl) rfl 4 rfl wF_X4_18 rfl dX4_takeDigits_10 (fun p2 => ?_)
      refine lv_topi (fun x3 ex3 => ?_)
      refine lv_icmp_ge (tgt := 83) hx hb dX4_takeDigits_13 (by decide) (fun c4 => ?_) (fun c4 => ?_)
      · skip
        exact hret _ _ _ _ hT2 hS2 trivial dX4_takeDigits_83
      · skip
        refine lv_aload_n hx hb dX4_takeDigits_16 rfl (lv_at hl 0 rfl) ?_
        refine lv_aload_n hx hb dX4_takeDigits_17 rfl (lv_at hl 0 rfl) ?_
        refine h_getr (C := RX4) (T := TX4) (N := 13) hx hb hts inX4 hown hK hT2 (hE.o rfl) rfl 0 rfl wF_X4_46 rfl dX4_takeDigits_18 ?_
        refine lv_aload_n hx hb dX4_takeDigits_21 rfl (lv_at hl 0 rfl) ?_
        refine h_geti (C := RX4) (T := TX4) (N := 13) hx hb hts inX4 hown hK hT2 (hE.o rfl) rfl 5 rfl wF_X4_22 rfl dX4_takeDigits_22 (fun p5 => ?_)
        refine h_top (v := z1) hf1 ?_
        refine h_callVi (T := TX8) (rest := [.ref (re)]) (As := [.int z1]) hx hb hml hown hts hK hT2 hZ (fun _ h => h) hS2 (c_X8_byteAt l G Y P (tp) hP z1) trivial wd_X8_byteAt wV_X8_byteAt wL_X4_163 (hP.o rfl) rfl rfl hl.1 rfl (Nat.le_of_ble_eq_true rfl) dX4_takeDigits_25 ⟨Nat.le_of_ble_eq_true rfl, Nat.le_of_ble_eq_true rfl⟩ ⟨Nat.zero_le _, Nat.zero_le _⟩ (fun r6 H3 locs hp3 hT3 hS3 hk3 => ?_)
        obtain ⟨hp3, he⟩ := hp3
        have he := he.symm
        subst he
        refine h_callVi (T := TX4) (rest := []) (As := [.int r6]) hx hb hml hown hts hK hT2 hZ (fun _ h => h) hS3 (c_X4_isDigit l G Y P (re) (tp) (o) hE hP hY r6) trivial wd_X4_isDigit wV_X4_isDigit wL_X4_175 (hE.o rfl) rfl rfl hl.1 rfl (Nat.le_of_ble_eq_true rfl) dX4_takeDigits_28 ⟨Nat.le_of_ble_eq_true rfl, Nat.le_of_ble_eq_true rfl⟩ ⟨Nat.zero_le _, Nat.zero_le _⟩ (fun r7 H4 locs hp4 hT4 hS4 hk4 => ?_)
        obtain ⟨hp4, he⟩ := hp4
        have he := he.symm
        subst he
        refine lv_if_eq (tgt := 83) hx hb dX4_takeDigits_31 (by decide) (fun c8 => ?_) (fun c8 => ?_)
        · skip
          exact hret _ _ _ _ hT2 hS4 trivial dX4_takeDigits_83
        · skip
          refine lv_aload_n hx hb dX4_takeDigits_34 rfl (lv_at hl 0 rfl) ?_
          refine lv_aload_n hx hb dX4_takeDigits_35 rfl (lv_at hl 0 rfl) ?_
          refine h_geti (C := RX4) (T := TX4) (N := 13) hx hb hts inX4 hown hK hT2 (hE.o rfl) rfl 9 rfl wF_X4_34 rfl dX4_takeDigits_36 (fun p9 => ?_)
          refine lv_topi (fun x10 ex10 => ?_)
          refine lv_bipush (v := 10) hx hb dX4_takeDigits_39 (by decide) ?_
          refine lv_imul hx hb dX4_takeDigits_41 ?_
          refine lv_topi (fun x11 ex11 => ?_)
          refine lv_aload_n hx hb dX4_takeDigits_42 rfl (lv_at hl 0 rfl) ?_
          refine h_getr (C := RX4) (T := TX4) (N := 13) hx hb hts inX4 hown hK hT2 (hE.o rfl) rfl 0 rfl wF_X4_46 rfl dX4_takeDigits_43 ?_
          refine lv_aload_n hx hb dX4_takeDigits_46 rfl (lv_at hl 0 rfl) ?_
          refine h_geti (C := RX4) (T := TX4) (N := 13) hx hb hts inX4 hown hK hT2 (hE.o rfl) rfl 5 rfl wF_X4_22 rfl dX4_takeDigits_47 (fun p12 => ?_)
          refine h_top (v := z1) hf1 ?_
          refine h_callVi (T := TX8) (rest := [.int x11, .ref (re)]) (As := [.int z1]) hx hb hml hown hts hK hT2 hZ (fun _ h => h) hS4 (c_X8_byteAt l G Y P (tp) hP z1) trivial wd_X8_byteAt wV_X8_byteAt wL_X4_163 (hP.o rfl) rfl rfl hl.1 rfl (Nat.le_of_ble_eq_true rfl) dX4_takeDigits_50 ⟨Nat.le_of_ble_eq_true rfl, Nat.le_of_ble_eq_true rfl⟩ ⟨Nat.zero_le _, Nat.zero_le _⟩ (fun r13 H5 locs hp5 hT5 hS5 hk5 => ?_)
          obtain ⟨hp5, he⟩ := hp5
          have he := he.symm
          subst he
          refine lv_iadd hx hb dX4_takeDigits_53 ?_
          refine lv_topi (fun x14 ex14 => ?_)
          refine lv_bipush (v := 48) hx hb dX4_takeDigits_54 (by decide) ?_
          refine lv_isub hx hb dX4_takeDigits_56 ?_
          refine lv_topi (fun x15 ex15 => ?_)
          refine h_puti (C := RX4) (T := TX4) (N := 13) hx hb hts inX4 tyX4 tyX4_ok nmX4 hown hK hT2 (fun _ h => h) hS5 (hE.o rfl) rfl 9 rfl wF_X4_34 rfl rfl trivial rfl rfl dX4_takeDigits_57 (fun H6 locs hT6 hS6 hu6 => ?_)
          refine lv_aload_n hx hb dX4_takeDigits_60 rfl (lv_at hl 0 rfl) ?_
          refine lv_dup hx hb dX4_takeDigits_61 rfl ?_
          refine h_geti (C := RX4) (T := TX4) (N := 13) hx hb hts inX4 hown hK hT6 (hE.o rfl) rfl 5 rfl wF_X4_22 rfl dX4_takeDigits_62 (fun p16 => ?_)
          refine h_top (v := z1) ((h_ps hu6 rfl (by decide) (by decide)).trans hf1) ?_
          refine lv_iconst (v := 1) hx hb dX4_takeDigits_65 (by decide) ?_
          refine lv_iadd hx hb dX4_takeDigits_66 ?_
          refine lv_topi (fun x17 ex17 => ?_)
          refine h_puti (C := RX4) (T := TX4) (N := 13) hx hb hts inX4 tyX4 tyX4_ok nmX4 hown hK hT6 (fun _ h => h) hS6 (hE.o rfl) rfl 5 rfl wF_X4_22 rfl rfl trivial rfl rfl dX4_takeDigits_67 (fun H7 locs hT7 hS7 hu7 => ?_)
          refine lv_aload_n hx hb dX4_takeDigits_70 rfl (lv_at hl 0 rfl) ?_
          refine lv_dup hx hb dX4_takeDigits_71 rfl ?_
          refine h_geti (C := RX4) (T := TX4) (N := 13) hx hb hts inX4 hown hK hT7 (hE.o rfl) rfl 8 rfl wF_X4_31 rfl dX4_takeDigits_72 (fun p18 => ?_)
          refine lv_topi (fun x19 ex19 => ?_)
          refine lv_iconst (v := 1) hx hb dX4_takeDigits_75 (by decide) ?_
          refine lv_iadd hx hb dX4_takeDigits_76 ?_
          refine lv_topi (fun x20 ex20 => ?_)
          refine h_puti (C := RX4) (T := TX4) (N := 13) hx hb hts inX4 tyX4 tyX4_ok nmX4 hown hK hT7 (fun _ h => h) hS7 (hE.o rfl) rfl 8 rfl wF_X4_31 rfl rfl trivial rfl rfl dX4_takeDigits_77 (fun H8 locs hT8 hS8 hu8 => ?_)
          refine lv_goto (tgt := 5) hx hb dX4_takeDigits_80 (by decide) ?_
          exact ih1 x17 (h_dn hm1 ex17 (by first | exact h_lu c4 | exact h_lu2 c4 | ((try simp only [Int32.lt_iff_toInt_lt, Int32.le_iff_toInt_le, ← Int32.toInt_inj, Int32.reduceToInt, (show (-1 : Int32).toInt = -1 from rfl)] at c4 ⊢); omega))) _ _ _ hT8 ((h_ps hu8 rfl (by decide) (by decide)).trans (h_pu hu7)) hS8 (lv_sub hl [0] rfl)
  exact LP1 4294967296 _ (h_m0 _) _ _ _ hT1 rfl hS1 (lv_sub hl [0] rfl)
set_option maxHeartbeats 4000000 in
set_option maxRecDepth 100000 in
theorem c_X4_fail (l : Launch) (G : hG) (Y : hW) (P : Int32 → Prop) (re tp o : Nat) (hE : h_On Y re (reE (tC P) re tp o)) (hP : h_On Y tp (taE (tC P) tp)) (hY : h_On Y o (ringE (tC P) o)) (u1 : Int32) : hMi l yX4_fail cX4_fail 2 (some .boolean) 0 0 G Y [.ref (re), .int u1] (fun H => True) (fun H r H1 => (r = 0 ∨ r = 1) ∧ True) := by
  refine h_ofz (by decide +kernel) (Nat.le_of_ble_eq_true rfl) ?_
  intro p e s m args below meth c H0 ls Q hx hb hts hown hml hK hZ hT0 hpr hS0 hl hret
  have hl : lv_has ls 2 [(0, .ref (re)), (1, .int u1)] := hl
  refine lv_aload_n hx hb dX4_fail_0 rfl (lv_at hl 0 rfl) ?_
  refine lv_iload_n hx hb dX4_fail_1 rfl (lv_at hl 1 rfl) ?_
  refine h_puti (C := RX4) (T := TX4) (N := 13) hx hb hts inX4 tyX4 tyX4_ok nmX4 hown hK hT0 (fun _ h => h) hS0 (hE.o rfl) rfl 11 rfl wF_X4_40 rfl rfl trivial rfl rfl dX4_fail_2 (fun H1 locs hT1 hS1 hu1 => ?_)
  refine lv_aload_n hx hb dX4_fail_5 rfl (lv_at hl 0 rfl) ?_
  refine lv_aload_n hx hb dX4_fail_6 rfl (lv_at hl 0 rfl) ?_
  refine h_geti (C := RX4) (T := TX4) (N := 13) hx hb hts inX4 hown hK hT1 (hE.o rfl) rfl 7 rfl wF_X4_28 rfl dX4_fail_7 (fun p1 => ?_)
  refine lv_topi (fun x2 ex2 => ?_)
  refine h_puti (C := RX4) (T := TX4) (N := 13) hx hb hts inX4 tyX4 tyX4_ok nmX4 hown hK hT1 (fun _ h => h) hS1 (hE.o rfl) rfl 12 rfl wF_X4_43 rfl rfl trivial rfl rfl dX4_fail_10 (fun H2 locs hT2 hS2 hu2 => ?_)
  refine lv_iconst (v := 0) hx hb dX4_fail_13 (by decide) ?_
  exact hret _ _ _ _ _ hT2 hS2 ⟨(by decide), ⟨(by decide), trivial⟩⟩ dX4_fail_14
set_option maxHeartbeats 4000000 in
set_option maxRecDepth 100000 in
theorem c_X4_readToken (l : Launch) (G : hG) (Y : hW) (P : Int32 → Prop) (re tp o : Nat) (hE : h_On Y re (reE (tC P) re tp o)) (hP : h_On Y tp (taE (tC P) tp)) (hY : h_On Y o (ringE (tC P) o)) : hMi l yX4_readToken cX4_readToken 2 (some .boolean) 2 41 G Y [.ref (re)] (fun H => True) (fun H r H1 => (r = 0 ∨ r = 1) ∧ True) := by
  refine h_ofz (by decide +kernel) (Nat.le_of_ble_eq_true rfl) ?_
  intro p e s m args below meth c H0 ls Q hx hb hts hown hml hK hZ hT0 hpr hS0 hl hret
  have hl : lv_has ls 2 [(0, .ref (re))] := hl
  refine lv_aload_n hx hb dX4_readToken_0 rfl (lv_at hl 0 rfl) ?_
  refine h_callVv (T := TX4) (rest := []) (As := []) hx hb hml hown hts hK hT0 hZ (fun _ h => h) hS0 (c_X4_skipBlanks l G Y P (re) (tp) (o) hE hP hY) trivial wd_X4_skipBlanks wV_X4_skipBlanks wL_X4_160 (hE.o rfl) rfl rfl hl.1 rfl (Nat.le_of_ble_eq_true rfl) dX4_readToken_1 ⟨Nat.le_of_ble_eq_true rfl, Nat.le_of_ble_eq_true rfl⟩ ⟨Nat.zero_le _, Nat.zero_le _⟩ (fun H1 locs hp1 hT1 hS1 hk1 => ?_)
  refine lv_aload_n hx hb dX4_readToken_4 rfl (lv_at hl 0 rfl) ?_
  refine lv_aload_n hx hb dX4_readToken_5 rfl (lv_at hl 0 rfl) ?_
  refine h_geti (C := RX4) (T := TX4) (N := 13) hx hb hts inX4 hown hK hT1 (hE.o rfl) rfl 5 rfl wF_X4_22 rfl dX4_readToken_6 (fun p1 => ?_)
  refine lv_topi (fun x2 ex2 => ?_)
  refine h_puti (C := RX4) (T := TX4) (N := 13) hx hb hts inX4 tyX4 tyX4_ok nmX4 hown hK hT1 (fun _ h => h) hS1 (hE.o rfl) rfl 7 rfl wF_X4_28 rfl rfl trivial rfl rfl dX4_readToken_9 (fun H2 locs hT2 hS2 hu2 => ?_)
  refine lv_aload_n hx hb dX4_readToken_12 rfl (lv_at hl 0 rfl) ?_
  refine lv_iconst (v := 0) hx hb dX4_readToken_13 (by decide) ?_
  refine h_puti (C := RX4) (T := TX4) (N := 13) hx hb hts inX4 tyX4 tyX4_ok nmX4 hown hK hT2 (fun _ h => h) hS2 (hE.o rfl) rfl 8 rfl wF_X4_31 rfl rfl trivial rfl rfl dX4_readToken_14 (fun H3 locs hT3 hS3 hu3 => ?_)
  refine lv_aload_n hx hb dX4_readToken_17 rfl (lv_at hl 0 rfl) ?_
  refine h_geti (C := RX4) (T := TX4) (N := 13) hx hb hts inX4 hown hK hT3 (hE.o rfl) rfl 5 rfl wF_X4_22 rfl dX4_readToken_18 (fun p3 => ?_)
  refine h_top (v := x2) ((h_ps hu3 rfl (by decide) (by decide)).trans ((h_ps hu2 rfl (by decide) (by decide)).trans ex2.symm)) ?_
  refine lv_aload_n hx hb dX4_readToken_21 rfl (lv_at hl 0 rfl) ?_
  refine h_geti (C := RX4) (T := TX4) (N := 13) hx hb hts inX4 hown hK hT3 (hE.o rfl) rfl 4 rfl wF_X4_18 rfl dX4_readToken_22 (fun p4 => ?_)
  refine lv_topi (fun x5 ex5 => ?_)
  refine lv_icmp_lt (tgt := 35) hx hb dX4_readToken_25 (by decide) (fun c6 => ?_) (fun c6 => ?_)
  · skip
    refine lv_aload_n hx hb dX4_readToken_35 rfl (lv_at hl 0 rfl) ?_
    refine h_getr (C := RX4) (T := TX4) (N := 13) hx hb hts inX4 hown hK hT3 (hE.o rfl) rfl 0 rfl wF_X4_46 rfl dX4_readToken_36 ?_
    refine lv_aload_n hx hb dX4_readToken_39 rfl (lv_at hl 0 rfl) ?_
    refine h_geti (C := RX4) (T := TX4) (N := 13) hx hb hts inX4 hown hK hT3 (hE.o rfl) rfl 5 rfl wF_X4_22 rfl dX4_readToken_40 (fun p7 => ?_)
    refine h_top (v := x2) ((h_ps hu3 rfl (by decide) (by decide)).trans ((h_ps hu2 rfl (by decide) (by decide)).trans ex2.symm)) ?_
    refine h_callVi (T := TX8) (rest := []) (As := [.int x2]) hx hb hml hown hts hK hT3 hZ (fun _ h => h) hS3 (c_X8_byteAt l G Y P (tp) hP x2) trivial wd_X8_byteAt wV_X8_byteAt wL_X4_163 (hP.o rfl) rfl rfl hl.1 rfl (Nat.le_of_ble_eq_true rfl) dX4_readToken_43 ⟨Nat.le_of_ble_eq_true rfl, Nat.le_of_ble_eq_true rfl⟩ ⟨Nat.zero_le _, Nat.zero_le _⟩ (fun r8 H4 locs hp4 hT4 hS4 hk4 => ?_)
    obtain ⟨hp4, he⟩ := hp4
    have he := he.symm
    subst he
    refine lv_istore_n (lv' := [(1, .int r8), (0, .ref (re))]) hx hb dX4_readToken_46 rfl hl (by decide) rfl (fun ls hl => ?_)
    refine lv_aload_n hx hb dX4_readToken_47 rfl (lv_at hl 1 rfl) ?_
    refine lv_iload_n hx hb dX4_readToken_48 rfl (lv_at hl 0 rfl) ?_
    refine h_callVi (T := TX4) (rest := []) (As := [.int r8]) hx hb hml hown hts hK hT3 hZ (fun _ h => h) hS4 (c_X4_isLetter l G Y P (re) (tp) (o) hE hP hY r8) trivial wd_X4_isLetter wV_X4_isLetter wL_X4_169 (hE.o rfl) rfl rfl hl.1 rfl (Nat.le_of_ble_eq_true rfl) dX4_readToken_49 ⟨Nat.le_of_ble_eq_true rfl, Nat.le_of_ble_eq_true rfl⟩ ⟨Nat.zero_le _, Nat.zero_le _⟩ (fun r9 H5 locs hp5 hT5 hS5 hk5 => ?_)
    obtain ⟨hp5, he⟩ := hp5
    have he := he.symm
    subst he
    refine lv_if_eq (tgt := 66) hx hb dX4_readToken_52 (by decide) (fun c10 => ?_) (fun c10 => ?_)
    · skip
      refine lv_aload_n hx hb dX4_readToken_66 rfl (lv_at hl 1 rfl) ?_
      refine lv_iload_n hx hb dX4_readToken_67 rfl (lv_at hl 0 rfl) ?_
      refine h_callVi (T := TX4) (rest := []) (As := [.int r8]) hx hb hml hown hts hK hT3 hZ (fun _ h => h) hS5 (c_X4_isDigit l G Y P (re) (tp) (o) hE hP hY r8) trivial wd_X4_isDigit wV_X4_isDigit wL_X4_175 (hE.o rfl) rfl rfl hl.1 rfl (Nat.le_of_ble_eq_true rfl) dX4_readToken_68 ⟨Nat.le_of_ble_eq_true rfl, Nat.le_of_ble_eq_true rfl⟩ ⟨Nat.zero_le _, Nat.zero_le _⟩ (fun r11 H6 locs hp6 hT6 hS6 hk6 => ?_)
      obtain ⟨hp6, he⟩ := hp6
      have he := he.symm
      subst he
      refine lv_if_eq (tgt := 105) hx hb dX4_readToken_71 (by decide) (fun c12 => ?_) (fun c12 => ?_)
      · skip
        refine lv_aload_n hx hb dX4_readToken_105 rfl (lv_at hl 1 rfl) ?_
        refine lv_iconst (v := 3) hx hb dX4_readToken_106 (by decide) ?_
        refine h_puti (C := RX4) (T := TX4) (N := 13) hx hb hts inX4 tyX4 tyX4_ok nmX4 hown hK hT3 (fun _ h => h) hS6 (hE.o rfl) rfl 6 rfl wF_X4_25 rfl rfl trivial rfl rfl dX4_readToken_107 (fun H7 locs hT7 hS7 hu7 => ?_)
        refine lv_aload_n hx hb dX4_readToken_110 rfl (lv_at hl 1 rfl) ?_
        refine lv_dup hx hb dX4_readToken_111 rfl ?_
        refine h_geti (C := RX4) (T := TX4) (N := 13) hx hb hts inX4 hown hK hT7 (hE.o rfl) rfl 5 rfl wF_X4_22 rfl dX4_readToken_112 (fun p13 => ?_)
        refine h_top (v := x2) ((h_ps hu7 rfl (by decide) (by decide)).trans ((h_ps hu3 rfl (by decide) (by decide)).trans ((h_ps hu2 rfl (by decide) (by decide)).trans ex2.symm))) ?_
        refine lv_iconst (v := 1) hx hb dX4_readToken_115 (by decide) ?_
        refine lv_iadd hx hb dX4_readToken_116 ?_
        refine lv_topi (fun x14 ex14 => ?_)
        refine h_puti (C := RX4) (T := TX4) (N := 13) hx hb hts inX4 tyX4 tyX4_ok nmX4 hown hK hT7 (fun _ h => h) hS7 (hE.o rfl) rfl 5 rfl wF_X4_22 rfl rfl trivial rfl rfl dX4_readToken_117 (fun H8 locs hT8 hS8 hu8 => ?_)
        refine lv_iload_n hx hb dX4_readToken_120 rfl (lv_at hl 0 rfl) ?_
        refine lv_bipush (v := 59) hx hb dX4_readToken_121 (by decide) ?_
        refine lv_icmp_eq (tgt := 134) hx hb dX4_readToken_123 (by decide) (fun c15 => ?_) (fun c15 => ?_)
        · skip
          refine lv_iconst (v := 1) hx hb dX4_readToken_134 (by decide) ?_
          refine lv_goto (tgt := 139) hx hb dX4_readToken_135 (by decide) ?_
          exact hret _ _ _ _ _ hT8 hS8 ⟨(by decide), ⟨(by decide), trivial⟩⟩ dX4_readToken_139
        · skip
          refine lv_aload_n hx hb dX4_readToken_126 rfl (lv_at hl 1 rfl) ?_
          refine lv_iconst (v := 1) hx hb dX4_readToken_127 (by decide) ?_
          refine h_callVi (T := TX4) (rest := []) (As := [.int 1]) hx hb hml hown hts hK hT8 hZ (fun _ h => h) hS8 (c_X4_fail l G Y P (re) (tp) (o) hE hP hY 1) trivial wd_X4_fail wV_X4_fail wL_X4_95 (hE.o rfl) rfl rfl hl.1 rfl (Nat.le_of_ble_eq_true rfl) dX4_readToken_128 ⟨Nat.le_of_ble_eq_true rfl, Nat.le_of_ble_eq_true rfl⟩ ⟨Nat.zero_le _, Nat.zero_le _⟩ (fun r16 H9 locs hp9 hT9 hS9 hk9 => ?_)
          refine lv_if_eq (tgt := 138) hx hb dX4_readToken_131 (by decide) (fun c17 => ?_) (fun c17 => ?_)
          · skip
            refine lv_iconst (v := 0) hx hb dX4_readToken_138 (by decide) ?_
            exact hret _ _ _ _ _ hT9 hS9 ⟨(by decide), ⟨(by decide), trivial⟩⟩ dX4_readToken_139
          · skip
            refine lv_iconst (v := 1) hx hb dX4_readToken_134 (by decide) ?_
            refine lv_goto (tgt := 139) hx hb dX4_readToken_135 (by decide) ?_
            exact hret _ _ _ _ _ hT9 hS9 ⟨(by decide), ⟨(by decide), trivial⟩⟩ dX4_readToken_139
      · skip
        refine lv_aload_n hx hb dX4_readToken_74 rfl (lv_at hl 1 rfl) ?_
        refine lv_iconst (v := 2) hx hb dX4_readToken_75 (by decide) ?_
        refine h_puti (C := RX4) (T := TX4) (N := 13) hx hb hts inX4 tyX4 tyX4_ok nmX4 hown hK hT3 (fun _ h => h) hS6 (hE.o rfl) rfl 6 rfl wF_X4_25 rfl rfl trivial rfl rfl dX4_readToken_76 (fun H10 locs hT10 hS10 hu10 => ?_)
        refine lv_aload_n hx hb dX4_readToken_79 rfl (lv_at hl 1 rfl) ?_
        refine h_callVv (T := TX4) (rest := []) (As := []) hx hb hml hown hts hK hT10 hZ (fun _ h => h) hS10 (c_X4_takeDigits l G Y P (re) (tp) (o) hE hP hY) trivial wd_X4_takeDigits wV_X4_takeDigits wL_X4_178 (hE.o rfl) rfl rfl hl.1 rfl (Nat.le_of_ble_eq_true rfl) dX4_readToken_80 ⟨Nat.le_of_ble_eq_true rfl, Nat.le_of_ble_eq_true rfl⟩ ⟨Nat.zero_le _, Nat.zero_le _⟩ (fun H11 locs hp11 hT11 hS11 hk11 => ?_)
        refine lv_aload_n hx hb dX4_readToken_83 rfl (lv_at hl 1 rfl) ?_
        refine h_geti (C := RX4) (T := TX4) (N := 13) hx hb hts inX4 hown hK hT11 (hE.o rfl) rfl 8 rfl wF_X4_31 rfl dX4_readToken_84 (fun p18 => ?_)
        refine lv_topi (fun x19 ex19 => ?_)
        refine lv_iconst (v := 4) hx hb dX4_readToken_87 (by decide) ?_
        refine lv_icmp_le (tgt := 99) hx hb dX4_readToken_88 (by decide) (fun c20 => ?_) (fun c20 => ?_)
        · skip
          refine lv_iconst (v := 1) hx hb dX4_readToken_99 (by decide) ?_
          refine lv_goto (tgt := 104) hx hb dX4_readToken_100 (by decide) ?_
          exact hret _ _ _ _ _ hT11 hS11 ⟨(by decide), ⟨(by decide), trivial⟩⟩ dX4_readToken_104
        · skip
          refine lv_aload_n hx hb dX4_readToken_91 rfl (lv_at hl 1 rfl) ?_
          refine lv_iconst (v := 1) hx hb dX4_readToken_92 (by decide) ?_
          refine h_callVi (T := TX4) (rest := []) (As := [.int 1]) hx hb hml hown hts hK hT11 hZ (fun _ h => h) hS11 (c_X4_fail l G Y P (re) (tp) (o) hE hP hY 1) trivial wd_X4_fail wV_X4_fail wL_X4_95 (hE.o rfl) rfl rfl hl.1 rfl (Nat.le_of_ble_eq_true rfl) dX4_readToken_93 ⟨Nat.le_of_ble_eq_true rfl, Nat.le_of_ble_eq_true rfl⟩ ⟨Nat.zero_le _, Nat.zero_le _⟩ (fun r21 H12 locs hp12 hT12 hS12 hk12 => ?_)
          refine lv_if_eq (tgt := 103) hx hb dX4_readToken_96 (by decide) (fun c22 => ?_) (fun c22 => ?_)
          · skip
            refine lv_iconst (v := 0) hx hb dX4_readToken_103 (by decide) ?_
            exact hret _ _ _ _ _ hT12 hS12 ⟨(by decide), ⟨(by decide), trivial⟩⟩ dX4_readToken_104
          · skip
            refine lv_iconst (v := 1) hx hb dX4_readToken_99 (by decide) ?_
            refine lv_goto (tgt := 104) hx hb dX4_readToken_100 (by decide) ?_
            exact hret _ _ _ _ _ hT12 hS12 ⟨(by decide), ⟨(by decide), trivial⟩⟩ dX4_readToken_104
    · skip
      refine lv_aload_n hx hb dX4_readToken_55 rfl (lv_at hl 1 rfl) ?_
      refine lv_iconst (v := 1) hx hb dX4_readToken_56 (by decide) ?_
      refine h_puti (C := RX4) (T := TX4) (N := 13) hx hb hts inX4 tyX4 tyX4_ok nmX4 hown hK hT3 (fun _ h => h) hS5 (hE.o rfl) rfl 6 rfl wF_X4_25 rfl rfl trivial rfl rfl dX4_readToken_57 (fun H13 locs hT13 hS13 hu13 => ?_)
      refine lv_aload_n hx hb dX4_readToken_60 rfl (lv_at hl 1 rfl) ?_
      refine h_callVv (T := TX4) (rest := []) (As := []) hx hb hml hown hts hK hT13 hZ (fun _ h => h) hS13 (c_X4_takeLetters l G Y P (re) (tp) (o) hE hP hY) trivial wd_X4_takeLetters wV_X4_takeLetters wL_X4_172 (hE.o rfl) rfl rfl hl.1 rfl (Nat.le_of_ble_eq_true rfl) dX4_readToken_61 ⟨Nat.le_of_ble_eq_true rfl, Nat.le_of_ble_eq_true rfl⟩ ⟨Nat.zero_le _, Nat.zero_le _⟩ (fun H14 locs hp14 hT14 hS14 hk14 => ?_)
      refine lv_iconst (v := 1) hx hb dX4_readToken_64 (by decide) ?_
      exact hret _ _ _ _ _ hT14 hS14 ⟨(by decide), ⟨(by decide), trivial⟩⟩ dX4_readToken_65
  · skip
    refine lv_aload_n hx hb dX4_readToken_28 rfl (lv_at hl 0 rfl) ?_
    refine lv_iconst (v := 0) hx hb dX4_readToken_29 (by decide) ?_
    refine h_puti (C := RX4) (T := TX4) (N := 13) hx hb hts inX4 tyX4 tyX4_ok nmX4 hown hK hT3 (fun _ h => h) hS3 (hE.o rfl) rfl 6 rfl wF_X4_25 rfl rfl trivial rfl rfl dX4_readToken_30 (fun H15 locs hT15 hS15 hu15 => ?_)
    refine lv_iconst (v := 1) hx hb dX4_readToken_33 (by decide) ?_
    exact hret _ _ _ _ _ hT15 hS15 ⟨(by decide), ⟨(by decide), trivial⟩⟩ dX4_readToken_34
set_option maxHeartbeats 4000000 in
set_option maxRecDepth 100000 in
theorem c_X4_readNumber (l : Launch) (G : hG) (Y : hW) (P : Int32 → Prop) (re tp o : Nat) (hE : h_On Y re (reE (tC P) re tp o)) (hP : h_On Y tp (taE (tC P) tp)) (hY : h_On Y o (ringE (tC P) o)) (u1 : Int32) : hMi l yX4_readNumber cX4_readNumber 2 (some .boolean) 3 62 G Y [.ref (re), .int u1] (fun H => True) (fun H r H1 => (r = 0 ∨ r = 1) ∧ True) := by
  refine h_ofz (by decide +kernel) (Nat.le_of_ble_eq_true rfl) ?_
  intro p e s m args below meth c H0 ls Q hx hb hts hown hml hK hZ hT0 hpr hS0 hl hret
  have hl : lv_has ls 2 [(0, .ref (re)), (1, .int u1)] := hl
  refine lv_aload_n hx hb dX4_readNumber_0 rfl (lv_at hl 0 rfl) ?_
  refine h_callVi (T := TX4) (rest := []) (As := []) hx hb hml hown hts hK hT0 hZ (fun _ h => h) hS0 (c_X4_readToken l G Y P (re) (tp) (o) hE hP hY) trivial wd_X4_readToken wV_X4_readToken wL_X4_59 (hE.o rfl) rfl rfl hl.1 rfl (Nat.le_of_ble_eq_true rfl) dX4_readNumber_1 ⟨Nat.le_of_ble_eq_true rfl, Nat.le_of_ble_eq_true rfl⟩ ⟨Nat.zero_le _, Nat.zero_le _⟩ (fun r1 H1 locs hp1 hT1 hS1 hk1 => ?_)
  refine lv_if_ne (tgt := 9) hx hb dX4_readNumber_4 (by decide) (fun c2 => ?_) (fun c2 => ?_)
  · skip
    refine lv_aload_n hx hb dX4_readNumber_9 rfl (lv_at hl 0 rfl) ?_
    refine h_geti (C := RX4) (T := TX4) (N := 13) hx hb hts inX4 hown hK hT1 (hE.o rfl) rfl 6 rfl wF_X4_25 rfl dX4_readNumber_10 (fun p3 => ?_)
    refine lv_topi (fun x4 ex4 => ?_)
    refine lv_iconst (v := 2) hx hb dX4_readNumber_13 (by decide) ?_
    refine lv_icmp_eq (tgt := 23) hx hb dX4_readNumber_14 (by decide) (fun c5 => ?_) (fun c5 => ?_)
    · skip
      refine lv_aload_n hx hb dX4_readNumber_23 rfl (lv_at hl 0 rfl) ?_
      refine h_geti (C := RX4) (T := TX4) (N := 13) hx hb hts inX4 hown hK hT1 (hE.o rfl) rfl 9 rfl wF_X4_34 rfl dX4_readNumber_24 (fun p6 => ?_)
      refine lv_topi (fun x7 ex7 => ?_)
      refine lv_iload_n hx hb dX4_readNumber_27 rfl (lv_at hl 1 rfl) ?_
      refine lv_icmp_le (tgt := 39) hx hb dX4_readNumber_28 (by decide) (fun c8 => ?_) (fun c8 => ?_)
      · skip
        refine lv_iconst (v := 1) hx hb dX4_readNumber_39 (by decide) ?_
        refine lv_goto (tgt := 44) hx hb dX4_readNumber_40 (by decide) ?_
        exact hret _ _ _ _ _ hT1 hS1 ⟨(by decide), ⟨(by decide), trivial⟩⟩ dX4_readNumber_44
      · skip
        refine lv_aload_n hx hb dX4_readNumber_31 rfl (lv_at hl 0 rfl) ?_
        refine lv_iconst (v := 4) hx hb dX4_readNumber_32 (by decide) ?_
        refine h_callVi (T := TX4) (rest := []) (As := [.int 4]) hx hb hml hown hts hK hT1 hZ (fun _ h => h) hS1 (c_X4_fail l G Y P (re) (tp) (o) hE hP hY 4) trivial wd_X4_fail wV_X4_fail wL_X4_95 (hE.o rfl) rfl rfl hl.1 rfl (Nat.le_of_ble_eq_true rfl) dX4_readNumber_33 ⟨Nat.le_of_ble_eq_true rfl, Nat.le_of_ble_eq_true rfl⟩ ⟨Nat.zero_le _, Nat.zero_le _⟩ (fun r9 H2 locs hp2 hT2 hS2 hk2 => ?_)
        refine lv_if_eq (tgt := 43) hx hb dX4_readNumber_36 (by decide) (fun c10 => ?_) (fun c10 => ?_)
        · skip
          refine lv_iconst (v := 0) hx hb dX4_readNumber_43 (by decide) ?_
          exact hret _ _ _ _ _ hT2 hS2 ⟨(by decide), ⟨(by decide), trivial⟩⟩ dX4_readNumber_44
        · skip
          refine lv_iconst (v := 1) hx hb dX4_readNumber_39 (by decide) ?_
          refine lv_goto (tgt := 44) hx hb dX4_readNumber_40 (by decide) ?_
          exact hret _ _ _ _ _ hT2 hS2 ⟨(by decide), ⟨(by decide), trivial⟩⟩ dX4_readNumber_44
    · skip
      refine lv_aload_n hx hb dX4_readNumber_17 rfl (lv_at hl 0 rfl) ?_
      refine lv_iconst (v := 2) hx hb dX4_readNumber_18 (by decide) ?_
      refine h_callVi (T := TX4) (rest := []) (As := [.int 2]) hx hb hml hown hts hK hT1 hZ (fun _ h => h) hS1 (c_X4_fail l G Y P (re) (tp) (o) hE hP hY 2) trivial wd_X4_fail wV_X4_fail wL_X4_95 (hE.o rfl) rfl rfl hl.1 rfl (Nat.le_of_ble_eq_true rfl) dX4_readNumber_19 ⟨Nat.le_of_ble_eq_true rfl, Nat.le_of_ble_eq_true rfl⟩ ⟨Nat.zero_le _, Nat.zero_le _⟩ (fun r11 H3 locs hp3 hT3 hS3 hk3 => ?_)
      exact hret _ _ _ _ _ hT3 hS3 ⟨hp3.1, ⟨hp3.1, trivial⟩⟩ dX4_readNumber_22
  · skip
    refine lv_iconst (v := 0) hx hb dX4_readNumber_7 (by decide) ?_
    exact hret _ _ _ _ _ hT1 hS1 ⟨(by decide), ⟨(by decide), trivial⟩⟩ dX4_readNumber_8
set_option maxHeartbeats 4000000 in
set_option maxRecDepth 100000 in
theorem c_X4_readSign (l : Launch) (G : hG) (Y : hW) (P : Int32 → Prop) (re tp o : Nat) (hE : h_On Y re (reE (tC P) re tp o)) (hP : h_On Y tp (taE (tC P) tp)) (hY : h_On Y o (ringE (tC P) o)) : hMi l yX4_readSign cX4_readSign 1 (some .boolean) 3 62 G Y [.ref (re)] (fun H => True) (fun H r H1 => (r = 0 ∨ r = 1) ∧ True) := by
  refine h_ofz (by decide +kernel) (Nat.le_of_ble_eq_true rfl) ?_
  intro p e s m args below meth c H0 ls Q hx hb hts hown hml hK hZ hT0 hpr hS0 hl hret
  have hl : lv_has ls 1 [(0, .ref (re))] := hl
  refine lv_aload_n hx hb dX4_readSign_0 rfl (lv_at hl 0 rfl) ?_
  refine h_callVi (T := TX4) (rest := []) (As := []) hx hb hml hown hts hK hT0 hZ (fun _ h => h) hS0 (c_X4_readToken l G Y P (re) (tp) (o) hE hP hY) trivial wd_X4_readToken wV_X4_readToken wL_X4_59 (hE.o rfl) rfl rfl hl.1 rfl (Nat.le_of_ble_eq_true rfl) dX4_readSign_1 ⟨Nat.le_of_ble_eq_true rfl, Nat.le_of_ble_eq_true rfl⟩ ⟨Nat.zero_le _, Nat.zero_le _⟩ (fun r1 H1 locs hp1 hT1 hS1 hk1 => ?_)
  refine lv_if_ne (tgt := 9) hx hb dX4_readSign_4 (by decide) (fun c2 => ?_) (fun c2 => ?_)
  · skip
    refine lv_aload_n hx hb dX4_readSign_9 rfl (lv_at hl 0 rfl) ?_
    refine h_geti (C := RX4) (T := TX4) (N := 13) hx hb hts inX4 hown hK hT1 (hE.o rfl) rfl 6 rfl wF_X4_25 rfl dX4_readSign_10 (fun p3 => ?_)
    refine lv_topi (fun x4 ex4 => ?_)
    refine lv_iconst (v := 3) hx hb dX4_readSign_13 (by decide) ?_
    refine lv_icmp_eq (tgt := 25) hx hb dX4_readSign_14 (by decide) (fun c5 => ?_) (fun c5 => ?_)
    · skip
      refine lv_iconst (v := 1) hx hb dX4_readSign_25 (by decide) ?_
      refine lv_goto (tgt := 30) hx hb dX4_readSign_26 (by decide) ?_
      exact hret _ _ _ _ _ hT1 hS1 ⟨(by decide), ⟨(by decide), trivial⟩⟩ dX4_readSign_30
    · skip
      refine lv_aload_n hx hb dX4_readSign_17 rfl (lv_at hl 0 rfl) ?_
      refine lv_iconst (v := 2) hx hb dX4_readSign_18 (by decide) ?_
      refine h_callVi (T := TX4) (rest := []) (As := [.int 2]) hx hb hml hown hts hK hT1 hZ (fun _ h => h) hS1 (c_X4_fail l G Y P (re) (tp) (o) hE hP hY 2) trivial wd_X4_fail wV_X4_fail wL_X4_95 (hE.o rfl) rfl rfl hl.1 rfl (Nat.le_of_ble_eq_true rfl) dX4_readSign_19 ⟨Nat.le_of_ble_eq_true rfl, Nat.le_of_ble_eq_true rfl⟩ ⟨Nat.zero_le _, Nat.zero_le _⟩ (fun r6 H2 locs hp2 hT2 hS2 hk2 => ?_)
      refine lv_if_eq (tgt := 29) hx hb dX4_readSign_22 (by decide) (fun c7 => ?_) (fun c7 => ?_)
      · skip
        refine lv_iconst (v := 0) hx hb dX4_readSign_29 (by decide) ?_
        exact hret _ _ _ _ _ hT2 hS2 ⟨(by decide), ⟨(by decide), trivial⟩⟩ dX4_readSign_30
      · skip
        refine lv_iconst (v := 1) hx hb dX4_readSign_25 (by decide) ?_
        refine lv_goto (tgt := 30) hx hb dX4_readSign_26 (by decide) ?_
        exact hret _ _ _ _ _ hT2 hS2 ⟨(by decide), ⟨(by decide), trivial⟩⟩ dX4_readSign_30
  · skip
    refine lv_iconst (v := 0) hx hb dX4_readSign_7 (by decide) ?_
    exact hret _ _ _ _ _ hT1 hS1 ⟨(by decide), ⟨(by decide), trivial⟩⟩ dX4_readSign_8
set_option maxHeartbeats 4000000 in
set_option maxRecDepth 100000 in
theorem c_X4_isNameOf (l : Launch) (G : hG) (Y : hW) (P : Int32 → Prop) (re tp o : Nat) (hE : h_On Y re (reE (tC P) re tp o)) (hP : h_On Y tp (taE (tC P) tp)) (hY : h_On Y o (ringE (tC P) o)) (u1 : Int32) : hMi l yX4_isNameOf cX4_isNameOf 3 (some .boolean) 1 21 G Y [.ref (re), .int u1] (fun H => True) (fun H r H1 => ((r = 0 ∨ r = 1) ∧ True) ∧ H1 = H) := by
  refine h_ofz (by decide +kernel) (Nat.le_of_ble_eq_true rfl) ?_
  intro p e s m args below meth c H0 ls Q hx hb hts hown hml hK hZ hT0 hpr hS0 hl hret
  have hl : lv_has ls 3 [(0, .ref (re)), (1, .int u1)] := hl
  refine lv_iload_n hx hb dX4_isNameOf_0 rfl (lv_at hl 1 rfl) ?_
  refine lv_if_lt (tgt := 23) hx hb dX4_isNameOf_1 (by decide) (fun c1 => ?_) (fun c1 => ?_)
  · skip
    refine lv_iconst (v := 0) hx hb dX4_isNameOf_23 (by decide) ?_
    exact hret _ _ _ _ _ hT0 hS0 ⟨(by decide), ⟨(by decide), trivial⟩, rfl⟩ dX4_isNameOf_24
  · skip
    refine lv_iload_n hx hb dX4_isNameOf_4 rfl (lv_at hl 1 rfl) ?_
    refine lv_bipush (v := 8) hx hb dX4_isNameOf_5 (by decide) ?_
    refine lv_icmp_ge (tgt := 23) hx hb dX4_isNameOf_7 (by decide) (fun c2 => ?_) (fun c2 => ?_)
    · skip
      refine lv_iconst (v := 0) hx hb dX4_isNameOf_23 (by decide) ?_
      exact hret _ _ _ _ _ hT0 hS0 ⟨(by decide), ⟨(by decide), trivial⟩, rfl⟩ dX4_isNameOf_24
    · skip
      refine lv_aload_n hx hb dX4_isNameOf_10 rfl (lv_at hl 0 rfl) ?_
      refine h_getr (C := RX4) (T := TX4) (N := 13) hx hb hts inX4 hown hK hT0 (hE.o rfl) rfl 3 rfl wF_X4_15 rfl dX4_isNameOf_11 ?_
      refine lv_iload_n hx hb dX4_isNameOf_14 rfl (lv_at hl 1 rfl) ?_
      refine h_iald hx hb hK hT0 (hE.at 2 rfl) (vp_in_iff.mpr (by (try simp only [Int32.lt_iff_toInt_lt, Int32.le_iff_toInt_le, ← Int32.toInt_inj, Int32.reduceToInt, (show (-1 : Int32).toInt = -1 from rfl)] at c1 c2 ⊢); omega)) dX4_isNameOf_15 (fun p3 => ?_)
      refine lv_topi (fun x4 ex4 => ?_)
      refine lv_aload_n hx hb dX4_isNameOf_16 rfl (lv_at hl 0 rfl) ?_
      refine h_geti (C := RX4) (T := TX4) (N := 13) hx hb hts inX4 hown hK hT0 (hE.o rfl) rfl 8 rfl wF_X4_31 rfl dX4_isNameOf_17 (fun p5 => ?_)
      refine lv_topi (fun x6 ex6 => ?_)
      refine lv_icmp_eq (tgt := 25) hx hb dX4_isNameOf_20 (by decide) (fun c7 => ?_) (fun c7 => ?_)
      · skip
        refine lv_iconst (v := 0) hx hb dX4_isNameOf_25 (by decide) ?_
        refine lv_istore_n (lv' := [(2, .int 0), (0, .ref (re)), (1, .int u1)]) hx hb dX4_isNameOf_26 rfl hl (by decide) rfl (fun ls hl => ?_)
        have LP1 : ∀ (n1 : Nat) (w1_2 : Int32), 2147483647 - w1_2.toInt < (n1 : Int) → 0 ≤ w1_2.toInt → ∀ (locs : List Loc) (ls : Array Slot), va_S (h_A Y) s.heap H0 locs → lv_has ls 3 [(2, .int w1_2), (0, .ref (re)), (1, .int u1)] → W p l e (h_rm 1 21) s m args below meth c H0 locs 0 0 Q (F0 m 27 ls []) := by
          intro n1
          induction n1 with
          | zero =>
            intro w1_2 hm
            exact absurd hm (by have := Int32.toInt_lt w1_2; have := Int32.le_toInt w1_2; omega)
          | succ n1 ih1 =>
            intro w1_2 hm1 hz1 locs ls hS1 hl
            refine lv_iload_n hx hb dX4_isNameOf_27 rfl (lv_at hl 0 rfl) ?_
            refine lv_aload_n hx hb dX4_isNameOf_28 rfl (lv_at hl 1 rfl) ?_
            refine h_geti (C := RX4) (T := TX4) (N := 13) hx hb hts inX4 hown hK hT0 (hE.o rfl) rfl 8 rfl wF_X4_31 rfl dX4_isNameOf_29 (fun p8 => ?_)
            refine h_top (v := x6) ex6.symm ?_
            refine lv_icmp_ge (tgt := 74) hx hb dX4_isNameOf_32 (by decide) (fun c9 => ?_) (fun c9 => ?_)
            · skip
              refine lv_iconst (v := 1) hx hb dX4_isNameOf_74 (by decide) ?_
              exact hret _ _ _ _ _ hT0 hS1 ⟨(by decide), ⟨(by decide), trivial⟩, rfl⟩ dX4_isNameOf_75
            · skip
              refine lv_aload_n hx hb dX4_isNameOf_35 rfl (lv_at hl 1 rfl) ?_
              refine h_getr (C := RX4) (T := TX4) (N := 13) hx hb hts inX4 hown hK hT0 (hE.o rfl) rfl 0 rfl wF_X4_46 rfl dX4_isNameOf_36 ?_
              refine lv_aload_n hx hb dX4_isNameOf_39 rfl (lv_at hl 1 rfl) ?_
              refine h_geti (C := RX4) (T := TX4) (N := 13) hx hb hts inX4 hown hK hT0 (hE.o rfl) rfl 7 rfl wF_X4_28 rfl dX4_isNameOf_40 (fun p10 => ?_)
              refine lv_topi (fun x11 ex11 => ?_)
              refine lv_iload_n hx hb dX4_isNameOf_43 rfl (lv_at hl 0 rfl) ?_
              refine lv_iadd hx hb dX4_isNameOf_44 ?_
              refine lv_topi (fun x12 ex12 => ?_)
              refine h_callVi (T := TX8) (rest := []) (As := [.int x12]) hx hb hml hown hts hK hT0 hZ (fun _ h => h) hS1 (c_X8_byteAt l G Y P (tp) hP x12) trivial wd_X8_byteAt wV_X8_byteAt wL_X4_163 (hP.o rfl) rfl rfl hl.1 rfl (Nat.le_of_ble_eq_true rfl) dX4_isNameOf_45 ⟨Nat.le_of_ble_eq_true rfl, Nat.le_of_ble_eq_true rfl⟩ ⟨Nat.zero_le _, Nat.zero_le _⟩ (fun r13 H2 locs hp2 hT2 hS2 hk2 => ?_)
              obtain ⟨hp2, he⟩ := hp2
              have he := he.symm
              subst he
              refine lv_aload_n hx hb dX4_isNameOf_48 rfl (lv_at hl 1 rfl) ?_
              refine h_getr (C := RX4) (T := TX4) (N := 13) hx hb hts inX4 hown hK hT0 (hE.o rfl) rfl 0 rfl wF_X4_46 rfl dX4_isNameOf_49 ?_
              refine lv_aload_n hx hb dX4_isNameOf_52 rfl (lv_at hl 1 rfl) ?_
              refine h_getr (C := RX4) (T := TX4) (N := 13) hx hb hts inX4 hown hK hT0 (hE.o rfl) rfl 2 rfl wF_X4_9 rfl dX4_isNameOf_53 ?_
              refine lv_iload_n hx hb dX4_isNameOf_56 rfl (lv_at hl 2 rfl) ?_
              refine h_iald hx hb hK hT0 (hE.at 1 rfl) (vp_in_iff.mpr (by (try simp only [Int32.lt_iff_toInt_lt, Int32.le_iff_toInt_le, ← Int32.toInt_inj, Int32.reduceToInt, (show (-1 : Int32).toInt = -1 from rfl)] at c1 c2 ⊢); omega)) dX4_isNameOf_57 (fun p14 => ?_)
              refine lv_topi (fun x15 ex15 => ?_)
              refine lv_iload_n hx hb dX4_isNameOf_58 rfl (lv_at hl 0 rfl) ?_
              refine lv_iadd hx hb dX4_isNameOf_59 ?_
              refine lv_topi (fun x16 ex16 => ?_)
              refine h_callVi (T := TX8) (rest := [.int r13]) (As := [.int x16]) hx hb hml hown hts hK hT0 hZ (fun _ h => h) hS2 (c_X8_byteAt l G Y P (tp) hP x16) trivial wd_X8_byteAt wV_X8_byteAt wL_X4_163 (hP.o rfl) rfl rfl hl.1 rfl (Nat.le_of_ble_eq_true rfl) dX4_isNameOf_60 ⟨Nat.le_of_ble_eq_true rfl, Nat.le_of_ble_eq_true rfl⟩ ⟨Nat.zero_le _, Nat.zero_le _⟩ (fun r17 H3 locs hp3 hT3 hS3 hk3 => ?_)
              obtain ⟨hp3, he⟩ := hp3
              have he := he.symm
              subst he
              refine lv_icmp_eq (tgt := 68) hx hb dX4_isNameOf_63 (by decide) (fun c18 => ?_) (fun c18 => ?_)
              · skip
                obtain ⟨x19, ex19⟩ : ∃ y : Int32, y = w1_2 + 1 := ⟨_, rfl⟩
                refine lv_iinc (v := x19) (lv' := [(2, .int x19), (0, .ref (re)), (1, .int u1)]) hx hb dX4_isNameOf_68 hl (k := 0) rfl (by rw [ex19]; rfl) (by decide) rfl (fun ls hl => ?_)
                refine lv_goto (tgt := 27) hx hb dX4_isNameOf_71 (by decide) ?_
                exact ih1 x19 (h_dn hm1 ex19 (by first | exact h_lu c9 | exact h_lu2 c9 | ((try simp only [Int32.lt_iff_toInt_lt, Int32.le_iff_toInt_le, ← Int32.toInt_inj, Int32.reduceToInt, (show (-1 : Int32).toInt = -1 from rfl)] at c9 ⊢); omega))) (h_nn hz1 ex19 (by first | exact h_lu c9 | exact h_lu2 c9 | ((try simp only [Int32.lt_iff_toInt_lt, Int32.le_iff_toInt_le, ← Int32.toInt_inj, Int32.reduceToInt, (show (-1 : Int32).toInt = -1 from rfl)] at c9 ⊢); omega))) _ _ hS3 (lv_sub hl [0, 1, 2] rfl)
              · skip
                refine lv_iconst (v := 0) hx hb dX4_isNameOf_66 (by decide) ?_
                exact hret _ _ _ _ _ hT0 hS3 ⟨(by decide), ⟨(by decide), trivial⟩, rfl⟩ dX4_isNameOf_67
        exact LP1 4294967296 0 (h_m0 _) (by decide) _ _ hS0 (lv_sub hl [0, 1, 2] rfl)
      · skip
        refine lv_iconst (v := 0) hx hb dX4_isNameOf_23 (by decide) ?_
        exact hret _ _ _ _ _ hT0 hS0 ⟨(by decide), ⟨(by decide), trivial⟩, rfl⟩ dX4_isNameOf_24
set_option maxHeartbeats 4000000 in
set_option maxRecDepth 100000 in
theorem c_isWord0 (l : Launch) (G : hG) (Y : hW) (P : Int32 → Prop) (re tp o : Nat) (hE : h_On Y re (reE (tC P) re tp o)) (hP : h_On Y tp (taE (tC P) tp)) (hY : h_On Y o (ringE (tC P) o)) : hMi l yX4_isWord cX4_isWord 3 (some .boolean) 4 85 G Y [.ref (re), .ref (G.2.2.1 0)] (fun H => True) (fun H r H1 => ((r = 0 ∨ r = 1) ∧ True) ∧ H1 = H) := by
  refine h_ofz (by decide +kernel) (Nat.le_of_ble_eq_true rfl) ?_
  intro p e s m args below meth c H0 ls Q hx hb hts hown hml hK hZ hT0 hpr hS0 hl hret
  have hl : lv_has ls 3 [(0, .ref (re)), (1, .ref (G.2.2.1 0))] := hl
  refine lv_aload_n hx hb dX4_isWord_0 rfl (lv_at hl 0 rfl) ?_
  refine h_geti (C := RX4) (T := TX4) (N := 13) hx hb hts inX4 hown hK hT0 (hE.o rfl) rfl 6 rfl wF_X4_25 rfl dX4_isWord_1 (fun p1 => ?_)
  refine lv_topi (fun x2 ex2 => ?_)
  refine lv_iconst (v := 1) hx hb dX4_isWord_4 (by decide) ?_
  refine lv_icmp_ne (tgt := 19) hx hb dX4_isWord_5 (by decide) (fun c3 => ?_) (fun c3 => ?_)
  · skip
    refine lv_iconst (v := 0) hx hb dX4_isWord_19 (by decide) ?_
    exact hret _ _ _ _ _ hT0 hS0 ⟨(by decide), ⟨(by decide), trivial⟩, rfl⟩ dX4_isWord_20
  · skip
    refine lv_aload_n hx hb dX4_isWord_8 rfl (lv_at hl 0 rfl) ?_
    refine h_geti (C := RX4) (T := TX4) (N := 13) hx hb hts inX4 hown hK hT0 (hE.o rfl) rfl 8 rfl wF_X4_31 rfl dX4_isWord_9 (fun p4 => ?_)
    refine lv_topi (fun x5 ex5 => ?_)
    refine lv_aload_n hx hb dX4_isWord_12 rfl (lv_at hl 1 rfl) ?_
    refine h_callWi (rest := [.int x5]) (As := []) hx hb hml hown hts hK hT0 hZ (fun _ h => h) hS0 (c_length0 l G Y) trivial wd_J0_length_8abf5 wV_J0_length_8abf5 wL_X4_181 (vk_recv hZ.1 (i := 0) (by decide) hS0) rfl hl.1 rfl (Nat.le_of_ble_eq_true rfl) dX4_isWord_13 ⟨Nat.le_of_ble_eq_true rfl, Nat.le_of_ble_eq_true rfl⟩ ⟨Nat.zero_le _, Nat.zero_le _⟩ (fun r6 H1 locs hp1 hT1 hS1 hk1 => ?_)
    obtain ⟨hp1, he⟩ := hp1
    have he := he.symm
    subst he
    have hp1 : r6 = 7 := hp1
    subst hp1
    refine lv_icmp_eq (tgt := 21) hx hb dX4_isWord_16 (by decide) (fun c7 => ?_) (fun c7 => ?_)
    · skip
      refine lv_iconst (v := 0) hx hb dX4_isWord_21 (by decide) ?_
      refine lv_istore_n (lv' := [(2, .int 0), (0, .ref (re)), (1, .ref (G.2.2.1 0))]) hx hb dX4_isWord_22 rfl hl (by decide) rfl (fun ls hl => ?_)
      refine lv_iload_n hx hb dX4_isWord_23 rfl (lv_at hl 0 rfl) ?_
      refine lv_aload_n hx hb dX4_isWord_24 rfl (lv_at hl 2 rfl) ?_
      refine h_callWi (rest := [.int 0]) (As := []) hx hb hml hown hts hK hT0 hZ (fun _ h => h) hS1 (c_length0 l G Y) trivial wd_J0_length_8abf5 wV_J0_length_8abf5 wL_X4_181 (vk_recv hZ.1 (i := 0) (by decide) hS1) rfl hl.1 rfl (Nat.le_of_ble_eq_true rfl) dX4_isWord_25 ⟨Nat.le_of_ble_eq_true rfl, Nat.le_of_ble_eq_true rfl⟩ ⟨Nat.zero_le _, Nat.zero_le _⟩ (fun r8 H2 locs hp2 hT2 hS2 hk2 => ?_)
      obtain ⟨hp2, he⟩ := hp2
      have he := he.symm
      subst he
      have hp2 : r8 = 7 := hp2
      subst hp2
      refine lv_icmp_ge (tgt := 60) hx hb dX4_isWord_28 (by decide) (fun h => absurd h (by decide)) (fun _ => ?_)
      refine lv_aload_n hx hb dX4_isWord_31 rfl (lv_at hl 1 rfl) ?_
      refine h_getr (C := RX4) (T := TX4) (N := 13) hx hb hts inX4 hown hK hT0 (hE.o rfl) rfl 0 rfl wF_X4_46 rfl dX4_isWord_32 ?_
      refine lv_aload_n hx hb dX4_isWord_35 rfl (lv_at hl 1 rfl) ?_
      refine h_geti (C := RX4) (T := TX4) (N := 13) hx hb hts inX4 hown hK hT0 (hE.o rfl) rfl 7 rfl wF_X4_28 rfl dX4_isWord_36 (fun p10 => ?_)
      refine lv_topi (fun x11 ex11 => ?_)
      refine lv_iload_n hx hb dX4_isWord_39 rfl (lv_at hl 0 rfl) ?_
      refine lv_iadd hx hb dX4_isWord_40 ?_
      refine lv_topi (fun x12 ex12 => ?_)
      refine h_callVi (T := TX8) (rest := []) (As := [.int x12]) hx hb hml hown hts hK hT0 hZ (fun _ h => h) hS2 (c_X8_byteAt l G Y P (tp) hP x12) trivial wd_X8_byteAt wV_X8_byteAt wL_X4_163 (hP.o rfl) rfl rfl hl.1 rfl (Nat.le_of_ble_eq_true rfl) dX4_isWord_41 ⟨Nat.le_of_ble_eq_true rfl, Nat.le_of_ble_eq_true rfl⟩ ⟨Nat.zero_le _, Nat.zero_le _⟩ (fun r13 H3 locs hp3 hT3 hS3 hk3 => ?_)
      obtain ⟨hp3, he⟩ := hp3
      have he := he.symm
      subst he
      refine lv_aload_n hx hb dX4_isWord_44 rfl (lv_at hl 2 rfl) ?_
      refine lv_iload_n hx hb dX4_isWord_45 rfl (lv_at hl 0 rfl) ?_
      refine h_callWi (rest := [.int r13]) (As := [.int 0]) hx hb hml hown hts hK hT0 hZ (fun _ h => h) hS3 (c_char0 l G Y 0 (by decide) (by decide)) trivial wd_J0_charAt_5068e wV_J0_charAt_5068e wL_X4_186 (vk_recv hZ.1 (i := 0) (by decide) hS3) rfl hl.1 rfl (Nat.le_of_ble_eq_true rfl) dX4_isWord_46 ⟨Nat.le_of_ble_eq_true rfl, Nat.le_of_ble_eq_true rfl⟩ ⟨Nat.zero_le _, Nat.zero_le _⟩ (fun r14 H4 locs hp4 hT4 hS4 hk4 => ?_)
      obtain ⟨hp4, he⟩ := hp4
      have he := he.symm
      subst he
      have hp4 : r14 = 115 := hp4.trans (by decide)
      subst hp4
      refine lv_icmp_eq (tgt := 54) hx hb dX4_isWord_49 (by decide) (fun c15 => ?_) (fun c15 => ?_)
      · skip
        refine lv_iinc (v := 1) (lv' := [(2, .int 1), (0, .ref (re)), (1, .ref (G.2.2.1 0))]) hx hb dX4_isWord_54 hl (k := 0) rfl (by decide) (by decide) rfl (fun ls hl => ?_)
        refine lv_goto (tgt := 23) hx hb dX4_isWord_57 (by decide) ?_
        refine lv_iload_n hx hb dX4_isWord_23 rfl (lv_at hl 0 rfl) ?_
        refine lv_aload_n hx hb dX4_isWord_24 rfl (lv_at hl 2 rfl) ?_
        refine h_callWi (rest := [.int 1]) (As := []) hx hb hml hown hts hK hT0 hZ (fun _ h => h) hS4 (c_length0 l G Y) trivial wd_J0_length_8abf5 wV_J0_length_8abf5 wL_X4_181 (vk_recv hZ.1 (i := 0) (by decide) hS4) rfl hl.1 rfl (Nat.le_of_ble_eq_true rfl) dX4_isWord_25 ⟨Nat.le_of_ble_eq_true rfl, Nat.le_of_ble_eq_true rfl⟩ ⟨Nat.zero_le _, Nat.zero_le _⟩ (fun r16 H5 locs hp5 hT5 hS5 hk5 => ?_)
        obtain ⟨hp5, he⟩ := hp5
        have he := he.symm
        subst he
        have hp5 : r16 = 7 := hp5
        subst hp5
        refine lv_icmp_ge (tgt := 60) hx hb dX4_isWord_28 (by decide) (fun h => absurd h (by decide)) (fun _ => ?_)
        refine lv_aload_n hx hb dX4_isWord_31 rfl (lv_at hl 1 rfl) ?_
        refine h_getr (C := RX4) (T := TX4) (N := 13) hx hb hts inX4 hown hK hT0 (hE.o rfl) rfl 0 rfl wF_X4_46 rfl dX4_isWord_32 ?_
        refine lv_aload_n hx hb dX4_isWord_35 rfl (lv_at hl 1 rfl) ?_
        refine h_geti (C := RX4) (T := TX4) (N := 13) hx hb hts inX4 hown hK hT0 (hE.o rfl) rfl 7 rfl wF_X4_28 rfl dX4_isWord_36 (fun p18 => ?_)
        refine h_top (v := x11) ex11.symm ?_
        refine lv_iload_n hx hb dX4_isWord_39 rfl (lv_at hl 0 rfl) ?_
        refine lv_iadd hx hb dX4_isWord_40 ?_
        refine lv_topi (fun x19 ex19 => ?_)
        refine h_callVi (T := TX8) (rest := []) (As := [.int x19]) hx hb hml hown hts hK hT0 hZ (fun _ h => h) hS5 (c_X8_byteAt l G Y P (tp) hP x19) trivial wd_X8_byteAt wV_X8_byteAt wL_X4_163 (hP.o rfl) rfl rfl hl.1 rfl (Nat.le_of_ble_eq_true rfl) dX4_isWord_41 ⟨Nat.le_of_ble_eq_true rfl, Nat.le_of_ble_eq_true rfl⟩ ⟨Nat.zero_le _, Nat.zero_le _⟩ (fun r20 H6 locs hp6 hT6 hS6 hk6 => ?_)
        obtain ⟨hp6, he⟩ := hp6
        have he := he.symm
        subst he
        refine lv_aload_n hx hb dX4_isWord_44 rfl (lv_at hl 2 rfl) ?_
        refine lv_iload_n hx hb dX4_isWord_45 rfl (lv_at hl 0 rfl) ?_
        refine h_callWi (rest := [.int r20]) (As := [.int 1]) hx hb hml hown hts hK hT0 hZ (fun _ h => h) hS6 (c_char0 l G Y 1 (by decide) (by decide)) trivial wd_J0_charAt_5068e wV_J0_charAt_5068e wL_X4_186 (vk_recv hZ.1 (i := 0) (by decide) hS6) rfl hl.1 rfl (Nat.le_of_ble_eq_true rfl) dX4_isWord_46 ⟨Nat.le_of_ble_eq_true rfl, Nat.le_of_ble_eq_true rfl⟩ ⟨Nat.zero_le _, Nat.zero_le _⟩ (fun r21 H7 locs hp7 hT7 hS7 hk7 => ?_)
        obtain ⟨hp7, he⟩ := hp7
        have he := he.symm
        subst he
        have hp7 : r21 = 116 := hp7.trans (by decide)
        subst hp7
        refine lv_icmp_eq (tgt := 54) hx hb dX4_isWord_49 (by decide) (fun c22 => ?_) (fun c22 => ?_)
        · skip
          refine lv_iinc (v := 2) (lv' := [(2, .int 2), (0, .ref (re)), (1, .ref (G.2.2.1 0))]) hx hb dX4_isWord_54 hl (k := 0) rfl (by decide) (by decide) rfl (fun ls hl => ?_)
          refine lv_goto (tgt := 23) hx hb dX4_isWord_57 (by decide) ?_
          refine lv_iload_n hx hb dX4_isWord_23 rfl (lv_at hl 0 rfl) ?_
          refine lv_aload_n hx hb dX4_isWord_24 rfl (lv_at hl 2 rfl) ?_
          refine h_callWi (rest := [.int 2]) (As := []) hx hb hml hown hts hK hT0 hZ (fun _ h => h) hS7 (c_length0 l G Y) trivial wd_J0_length_8abf5 wV_J0_length_8abf5 wL_X4_181 (vk_recv hZ.1 (i := 0) (by decide) hS7) rfl hl.1 rfl (Nat.le_of_ble_eq_true rfl) dX4_isWord_25 ⟨Nat.le_of_ble_eq_true rfl, Nat.le_of_ble_eq_true rfl⟩ ⟨Nat.zero_le _, Nat.zero_le _⟩ (fun r23 H8 locs hp8 hT8 hS8 hk8 => ?_)
          obtain ⟨hp8, he⟩ := hp8
          have he := he.symm
          subst he
          have hp8 : r23 = 7 := hp8
          subst hp8
          refine lv_icmp_ge (tgt := 60) hx hb dX4_isWord_28 (by decide) (fun h => absurd h (by decide)) (fun _ => ?_)
          refine lv_aload_n hx hb dX4_isWord_31 rfl (lv_at hl 1 rfl) ?_
          refine h_getr (C := RX4) (T := TX4) (N := 13) hx hb hts inX4 hown hK hT0 (hE.o rfl) rfl 0 rfl wF_X4_46 rfl dX4_isWord_32 ?_
          refine lv_aload_n hx hb dX4_isWord_35 rfl (lv_at hl 1 rfl) ?_
          refine h_geti (C := RX4) (T := TX4) (N := 13) hx hb hts inX4 hown hK hT0 (hE.o rfl) rfl 7 rfl wF_X4_28 rfl dX4_isWord_36 (fun p25 => ?_)
          refine h_top (v := x11) ex11.symm ?_
          refine lv_iload_n hx hb dX4_isWord_39 rfl (lv_at hl 0 rfl) ?_
          refine lv_iadd hx hb dX4_isWord_40 ?_
          refine lv_topi (fun x26 ex26 => ?_)
          refine h_callVi (T := TX8) (rest := []) (As := [.int x26]) hx hb hml hown hts hK hT0 hZ (fun _ h => h) hS8 (c_X8_byteAt l G Y P (tp) hP x26) trivial wd_X8_byteAt wV_X8_byteAt wL_X4_163 (hP.o rfl) rfl rfl hl.1 rfl (Nat.le_of_ble_eq_true rfl) dX4_isWord_41 ⟨Nat.le_of_ble_eq_true rfl, Nat.le_of_ble_eq_true rfl⟩ ⟨Nat.zero_le _, Nat.zero_le _⟩ (fun r27 H9 locs hp9 hT9 hS9 hk9 => ?_)
          obtain ⟨hp9, he⟩ := hp9
          have he := he.symm
          subst he
          refine lv_aload_n hx hb dX4_isWord_44 rfl (lv_at hl 2 rfl) ?_
          refine lv_iload_n hx hb dX4_isWord_45 rfl (lv_at hl 0 rfl) ?_
          refine h_callWi (rest := [.int r27]) (As := [.int 2]) hx hb hml hown hts hK hT0 hZ (fun _ h => h) hS9 (c_char0 l G Y 2 (by decide) (by decide)) trivial wd_J0_charAt_5068e wV_J0_charAt_5068e wL_X4_186 (vk_recv hZ.1 (i := 0) (by decide) hS9) rfl hl.1 rfl (Nat.le_of_ble_eq_true rfl) dX4_isWord_46 ⟨Nat.le_of_ble_eq_true rfl, Nat.le_of_ble_eq_true rfl⟩ ⟨Nat.zero_le _, Nat.zero_le _⟩ (fun r28 H10 locs hp10 hT10 hS10 hk10 => ?_)
          obtain ⟨hp10, he⟩ := hp10
          have he := he.symm
          subst he
          have hp10 : r28 = 97 := hp10.trans (by decide)
          subst hp10
          refine lv_icmp_eq (tgt := 54) hx hb dX4_isWord_49 (by decide) (fun c29 => ?_) (fun c29 => ?_)
          · skip
            refine lv_iinc (v := 3) (lv' := [(2, .int 3), (0, .ref (re)), (1, .ref (G.2.2.1 0))]) hx hb dX4_isWord_54 hl (k := 0) rfl (by decide) (by decide) rfl (fun ls hl => ?_)
            refine lv_goto (tgt := 23) hx hb dX4_isWord_57 (by decide) ?_
            refine lv_iload_n hx hb dX4_isWord_23 rfl (lv_at hl 0 rfl) ?_
            refine lv_aload_n hx hb dX4_isWord_24 rfl (lv_at hl 2 rfl) ?_
            refine h_callWi (rest := [.int 3]) (As := []) hx hb hml hown hts hK hT0 hZ (fun _ h => h) hS10 (c_length0 l G Y) trivial wd_J0_length_8abf5 wV_J0_length_8abf5 wL_X4_181 (vk_recv hZ.1 (i := 0) (by decide) hS10) rfl hl.1 rfl (Nat.le_of_ble_eq_true rfl) dX4_isWord_25 ⟨Nat.le_of_ble_eq_true rfl, Nat.le_of_ble_eq_true rfl⟩ ⟨Nat.zero_le _, Nat.zero_le _⟩ (fun r30 H11 locs hp11 hT11 hS11 hk11 => ?_)
            obtain ⟨hp11, he⟩ := hp11
            have he := he.symm
            subst he
            have hp11 : r30 = 7 := hp11
            subst hp11
            refine lv_icmp_ge (tgt := 60) hx hb dX4_isWord_28 (by decide) (fun h => absurd h (by decide)) (fun _ => ?_)
            refine lv_aload_n hx hb dX4_isWord_31 rfl (lv_at hl 1 rfl) ?_
            refine h_getr (C := RX4) (T := TX4) (N := 13) hx hb hts inX4 hown hK hT0 (hE.o rfl) rfl 0 rfl wF_X4_46 rfl dX4_isWord_32 ?_
            refine lv_aload_n hx hb dX4_isWord_35 rfl (lv_at hl 1 rfl) ?_
            refine h_geti (C := RX4) (T := TX4) (N := 13) hx hb hts inX4 hown hK hT0 (hE.o rfl) rfl 7 rfl wF_X4_28 rfl dX4_isWord_36 (fun p32 => ?_)
            refine h_top (v := x11) ex11.symm ?_
            refine lv_iload_n hx hb dX4_isWord_39 rfl (lv_at hl 0 rfl) ?_
            refine lv_iadd hx hb dX4_isWord_40 ?_
            refine lv_topi (fun x33 ex33 => ?_)
            refine h_callVi (T := TX8) (rest := []) (As := [.int x33]) hx hb hml hown hts hK hT0 hZ (fun _ h => h) hS11 (c_X8_byteAt l G Y P (tp) hP x33) trivial wd_X8_byteAt wV_X8_byteAt wL_X4_163 (hP.o rfl) rfl rfl hl.1 rfl (Nat.le_of_ble_eq_true rfl) dX4_isWord_41 ⟨Nat.le_of_ble_eq_true rfl, Nat.le_of_ble_eq_true rfl⟩ ⟨Nat.zero_le _, Nat.zero_le _⟩ (fun r34 H12 locs hp12 hT12 hS12 hk12 => ?_)
            obtain ⟨hp12, he⟩ := hp12
            have he := he.symm
            subst he
            refine lv_aload_n hx hb dX4_isWord_44 rfl (lv_at hl 2 rfl) ?_
            refine lv_iload_n hx hb dX4_isWord_45 rfl (lv_at hl 0 rfl) ?_
            refine h_callWi (rest := [.int r34]) (As := [.int 3]) hx hb hml hown hts hK hT0 hZ (fun _ h => h) hS12 (c_char0 l G Y 3 (by decide) (by decide)) trivial wd_J0_charAt_5068e wV_J0_charAt_5068e wL_X4_186 (vk_recv hZ.1 (i := 0) (by decide) hS12) rfl hl.1 rfl (Nat.le_of_ble_eq_true rfl) dX4_isWord_46 ⟨Nat.le_of_ble_eq_true rfl, Nat.le_of_ble_eq_true rfl⟩ ⟨Nat.zero_le _, Nat.zero_le _⟩ (fun r35 H13 locs hp13 hT13 hS13 hk13 => ?_)
            obtain ⟨hp13, he⟩ := hp13
            have he := he.symm
            subst he
            have hp13 : r35 = 116 := hp13.trans (by decide)
            subst hp13
            refine lv_icmp_eq (tgt := 54) hx hb dX4_isWord_49 (by decide) (fun c36 => ?_) (fun c36 => ?_)
            · skip
              refine lv_iinc (v := 4) (lv' := [(2, .int 4), (0, .ref (re)), (1, .ref (G.2.2.1 0))]) hx hb dX4_isWord_54 hl (k := 0) rfl (by decide) (by decide) rfl (fun ls hl => ?_)
              refine lv_goto (tgt := 23) hx hb dX4_isWord_57 (by decide) ?_
              refine lv_iload_n hx hb dX4_isWord_23 rfl (lv_at hl 0 rfl) ?_
              refine lv_aload_n hx hb dX4_isWord_24 rfl (lv_at hl 2 rfl) ?_
              refine h_callWi (rest := [.int 4]) (As := []) hx hb hml hown hts hK hT0 hZ (fun _ h => h) hS13 (c_length0 l G Y) trivial wd_J0_length_8abf5 wV_J0_length_8abf5 wL_X4_181 (vk_recv hZ.1 (i := 0) (by decide) hS13) rfl hl.1 rfl (Nat.le_of_ble_eq_true rfl) dX4_isWord_25 ⟨Nat.le_of_ble_eq_true rfl, Nat.le_of_ble_eq_true rfl⟩ ⟨Nat.zero_le _, Nat.zero_le _⟩ (fun r37 H14 locs hp14 hT14 hS14 hk14 => ?_)
              obtain ⟨hp14, he⟩ := hp14
              have he := he.symm
              subst he
              have hp14 : r37 = 7 := hp14
              subst hp14
              refine lv_icmp_ge (tgt := 60) hx hb dX4_isWord_28 (by decide) (fun h => absurd h (by decide)) (fun _ => ?_)
              refine lv_aload_n hx hb dX4_isWord_31 rfl (lv_at hl 1 rfl) ?_
              refine h_getr (C := RX4) (T := TX4) (N := 13) hx hb hts inX4 hown hK hT0 (hE.o rfl) rfl 0 rfl wF_X4_46 rfl dX4_isWord_32 ?_
              refine lv_aload_n hx hb dX4_isWord_35 rfl (lv_at hl 1 rfl) ?_
              refine h_geti (C := RX4) (T := TX4) (N := 13) hx hb hts inX4 hown hK hT0 (hE.o rfl) rfl 7 rfl wF_X4_28 rfl dX4_isWord_36 (fun p39 => ?_)
              refine h_top (v := x11) ex11.symm ?_
              refine lv_iload_n hx hb dX4_isWord_39 rfl (lv_at hl 0 rfl) ?_
              refine lv_iadd hx hb dX4_isWord_40 ?_
              refine lv_topi (fun x40 ex40 => ?_)
              refine h_callVi (T := TX8) (rest := []) (As := [.int x40]) hx hb hml hown hts hK hT0 hZ (fun _ h => h) hS14 (c_X8_byteAt l G Y P (tp) hP x40) trivial wd_X8_byteAt wV_X8_byteAt wL_X4_163 (hP.o rfl) rfl rfl hl.1 rfl (Nat.le_of_ble_eq_true rfl) dX4_isWord_41 ⟨Nat.le_of_ble_eq_true rfl, Nat.le_of_ble_eq_true rfl⟩ ⟨Nat.zero_le _, Nat.zero_le _⟩ (fun r41 H15 locs hp15 hT15 hS15 hk15 => ?_)
              obtain ⟨hp15, he⟩ := hp15
              have he := he.symm
              subst he
              refine lv_aload_n hx hb dX4_isWord_44 rfl (lv_at hl 2 rfl) ?_
              refine lv_iload_n hx hb dX4_isWord_45 rfl (lv_at hl 0 rfl) ?_
              refine h_callWi (rest := [.int r41]) (As := [.int 4]) hx hb hml hown hts hK hT0 hZ (fun _ h => h) hS15 (c_char0 l G Y 4 (by decide) (by decide)) trivial wd_J0_charAt_5068e wV_J0_charAt_5068e wL_X4_186 (vk_recv hZ.1 (i := 0) (by decide) hS15) rfl hl.1 rfl (Nat.le_of_ble_eq_true rfl) dX4_isWord_46 ⟨Nat.le_of_ble_eq_true rfl, Nat.le_of_ble_eq_true rfl⟩ ⟨Nat.zero_le _, Nat.zero_le _⟩ (fun r42 H16 locs hp16 hT16 hS16 hk16 => ?_)
              obtain ⟨hp16, he⟩ := hp16
              have he := he.symm
              subst he
              have hp16 : r42 = 105 := hp16.trans (by decide)
              subst hp16
              refine lv_icmp_eq (tgt := 54) hx hb dX4_isWord_49 (by decide) (fun c43 => ?_) (fun c43 => ?_)
              · skip
                refine lv_iinc (v := 5) (lv' := [(2, .int 5), (0, .ref (re)), (1, .ref (G.2.2.1 0))]) hx hb dX4_isWord_54 hl (k := 0) rfl (by decide) (by decide) rfl (fun ls hl => ?_)
                refine lv_goto (tgt := 23) hx hb dX4_isWord_57 (by decide) ?_
                refine lv_iload_n hx hb dX4_isWord_23 rfl (lv_at hl 0 rfl) ?_
                refine lv_aload_n hx hb dX4_isWord_24 rfl (lv_at hl 2 rfl) ?_
                refine h_callWi (rest := [.int 5]) (As := []) hx hb hml hown hts hK hT0 hZ (fun _ h => h) hS16 (c_length0 l G Y) trivial wd_J0_length_8abf5 wV_J0_length_8abf5 wL_X4_181 (vk_recv hZ.1 (i := 0) (by decide) hS16) rfl hl.1 rfl (Nat.le_of_ble_eq_true rfl) dX4_isWord_25 ⟨Nat.le_of_ble_eq_true rfl, Nat.le_of_ble_eq_true rfl⟩ ⟨Nat.zero_le _, Nat.zero_le _⟩ (fun r44 H17 locs hp17 hT17 hS17 hk17 => ?_)
                obtain ⟨hp17, he⟩ := hp17
                have he := he.symm
                subst he
                have hp17 : r44 = 7 := hp17
                subst hp17
                refine lv_icmp_ge (tgt := 60) hx hb dX4_isWord_28 (by decide) (fun h => absurd h (by decide)) (fun _ => ?_)
                refine lv_aload_n hx hb dX4_isWord_31 rfl (lv_at hl 1 rfl) ?_
                refine h_getr (C := RX4) (T := TX4) (N := 13) hx hb hts inX4 hown hK hT0 (hE.o rfl) rfl 0 rfl wF_X4_46 rfl dX4_isWord_32 ?_
                refine lv_aload_n hx hb dX4_isWord_35 rfl (lv_at hl 1 rfl) ?_
                refine h_geti (C := RX4) (T := TX4) (N := 13) hx hb hts inX4 hown hK hT0 (hE.o rfl) rfl 7 rfl wF_X4_28 rfl dX4_isWord_36 (fun p46 => ?_)
                refine h_top (v := x11) ex11.symm ?_
                refine lv_iload_n hx hb dX4_isWord_39 rfl (lv_at hl 0 rfl) ?_
                refine lv_iadd hx hb dX4_isWord_40 ?_
                refine lv_topi (fun x47 ex47 => ?_)
                refine h_callVi (T := TX8) (rest := []) (As := [.int x47]) hx hb hml hown hts hK hT0 hZ (fun _ h => h) hS17 (c_X8_byteAt l G Y P (tp) hP x47) trivial wd_X8_byteAt wV_X8_byteAt wL_X4_163 (hP.o rfl) rfl rfl hl.1 rfl (Nat.le_of_ble_eq_true rfl) dX4_isWord_41 ⟨Nat.le_of_ble_eq_true rfl, Nat.le_of_ble_eq_true rfl⟩ ⟨Nat.zero_le _, Nat.zero_le _⟩ (fun r48 H18 locs hp18 hT18 hS18 hk18 => ?_)
                obtain ⟨hp18, he⟩ := hp18
                have he := he.symm
                subst he
                refine lv_aload_n hx hb dX4_isWord_44 rfl (lv_at hl 2 rfl) ?_
                refine lv_iload_n hx hb dX4_isWord_45 rfl (lv_at hl 0 rfl) ?_
                refine h_callWi (rest := [.int r48]) (As := [.int 5]) hx hb hml hown hts hK hT0 hZ (fun _ h => h) hS18 (c_char0 l G Y 5 (by decide) (by decide)) trivial wd_J0_charAt_5068e wV_J0_charAt_5068e wL_X4_186 (vk_recv hZ.1 (i := 0) (by decide) hS18) rfl hl.1 rfl (Nat.le_of_ble_eq_true rfl) dX4_isWord_46 ⟨Nat.le_of_ble_eq_true rfl, Nat.le_of_ble_eq_true rfl⟩ ⟨Nat.zero_le _, Nat.zero_le _⟩ (fun r49 H19 locs hp19 hT19 hS19 hk19 => ?_)
                obtain ⟨hp19, he⟩ := hp19
                have he := he.symm
                subst he
                have hp19 : r49 = 111 := hp19.trans (by decide)
                subst hp19
                refine lv_icmp_eq (tgt := 54) hx hb dX4_isWord_49 (by decide) (fun c50 => ?_) (fun c50 => ?_)
                · skip
                  refine lv_iinc (v := 6) (lv' := [(2, .int 6), (0, .ref (re)), (1, .ref (G.2.2.1 0))]) hx hb dX4_isWord_54 hl (k := 0) rfl (by decide) (by decide) rfl (fun ls hl => ?_)
                  refine lv_goto (tgt := 23) hx hb dX4_isWord_57 (by decide) ?_
                  refine lv_iload_n hx hb dX4_isWord_23 rfl (lv_at hl 0 rfl) ?_
                  refine lv_aload_n hx hb dX4_isWord_24 rfl (lv_at hl 2 rfl) ?_
                  refine h_callWi (rest := [.int 6]) (As := []) hx hb hml hown hts hK hT0 hZ (fun _ h => h) hS19 (c_length0 l G Y) trivial wd_J0_length_8abf5 wV_J0_length_8abf5 wL_X4_181 (vk_recv hZ.1 (i := 0) (by decide) hS19) rfl hl.1 rfl (Nat.le_of_ble_eq_true rfl) dX4_isWord_25 ⟨Nat.le_of_ble_eq_true rfl, Nat.le_of_ble_eq_true rfl⟩ ⟨Nat.zero_le _, Nat.zero_le _⟩ (fun r51 H20 locs hp20 hT20 hS20 hk20 => ?_)
                  obtain ⟨hp20, he⟩ := hp20
                  have he := he.symm
                  subst he
                  have hp20 : r51 = 7 := hp20
                  subst hp20
                  refine lv_icmp_ge (tgt := 60) hx hb dX4_isWord_28 (by decide) (fun h => absurd h (by decide)) (fun _ => ?_)
                  refine lv_aload_n hx hb dX4_isWord_31 rfl (lv_at hl 1 rfl) ?_
                  refine h_getr (C := RX4) (T := TX4) (N := 13) hx hb hts inX4 hown hK hT0 (hE.o rfl) rfl 0 rfl wF_X4_46 rfl dX4_isWord_32 ?_
                  refine lv_aload_n hx hb dX4_isWord_35 rfl (lv_at hl 1 rfl) ?_
                  refine h_geti (C := RX4) (T := TX4) (N := 13) hx hb hts inX4 hown hK hT0 (hE.o rfl) rfl 7 rfl wF_X4_28 rfl dX4_isWord_36 (fun p53 => ?_)
                  refine h_top (v := x11) ex11.symm ?_
                  refine lv_iload_n hx hb dX4_isWord_39 rfl (lv_at hl 0 rfl) ?_
                  refine lv_iadd hx hb dX4_isWord_40 ?_
                  refine lv_topi (fun x54 ex54 => ?_)
                  refine h_callVi (T := TX8) (rest := []) (As := [.int x54]) hx hb hml hown hts hK hT0 hZ (fun _ h => h) hS20 (c_X8_byteAt l G Y P (tp) hP x54) trivial wd_X8_byteAt wV_X8_byteAt wL_X4_163 (hP.o rfl) rfl rfl hl.1 rfl (Nat.le_of_ble_eq_true rfl) dX4_isWord_41 ⟨Nat.le_of_ble_eq_true rfl, Nat.le_of_ble_eq_true rfl⟩ ⟨Nat.zero_le _, Nat.zero_le _⟩ (fun r55 H21 locs hp21 hT21 hS21 hk21 => ?_)
                  obtain ⟨hp21, he⟩ := hp21
                  have he := he.symm
                  subst he
                  refine lv_aload_n hx hb dX4_isWord_44 rfl (lv_at hl 2 rfl) ?_
                  refine lv_iload_n hx hb dX4_isWord_45 rfl (lv_at hl 0 rfl) ?_
                  refine h_callWi (rest := [.int r55]) (As := [.int 6]) hx hb hml hown hts hK hT0 hZ (fun _ h => h) hS21 (c_char0 l G Y 6 (by decide) (by decide)) trivial wd_J0_charAt_5068e wV_J0_charAt_5068e wL_X4_186 (vk_recv hZ.1 (i := 0) (by decide) hS21) rfl hl.1 rfl (Nat.le_of_ble_eq_true rfl) dX4_isWord_46 ⟨Nat.le_of_ble_eq_true rfl, Nat.le_of_ble_eq_true rfl⟩ ⟨Nat.zero_le _, Nat.zero_le _⟩ (fun r56 H22 locs hp22 hT22 hS22 hk22 => ?_)
                  obtain ⟨hp22, he⟩ := hp22
                  have he := he.symm
                  subst he
                  have hp22 : r56 = 110 := hp22.trans (by decide)
                  subst hp22
                  refine lv_icmp_eq (tgt := 54) hx hb dX4_isWord_49 (by decide) (fun c57 => ?_) (fun c57 => ?_)
                  · skip
                    refine lv_iinc (v := 7) (lv' := [(2, .int 7), (0, .ref (re)), (1, .ref (G.2.2.1 0))]) hx hb dX4_isWord_54 hl (k := 0) rfl (by decide) (by decide) rfl (fun ls hl => ?_)
                    refine lv_goto (tgt := 23) hx hb dX4_isWord_57 (by decide) ?_
                    refine lv_iload_n hx hb dX4_isWord_23 rfl (lv_at hl 0 rfl) ?_
                    refine lv_aload_n hx hb dX4_isWord_24 rfl (lv_at hl 2 rfl) ?_
                    refine h_callWi (rest := [.int 7]) (As := []) hx hb hml hown hts hK hT0 hZ (fun _ h => h) hS22 (c_length0 l G Y) trivial wd_J0_length_8abf5 wV_J0_length_8abf5 wL_X4_181 (vk_recv hZ.1 (i := 0) (by decide) hS22) rfl hl.1 rfl (Nat.le_of_ble_eq_true rfl) dX4_isWord_25 ⟨Nat.le_of_ble_eq_true rfl, Nat.le_of_ble_eq_true rfl⟩ ⟨Nat.zero_le _, Nat.zero_le _⟩ (fun r58 H23 locs hp23 hT23 hS23 hk23 => ?_)
                    obtain ⟨hp23, he⟩ := hp23
                    have he := he.symm
                    subst he
                    have hp23 : r58 = 7 := hp23
                    subst hp23
                    refine lv_icmp_ge (tgt := 60) hx hb dX4_isWord_28 (by decide) (fun _ => ?_) (fun h => absurd (by decide) h)
                    refine lv_iconst (v := 1) hx hb dX4_isWord_60 (by decide) ?_
                    exact hret _ _ _ _ _ hT0 hS23 ⟨(by decide), ⟨(by decide), trivial⟩, rfl⟩ dX4_isWord_61
                  · skip
                    refine lv_iconst (v := 0) hx hb dX4_isWord_52 (by decide) ?_
                    exact hret _ _ _ _ _ hT0 hS22 ⟨(by decide), ⟨(by decide), trivial⟩, rfl⟩ dX4_isWord_53
                · skip
                  refine lv_iconst (v := 0) hx hb dX4_isWord_52 (by decide) ?_
                  exact hret _ _ _ _ _ hT0 hS19 ⟨(by decide), ⟨(by decide), trivial⟩, rfl⟩ dX4_isWord_53
              · skip
                refine lv_iconst (v := 0) hx hb dX4_isWord_52 (by decide) ?_
                exact hret _ _ _ _ _ hT0 hS16 ⟨(by decide), ⟨(by decide), trivial⟩, rfl⟩ dX4_isWord_53
            · skip
              refine lv_iconst (v := 0) hx hb dX4_isWord_52 (by decide) ?_
              exact hret _ _ _ _ _ hT0 hS13 ⟨(by decide), ⟨(by decide), trivial⟩, rfl⟩ dX4_isWord_53
          · skip
            refine lv_iconst (v := 0) hx hb dX4_isWord_52 (by decide) ?_
            exact hret _ _ _ _ _ hT0 hS10 ⟨(by decide), ⟨(by decide), trivial⟩, rfl⟩ dX4_isWord_53
        · skip
          refine lv_iconst (v := 0) hx hb dX4_isWord_52 (by decide) ?_
          exact hret _ _ _ _ _ hT0 hS7 ⟨(by decide), ⟨(by decide), trivial⟩, rfl⟩ dX4_isWord_53
      · skip
        refine lv_iconst (v := 0) hx hb dX4_isWord_52 (by decide) ?_
        exact hret _ _ _ _ _ hT0 hS4 ⟨(by decide), ⟨(by decide), trivial⟩, rfl⟩ dX4_isWord_53
    · skip
      refine lv_iconst (v := 0) hx hb dX4_isWord_19 (by decide) ?_
      exact hret _ _ _ _ _ hT0 hS1 ⟨(by decide), ⟨(by decide), trivial⟩, rfl⟩ dX4_isWord_20
set_option maxHeartbeats 4000000 in
set_option maxRecDepth 100000 in
theorem c_isWord1 (l : Launch) (G : hG) (Y : hW) (P : Int32 → Prop) (re tp o : Nat) (hE : h_On Y re (reE (tC P) re tp o)) (hP : h_On Y tp (taE (tC P) tp)) (hY : h_On Y o (ringE (tC P) o)) : hMi l yX4_isWord cX4_isWord 3 (some .boolean) 4 85 G Y [.ref (re), .ref (G.2.2.1 1)] (fun H => True) (fun H r H1 => ((r = 0 ∨ r = 1) ∧ True) ∧ H1 = H) := by
  refine h_ofz (by decide +kernel) (Nat.le_of_ble_eq_true rfl) ?_
  intro p e s m args below meth c H0 ls Q hx hb hts hown hml hK hZ hT0 hpr hS0 hl hret
  have hl : lv_has ls 3 [(0, .ref (re)), (1, .ref (G.2.2.1 1))] := hl
  refine lv_aload_n hx hb dX4_isWord_0 rfl (lv_at hl 0 rfl) ?_
  refine h_geti (C := RX4) (T := TX4) (N := 13) hx hb hts inX4 hown hK hT0 (hE.o rfl) rfl 6 rfl wF_X4_25 rfl dX4_isWord_1 (fun p1 => ?_)
  refine lv_topi (fun x2 ex2 => ?_)
  refine lv_iconst (v := 1) hx hb dX4_isWord_4 (by decide) ?_
  refine lv_icmp_ne (tgt := 19) hx hb dX4_isWord_5 (by decide) (fun c3 => ?_) (fun c3 => ?_)
  · skip
    refine lv_iconst (v := 0) hx hb dX4_isWord_19 (by decide) ?_
    exact hret _ _ _ _ _ hT0 hS0 ⟨(by decide), ⟨(by decide), trivial⟩, rfl⟩ dX4_isWord_20
  · skip
    refine lv_aload_n hx hb dX4_isWord_8 rfl (lv_at hl 0 rfl) ?_
    refine h_geti (C := RX4) (T := TX4) (N := 13) hx hb hts inX4 hown hK hT0 (hE.o rfl) rfl 8 rfl wF_X4_31 rfl dX4_isWord_9 (fun p4 => ?_)
    refine lv_topi (fun x5 ex5 => ?_)
    refine lv_aload_n hx hb dX4_isWord_12 rfl (lv_at hl 1 rfl) ?_
    refine h_callWi (rest := [.int x5]) (As := []) hx hb hml hown hts hK hT0 hZ (fun _ h => h) hS0 (c_length1 l G Y) trivial wd_J0_length_8abf5 wV_J0_length_8abf5 wL_X4_181 (vk_recv hZ.1 (i := 1) (by decide) hS0) rfl hl.1 rfl (Nat.le_of_ble_eq_true rfl) dX4_isWord_13 ⟨Nat.le_of_ble_eq_true rfl, Nat.le_of_ble_eq_true rfl⟩ ⟨Nat.zero_le _, Nat.zero_le _⟩ (fun r6 H1 locs hp1 hT1 hS1 hk1 => ?_)
    obtain ⟨hp1, he⟩ := hp1
    have he := he.symm
    subst he
    have hp1 : r6 = 3 := hp1
    subst hp1
    refine lv_icmp_eq (tgt := 21) hx hb dX4_isWord_16 (by decide) (fun c7 => ?_) (fun c7 => ?_)
    · skip
      refine lv_iconst (v := 0) hx hb dX4_isWord_21 (by decide) ?_
      refine lv_istore_n (lv' := [(2, .int 0), (0, .ref (re)), (1, .ref (G.2.2.1 1))]) hx hb dX4_isWord_22 rfl hl (by decide) rfl (fun ls hl => ?_)
      refine lv_iload_n hx hb dX4_isWord_23 rfl (lv_at hl 0 rfl) ?_
      refine lv_aload_n hx hb dX4_isWord_24 rfl (lv_at hl 2 rfl) ?_
      refine h_callWi (rest := [.int 0]) (As := []) hx hb hml hown hts hK hT0 hZ (fun _ h => h) hS1 (c_length1 l G Y) trivial wd_J0_length_8abf5 wV_J0_length_8abf5 wL_X4_181 (vk_recv hZ.1 (i := 1) (by decide) hS1) rfl hl.1 rfl (Nat.le_of_ble_eq_true rfl) dX4_isWord_25 ⟨Nat.le_of_ble_eq_true rfl, Nat.le_of_ble_eq_true rfl⟩ ⟨Nat.zero_le _, Nat.zero_le _⟩ (fun r8 H2 locs hp2 hT2 hS2 hk2 => ?_)
      obtain ⟨hp2, he⟩ := hp2
      have he := he.symm
      subst he
      have hp2 : r8 = 3 := hp2
      subst hp2
      refine lv_icmp_ge (tgt := 60) hx hb dX4_isWord_28 (by decide) (fun h => absurd h (by decide)) (fun _ => ?_)
      refine lv_aload_n hx hb dX4_isWord_31 rfl (lv_at hl 1 rfl) ?_
      refine h_getr (C := RX4) (T := TX4) (N := 13) hx hb hts inX4 hown hK hT0 (hE.o rfl) rfl 0 rfl wF_X4_46 rfl dX4_isWord_32 ?_
      refine lv_aload_n hx hb dX4_isWord_35 rfl (lv_at hl 1 rfl) ?_
      refine h_geti (C := RX4) (T := TX4) (N := 13) hx hb hts inX4 hown hK hT0 (hE.o rfl) rfl 7 rfl wF_X4_28 rfl dX4_isWord_36 (fun p10 => ?_)
      refine lv_topi (fun x11 ex11 => ?_)
      refine lv_iload_n hx hb dX4_isWord_39 rfl (lv_at hl 0 rfl) ?_
      refine lv_iadd hx hb dX4_isWord_40 ?_
      refine lv_topi (fun x12 ex12 => ?_)
      refine h_callVi (T := TX8) (rest := []) (As := [.int x12]) hx hb hml hown hts hK hT0 hZ (fun _ h => h) hS2 (c_X8_byteAt l G Y P (tp) hP x12) trivial wd_X8_byteAt wV_X8_byteAt wL_X4_163 (hP.o rfl) rfl rfl hl.1 rfl (Nat.le_of_ble_eq_true rfl) dX4_isWord_41 ⟨Nat.le_of_ble_eq_true rfl, Nat.le_of_ble_eq_true rfl⟩ ⟨Nat.zero_le _, Nat.zero_le _⟩ (fun r13 H3 locs hp3 hT3 hS3 hk3 => ?_)
      obtain ⟨hp3, he⟩ := hp3
      have he := he.symm
      subst he
      refine lv_aload_n hx hb dX4_isWord_44 rfl (lv_at hl 2 rfl) ?_
      refine lv_iload_n hx hb dX4_isWord_45 rfl (lv_at hl 0 rfl) ?_
      refine h_callWi (rest := [.int r13]) (As := [.int 0]) hx hb hml hown hts hK hT0 hZ (fun _ h => h) hS3 (c_char1 l G Y 0 (by decide) (by decide)) trivial wd_J0_charAt_5068e wV_J0_charAt_5068e wL_X4_186 (vk_recv hZ.1 (i := 1) (by decide) hS3) rfl hl.1 rfl (Nat.le_of_ble_eq_true rfl) dX4_isWord_46 ⟨Nat.le_of_ble_eq_true rfl, Nat.le_of_ble_eq_true rfl⟩ ⟨Nat.zero_le _, Nat.zero_le _⟩ (fun r14 H4 locs hp4 hT4 hS4 hk4 => ?_)
      obtain ⟨hp4, he⟩ := hp4
      have he := he.symm
      subst he
      have hp4 : r14 = 111 := hp4.trans (by decide)
      subst hp4
      refine lv_icmp_eq (tgt := 54) hx hb dX4_isWord_49 (by decide) (fun c15 => ?_) (fun c15 => ?_)
      · skip
        refine lv_iinc (v := 1) (lv' := [(2, .int 1), (0, .ref (re)), (1, .ref (G.2.2.1 1))]) hx hb dX4_isWord_54 hl (k := 0) rfl (by decide) (by decide) rfl (fun ls hl => ?_)
        refine lv_goto (tgt := 23) hx hb dX4_isWord_57 (by decide) ?_
        refine lv_iload_n hx hb dX4_isWord_23 rfl (lv_at hl 0 rfl) ?_
        refine lv_aload_n hx hb dX4_isWord_24 rfl (lv_at hl 2 rfl) ?_
        refine h_callWi (rest := [.int 1]) (As := []) hx hb hml hown hts hK hT0 hZ (fun _ h => h) hS4 (c_length1 l G Y) trivial wd_J0_length_8abf5 wV_J0_length_8abf5 wL_X4_181 (vk_recv hZ.1 (i := 1) (by decide) hS4) rfl hl.1 rfl (Nat.le_of_ble_eq_true rfl) dX4_isWord_25 ⟨Nat.le_of_ble_eq_true rfl, Nat.le_of_ble_eq_true rfl⟩ ⟨Nat.zero_le _, Nat.zero_le _⟩ (fun r16 H5 locs hp5 hT5 hS5 hk5 => ?_)
        obtain ⟨hp5, he⟩ := hp5
        have he := he.symm
        subst he
        have hp5 : r16 = 3 := hp5
        subst hp5
        refine lv_icmp_ge (tgt := 60) hx hb dX4_isWord_28 (by decide) (fun h => absurd h (by decide)) (fun _ => ?_)
        refine lv_aload_n hx hb dX4_isWord_31 rfl (lv_at hl 1 rfl) ?_
        refine h_getr (C := RX4) (T := TX4) (N := 13) hx hb hts inX4 hown hK hT0 (hE.o rfl) rfl 0 rfl wF_X4_46 rfl dX4_isWord_32 ?_
        refine lv_aload_n hx hb dX4_isWord_35 rfl (lv_at hl 1 rfl) ?_
        refine h_geti (C := RX4) (T := TX4) (N := 13) hx hb hts inX4 hown hK hT0 (hE.o rfl) rfl 7 rfl wF_X4_28 rfl dX4_isWord_36 (fun p18 => ?_)
        refine h_top (v := x11) ex11.symm ?_
        refine lv_iload_n hx hb dX4_isWord_39 rfl (lv_at hl 0 rfl) ?_
        refine lv_iadd hx hb dX4_isWord_40 ?_
        refine lv_topi (fun x19 ex19 => ?_)
        refine h_callVi (T := TX8) (rest := []) (As := [.int x19]) hx hb hml hown hts hK hT0 hZ (fun _ h => h) hS5 (c_X8_byteAt l G Y P (tp) hP x19) trivial wd_X8_byteAt wV_X8_byteAt wL_X4_163 (hP.o rfl) rfl rfl hl.1 rfl (Nat.le_of_ble_eq_true rfl) dX4_isWord_41 ⟨Nat.le_of_ble_eq_true rfl, Nat.le_of_ble_eq_true rfl⟩ ⟨Nat.zero_le _, Nat.zero_le _⟩ (fun r20 H6 locs hp6 hT6 hS6 hk6 => ?_)
        obtain ⟨hp6, he⟩ := hp6
        have he := he.symm
        subst he
        refine lv_aload_n hx hb dX4_isWord_44 rfl (lv_at hl 2 rfl) ?_
        refine lv_iload_n hx hb dX4_isWord_45 rfl (lv_at hl 0 rfl) ?_
        refine h_callWi (rest := [.int r20]) (As := [.int 1]) hx hb hml hown hts hK hT0 hZ (fun _ h => h) hS6 (c_char1 l G Y 1 (by decide) (by decide)) trivial wd_J0_charAt_5068e wV_J0_charAt_5068e wL_X4_186 (vk_recv hZ.1 (i := 1) (by decide) hS6) rfl hl.1 rfl (Nat.le_of_ble_eq_true rfl) dX4_isWord_46 ⟨Nat.le_of_ble_eq_true rfl, Nat.le_of_ble_eq_true rfl⟩ ⟨Nat.zero_le _, Nat.zero_le _⟩ (fun r21 H7 locs hp7 hT7 hS7 hk7 => ?_)
        obtain ⟨hp7, he⟩ := hp7
        have he := he.symm
        subst he
        have hp7 : r21 = 102 := hp7.trans (by decide)
        subst hp7
        refine lv_icmp_eq (tgt := 54) hx hb dX4_isWord_49 (by decide) (fun c22 => ?_) (fun c22 => ?_)
        · skip
          refine lv_iinc (v := 2) (lv' := [(2, .int 2), (0, .ref (re)), (1, .ref (G.2.2.1 1))]) hx hb dX4_isWord_54 hl (k := 0) rfl (by decide) (by decide) rfl (fun ls hl => ?_)
          refine lv_goto (tgt := 23) hx hb dX4_isWord_57 (by decide) ?_
          refine lv_iload_n hx hb dX4_isWord_23 rfl (lv_at hl 0 rfl) ?_
          refine lv_aload_n hx hb dX4_isWord_24 rfl (lv_at hl 2 rfl) ?_
          refine h_callWi (rest := [.int 2]) (As := []) hx hb hml hown hts hK hT0 hZ (fun _ h => h) hS7 (c_length1 l G Y) trivial wd_J0_length_8abf5 wV_J0_length_8abf5 wL_X4_181 (vk_recv hZ.1 (i := 1) (by decide) hS7) rfl hl.1 rfl (Nat.le_of_ble_eq_true rfl) dX4_isWord_25 ⟨Nat.le_of_ble_eq_true rfl, Nat.le_of_ble_eq_true rfl⟩ ⟨Nat.zero_le _, Nat.zero_le _⟩ (fun r23 H8 locs hp8 hT8 hS8 hk8 => ?_)
          obtain ⟨hp8, he⟩ := hp8
          have he := he.symm
          subst he
          have hp8 : r23 = 3 := hp8
          subst hp8
          refine lv_icmp_ge (tgt := 60) hx hb dX4_isWord_28 (by decide) (fun h => absurd h (by decide)) (fun _ => ?_)
          refine lv_aload_n hx hb dX4_isWord_31 rfl (lv_at hl 1 rfl) ?_
          refine h_getr (C := RX4) (T := TX4) (N := 13) hx hb hts inX4 hown hK hT0 (hE.o rfl) rfl 0 rfl wF_X4_46 rfl dX4_isWord_32 ?_
          refine lv_aload_n hx hb dX4_isWord_35 rfl (lv_at hl 1 rfl) ?_
          refine h_geti (C := RX4) (T := TX4) (N := 13) hx hb hts inX4 hown hK hT0 (hE.o rfl) rfl 7 rfl wF_X4_28 rfl dX4_isWord_36 (fun p25 => ?_)
          refine h_top (v := x11) ex11.symm ?_
          refine lv_iload_n hx hb dX4_isWord_39 rfl (lv_at hl 0 rfl) ?_
          refine lv_iadd hx hb dX4_isWord_40 ?_
          refine lv_topi (fun x26 ex26 => ?_)
          refine h_callVi (T := TX8) (rest := []) (As := [.int x26]) hx hb hml hown hts hK hT0 hZ (fun _ h => h) hS8 (c_X8_byteAt l G Y P (tp) hP x26) trivial wd_X8_byteAt wV_X8_byteAt wL_X4_163 (hP.o rfl) rfl rfl hl.1 rfl (Nat.le_of_ble_eq_true rfl) dX4_isWord_41 ⟨Nat.le_of_ble_eq_true rfl, Nat.le_of_ble_eq_true rfl⟩ ⟨Nat.zero_le _, Nat.zero_le _⟩ (fun r27 H9 locs hp9 hT9 hS9 hk9 => ?_)
          obtain ⟨hp9, he⟩ := hp9
          have he := he.symm
          subst he
          refine lv_aload_n hx hb dX4_isWord_44 rfl (lv_at hl 2 rfl) ?_
          refine lv_iload_n hx hb dX4_isWord_45 rfl (lv_at hl 0 rfl) ?_
          refine h_callWi (rest := [.int r27]) (As := [.int 2]) hx hb hml hown hts hK hT0 hZ (fun _ h => h) hS9 (c_char1 l G Y 2 (by decide) (by decide)) trivial wd_J0_charAt_5068e wV_J0_charAt_5068e wL_X4_186 (vk_recv hZ.1 (i := 1) (by decide) hS9) rfl hl.1 rfl (Nat.le_of_ble_eq_true rfl) dX4_isWord_46 ⟨Nat.le_of_ble_eq_true rfl, Nat.le_of_ble_eq_true rfl⟩ ⟨Nat.zero_le _, Nat.zero_le _⟩ (fun r28 H10 locs hp10 hT10 hS10 hk10 => ?_)
          obtain ⟨hp10, he⟩ := hp10
          have he := he.symm
          subst he
          have hp10 : r28 = 102 := hp10.trans (by decide)
          subst hp10
          refine lv_icmp_eq (tgt := 54) hx hb dX4_isWord_49 (by decide) (fun c29 => ?_) (fun c29 => ?_)
          · skip
            refine lv_iinc (v := 3) (lv' := [(2, .int 3), (0, .ref (re)), (1, .ref (G.2.2.1 1))]) hx hb dX4_isWord_54 hl (k := 0) rfl (by decide) (by decide) rfl (fun ls hl => ?_)
            refine lv_goto (tgt := 23) hx hb dX4_isWord_57 (by decide) ?_
            refine lv_iload_n hx hb dX4_isWord_23 rfl (lv_at hl 0 rfl) ?_
            refine lv_aload_n hx hb dX4_isWord_24 rfl (lv_at hl 2 rfl) ?_
            refine h_callWi (rest := [.int 3]) (As := []) hx hb hml hown hts hK hT0 hZ (fun _ h => h) hS10 (c_length1 l G Y) trivial wd_J0_length_8abf5 wV_J0_length_8abf5 wL_X4_181 (vk_recv hZ.1 (i := 1) (by decide) hS10) rfl hl.1 rfl (Nat.le_of_ble_eq_true rfl) dX4_isWord_25 ⟨Nat.le_of_ble_eq_true rfl, Nat.le_of_ble_eq_true rfl⟩ ⟨Nat.zero_le _, Nat.zero_le _⟩ (fun r30 H11 locs hp11 hT11 hS11 hk11 => ?_)
            obtain ⟨hp11, he⟩ := hp11
            have he := he.symm
            subst he
            have hp11 : r30 = 3 := hp11
            subst hp11
            refine lv_icmp_ge (tgt := 60) hx hb dX4_isWord_28 (by decide) (fun _ => ?_) (fun h => absurd (by decide) h)
            refine lv_iconst (v := 1) hx hb dX4_isWord_60 (by decide) ?_
            exact hret _ _ _ _ _ hT0 hS11 ⟨(by decide), ⟨(by decide), trivial⟩, rfl⟩ dX4_isWord_61
          · skip
            refine lv_iconst (v := 0) hx hb dX4_isWord_52 (by decide) ?_
            exact hret _ _ _ _ _ hT0 hS10 ⟨(by decide), ⟨(by decide), trivial⟩, rfl⟩ dX4_isWord_53
        · skip
          refine lv_iconst (v := 0) hx hb dX4_isWord_52 (by decide) ?_
          exact hret _ _ _ _ _ hT0 hS7 ⟨(by decide), ⟨(by decide), trivial⟩, rfl⟩ dX4_isWord_53
      · skip
        refine lv_iconst (v := 0) hx hb dX4_isWord_52 (by decide) ?_
        exact hret _ _ _ _ _ hT0 hS4 ⟨(by decide), ⟨(by decide), trivial⟩, rfl⟩ dX4_isWord_53
    · skip
      refine lv_iconst (v := 0) hx hb dX4_isWord_19 (by decide) ?_
      exact hret _ _ _ _ _ hT0 hS1 ⟨(by decide), ⟨(by decide), trivial⟩, rfl⟩ dX4_isWord_20
set_option maxHeartbeats 4000000 in
set_option maxRecDepth 100000 in
theorem c_isWord2 (l : Launch) (G : hG) (Y : hW) (P : Int32 → Prop) (re tp o : Nat) (hE : h_On Y re (reE (tC P) re tp o)) (hP : h_On Y tp (taE (tC P) tp)) (hY : h_On Y o (ringE (tC P) o)) : hMi l yX4_isWord cX4_isWord 3 (some .boolean) 4 85 G Y [.ref (re), .ref (G.2.2.1 2)] (fun H => True) (fun H r H1 => ((r = 0 ∨ r = 1) ∧ True) ∧ H1 = H) := by
  refine h_ofz (by decide +kernel) (Nat.le_of_ble_eq_true rfl) ?_
  intro p e s m args below meth c H0 ls Q hx hb hts hown hml hK hZ hT0 hpr hS0 hl hret
  have hl : lv_has ls 3 [(0, .ref (re)), (1, .ref (G.2.2.1 2))] := hl
  refine lv_aload_n hx hb dX4_isWord_0 rfl (lv_at hl 0 rfl) ?_
  refine h_geti (C := RX4) (T := TX4) (N := 13) hx hb hts inX4 hown hK hT0 (hE.o rfl) rfl 6 rfl wF_X4_25 rfl dX4_isWord_1 (fun p1 => ?_)
  refine lv_topi (fun x2 ex2 => ?_)
  refine lv_iconst (v := 1) hx hb dX4_isWord_4 (by decide) ?_
  refine lv_icmp_ne (tgt := 19) hx hb dX4_isWord_5 (by decide) (fun c3 => ?_) (fun c3 => ?_)
  · skip
    refine lv_iconst (v := 0) hx hb dX4_isWord_19 (by decide) ?_
    exact hret _ _ _ _ _ hT0 hS0 ⟨(by decide), ⟨(by decide), trivial⟩, rfl⟩ dX4_isWord_20
  · skip
    refine lv_aload_n hx hb dX4_isWord_8 rfl (lv_at hl 0 rfl) ?_
    refine h_geti (C := RX4) (T := TX4) (N := 13) hx hb hts inX4 hown hK hT0 (hE.o rfl) rfl 8 rfl wF_X4_31 rfl dX4_isWord_9 (fun p4 => ?_)
    refine lv_topi (fun x5 ex5 => ?_)
    refine lv_aload_n hx hb dX4_isWord_12 rfl (lv_at hl 1 rfl) ?_
    refine h_callWi (rest := [.int x5]) (As := []) hx hb hml hown hts hK hT0 hZ (fun _ h => h) hS0 (c_length2 l G Y) trivial wd_J0_length_8abf5 wV_J0_length_8abf5 wL_X4_181 (vk_recv hZ.1 (i := 2) (by decide) hS0) rfl hl.1 rfl (Nat.le_of_ble_eq_true rfl) dX4_isWord_13 ⟨Nat.le_of_ble_eq_true rfl, Nat.le_of_ble_eq_true rfl⟩ ⟨Nat.zero_le _, Nat.zero_le _⟩ (fun r6 H1 locs hp1 hT1 hS1 hk1 => ?_)
    obtain ⟨hp1, he⟩ := hp1
    have he := he.symm
    subst he
    have hp1 : r6 = 7 := hp1
    subst hp1
    refine lv_icmp_eq (tgt := 21) hx hb dX4_isWord_16 (by decide) (fun c7 => ?_) (fun c7 => ?_)
    · skip
      refine lv_iconst (v := 0) hx hb dX4_isWord_21 (by decide) ?_
      refine lv_istore_n (lv' := [(2, .int 0), (0, .ref (re)), (1, .ref (G.2.2.1 2))]) hx hb dX4_isWord_22 rfl hl (by decide) rfl (fun ls hl => ?_)
      refine lv_iload_n hx hb dX4_isWord_23 rfl (lv_at hl 0 rfl) ?_
      refine lv_aload_n hx hb dX4_isWord_24 rfl (lv_at hl 2 rfl) ?_
      refine h_callWi (rest := [.int 0]) (As := []) hx hb hml hown hts hK hT0 hZ (fun _ h => h) hS1 (c_length2 l G Y) trivial wd_J0_length_8abf5 wV_J0_length_8abf5 wL_X4_181 (vk_recv hZ.1 (i := 2) (by decide) hS1) rfl hl.1 rfl (Nat.le_of_ble_eq_true rfl) dX4_isWord_25 ⟨Nat.le_of_ble_eq_true rfl, Nat.le_of_ble_eq_true rfl⟩ ⟨Nat.zero_le _, Nat.zero_le _⟩ (fun r8 H2 locs hp2 hT2 hS2 hk2 => ?_)
      obtain ⟨hp2, he⟩ := hp2
      have he := he.symm
      subst he
      have hp2 : r8 = 7 := hp2
      subst hp2
      refine lv_icmp_ge (tgt := 60) hx hb dX4_isWord_28 (by decide) (fun h => absurd h (by decide)) (fun _ => ?_)
      refine lv_aload_n hx hb dX4_isWord_31 rfl (lv_at hl 1 rfl) ?_
      refine h_getr (C := RX4) (T := TX4) (N := 13) hx hb hts inX4 hown hK hT0 (hE.o rfl) rfl 0 rfl wF_X4_46 rfl dX4_isWord_32 ?_
      refine lv_aload_n hx hb dX4_isWord_35 rfl (lv_at hl 1 rfl) ?_
      refine h_geti (C := RX4) (T := TX4) (N := 13) hx hb hts inX4 hown hK hT0 (hE.o rfl) rfl 7 rfl wF_X4_28 rfl dX4_isWord_36 (fun p10 => ?_)
      refine lv_topi (fun x11 ex11 => ?_)
      refine lv_iload_n hx hb dX4_isWord_39 rfl (lv_at hl 0 rfl) ?_
      refine lv_iadd hx hb dX4_isWord_40 ?_
      refine lv_topi (fun x12 ex12 => ?_)
      refine h_callVi (T := TX8) (rest := []) (As := [.int x12]) hx hb hml hown hts hK hT0 hZ (fun _ h => h) hS2 (c_X8_byteAt l G Y P (tp) hP x12) trivial wd_X8_byteAt wV_X8_byteAt wL_X4_163 (hP.o rfl) rfl rfl hl.1 rfl (Nat.le_of_ble_eq_true rfl) dX4_isWord_41 ⟨Nat.le_of_ble_eq_true rfl, Nat.le_of_ble_eq_true rfl⟩ ⟨Nat.zero_le _, Nat.zero_le _⟩ (fun r13 H3 locs hp3 hT3 hS3 hk3 => ?_)
      obtain ⟨hp3, he⟩ := hp3
      have he := he.symm
      subst he
      refine lv_aload_n hx hb dX4_isWord_44 rfl (lv_at hl 2 rfl) ?_
      refine lv_iload_n hx hb dX4_isWord_45 rfl (lv_at hl 0 rfl) ?_
      refine h_callWi (rest := [.int r13]) (As := [.int 0]) hx hb hml hown hts hK hT0 hZ (fun _ h => h) hS3 (c_char2 l G Y 0 (by decide) (by decide)) trivial wd_J0_charAt_5068e wV_J0_charAt_5068e wL_X4_186 (vk_recv hZ.1 (i := 2) (by decide) hS3) rfl hl.1 rfl (Nat.le_of_ble_eq_true rfl) dX4_isWord_46 ⟨Nat.le_of_ble_eq_true rfl, Nat.le_of_ble_eq_true rfl⟩ ⟨Nat.zero_le _, Nat.zero_le _⟩ (fun r14 H4 locs hp4 hT4 hS4 hk4 => ?_)
      obtain ⟨hp4, he⟩ := hp4
      have he := he.symm
      subst he
      have hp4 : r14 = 109 := hp4.trans (by decide)
      subst hp4
      refine lv_icmp_eq (tgt := 54) hx hb dX4_isWord_49 (by decide) (fun c15 => ?_) (fun c15 => ?_)
      · skip
        refine lv_iinc (v := 1) (lv' := [(2, .int 1), (0, .ref (re)), (1, .ref (G.2.2.1 2))]) hx hb dX4_isWord_54 hl (k := 0) rfl (by decide) (by decide) rfl (fun ls hl => ?_)
        refine lv_goto (tgt := 23) hx hb dX4_isWord_57 (by decide) ?_
        refine lv_iload_n hx hb dX4_isWord_23 rfl (lv_at hl 0 rfl) ?_
        refine lv_aload_n hx hb dX4_isWord_24 rfl (lv_at hl 2 rfl) ?_
        refine h_callWi (rest := [.int 1]) (As := []) hx hb hml hown hts hK hT0 hZ (fun _ h => h) hS4 (c_length2 l G Y) trivial wd_J0_length_8abf5 wV_J0_length_8abf5 wL_X4_181 (vk_recv hZ.1 (i := 2) (by decide) hS4) rfl hl.1 rfl (Nat.le_of_ble_eq_true rfl) dX4_isWord_25 ⟨Nat.le_of_ble_eq_true rfl, Nat.le_of_ble_eq_true rfl⟩ ⟨Nat.zero_le _, Nat.zero_le _⟩ (fun r16 H5 locs hp5 hT5 hS5 hk5 => ?_)
        obtain ⟨hp5, he⟩ := hp5
        have he := he.symm
        subst he
        have hp5 : r16 = 7 := hp5
        subst hp5
        refine lv_icmp_ge (tgt := 60) hx hb dX4_isWord_28 (by decide) (fun h => absurd h (by decide)) (fun _ => ?_)
        refine lv_aload_n hx hb dX4_isWord_31 rfl (lv_at hl 1 rfl) ?_
        refine h_getr (C := RX4) (T := TX4) (N := 13) hx hb hts inX4 hown hK hT0 (hE.o rfl) rfl 0 rfl wF_X4_46 rfl dX4_isWord_32 ?_
        refine lv_aload_n hx hb dX4_isWord_35 rfl (lv_at hl 1 rfl) ?_
        refine h_geti (C := RX4) (T := TX4) (N := 13) hx hb hts inX4 hown hK hT0 (hE.o rfl) rfl 7 rfl wF_X4_28 rfl dX4_isWord_36 (fun p18 => ?_)
        refine h_top (v := x11) ex11.symm ?_
        refine lv_iload_n hx hb dX4_isWord_39 rfl (lv_at hl 0 rfl) ?_
        refine lv_iadd hx hb dX4_isWord_40 ?_
        refine lv_topi (fun x19 ex19 => ?_)
        refine h_callVi (T := TX8) (rest := []) (As := [.int x19]) hx hb hml hown hts hK hT0 hZ (fun _ h => h) hS5 (c_X8_byteAt l G Y P (tp) hP x19) trivial wd_X8_byteAt wV_X8_byteAt wL_X4_163 (hP.o rfl) rfl rfl hl.1 rfl (Nat.le_of_ble_eq_true rfl) dX4_isWord_41 ⟨Nat.le_of_ble_eq_true rfl, Nat.le_of_ble_eq_true rfl⟩ ⟨Nat.zero_le _, Nat.zero_le _⟩ (fun r20 H6 locs hp6 hT6 hS6 hk6 => ?_)
        obtain ⟨hp6, he⟩ := hp6
        have he := he.symm
        subst he
        refine lv_aload_n hx hb dX4_isWord_44 rfl (lv_at hl 2 rfl) ?_
        refine lv_iload_n hx hb dX4_isWord_45 rfl (lv_at hl 0 rfl) ?_
        refine h_callWi (rest := [.int r20]) (As := [.int 1]) hx hb hml hown hts hK hT0 hZ (fun _ h => h) hS6 (c_char2 l G Y 1 (by decide) (by decide)) trivial wd_J0_charAt_5068e wV_J0_charAt_5068e wL_X4_186 (vk_recv hZ.1 (i := 2) (by decide) hS6) rfl hl.1 rfl (Nat.le_of_ble_eq_true rfl) dX4_isWord_46 ⟨Nat.le_of_ble_eq_true rfl, Nat.le_of_ble_eq_true rfl⟩ ⟨Nat.zero_le _, Nat.zero_le _⟩ (fun r21 H7 locs hp7 hT7 hS7 hk7 => ?_)
        obtain ⟨hp7, he⟩ := hp7
        have he := he.symm
        subst he
        have hp7 : r21 = 111 := hp7.trans (by decide)
        subst hp7
        refine lv_icmp_eq (tgt := 54) hx hb dX4_isWord_49 (by decide) (fun c22 => ?_) (fun c22 => ?_)
        · skip
          refine lv_iinc (v := 2) (lv' := [(2, .int 2), (0, .ref (re)), (1, .ref (G.2.2.1 2))]) hx hb dX4_isWord_54 hl (k := 0) rfl (by decide) (by decide) rfl (fun ls hl => ?_)
          refine lv_goto (tgt := 23) hx hb dX4_isWord_57 (by decide) ?_
          refine lv_iload_n hx hb dX4_isWord_23 rfl (lv_at hl 0 rfl) ?_
          refine lv_aload_n hx hb dX4_isWord_24 rfl (lv_at hl 2 rfl) ?_
          refine h_callWi (rest := [.int 2]) (As := []) hx hb hml hown hts hK hT0 hZ (fun _ h => h) hS7 (c_length2 l G Y) trivial wd_J0_length_8abf5 wV_J0_length_8abf5 wL_X4_181 (vk_recv hZ.1 (i := 2) (by decide) hS7) rfl hl.1 rfl (Nat.le_of_ble_eq_true rfl) dX4_isWord_25 ⟨Nat.le_of_ble_eq_true rfl, Nat.le_of_ble_eq_true rfl⟩ ⟨Nat.zero_le _, Nat.zero_le _⟩ (fun r23 H8 locs hp8 hT8 hS8 hk8 => ?_)
          obtain ⟨hp8, he⟩ := hp8
          have he := he.symm
          subst he
          have hp8 : r23 = 7 := hp8
          subst hp8
          refine lv_icmp_ge (tgt := 60) hx hb dX4_isWord_28 (by decide) (fun h => absurd h (by decide)) (fun _ => ?_)
          refine lv_aload_n hx hb dX4_isWord_31 rfl (lv_at hl 1 rfl) ?_
          refine h_getr (C := RX4) (T := TX4) (N := 13) hx hb hts inX4 hown hK hT0 (hE.o rfl) rfl 0 rfl wF_X4_46 rfl dX4_isWord_32 ?_
          refine lv_aload_n hx hb dX4_isWord_35 rfl (lv_at hl 1 rfl) ?_
          refine h_geti (C := RX4) (T := TX4) (N := 13) hx hb hts inX4 hown hK hT0 (hE.o rfl) rfl 7 rfl wF_X4_28 rfl dX4_isWord_36 (fun p25 => ?_)
          refine h_top (v := x11) ex11.symm ?_
          refine lv_iload_n hx hb dX4_isWord_39 rfl (lv_at hl 0 rfl) ?_
          refine lv_iadd hx hb dX4_isWord_40 ?_
          refine lv_topi (fun x26 ex26 => ?_)
          refine h_callVi (T := TX8) (rest := []) (As := [.int x26]) hx hb hml hown hts hK hT0 hZ (fun _ h => h) hS8 (c_X8_byteAt l G Y P (tp) hP x26) trivial wd_X8_byteAt wV_X8_byteAt wL_X4_163 (hP.o rfl) rfl rfl hl.1 rfl (Nat.le_of_ble_eq_true rfl) dX4_isWord_41 ⟨Nat.le_of_ble_eq_true rfl, Nat.le_of_ble_eq_true rfl⟩ ⟨Nat.zero_le _, Nat.zero_le _⟩ (fun r27 H9 locs hp9 hT9 hS9 hk9 => ?_)
          obtain ⟨hp9, he⟩ := hp9
          have he := he.symm
          subst he
          refine lv_aload_n hx hb dX4_isWord_44 rfl (lv_at hl 2 rfl) ?_
          refine lv_iload_n hx hb dX4_isWord_45 rfl (lv_at hl 0 rfl) ?_
          refine h_callWi (rest := [.int r27]) (As := [.int 2]) hx hb hml hown hts hK hT0 hZ (fun _ h => h) hS9 (c_char2 l G Y 2 (by decide) (by decide)) trivial wd_J0_charAt_5068e wV_J0_charAt_5068e wL_X4_186 (vk_recv hZ.1 (i := 2) (by decide) hS9) rfl hl.1 rfl (Nat.le_of_ble_eq_true rfl) dX4_isWord_46 ⟨Nat.le_of_ble_eq_true rfl, Nat.le_of_ble_eq_true rfl⟩ ⟨Nat.zero_le _, Nat.zero_le _⟩ (fun r28 H10 locs hp10 hT10 hS10 hk10 => ?_)
          obtain ⟨hp10, he⟩ := hp10
          have he := he.symm
          subst he
          have hp10 : r28 = 110 := hp10.trans (by decide)
          subst hp10
          refine lv_icmp_eq (tgt := 54) hx hb dX4_isWord_49 (by decide) (fun c29 => ?_) (fun c29 => ?_)
          · skip
            refine lv_iinc (v := 3) (lv' := [(2, .int 3), (0, .ref (re)), (1, .ref (G.2.2.1 2))]) hx hb dX4_isWord_54 hl (k := 0) rfl (by decide) (by decide) rfl (fun ls hl => ?_)
            refine lv_goto (tgt := 23) hx hb dX4_isWord_57 (by decide) ?_
            refine lv_iload_n hx hb dX4_isWord_23 rfl (lv_at hl 0 rfl) ?_
            refine lv_aload_n hx hb dX4_isWord_24 rfl (lv_at hl 2 rfl) ?_
            refine h_callWi (rest := [.int 3]) (As := []) hx hb hml hown hts hK hT0 hZ (fun _ h => h) hS10 (c_length2 l G Y) trivial wd_J0_length_8abf5 wV_J0_length_8abf5 wL_X4_181 (vk_recv hZ.1 (i := 2) (by decide) hS10) rfl hl.1 rfl (Nat.le_of_ble_eq_true rfl) dX4_isWord_25 ⟨Nat.le_of_ble_eq_true rfl, Nat.le_of_ble_eq_true rfl⟩ ⟨Nat.zero_le _, Nat.zero_le _⟩ (fun r30 H11 locs hp11 hT11 hS11 hk11 => ?_)
            obtain ⟨hp11, he⟩ := hp11
            have he := he.symm
            subst he
            have hp11 : r30 = 7 := hp11
            subst hp11
            refine lv_icmp_ge (tgt := 60) hx hb dX4_isWord_28 (by decide) (fun h => absurd h (by decide)) (fun _ => ?_)
            refine lv_aload_n hx hb dX4_isWord_31 rfl (lv_at hl 1 rfl) ?_
            refine h_getr (C := RX4) (T := TX4) (N := 13) hx hb hts inX4 hown hK hT0 (hE.o rfl) rfl 0 rfl wF_X4_46 rfl dX4_isWord_32 ?_
            refine lv_aload_n hx hb dX4_isWord_35 rfl (lv_at hl 1 rfl) ?_
            refine h_geti (C := RX4) (T := TX4) (N := 13) hx hb hts inX4 hown hK hT0 (hE.o rfl) rfl 7 rfl wF_X4_28 rfl dX4_isWord_36 (fun p32 => ?_)
            refine h_top (v := x11) ex11.symm ?_
            refine lv_iload_n hx hb dX4_isWord_39 rfl (lv_at hl 0 rfl) ?_
            refine lv_iadd hx hb dX4_isWord_40 ?_
            refine lv_topi (fun x33 ex33 => ?_)
            refine h_callVi (T := TX8) (rest := []) (As := [.int x33]) hx hb hml hown hts hK hT0 hZ (fun _ h => h) hS11 (c_X8_byteAt l G Y P (tp) hP x33) trivial wd_X8_byteAt wV_X8_byteAt wL_X4_163 (hP.o rfl) rfl rfl hl.1 rfl (Nat.le_of_ble_eq_true rfl) dX4_isWord_41 ⟨Nat.le_of_ble_eq_true rfl, Nat.le_of_ble_eq_true rfl⟩ ⟨Nat.zero_le _, Nat.zero_le _⟩ (fun r34 H12 locs hp12 hT12 hS12 hk12 => ?_)
            obtain ⟨hp12, he⟩ := hp12
            have he := he.symm
            subst he
            refine lv_aload_n hx hb dX4_isWord_44 rfl (lv_at hl 2 rfl) ?_
            refine lv_iload_n hx hb dX4_isWord_45 rfl (lv_at hl 0 rfl) ?_
            refine h_callWi (rest := [.int r34]) (As := [.int 3]) hx hb hml hown hts hK hT0 hZ (fun _ h => h) hS12 (c_char2 l G Y 3 (by decide) (by decide)) trivial wd_J0_charAt_5068e wV_J0_charAt_5068e wL_X4_186 (vk_recv hZ.1 (i := 2) (by decide) hS12) rfl hl.1 rfl (Nat.le_of_ble_eq_true rfl) dX4_isWord_46 ⟨Nat.le_of_ble_eq_true rfl, Nat.le_of_ble_eq_true rfl⟩ ⟨Nat.zero_le _, Nat.zero_le _⟩ (fun r35 H13 locs hp13 hT13 hS13 hk13 => ?_)
            obtain ⟨hp13, he⟩ := hp13
            have he := he.symm
            subst he
            have hp13 : r35 = 105 := hp13.trans (by decide)
            subst hp13
            refine lv_icmp_eq (tgt := 54) hx hb dX4_isWord_49 (by decide) (fun c36 => ?_) (fun c36 => ?_)
            · skip
              refine lv_iinc (v := 4) (lv' := [(2, .int 4), (0, .ref (re)), (1, .ref (G.2.2.1 2))]) hx hb dX4_isWord_54 hl (k := 0) rfl (by decide) (by decide) rfl (fun ls hl => ?_)
              refine lv_goto (tgt := 23) hx hb dX4_isWord_57 (by decide) ?_
              refine lv_iload_n hx hb dX4_isWord_23 rfl (lv_at hl 0 rfl) ?_
              refine lv_aload_n hx hb dX4_isWord_24 rfl (lv_at hl 2 rfl) ?_
              refine h_callWi (rest := [.int 4]) (As := []) hx hb hml hown hts hK hT0 hZ (fun _ h => h) hS13 (c_length2 l G Y) trivial wd_J0_length_8abf5 wV_J0_length_8abf5 wL_X4_181 (vk_recv hZ.1 (i := 2) (by decide) hS13) rfl hl.1 rfl (Nat.le_of_ble_eq_true rfl) dX4_isWord_25 ⟨Nat.le_of_ble_eq_true rfl, Nat.le_of_ble_eq_true rfl⟩ ⟨Nat.zero_le _, Nat.zero_le _⟩ (fun r37 H14 locs hp14 hT14 hS14 hk14 => ?_)
              obtain ⟨hp14, he⟩ := hp14
              have he := he.symm
              subst he
              have hp14 : r37 = 7 := hp14
              subst hp14
              refine lv_icmp_ge (tgt := 60) hx hb dX4_isWord_28 (by decide) (fun h => absurd h (by decide)) (fun _ => ?_)
              refine lv_aload_n hx hb dX4_isWord_31 rfl (lv_at hl 1 rfl) ?_
              refine h_getr (C := RX4) (T := TX4) (N := 13) hx hb hts inX4 hown hK hT0 (hE.o rfl) rfl 0 rfl wF_X4_46 rfl dX4_isWord_32 ?_
              refine lv_aload_n hx hb dX4_isWord_35 rfl (lv_at hl 1 rfl) ?_
              refine h_geti (C := RX4) (T := TX4) (N := 13) hx hb hts inX4 hown hK hT0 (hE.o rfl) rfl 7 rfl wF_X4_28 rfl dX4_isWord_36 (fun p39 => ?_)
              refine h_top (v := x11) ex11.symm ?_
              refine lv_iload_n hx hb dX4_isWord_39 rfl (lv_at hl 0 rfl) ?_
              refine lv_iadd hx hb dX4_isWord_40 ?_
              refine lv_topi (fun x40 ex40 => ?_)
              refine h_callVi (T := TX8) (rest := []) (As := [.int x40]) hx hb hml hown hts hK hT0 hZ (fun _ h => h) hS14 (c_X8_byteAt l G Y P (tp) hP x40) trivial wd_X8_byteAt wV_X8_byteAt wL_X4_163 (hP.o rfl) rfl rfl hl.1 rfl (Nat.le_of_ble_eq_true rfl) dX4_isWord_41 ⟨Nat.le_of_ble_eq_true rfl, Nat.le_of_ble_eq_true rfl⟩ ⟨Nat.zero_le _, Nat.zero_le _⟩ (fun r41 H15 locs hp15 hT15 hS15 hk15 => ?_)
              obtain ⟨hp15, he⟩ := hp15
              have he := he.symm
              subst he
              refine lv_aload_n hx hb dX4_isWord_44 rfl (lv_at hl 2 rfl) ?_
              refine lv_iload_n hx hb dX4_isWord_45 rfl (lv_at hl 0 rfl) ?_
              refine h_callWi (rest := [.int r41]) (As := [.int 4]) hx hb hml hown hts hK hT0 hZ (fun _ h => h) hS15 (c_char2 l G Y 4 (by decide) (by decide)) trivial wd_J0_charAt_5068e wV_J0_charAt_5068e wL_X4_186 (vk_recv hZ.1 (i := 2) (by decide) hS15) rfl hl.1 rfl (Nat.le_of_ble_eq_true rfl) dX4_isWord_46 ⟨Nat.le_of_ble_eq_true rfl, Nat.le_of_ble_eq_true rfl⟩ ⟨Nat.zero_le _, Nat.zero_le _⟩ (fun r42 H16 locs hp16 hT16 hS16 hk16 => ?_)
              obtain ⟨hp16, he⟩ := hp16
              have he := he.symm
              subst he
              have hp16 : r42 = 116 := hp16.trans (by decide)
              subst hp16
              refine lv_icmp_eq (tgt := 54) hx hb dX4_isWord_49 (by decide) (fun c43 => ?_) (fun c43 => ?_)
              · skip
                refine lv_iinc (v := 5) (lv' := [(2, .int 5), (0, .ref (re)), (1, .ref (G.2.2.1 2))]) hx hb dX4_isWord_54 hl (k := 0) rfl (by decide) (by decide) rfl (fun ls hl => ?_)
                refine lv_goto (tgt := 23) hx hb dX4_isWord_57 (by decide) ?_
                refine lv_iload_n hx hb dX4_isWord_23 rfl (lv_at hl 0 rfl) ?_
                refine lv_aload_n hx hb dX4_isWord_24 rfl (lv_at hl 2 rfl) ?_
                refine h_callWi (rest := [.int 5]) (As := []) hx hb hml hown hts hK hT0 hZ (fun _ h => h) hS16 (c_length2 l G Y) trivial wd_J0_length_8abf5 wV_J0_length_8abf5 wL_X4_181 (vk_recv hZ.1 (i := 2) (by decide) hS16) rfl hl.1 rfl (Nat.le_of_ble_eq_true rfl) dX4_isWord_25 ⟨Nat.le_of_ble_eq_true rfl, Nat.le_of_ble_eq_true rfl⟩ ⟨Nat.zero_le _, Nat.zero_le _⟩ (fun r44 H17 locs hp17 hT17 hS17 hk17 => ?_)
                obtain ⟨hp17, he⟩ := hp17
                have he := he.symm
                subst he
                have hp17 : r44 = 7 := hp17
                subst hp17
                refine lv_icmp_ge (tgt := 60) hx hb dX4_isWord_28 (by decide) (fun h => absurd h (by decide)) (fun _ => ?_)
                refine lv_aload_n hx hb dX4_isWord_31 rfl (lv_at hl 1 rfl) ?_
                refine h_getr (C := RX4) (T := TX4) (N := 13) hx hb hts inX4 hown hK hT0 (hE.o rfl) rfl 0 rfl wF_X4_46 rfl dX4_isWord_32 ?_
                refine lv_aload_n hx hb dX4_isWord_35 rfl (lv_at hl 1 rfl) ?_
                refine h_geti (C := RX4) (T := TX4) (N := 13) hx hb hts inX4 hown hK hT0 (hE.o rfl) rfl 7 rfl wF_X4_28 rfl dX4_isWord_36 (fun p46 => ?_)
                refine h_top (v := x11) ex11.symm ?_
                refine lv_iload_n hx hb dX4_isWord_39 rfl (lv_at hl 0 rfl) ?_
                refine lv_iadd hx hb dX4_isWord_40 ?_
                refine lv_topi (fun x47 ex47 => ?_)
                refine h_callVi (T := TX8) (rest := []) (As := [.int x47]) hx hb hml hown hts hK hT0 hZ (fun _ h => h) hS17 (c_X8_byteAt l G Y P (tp) hP x47) trivial wd_X8_byteAt wV_X8_byteAt wL_X4_163 (hP.o rfl) rfl rfl hl.1 rfl (Nat.le_of_ble_eq_true rfl) dX4_isWord_41 ⟨Nat.le_of_ble_eq_true rfl, Nat.le_of_ble_eq_true rfl⟩ ⟨Nat.zero_le _, Nat.zero_le _⟩ (fun r48 H18 locs hp18 hT18 hS18 hk18 => ?_)
                obtain ⟨hp18, he⟩ := hp18
                have he := he.symm
                subst he
                refine lv_aload_n hx hb dX4_isWord_44 rfl (lv_at hl 2 rfl) ?_
                refine lv_iload_n hx hb dX4_isWord_45 rfl (lv_at hl 0 rfl) ?_
                refine h_callWi (rest := [.int r48]) (As := [.int 5]) hx hb hml hown hts hK hT0 hZ (fun _ h => h) hS18 (c_char2 l G Y 5 (by decide) (by decide)) trivial wd_J0_charAt_5068e wV_J0_charAt_5068e wL_X4_186 (vk_recv hZ.1 (i := 2) (by decide) hS18) rfl hl.1 rfl (Nat.le_of_ble_eq_true rfl) dX4_isWord_46 ⟨Nat.le_of_ble_eq_true rfl, Nat.le_of_ble_eq_true rfl⟩ ⟨Nat.zero_le _, Nat.zero_le _⟩ (fun r49 H19 locs hp19 hT19 hS19 hk19 => ?_)
                obtain ⟨hp19, he⟩ := hp19
                have he := he.symm
                subst he
                have hp19 : r49 = 111 := hp19.trans (by decide)
                subst hp19
                refine lv_icmp_eq (tgt := 54) hx hb dX4_isWord_49 (by decide) (fun c50 => ?_) (fun c50 => ?_)
                · skip
                  refine lv_iinc (v := 6) (lv' := [(2, .int 6), (0, .ref (re)), (1, .ref (G.2.2.1 2))]) hx hb dX4_isWord_54 hl (k := 0) rfl (by decide) (by decide) rfl (fun ls hl => ?_)
                  refine lv_goto (tgt := 23) hx hb dX4_isWord_57 (by decide) ?_
                  refine lv_iload_n hx hb dX4_isWord_23 rfl (lv_at hl 0 rfl) ?_
                  refine lv_aload_n hx hb dX4_isWord_24 rfl (lv_at hl 2 rfl) ?_
                  refine h_callWi (rest := [.int 6]) (As := []) hx hb hml hown hts hK hT0 hZ (fun _ h => h) hS19 (c_length2 l G Y) trivial wd_J0_length_8abf5 wV_J0_length_8abf5 wL_X4_181 (vk_recv hZ.1 (i := 2) (by decide) hS19) rfl hl.1 rfl (Nat.le_of_ble_eq_true rfl) dX4_isWord_25 ⟨Nat.le_of_ble_eq_true rfl, Nat.le_of_ble_eq_true rfl⟩ ⟨Nat.zero_le _, Nat.zero_le _⟩ (fun r51 H20 locs hp20 hT20 hS20 hk20 => ?_)
                  obtain ⟨hp20, he⟩ := hp20
                  have he := he.symm
                  subst he
                  have hp20 : r51 = 7 := hp20
                  subst hp20
                  refine lv_icmp_ge (tgt := 60) hx hb dX4_isWord_28 (by decide) (fun h => absurd h (by decide)) (fun _ => ?_)
                  refine lv_aload_n hx hb dX4_isWord_31 rfl (lv_at hl 1 rfl) ?_
                  refine h_getr (C := RX4) (T := TX4) (N := 13) hx hb hts inX4 hown hK hT0 (hE.o rfl) rfl 0 rfl wF_X4_46 rfl dX4_isWord_32 ?_
                  refine lv_aload_n hx hb dX4_isWord_35 rfl (lv_at hl 1 rfl) ?_
                  refine h_geti (C := RX4) (T := TX4) (N := 13) hx hb hts inX4 hown hK hT0 (hE.o rfl) rfl 7 rfl wF_X4_28 rfl dX4_isWord_36 (fun p53 => ?_)
                  refine h_top (v := x11) ex11.symm ?_
                  refine lv_iload_n hx hb dX4_isWord_39 rfl (lv_at hl 0 rfl) ?_
                  refine lv_iadd hx hb dX4_isWord_40 ?_
                  refine lv_topi (fun x54 ex54 => ?_)
                  refine h_callVi (T := TX8) (rest := []) (As := [.int x54]) hx hb hml hown hts hK hT0 hZ (fun _ h => h) hS20 (c_X8_byteAt l G Y P (tp) hP x54) trivial wd_X8_byteAt wV_X8_byteAt wL_X4_163 (hP.o rfl) rfl rfl hl.1 rfl (Nat.le_of_ble_eq_true rfl) dX4_isWord_41 ⟨Nat.le_of_ble_eq_true rfl, Nat.le_of_ble_eq_true rfl⟩ ⟨Nat.zero_le _, Nat.zero_le _⟩ (fun r55 H21 locs hp21 hT21 hS21 hk21 => ?_)
                  obtain ⟨hp21, he⟩ := hp21
                  have he := he.symm
                  subst he
                  refine lv_aload_n hx hb dX4_isWord_44 rfl (lv_at hl 2 rfl) ?_
                  refine lv_iload_n hx hb dX4_isWord_45 rfl (lv_at hl 0 rfl) ?_
                  refine h_callWi (rest := [.int r55]) (As := [.int 6]) hx hb hml hown hts hK hT0 hZ (fun _ h => h) hS21 (c_char2 l G Y 6 (by decide) (by decide)) trivial wd_J0_charAt_5068e wV_J0_charAt_5068e wL_X4_186 (vk_recv hZ.1 (i := 2) (by decide) hS21) rfl hl.1 rfl (Nat.le_of_ble_eq_true rfl) dX4_isWord_46 ⟨Nat.le_of_ble_eq_true rfl, Nat.le_of_ble_eq_true rfl⟩ ⟨Nat.zero_le _, Nat.zero_le _⟩ (fun r56 H22 locs hp22 hT22 hS22 hk22 => ?_)
                  obtain ⟨hp22, he⟩ := hp22
                  have he := he.symm
                  subst he
                  have hp22 : r56 = 114 := hp22.trans (by decide)
                  subst hp22
                  refine lv_icmp_eq (tgt := 54) hx hb dX4_isWord_49 (by decide) (fun c57 => ?_) (fun c57 => ?_)
                  · skip
                    refine lv_iinc (v := 7) (lv' := [(2, .int 7), (0, .ref (re)), (1, .ref (G.2.2.1 2))]) hx hb dX4_isWord_54 hl (k := 0) rfl (by decide) (by decide) rfl (fun ls hl => ?_)
                    refine lv_goto (tgt := 23) hx hb dX4_isWord_57 (by decide) ?_
                    refine lv_iload_n hx hb dX4_isWord_23 rfl (lv_at hl 0 rfl) ?_
                    refine lv_aload_n hx hb dX4_isWord_24 rfl (lv_at hl 2 rfl) ?_
                    refine h_callWi (rest := [.int 7]) (As := []) hx hb hml hown hts hK hT0 hZ (fun _ h => h) hS22 (c_length2 l G Y) trivial wd_J0_length_8abf5 wV_J0_length_8abf5 wL_X4_181 (vk_recv hZ.1 (i := 2) (by decide) hS22) rfl hl.1 rfl (Nat.le_of_ble_eq_true rfl) dX4_isWord_25 ⟨Nat.le_of_ble_eq_true rfl, Nat.le_of_ble_eq_true rfl⟩ ⟨Nat.zero_le _, Nat.zero_le _⟩ (fun r58 H23 locs hp23 hT23 hS23 hk23 => ?_)
                    obtain ⟨hp23, he⟩ := hp23
                    have he := he.symm
                    subst he
                    have hp23 : r58 = 7 := hp23
                    subst hp23
                    refine lv_icmp_ge (tgt := 60) hx hb dX4_isWord_28 (by decide) (fun _ => ?_) (fun h => absurd (by decide) h)
                    refine lv_iconst (v := 1) hx hb dX4_isWord_60 (by decide) ?_
                    exact hret _ _ _ _ _ hT0 hS23 ⟨(by decide), ⟨(by decide), trivial⟩, rfl⟩ dX4_isWord_61
                  · skip
                    refine lv_iconst (v := 0) hx hb dX4_isWord_52 (by decide) ?_
                    exact hret _ _ _ _ _ hT0 hS22 ⟨(by decide), ⟨(by decide), trivial⟩, rfl⟩ dX4_isWord_53
                · skip
                  refine lv_iconst (v := 0) hx hb dX4_isWord_52 (by decide) ?_
                  exact hret _ _ _ _ _ hT0 hS19 ⟨(by decide), ⟨(by decide), trivial⟩, rfl⟩ dX4_isWord_53
              · skip
                refine lv_iconst (v := 0) hx hb dX4_isWord_52 (by decide) ?_
                exact hret _ _ _ _ _ hT0 hS16 ⟨(by decide), ⟨(by decide), trivial⟩, rfl⟩ dX4_isWord_53
            · skip
              refine lv_iconst (v := 0) hx hb dX4_isWord_52 (by decide) ?_
              exact hret _ _ _ _ _ hT0 hS13 ⟨(by decide), ⟨(by decide), trivial⟩, rfl⟩ dX4_isWord_53
          · skip
            refine lv_iconst (v := 0) hx hb dX4_isWord_52 (by decide) ?_
            exact hret _ _ _ _ _ hT0 hS10 ⟨(by decide), ⟨(by decide), trivial⟩, rfl⟩ dX4_isWord_53
        · skip
          refine lv_iconst (v := 0) hx hb dX4_isWord_52 (by decide) ?_
          exact hret _ _ _ _ _ hT0 hS7 ⟨(by decide), ⟨(by decide), trivial⟩, rfl⟩ dX4_isWord_53
      · skip
        refine lv_iconst (v := 0) hx hb dX4_isWord_52 (by decide) ?_
        exact hret _ _ _ _ _ hT0 hS4 ⟨(by decide), ⟨(by decide), trivial⟩, rfl⟩ dX4_isWord_53
    · skip
      refine lv_iconst (v := 0) hx hb dX4_isWord_19 (by decide) ?_
      exact hret _ _ _ _ _ hT0 hS1 ⟨(by decide), ⟨(by decide), trivial⟩, rfl⟩ dX4_isWord_20
set_option maxHeartbeats 4000000 in
set_option maxRecDepth 100000 in
theorem c_isWord3 (l : Launch) (G : hG) (Y : hW) (P : Int32 → Prop) (re tp o : Nat) (hE : h_On Y re (reE (tC P) re tp o)) (hP : h_On Y tp (taE (tC P) tp)) (hY : h_On Y o (ringE (tC P) o)) : hMi l yX4_isWord cX4_isWord 3 (some .boolean) 4 85 G Y [.ref (re), .ref (G.2.2.1 3)] (fun H => True) (fun H r H1 => ((r = 0 ∨ r = 1) ∧ True) ∧ H1 = H) := by
  refine h_ofz (by decide +kernel) (Nat.le_of_ble_eq_true rfl) ?_
  intro p e s m args below meth c H0 ls Q hx hb hts hown hml hK hZ hT0 hpr hS0 hl hret
  have hl : lv_has ls 3 [(0, .ref (re)), (1, .ref (G.2.2.1 3))] := hl
  refine lv_aload_n hx hb dX4_isWord_0 rfl (lv_at hl 0 rfl) ?_
  refine h_geti (C := RX4) (T := TX4) (N := 13) hx hb hts inX4 hown hK hT0 (hE.o rfl) rfl 6 rfl wF_X4_25 rfl dX4_isWord_1 (fun p1 => ?_)
  refine lv_topi (fun x2 ex2 => ?_)
  refine lv_iconst (v := 1) hx hb dX4_isWord_4 (by decide) ?_
  refine lv_icmp_ne (tgt := 19) hx hb dX4_isWord_5 (by decide) (fun c3 => ?_) (fun c3 => ?_)
  · skip
    refine lv_iconst (v := 0) hx hb dX4_isWord_19 (by decide) ?_
    exact hret _ _ _ _ _ hT0 hS0 ⟨(by decide), ⟨(by decide), trivial⟩, rfl⟩ dX4_isWord_20
  · skip
    refine lv_aload_n hx hb dX4_isWord_8 rfl (lv_at hl 0 rfl) ?_
    refine h_geti (C := RX4) (T := TX4) (N := 13) hx hb hts inX4 hown hK hT0 (hE.o rfl) rfl 8 rfl wF_X4_31 rfl dX4_isWord_9 (fun p4 => ?_)
    refine lv_topi (fun x5 ex5 => ?_)
    refine lv_aload_n hx hb dX4_isWord_12 rfl (lv_at hl 1 rfl) ?_
    refine h_callWi (rest := [.int x5]) (As := []) hx hb hml hown hts hK hT0 hZ (fun _ h => h) hS0 (c_length3 l G Y) trivial wd_J0_length_8abf5 wV_J0_length_8abf5 wL_X4_181 (vk_recv hZ.1 (i := 3) (by decide) hS0) rfl hl.1 rfl (Nat.le_of_ble_eq_true rfl) dX4_isWord_13 ⟨Nat.le_of_ble_eq_true rfl, Nat.le_of_ble_eq_true rfl⟩ ⟨Nat.zero_le _, Nat.zero_le _⟩ (fun r6 H1 locs hp1 hT1 hS1 hk1 => ?_)
    obtain ⟨hp1, he⟩ := hp1
    have he := he.symm
    subst he
    have hp1 : r6 = 4 := hp1
    subst hp1
    refine lv_icmp_eq (tgt := 21) hx hb dX4_isWord_16 (by decide) (fun c7 => ?_) (fun c7 => ?_)
    · skip
      refine lv_iconst (v := 0) hx hb dX4_isWord_21 (by decide) ?_
      refine lv_istore_n (lv' := [(2, .int 0), (0, .ref (re)), (1, .ref (G.2.2.1 3))]) hx hb dX4_isWord_22 rfl hl (by decide) rfl (fun ls hl => ?_)
      refine lv_iload_n hx hb dX4_isWord_23 rfl (lv_at hl 0 rfl) ?_
      refine lv_aload_n hx hb dX4_isWord_24 rfl (lv_at hl 2 rfl) ?_
      refine h_callWi (rest := [.int 0]) (As := []) hx hb hml hown hts hK hT0 hZ (fun _ h => h) hS1 (c_length3 l G Y) trivial wd_J0_length_8abf5 wV_J0_length_8abf5 wL_X4_181 (vk_recv hZ.1 (i := 3) (by decide) hS1) rfl hl.1 rfl (Nat.le_of_ble_eq_true rfl) dX4_isWord_25 ⟨Nat.le_of_ble_eq_true rfl, Nat.le_of_ble_eq_true rfl⟩ ⟨Nat.zero_le _, Nat.zero_le _⟩ (fun r8 H2 locs hp2 hT2 hS2 hk2 => ?_)
      obtain ⟨hp2, he⟩ := hp2
      have he := he.symm
      subst he
      have hp2 : r8 = 4 := hp2
      subst hp2
      refine lv_icmp_ge (tgt := 60) hx hb dX4_isWord_28 (by decide) (fun h => absurd h (by decide)) (fun _ => ?_)
      refine lv_aload_n hx hb dX4_isWord_31 rfl (lv_at hl 1 rfl) ?_
      refine h_getr (C := RX4) (T := TX4) (N := 13) hx hb hts inX4 hown hK hT0 (hE.o rfl) rfl 0 rfl wF_X4_46 rfl dX4_isWord_32 ?_
      refine lv_aload_n hx hb dX4_isWord_35 rfl (lv_at hl 1 rfl) ?_
      refine h_geti (C := RX4) (T := TX4) (N := 13) hx hb hts inX4 hown hK hT0 (hE.o rfl) rfl 7 rfl wF_X4_28 rfl dX4_isWord_36 (fun p10 => ?_)
      refine lv_topi (fun x11 ex11 => ?_)
      refine lv_iload_n hx hb dX4_isWord_39 rfl (lv_at hl 0 rfl) ?_
      refine lv_iadd hx hb dX4_isWord_40 ?_
      refine lv_topi (fun x12 ex12 => ?_)
      refine h_callVi (T := TX8) (rest := []) (As := [.int x12]) hx hb hml hown hts hK hT0 hZ (fun _ h => h) hS2 (c_X8_byteAt l G Y P (tp) hP x12) trivial wd_X8_byteAt wV_X8_byteAt wL_X4_163 (hP.o rfl) rfl rfl hl.1 rfl (Nat.le_of_ble_eq_true rfl) dX4_isWord_41 ⟨Nat.le_of_ble_eq_true rfl, Nat.le_of_ble_eq_true rfl⟩ ⟨Nat.zero_le _, Nat.zero_le _⟩ (fun r13 H3 locs hp3 hT3 hS3 hk3 => ?_)
      obtain ⟨hp3, he⟩ := hp3
      have he := he.symm
      subst he
      refine lv_aload_n hx hb dX4_isWord_44 rfl (lv_at hl 2 rfl) ?_
      refine lv_iload_n hx hb dX4_isWord_45 rfl (lv_at hl 0 rfl) ?_
      refine h_callWi (rest := [.int r13]) (As := [.int 0]) hx hb hml hown hts hK hT0 hZ (fun _ h => h) hS3 (c_char3 l G Y 0 (by decide) (by decide)) trivial wd_J0_charAt_5068e wV_J0_charAt_5068e wL_X4_186 (vk_recv hZ.1 (i := 3) (by decide) hS3) rfl hl.1 rfl (Nat.le_of_ble_eq_true rfl) dX4_isWord_46 ⟨Nat.le_of_ble_eq_true rfl, Nat.le_of_ble_eq_true rfl⟩ ⟨Nat.zero_le _, Nat.zero_le _⟩ (fun r14 H4 locs hp4 hT4 hS4 hk4 => ?_)
      obtain ⟨hp4, he⟩ := hp4
      have he := he.symm
      subst he
      have hp4 : r14 = 115 := hp4.trans (by decide)
      subst hp4
      refine lv_icmp_eq (tgt := 54) hx hb dX4_isWord_49 (by decide) (fun c15 => ?_) (fun c15 => ?_)
      · skip
        refine lv_iinc (v := 1) (lv' := [(2, .int 1), (0, .ref (re)), (1, .ref (G.2.2.1 3))]) hx hb dX4_isWord_54 hl (k := 0) rfl (by decide) (by decide) rfl (fun ls hl => ?_)
        refine lv_goto (tgt := 23) hx hb dX4_isWord_57 (by decide) ?_
        refine lv_iload_n hx hb dX4_isWord_23 rfl (lv_at hl 0 rfl) ?_
        refine lv_aload_n hx hb dX4_isWord_24 rfl (lv_at hl 2 rfl) ?_
        refine h_callWi (rest := [.int 1]) (As := []) hx hb hml hown hts hK hT0 hZ (fun _ h => h) hS4 (c_length3 l G Y) trivial wd_J0_length_8abf5 wV_J0_length_8abf5 wL_X4_181 (vk_recv hZ.1 (i := 3) (by decide) hS4) rfl hl.1 rfl (Nat.le_of_ble_eq_true rfl) dX4_isWord_25 ⟨Nat.le_of_ble_eq_true rfl, Nat.le_of_ble_eq_true rfl⟩ ⟨Nat.zero_le _, Nat.zero_le _⟩ (fun r16 H5 locs hp5 hT5 hS5 hk5 => ?_)
        obtain ⟨hp5, he⟩ := hp5
        have he := he.symm
        subst he
        have hp5 : r16 = 4 := hp5
        subst hp5
        refine lv_icmp_ge (tgt := 60) hx hb dX4_isWord_28 (by decide) (fun h => absurd h (by decide)) (fun _ => ?_)
        refine lv_aload_n hx hb dX4_isWord_31 rfl (lv_at hl 1 rfl) ?_
        refine h_getr (C := RX4) (T := TX4) (N := 13) hx hb hts inX4 hown hK hT0 (hE.o rfl) rfl 0 rfl wF_X4_46 rfl dX4_isWord_32 ?_
        refine lv_aload_n hx hb dX4_isWord_35 rfl (lv_at hl 1 rfl) ?_
        refine h_geti (C := RX4) (T := TX4) (N := 13) hx hb hts inX4 hown hK hT0 (hE.o rfl) rfl 7 rfl wF_X4_28 rfl dX4_isWord_36 (fun p18 => ?_)
        refine h_top (v := x11) ex11.symm ?_
        refine lv_iload_n hx hb dX4_isWord_39 rfl (lv_at hl 0 rfl) ?_
        refine lv_iadd hx hb dX4_isWord_40 ?_
        refine lv_topi (fun x19 ex19 => ?_)
        refine h_callVi (T := TX8) (rest := []) (As := [.int x19]) hx hb hml hown hts hK hT0 hZ (fun _ h => h) hS5 (c_X8_byteAt l G Y P (tp) hP x19) trivial wd_X8_byteAt wV_X8_byteAt wL_X4_163 (hP.o rfl) rfl rfl hl.1 rfl (Nat.le_of_ble_eq_true rfl) dX4_isWord_41 ⟨Nat.le_of_ble_eq_true rfl, Nat.le_of_ble_eq_true rfl⟩ ⟨Nat.zero_le _, Nat.zero_le _⟩ (fun r20 H6 locs hp6 hT6 hS6 hk6 => ?_)
        obtain ⟨hp6, he⟩ := hp6
        have he := he.symm
        subst he
        refine lv_aload_n hx hb dX4_isWord_44 rfl (lv_at hl 2 rfl) ?_
        refine lv_iload_n hx hb dX4_isWord_45 rfl (lv_at hl 0 rfl) ?_
        refine h_callWi (rest := [.int r20]) (As := [.int 1]) hx hb hml hown hts hK hT0 hZ (fun _ h => h) hS6 (c_char3 l G Y 1 (by decide) (by decide)) trivial wd_J0_charAt_5068e wV_J0_charAt_5068e wL_X4_186 (vk_recv hZ.1 (i := 3) (by decide) hS6) rfl hl.1 rfl (Nat.le_of_ble_eq_true rfl) dX4_isWord_46 ⟨Nat.le_of_ble_eq_true rfl, Nat.le_of_ble_eq_true rfl⟩ ⟨Nat.zero_le _, Nat.zero_le _⟩ (fun r21 H7 locs hp7 hT7 hS7 hk7 => ?_)
        obtain ⟨hp7, he⟩ := hp7
        have he := he.symm
        subst he
        have hp7 : r21 = 101 := hp7.trans (by decide)
        subst hp7
        refine lv_icmp_eq (tgt := 54) hx hb dX4_isWord_49 (by decide) (fun c22 => ?_) (fun c22 => ?_)
        · skip
          refine lv_iinc (v := 2) (lv' := [(2, .int 2), (0, .ref (re)), (1, .ref (G.2.2.1 3))]) hx hb dX4_isWord_54 hl (k := 0) rfl (by decide) (by decide) rfl (fun ls hl => ?_)
          refine lv_goto (tgt := 23) hx hb dX4_isWord_57 (by decide) ?_
          refine lv_iload_n hx hb dX4_isWord_23 rfl (lv_at hl 0 rfl) ?_
          refine lv_aload_n hx hb dX4_isWord_24 rfl (lv_at hl 2 rfl) ?_
          refine h_callWi (rest := [.int 2]) (As := []) hx hb hml hown hts hK hT0 hZ (fun _ h => h) hS7 (c_length3 l G Y) trivial wd_J0_length_8abf5 wV_J0_length_8abf5 wL_X4_181 (vk_recv hZ.1 (i := 3) (by decide) hS7) rfl hl.1 rfl (Nat.le_of_ble_eq_true rfl) dX4_isWord_25 ⟨Nat.le_of_ble_eq_true rfl, Nat.le_of_ble_eq_true rfl⟩ ⟨Nat.zero_le _, Nat.zero_le _⟩ (fun r23 H8 locs hp8 hT8 hS8 hk8 => ?_)
          obtain ⟨hp8, he⟩ := hp8
          have he := he.symm
          subst he
          have hp8 : r23 = 4 := hp8
          subst hp8
          refine lv_icmp_ge (tgt := 60) hx hb dX4_isWord_28 (by decide) (fun h => absurd h (by decide)) (fun _ => ?_)
          refine lv_aload_n hx hb dX4_isWord_31 rfl (lv_at hl 1 rfl) ?_
          refine h_getr (C := RX4) (T := TX4) (N := 13) hx hb hts inX4 hown hK hT0 (hE.o rfl) rfl 0 rfl wF_X4_46 rfl dX4_isWord_32 ?_
          refine lv_aload_n hx hb dX4_isWord_35 rfl (lv_at hl 1 rfl) ?_
          refine h_geti (C := RX4) (T := TX4) (N := 13) hx hb hts inX4 hown hK hT0 (hE.o rfl) rfl 7 rfl wF_X4_28 rfl dX4_isWord_36 (fun p25 => ?_)
          refine h_top (v := x11) ex11.symm ?_
          refine lv_iload_n hx hb dX4_isWord_39 rfl (lv_at hl 0 rfl) ?_
          refine lv_iadd hx hb dX4_isWord_40 ?_
          refine lv_topi (fun x26 ex26 => ?_)
          refine h_callVi (T := TX8) (rest := []) (As := [.int x26]) hx hb hml hown hts hK hT0 hZ (fun _ h => h) hS8 (c_X8_byteAt l G Y P (tp) hP x26) trivial wd_X8_byteAt wV_X8_byteAt wL_X4_163 (hP.o rfl) rfl rfl hl.1 rfl (Nat.le_of_ble_eq_true rfl) dX4_isWord_41 ⟨Nat.le_of_ble_eq_true rfl, Nat.le_of_ble_eq_true rfl⟩ ⟨Nat.zero_le _, Nat.zero_le _⟩ (fun r27 H9 locs hp9 hT9 hS9 hk9 => ?_)
          obtain ⟨hp9, he⟩ := hp9
          have he := he.symm
          subst he
          refine lv_aload_n hx hb dX4_isWord_44 rfl (lv_at hl 2 rfl) ?_
          refine lv_iload_n hx hb dX4_isWord_45 rfl (lv_at hl 0 rfl) ?_
          refine h_callWi (rest := [.int r27]) (As := [.int 2]) hx hb hml hown hts hK hT0 hZ (fun _ h => h) hS9 (c_char3 l G Y 2 (by decide) (by decide)) trivial wd_J0_charAt_5068e wV_J0_charAt_5068e wL_X4_186 (vk_recv hZ.1 (i := 3) (by decide) hS9) rfl hl.1 rfl (Nat.le_of_ble_eq_true rfl) dX4_isWord_46 ⟨Nat.le_of_ble_eq_true rfl, Nat.le_of_ble_eq_true rfl⟩ ⟨Nat.zero_le _, Nat.zero_le _⟩ (fun r28 H10 locs hp10 hT10 hS10 hk10 => ?_)
          obtain ⟨hp10, he⟩ := hp10
          have he := he.symm
          subst he
          have hp10 : r28 = 110 := hp10.trans (by decide)
          subst hp10
          refine lv_icmp_eq (tgt := 54) hx hb dX4_isWord_49 (by decide) (fun c29 => ?_) (fun c29 => ?_)
          · skip
            refine lv_iinc (v := 3) (lv' := [(2, .int 3), (0, .ref (re)), (1, .ref (G.2.2.1 3))]) hx hb dX4_isWord_54 hl (k := 0) rfl (by decide) (by decide) rfl (fun ls hl => ?_)
            refine lv_goto (tgt := 23) hx hb dX4_isWord_57 (by decide) ?_
            refine lv_iload_n hx hb dX4_isWord_23 rfl (lv_at hl 0 rfl) ?_
            refine lv_aload_n hx hb dX4_isWord_24 rfl (lv_at hl 2 rfl) ?_
            refine h_callWi (rest := [.int 3]) (As := []) hx hb hml hown hts hK hT0 hZ (fun _ h => h) hS10 (c_length3 l G Y) trivial wd_J0_length_8abf5 wV_J0_length_8abf5 wL_X4_181 (vk_recv hZ.1 (i := 3) (by decide) hS10) rfl hl.1 rfl (Nat.le_of_ble_eq_true rfl) dX4_isWord_25 ⟨Nat.le_of_ble_eq_true rfl, Nat.le_of_ble_eq_true rfl⟩ ⟨Nat.zero_le _, Nat.zero_le _⟩ (fun r30 H11 locs hp11 hT11 hS11 hk11 => ?_)
            obtain ⟨hp11, he⟩ := hp11
            have he := he.symm
            subst he
            have hp11 : r30 = 4 := hp11
            subst hp11
            refine lv_icmp_ge (tgt := 60) hx hb dX4_isWord_28 (by decide) (fun h => absurd h (by decide)) (fun _ => ?_)
            refine lv_aload_n hx hb dX4_isWord_31 rfl (lv_at hl 1 rfl) ?_
            refine h_getr (C := RX4) (T := TX4) (N := 13) hx hb hts inX4 hown hK hT0 (hE.o rfl) rfl 0 rfl wF_X4_46 rfl dX4_isWord_32 ?_
            refine lv_aload_n hx hb dX4_isWord_35 rfl (lv_at hl 1 rfl) ?_
            refine h_geti (C := RX4) (T := TX4) (N := 13) hx hb hts inX4 hown hK hT0 (hE.o rfl) rfl 7 rfl wF_X4_28 rfl dX4_isWord_36 (fun p32 => ?_)
            refine h_top (v := x11) ex11.symm ?_
            refine lv_iload_n hx hb dX4_isWord_39 rfl (lv_at hl 0 rfl) ?_
            refine lv_iadd hx hb dX4_isWord_40 ?_
            refine lv_topi (fun x33 ex33 => ?_)
            refine h_callVi (T := TX8) (rest := []) (As := [.int x33]) hx hb hml hown hts hK hT0 hZ (fun _ h => h) hS11 (c_X8_byteAt l G Y P (tp) hP x33) trivial wd_X8_byteAt wV_X8_byteAt wL_X4_163 (hP.o rfl) rfl rfl hl.1 rfl (Nat.le_of_ble_eq_true rfl) dX4_isWord_41 ⟨Nat.le_of_ble_eq_true rfl, Nat.le_of_ble_eq_true rfl⟩ ⟨Nat.zero_le _, Nat.zero_le _⟩ (fun r34 H12 locs hp12 hT12 hS12 hk12 => ?_)
            obtain ⟨hp12, he⟩ := hp12
            have he := he.symm
            subst he
            refine lv_aload_n hx hb dX4_isWord_44 rfl (lv_at hl 2 rfl) ?_
            refine lv_iload_n hx hb dX4_isWord_45 rfl (lv_at hl 0 rfl) ?_
            refine h_callWi (rest := [.int r34]) (As := [.int 3]) hx hb hml hown hts hK hT0 hZ (fun _ h => h) hS12 (c_char3 l G Y 3 (by decide) (by decide)) trivial wd_J0_charAt_5068e wV_J0_charAt_5068e wL_X4_186 (vk_recv hZ.1 (i := 3) (by decide) hS12) rfl hl.1 rfl (Nat.le_of_ble_eq_true rfl) dX4_isWord_46 ⟨Nat.le_of_ble_eq_true rfl, Nat.le_of_ble_eq_true rfl⟩ ⟨Nat.zero_le _, Nat.zero_le _⟩ (fun r35 H13 locs hp13 hT13 hS13 hk13 => ?_)
            obtain ⟨hp13, he⟩ := hp13
            have he := he.symm
            subst he
            have hp13 : r35 = 100 := hp13.trans (by decide)
            subst hp13
            refine lv_icmp_eq (tgt := 54) hx hb dX4_isWord_49 (by decide) (fun c36 => ?_) (fun c36 => ?_)
            · skip
              refine lv_iinc (v := 4) (lv' := [(2, .int 4), (0, .ref (re)), (1, .ref (G.2.2.1 3))]) hx hb dX4_isWord_54 hl (k := 0) rfl (by decide) (by decide) rfl (fun ls hl => ?_)
              refine lv_goto (tgt := 23) hx hb dX4_isWord_57 (by decide) ?_
              refine lv_iload_n hx hb dX4_isWord_23 rfl (lv_at hl 0 rfl) ?_
              refine lv_aload_n hx hb dX4_isWord_24 rfl (lv_at hl 2 rfl) ?_
              refine h_callWi (rest := [.int 4]) (As := []) hx hb hml hown hts hK hT0 hZ (fun _ h => h) hS13 (c_length3 l G Y) trivial wd_J0_length_8abf5 wV_J0_length_8abf5 wL_X4_181 (vk_recv hZ.1 (i := 3) (by decide) hS13) rfl hl.1 rfl (Nat.le_of_ble_eq_true rfl) dX4_isWord_25 ⟨Nat.le_of_ble_eq_true rfl, Nat.le_of_ble_eq_true rfl⟩ ⟨Nat.zero_le _, Nat.zero_le _⟩ (fun r37 H14 locs hp14 hT14 hS14 hk14 => ?_)
              obtain ⟨hp14, he⟩ := hp14
              have he := he.symm
              subst he
              have hp14 : r37 = 4 := hp14
              subst hp14
              refine lv_icmp_ge (tgt := 60) hx hb dX4_isWord_28 (by decide) (fun _ => ?_) (fun h => absurd (by decide) h)
              refine lv_iconst (v := 1) hx hb dX4_isWord_60 (by decide) ?_
              exact hret _ _ _ _ _ hT0 hS14 ⟨(by decide), ⟨(by decide), trivial⟩, rfl⟩ dX4_isWord_61
            · skip
              refine lv_iconst (v := 0) hx hb dX4_isWord_52 (by decide) ?_
              exact hret _ _ _ _ _ hT0 hS13 ⟨(by decide), ⟨(by decide), trivial⟩, rfl⟩ dX4_isWord_53
          · skip
            refine lv_iconst (v := 0) hx hb dX4_isWord_52 (by decide) ?_
            exact hret _ _ _ _ _ hT0 hS10 ⟨(by decide), ⟨(by decide), trivial⟩, rfl⟩ dX4_isWord_53
        · skip
          refine lv_iconst (v := 0) hx hb dX4_isWord_52 (by decide) ?_
          exact hret _ _ _ _ _ hT0 hS7 ⟨(by decide), ⟨(by decide), trivial⟩, rfl⟩ dX4_isWord_53
      · skip
        refine lv_iconst (v := 0) hx hb dX4_isWord_52 (by decide) ?_
        exact hret _ _ _ _ _ hT0 hS4 ⟨(by decide), ⟨(by decide), trivial⟩, rfl⟩ dX4_isWord_53
    · skip
      refine lv_iconst (v := 0) hx hb dX4_isWord_19 (by decide) ?_
      exact hret _ _ _ _ _ hT0 hS1 ⟨(by decide), ⟨(by decide), trivial⟩, rfl⟩ dX4_isWord_20
set_option maxHeartbeats 4000000 in
set_option maxRecDepth 100000 in
theorem c_isWord4 (l : Launch) (G : hG) (Y : hW) (P : Int32 → Prop) (re tp o : Nat) (hE : h_On Y re (reE (tC P) re tp o)) (hP : h_On Y tp (taE (tC P) tp)) (hY : h_On Y o (ringE (tC P) o)) : hMi l yX4_isWord cX4_isWord 3 (some .boolean) 4 85 G Y [.ref (re), .ref (G.2.2.1 4)] (fun H => True) (fun H r H1 => ((r = 0 ∨ r = 1) ∧ True) ∧ H1 = H) := by
  refine h_ofz (by decide +kernel) (Nat.le_of_ble_eq_true rfl) ?_
  intro p e s m args below meth c H0 ls Q hx hb hts hown hml hK hZ hT0 hpr hS0 hl hret
  have hl : lv_has ls 3 [(0, .ref (re)), (1, .ref (G.2.2.1 4))] := hl
  refine lv_aload_n hx hb dX4_isWord_0 rfl (lv_at hl 0 rfl) ?_
  refine h_geti (C := RX4) (T := TX4) (N := 13) hx hb hts inX4 hown hK hT0 (hE.o rfl) rfl 6 rfl wF_X4_25 rfl dX4_isWord_1 (fun p1 => ?_)
  refine lv_topi (fun x2 ex2 => ?_)
  refine lv_iconst (v := 1) hx hb dX4_isWord_4 (by decide) ?_
  refine lv_icmp_ne (tgt := 19) hx hb dX4_isWord_5 (by decide) (fun c3 => ?_) (fun c3 => ?_)
  · skip
    refine lv_iconst (v := 0) hx hb dX4_isWord_19 (by decide) ?_
    exact hret _ _ _ _ _ hT0 hS0 ⟨(by decide), ⟨(by decide), trivial⟩, rfl⟩ dX4_isWord_20
  · skip
    refine lv_aload_n hx hb dX4_isWord_8 rfl (lv_at hl 0 rfl) ?_
    refine h_geti (C := RX4) (T := TX4) (N := 13) hx hb hts inX4 hown hK hT0 (hE.o rfl) rfl 8 rfl wF_X4_31 rfl dX4_isWord_9 (fun p4 => ?_)
    refine lv_topi (fun x5 ex5 => ?_)
    refine lv_aload_n hx hb dX4_isWord_12 rfl (lv_at hl 1 rfl) ?_
    refine h_callWi (rest := [.int x5]) (As := []) hx hb hml hown hts hK hT0 hZ (fun _ h => h) hS0 (c_length4 l G Y) trivial wd_J0_length_8abf5 wV_J0_length_8abf5 wL_X4_181 (vk_recv hZ.1 (i := 4) (by decide) hS0) rfl hl.1 rfl (Nat.le_of_ble_eq_true rfl) dX4_isWord_13 ⟨Nat.le_of_ble_eq_true rfl, Nat.le_of_ble_eq_true rfl⟩ ⟨Nat.zero_le _, Nat.zero_le _⟩ (fun r6 H1 locs hp1 hT1 hS1 hk1 => ?_)
    obtain ⟨hp1, he⟩ := hp1
    have he := he.symm
    subst he
    have hp1 : r6 = 5 := hp1
    subst hp1
    refine lv_icmp_eq (tgt := 21) hx hb dX4_isWord_16 (by decide) (fun c7 => ?_) (fun c7 => ?_)
    · skip
      refine lv_iconst (v := 0) hx hb dX4_isWord_21 (by decide) ?_
      refine lv_istore_n (lv' := [(2, .int 0), (0, .ref (re)), (1, .ref (G.2.2.1 4))]) hx hb dX4_isWord_22 rfl hl (by decide) rfl (fun ls hl => ?_)
      refine lv_iload_n hx hb dX4_isWord_23 rfl (lv_at hl 0 rfl) ?_
      refine lv_aload_n hx hb dX4_isWord_24 rfl (lv_at hl 2 rfl) ?_
      refine h_callWi (rest := [.int 0]) (As := []) hx hb hml hown hts hK hT0 hZ (fun _ h => h) hS1 (c_length4 l G Y) trivial wd_J0_length_8abf5 wV_J0_length_8abf5 wL_X4_181 (vk_recv hZ.1 (i := 4) (by decide) hS1) rfl hl.1 rfl (Nat.le_of_ble_eq_true rfl) dX4_isWord_25 ⟨Nat.le_of_ble_eq_true rfl, Nat.le_of_ble_eq_true rfl⟩ ⟨Nat.zero_le _, Nat.zero_le _⟩ (fun r8 H2 locs hp2 hT2 hS2 hk2 => ?_)
      obtain ⟨hp2, he⟩ := hp2
      have he := he.symm
      subst he
      have hp2 : r8 = 5 := hp2
      subst hp2
      refine lv_icmp_ge (tgt := 60) hx hb dX4_isWord_28 (by decide) (fun h => absurd h (by decide)) (fun _ => ?_)
      refine lv_aload_n hx hb dX4_isWord_31 rfl (lv_at hl 1 rfl) ?_
      refine h_getr (C := RX4) (T := TX4) (N := 13) hx hb hts inX4 hown hK hT0 (hE.o rfl) rfl 0 rfl wF_X4_46 rfl dX4_isWord_32 ?_
      refine lv_aload_n hx hb dX4_isWord_35 rfl (lv_at hl 1 rfl) ?_
      refine h_geti (C := RX4) (T := TX4) (N := 13) hx hb hts inX4 hown hK hT0 (hE.o rfl) rfl 7 rfl wF_X4_28 rfl dX4_isWord_36 (fun p10 => ?_)
      refine lv_topi (fun x11 ex11 => ?_)
      refine lv_iload_n hx hb dX4_isWord_39 rfl (lv_at hl 0 rfl) ?_
      refine lv_iadd hx hb dX4_isWord_40 ?_
      refine lv_topi (fun x12 ex12 => ?_)
      refine h_callVi (T := TX8) (rest := []) (As := [.int x12]) hx hb hml hown hts hK hT0 hZ (fun _ h => h) hS2 (c_X8_byteAt l G Y P (tp) hP x12) trivial wd_X8_byteAt wV_X8_byteAt wL_X4_163 (hP.o rfl) rfl rfl hl.1 rfl (Nat.le_of_ble_eq_true rfl) dX4_isWord_41 ⟨Nat.le_of_ble_eq_true rfl, Nat.le_of_ble_eq_true rfl⟩ ⟨Nat.zero_le _, Nat.zero_le _⟩ (fun r13 H3 locs hp3 hT3 hS3 hk3 => ?_)
      obtain ⟨hp3, he⟩ := hp3
      have he := he.symm
      subst he
      refine lv_aload_n hx hb dX4_isWord_44 rfl (lv_at hl 2 rfl) ?_
      refine lv_iload_n hx hb dX4_isWord_45 rfl (lv_at hl 0 rfl) ?_
      refine h_callWi (rest := [.int r13]) (As := [.int 0]) hx hb hml hown hts hK hT0 hZ (fun _ h => h) hS3 (c_char4 l G Y 0 (by decide) (by decide)) trivial wd_J0_charAt_5068e wV_J0_charAt_5068e wL_X4_186 (vk_recv hZ.1 (i := 4) (by decide) hS3) rfl hl.1 rfl (Nat.le_of_ble_eq_true rfl) dX4_isWord_46 ⟨Nat.le_of_ble_eq_true rfl, Nat.le_of_ble_eq_true rfl⟩ ⟨Nat.zero_le _, Nat.zero_le _⟩ (fun r14 H4 locs hp4 hT4 hS4 hk4 => ?_)
      obtain ⟨hp4, he⟩ := hp4
      have he := he.symm
      subst he
      have hp4 : r14 = 98 := hp4.trans (by decide)
      subst hp4
      refine lv_icmp_eq (tgt := 54) hx hb dX4_isWord_49 (by decide) (fun c15 => ?_) (fun c15 => ?_)
      · skip
        refine lv_iinc (v := 1) (lv' := [(2, .int 1), (0, .ref (re)), (1, .ref (G.2.2.1 4))]) hx hb dX4_isWord_54 hl (k := 0) rfl (by decide) (by decide) rfl (fun ls hl => ?_)
        refine lv_goto (tgt := 23) hx hb dX4_isWord_57 (by decide) ?_
        refine lv_iload_n hx hb dX4_isWord_23 rfl (lv_at hl 0 rfl) ?_
        refine lv_aload_n hx hb dX4_isWord_24 rfl (lv_at hl 2 rfl) ?_
        refine h_callWi (rest := [.int 1]) (As := []) hx hb hml hown hts hK hT0 hZ (fun _ h => h) hS4 (c_length4 l G Y) trivial wd_J0_length_8abf5 wV_J0_length_8abf5 wL_X4_181 (vk_recv hZ.1 (i := 4) (by decide) hS4) rfl hl.1 rfl (Nat.le_of_ble_eq_true rfl) dX4_isWord_25 ⟨Nat.le_of_ble_eq_true rfl, Nat.le_of_ble_eq_true rfl⟩ ⟨Nat.zero_le _, Nat.zero_le _⟩ (fun r16 H5 locs hp5 hT5 hS5 hk5 => ?_)
        obtain ⟨hp5, he⟩ := hp5
        have he := he.symm
        subst he
        have hp5 : r16 = 5 := hp5
        subst hp5
        refine lv_icmp_ge (tgt := 60) hx hb dX4_isWord_28 (by decide) (fun h => absurd h (by decide)) (fun _ => ?_)
        refine lv_aload_n hx hb dX4_isWord_31 rfl (lv_at hl 1 rfl) ?_
        refine h_getr (C := RX4) (T := TX4) (N := 13) hx hb hts inX4 hown hK hT0 (hE.o rfl) rfl 0 rfl wF_X4_46 rfl dX4_isWord_32 ?_
        refine lv_aload_n hx hb dX4_isWord_35 rfl (lv_at hl 1 rfl) ?_
        refine h_geti (C := RX4) (T := TX4) (N := 13) hx hb hts inX4 hown hK hT0 (hE.o rfl) rfl 7 rfl wF_X4_28 rfl dX4_isWord_36 (fun p18 => ?_)
        refine h_top (v := x11) ex11.symm ?_
        refine lv_iload_n hx hb dX4_isWord_39 rfl (lv_at hl 0 rfl) ?_
        refine lv_iadd hx hb dX4_isWord_40 ?_
        refine lv_topi (fun x19 ex19 => ?_)
        refine h_callVi (T := TX8) (rest := []) (As := [.int x19]) hx hb hml hown hts hK hT0 hZ (fun _ h => h) hS5 (c_X8_byteAt l G Y P (tp) hP x19) trivial wd_X8_byteAt wV_X8_byteAt wL_X4_163 (hP.o rfl) rfl rfl hl.1 rfl (Nat.le_of_ble_eq_true rfl) dX4_isWord_41 ⟨Nat.le_of_ble_eq_true rfl, Nat.le_of_ble_eq_true rfl⟩ ⟨Nat.zero_le _, Nat.zero_le _⟩ (fun r20 H6 locs hp6 hT6 hS6 hk6 => ?_)
        obtain ⟨hp6, he⟩ := hp6
        have he := he.symm
        subst he
        refine lv_aload_n hx hb dX4_isWord_44 rfl (lv_at hl 2 rfl) ?_
        refine lv_iload_n hx hb dX4_isWord_45 rfl (lv_at hl 0 rfl) ?_
        refine h_callWi (rest := [.int r20]) (As := [.int 1]) hx hb hml hown hts hK hT0 hZ (fun _ h => h) hS6 (c_char4 l G Y 1 (by decide) (by decide)) trivial wd_J0_charAt_5068e wV_J0_charAt_5068e wL_X4_186 (vk_recv hZ.1 (i := 4) (by decide) hS6) rfl hl.1 rfl (Nat.le_of_ble_eq_true rfl) dX4_isWord_46 ⟨Nat.le_of_ble_eq_true rfl, Nat.le_of_ble_eq_true rfl⟩ ⟨Nat.zero_le _, Nat.zero_le _⟩ (fun r21 H7 locs hp7 hT7 hS7 hk7 => ?_)
        obtain ⟨hp7, he⟩ := hp7
        have he := he.symm
        subst he
        have hp7 : r21 = 114 := hp7.trans (by decide)
        subst hp7
        refine lv_icmp_eq (tgt := 54) hx hb dX4_isWord_49 (by decide) (fun c22 => ?_) (fun c22 => ?_)
        · skip
          refine lv_iinc (v := 2) (lv' := [(2, .int 2), (0, .ref (re)), (1, .ref (G.2.2.1 4))]) hx hb dX4_isWord_54 hl (k := 0) rfl (by decide) (by decide) rfl (fun ls hl => ?_)
          refine lv_goto (tgt := 23) hx hb dX4_isWord_57 (by decide) ?_
          refine lv_iload_n hx hb dX4_isWord_23 rfl (lv_at hl 0 rfl) ?_
          refine lv_aload_n hx hb dX4_isWord_24 rfl (lv_at hl 2 rfl) ?_
          refine h_callWi (rest := [.int 2]) (As := []) hx hb hml hown hts hK hT0 hZ (fun _ h => h) hS7 (c_length4 l G Y) trivial wd_J0_length_8abf5 wV_J0_length_8abf5 wL_X4_181 (vk_recv hZ.1 (i := 4) (by decide) hS7) rfl hl.1 rfl (Nat.le_of_ble_eq_true rfl) dX4_isWord_25 ⟨Nat.le_of_ble_eq_true rfl, Nat.le_of_ble_eq_true rfl⟩ ⟨Nat.zero_le _, Nat.zero_le _⟩ (fun r23 H8 locs hp8 hT8 hS8 hk8 => ?_)
          obtain ⟨hp8, he⟩ := hp8
          have he := he.symm
          subst he
          have hp8 : r23 = 5 := hp8
          subst hp8
          refine lv_icmp_ge (tgt := 60) hx hb dX4_isWord_28 (by decide) (fun h => absurd h (by decide)) (fun _ => ?_)
          refine lv_aload_n hx hb dX4_isWord_31 rfl (lv_at hl 1 rfl) ?_
          refine h_getr (C := RX4) (T := TX4) (N := 13) hx hb hts inX4 hown hK hT0 (hE.o rfl) rfl 0 rfl wF_X4_46 rfl dX4_isWord_32 ?_
          refine lv_aload_n hx hb dX4_isWord_35 rfl (lv_at hl 1 rfl) ?_
          refine h_geti (C := RX4) (T := TX4) (N := 13) hx hb hts inX4 hown hK hT0 (hE.o rfl) rfl 7 rfl wF_X4_28 rfl dX4_isWord_36 (fun p25 => ?_)
          refine h_top (v := x11) ex11.symm ?_
          refine lv_iload_n hx hb dX4_isWord_39 rfl (lv_at hl 0 rfl) ?_
          refine lv_iadd hx hb dX4_isWord_40 ?_
          refine lv_topi (fun x26 ex26 => ?_)
          refine h_callVi (T := TX8) (rest := []) (As := [.int x26]) hx hb hml hown hts hK hT0 hZ (fun _ h => h) hS8 (c_X8_byteAt l G Y P (tp) hP x26) trivial wd_X8_byteAt wV_X8_byteAt wL_X4_163 (hP.o rfl) rfl rfl hl.1 rfl (Nat.le_of_ble_eq_true rfl) dX4_isWord_41 ⟨Nat.le_of_ble_eq_true rfl, Nat.le_of_ble_eq_true rfl⟩ ⟨Nat.zero_le _, Nat.zero_le _⟩ (fun r27 H9 locs hp9 hT9 hS9 hk9 => ?_)
          obtain ⟨hp9, he⟩ := hp9
          have he := he.symm
          subst he
          refine lv_aload_n hx hb dX4_isWord_44 rfl (lv_at hl 2 rfl) ?_
          refine lv_iload_n hx hb dX4_isWord_45 rfl (lv_at hl 0 rfl) ?_
          refine h_callWi (rest := [.int r27]) (As := [.int 2]) hx hb hml hown hts hK hT0 hZ (fun _ h => h) hS9 (c_char4 l G Y 2 (by decide) (by decide)) trivial wd_J0_charAt_5068e wV_J0_charAt_5068e wL_X4_186 (vk_recv hZ.1 (i := 4) (by decide) hS9) rfl hl.1 rfl (Nat.le_of_ble_eq_true rfl) dX4_isWord_46 ⟨Nat.le_of_ble_eq_true rfl, Nat.le_of_ble_eq_true rfl⟩ ⟨Nat.zero_le _, Nat.zero_le _⟩ (fun r28 H10 locs hp10 hT10 hS10 hk10 => ?_)
          obtain ⟨hp10, he⟩ := hp10
          have he := he.symm
          subst he
          have hp10 : r28 = 101 := hp10.trans (by decide)
          subst hp10
          refine lv_icmp_eq (tgt := 54) hx hb dX4_isWord_49 (by decide) (fun c29 => ?_) (fun c29 => ?_)
          · skip
            refine lv_iinc (v := 3) (lv' := [(2, .int 3), (0, .ref (re)), (1, .ref (G.2.2.1 4))]) hx hb dX4_isWord_54 hl (k := 0) rfl (by decide) (by decide) rfl (fun ls hl => ?_)
            refine lv_goto (tgt := 23) hx hb dX4_isWord_57 (by decide) ?_
            refine lv_iload_n hx hb dX4_isWord_23 rfl (lv_at hl 0 rfl) ?_
            refine lv_aload_n hx hb dX4_isWord_24 rfl (lv_at hl 2 rfl) ?_
            refine h_callWi (rest := [.int 3]) (As := []) hx hb hml hown hts hK hT0 hZ (fun _ h => h) hS10 (c_length4 l G Y) trivial wd_J0_length_8abf5 wV_J0_length_8abf5 wL_X4_181 (vk_recv hZ.1 (i := 4) (by decide) hS10) rfl hl.1 rfl (Nat.le_of_ble_eq_true rfl) dX4_isWord_25 ⟨Nat.le_of_ble_eq_true rfl, Nat.le_of_ble_eq_true rfl⟩ ⟨Nat.zero_le _, Nat.zero_le _⟩ (fun r30 H11 locs hp11 hT11 hS11 hk11 => ?_)
            obtain ⟨hp11, he⟩ := hp11
            have he := he.symm
            subst he
            have hp11 : r30 = 5 := hp11
            subst hp11
            refine lv_icmp_ge (tgt := 60) hx hb dX4_isWord_28 (by decide) (fun h => absurd h (by decide)) (fun _ => ?_)
            refine lv_aload_n hx hb dX4_isWord_31 rfl (lv_at hl 1 rfl) ?_
            refine h_getr (C := RX4) (T := TX4) (N := 13) hx hb hts inX4 hown hK hT0 (hE.o rfl) rfl 0 rfl wF_X4_46 rfl dX4_isWord_32 ?_
            refine lv_aload_n hx hb dX4_isWord_35 rfl (lv_at hl 1 rfl) ?_
            refine h_geti (C := RX4) (T := TX4) (N := 13) hx hb hts inX4 hown hK hT0 (hE.o rfl) rfl 7 rfl wF_X4_28 rfl dX4_isWord_36 (fun p32 => ?_)
            refine h_top (v := x11) ex11.symm ?_
            refine lv_iload_n hx hb dX4_isWord_39 rfl (lv_at hl 0 rfl) ?_
            refine lv_iadd hx hb dX4_isWord_40 ?_
            refine lv_topi (fun x33 ex33 => ?_)
            refine h_callVi (T := TX8) (rest := []) (As := [.int x33]) hx hb hml hown hts hK hT0 hZ (fun _ h => h) hS11 (c_X8_byteAt l G Y P (tp) hP x33) trivial wd_X8_byteAt wV_X8_byteAt wL_X4_163 (hP.o rfl) rfl rfl hl.1 rfl (Nat.le_of_ble_eq_true rfl) dX4_isWord_41 ⟨Nat.le_of_ble_eq_true rfl, Nat.le_of_ble_eq_true rfl⟩ ⟨Nat.zero_le _, Nat.zero_le _⟩ (fun r34 H12 locs hp12 hT12 hS12 hk12 => ?_)
            obtain ⟨hp12, he⟩ := hp12
            have he := he.symm
            subst he
            refine lv_aload_n hx hb dX4_isWord_44 rfl (lv_at hl 2 rfl) ?_
            refine lv_iload_n hx hb dX4_isWord_45 rfl (lv_at hl 0 rfl) ?_
            refine h_callWi (rest := [.int r34]) (As := [.int 3]) hx hb hml hown hts hK hT0 hZ (fun _ h => h) hS12 (c_char4 l G Y 3 (by decide) (by decide)) trivial wd_J0_charAt_5068e wV_J0_charAt_5068e wL_X4_186 (vk_recv hZ.1 (i := 4) (by decide) hS12) rfl hl.1 rfl (Nat.le_of_ble_eq_true rfl) dX4_isWord_46 ⟨Nat.le_of_ble_eq_true rfl, Nat.le_of_ble_eq_true rfl⟩ ⟨Nat.zero_le _, Nat.zero_le _⟩ (fun r35 H13 locs hp13 hT13 hS13 hk13 => ?_)
            obtain ⟨hp13, he⟩ := hp13
            have he := he.symm
            subst he
            have hp13 : r35 = 97 := hp13.trans (by decide)
            subst hp13
            refine lv_icmp_eq (tgt := 54) hx hb dX4_isWord_49 (by decide) (fun c36 => ?_) (fun c36 => ?_)
            · skip
              refine lv_iinc (v := 4) (lv' := [(2, .int 4), (0, .ref (re)), (1, .ref (G.2.2.1 4))]) hx hb dX4_isWord_54 hl (k := 0) rfl (by decide) (by decide) rfl (fun ls hl => ?_)
              refine lv_goto (tgt := 23) hx hb dX4_isWord_57 (by decide) ?_
              refine lv_iload_n hx hb dX4_isWord_23 rfl (lv_at hl 0 rfl) ?_
              refine lv_aload_n hx hb dX4_isWord_24 rfl (lv_at hl 2 rfl) ?_
              refine h_callWi (rest := [.int 4]) (As := []) hx hb hml hown hts hK hT0 hZ (fun _ h => h) hS13 (c_length4 l G Y) trivial wd_J0_length_8abf5 wV_J0_length_8abf5 wL_X4_181 (vk_recv hZ.1 (i := 4) (by decide) hS13) rfl hl.1 rfl (Nat.le_of_ble_eq_true rfl) dX4_isWord_25 ⟨Nat.le_of_ble_eq_true rfl, Nat.le_of_ble_eq_true rfl⟩ ⟨Nat.zero_le _, Nat.zero_le _⟩ (fun r37 H14 locs hp14 hT14 hS14 hk14 => ?_)
              obtain ⟨hp14, he⟩ := hp14
              have he := he.symm
              subst he
              have hp14 : r37 = 5 := hp14
              subst hp14
              refine lv_icmp_ge (tgt := 60) hx hb dX4_isWord_28 (by decide) (fun h => absurd h (by decide)) (fun _ => ?_)
              refine lv_aload_n hx hb dX4_isWord_31 rfl (lv_at hl 1 rfl) ?_
              refine h_getr (C := RX4) (T := TX4) (N := 13) hx hb hts inX4 hown hK hT0 (hE.o rfl) rfl 0 rfl wF_X4_46 rfl dX4_isWord_32 ?_
              refine lv_aload_n hx hb dX4_isWord_35 rfl (lv_at hl 1 rfl) ?_
              refine h_geti (C := RX4) (T := TX4) (N := 13) hx hb hts inX4 hown hK hT0 (hE.o rfl) rfl 7 rfl wF_X4_28 rfl dX4_isWord_36 (fun p39 => ?_)
              refine h_top (v := x11) ex11.symm ?_
              refine lv_iload_n hx hb dX4_isWord_39 rfl (lv_at hl 0 rfl) ?_
              refine lv_iadd hx hb dX4_isWord_40 ?_
              refine lv_topi (fun x40 ex40 => ?_)
              refine h_callVi (T := TX8) (rest := []) (As := [.int x40]) hx hb hml hown hts hK hT0 hZ (fun _ h => h) hS14 (c_X8_byteAt l G Y P (tp) hP x40) trivial wd_X8_byteAt wV_X8_byteAt wL_X4_163 (hP.o rfl) rfl rfl hl.1 rfl (Nat.le_of_ble_eq_true rfl) dX4_isWord_41 ⟨Nat.le_of_ble_eq_true rfl, Nat.le_of_ble_eq_true rfl⟩ ⟨Nat.zero_le _, Nat.zero_le _⟩ (fun r41 H15 locs hp15 hT15 hS15 hk15 => ?_)
              obtain ⟨hp15, he⟩ := hp15
              have he := he.symm
              subst he
              refine lv_aload_n hx hb dX4_isWord_44 rfl (lv_at hl 2 rfl) ?_
              refine lv_iload_n hx hb dX4_isWord_45 rfl (lv_at hl 0 rfl) ?_
              refine h_callWi (rest := [.int r41]) (As := [.int 4]) hx hb hml hown hts hK hT0 hZ (fun _ h => h) hS15 (c_char4 l G Y 4 (by decide) (by decide)) trivial wd_J0_charAt_5068e wV_J0_charAt_5068e wL_X4_186 (vk_recv hZ.1 (i := 4) (by decide) hS15) rfl hl.1 rfl (Nat.le_of_ble_eq_true rfl) dX4_isWord_46 ⟨Nat.le_of_ble_eq_true rfl, Nat.le_of_ble_eq_true rfl⟩ ⟨Nat.zero_le _, Nat.zero_le _⟩ (fun r42 H16 locs hp16 hT16 hS16 hk16 => ?_)
              obtain ⟨hp16, he⟩ := hp16
              have he := he.symm
              subst he
              have hp16 : r42 = 107 := hp16.trans (by decide)
              subst hp16
              refine lv_icmp_eq (tgt := 54) hx hb dX4_isWord_49 (by decide) (fun c43 => ?_) (fun c43 => ?_)
              · skip
                refine lv_iinc (v := 5) (lv' := [(2, .int 5), (0, .ref (re)), (1, .ref (G.2.2.1 4))]) hx hb dX4_isWord_54 hl (k := 0) rfl (by decide) (by decide) rfl (fun ls hl => ?_)
                refine lv_goto (tgt := 23) hx hb dX4_isWord_57 (by decide) ?_
                refine lv_iload_n hx hb dX4_isWord_23 rfl (lv_at hl 0 rfl) ?_
                refine lv_aload_n hx hb dX4_isWord_24 rfl (lv_at hl 2 rfl) ?_
                refine h_callWi (rest := [.int 5]) (As := []) hx hb hml hown hts hK hT0 hZ (fun _ h => h) hS16 (c_length4 l G Y) trivial wd_J0_length_8abf5 wV_J0_length_8abf5 wL_X4_181 (vk_recv hZ.1 (i := 4) (by decide) hS16) rfl hl.1 rfl (Nat.le_of_ble_eq_true rfl) dX4_isWord_25 ⟨Nat.le_of_ble_eq_true rfl, Nat.le_of_ble_eq_true rfl⟩ ⟨Nat.zero_le _, Nat.zero_le _⟩ (fun r44 H17 locs hp17 hT17 hS17 hk17 => ?_)
                obtain ⟨hp17, he⟩ := hp17
                have he := he.symm
                subst he
                have hp17 : r44 = 5 := hp17
                subst hp17
                refine lv_icmp_ge (tgt := 60) hx hb dX4_isWord_28 (by decide) (fun _ => ?_) (fun h => absurd (by decide) h)
                refine lv_iconst (v := 1) hx hb dX4_isWord_60 (by decide) ?_
                exact hret _ _ _ _ _ hT0 hS17 ⟨(by decide), ⟨(by decide), trivial⟩, rfl⟩ dX4_isWord_61
              · skip
                refine lv_iconst (v := 0) hx hb dX4_isWord_52 (by decide) ?_
                exact hret _ _ _ _ _ hT0 hS16 ⟨(by decide), ⟨(by decide), trivial⟩, rfl⟩ dX4_isWord_53
            · skip
              refine lv_iconst (v := 0) hx hb dX4_isWord_52 (by decide) ?_
              exact hret _ _ _ _ _ hT0 hS13 ⟨(by decide), ⟨(by decide), trivial⟩, rfl⟩ dX4_isWord_53
          · skip
            refine lv_iconst (v := 0) hx hb dX4_isWord_52 (by decide) ?_
            exact hret _ _ _ _ _ hT0 hS10 ⟨(by decide), ⟨(by decide), trivial⟩, rfl⟩ dX4_isWord_53
        · skip
          refine lv_iconst (v := 0) hx hb dX4_isWord_52 (by decide) ?_
          exact hret _ _ _ _ _ hT0 hS7 ⟨(by decide), ⟨(by decide), trivial⟩, rfl⟩ dX4_isWord_53
      · skip
        refine lv_iconst (v := 0) hx hb dX4_isWord_52 (by decide) ?_
        exact hret _ _ _ _ _ hT0 hS4 ⟨(by decide), ⟨(by decide), trivial⟩, rfl⟩ dX4_isWord_53
    · skip
      refine lv_iconst (v := 0) hx hb dX4_isWord_19 (by decide) ?_
      exact hret _ _ _ _ _ hT0 hS1 ⟨(by decide), ⟨(by decide), trivial⟩, rfl⟩ dX4_isWord_20
set_option maxHeartbeats 4000000 in
set_option maxRecDepth 100000 in
theorem c_X4_isLineWord (l : Launch) (G : hG) (Y : hW) (P : Int32 → Prop) (re tp o : Nat) (hE : h_On Y re (reE (tC P) re tp o)) (hP : h_On Y tp (taE (tC P) tp)) (hY : h_On Y o (ringE (tC P) o)) : hMi l yX4_isLineWord cX4_isLineWord 1 (some .boolean) 5 107 G Y [.ref (re)] (fun H => True) (fun H r H1 => ((r = 0 ∨ r = 1) ∧ True) ∧ H1 = H) := by
  refine h_ofz (by decide +kernel) (Nat.le_of_ble_eq_true rfl) ?_
  intro p e s m args below meth c H0 ls Q hx hb hts hown hml hK hZ hT0 hpr hS0 hl hret
  have hl : lv_has ls 1 [(0, .ref (re))] := hl
  refine lv_aload_n hx hb dX4_isLineWord_0 rfl (lv_at hl 0 rfl) ?_
  refine va_ldcS hx hb hown (hZ.2.1 0 _ rfl) dX4_isLineWord_1 ?_
  refine h_callVi (T := TX4) (rest := []) (As := [.ref (G.2.2.1 0)]) hx hb hml hown hts hK hT0 hZ (fun _ h => h) hS0 (c_isWord0 l G Y P (re) (tp) (o) hE hP hY) trivial wd_X4_isWord wV_X4_isWord wL_X4_68 (hE.o rfl) rfl rfl hl.1 rfl (Nat.le_of_ble_eq_true rfl) dX4_isLineWord_3 ⟨Nat.le_of_ble_eq_true rfl, Nat.le_of_ble_eq_true rfl⟩ ⟨Nat.zero_le _, Nat.zero_le _⟩ (fun r1 H1 locs hp1 hT1 hS1 hk1 => ?_)
  obtain ⟨hp1, he⟩ := hp1
  have he := he.symm
  subst he
  refine lv_if_ne (tgt := 45) hx hb dX4_isLineWord_6 (by decide) (fun c2 => ?_) (fun c2 => ?_)
  · skip
    refine lv_iconst (v := 1) hx hb dX4_isLineWord_45 (by decide) ?_
    refine lv_goto (tgt := 50) hx hb dX4_isLineWord_46 (by decide) ?_
    exact hret _ _ _ _ _ hT0 hS1 ⟨(by decide), ⟨(by decide), trivial⟩, rfl⟩ dX4_isLineWord_50
  · skip
    refine lv_aload_n hx hb dX4_isLineWord_9 rfl (lv_at hl 0 rfl) ?_
    refine va_ldcS hx hb hown (hZ.2.1 1 _ rfl) dX4_isLineWord_10 ?_
    refine h_callVi (T := TX4) (rest := []) (As := [.ref (G.2.2.1 1)]) hx hb hml hown hts hK hT0 hZ (fun _ h => h) hS1 (c_isWord1 l G Y P (re) (tp) (o) hE hP hY) trivial wd_X4_isWord wV_X4_isWord wL_X4_68 (hE.o rfl) rfl rfl hl.1 rfl (Nat.le_of_ble_eq_true rfl) dX4_isLineWord_12 ⟨Nat.le_of_ble_eq_true rfl, Nat.le_of_ble_eq_true rfl⟩ ⟨Nat.zero_le _, Nat.zero_le _⟩ (fun r3 H2 locs hp2 hT2 hS2 hk2 => ?_)
    obtain ⟨hp2, he⟩ := hp2
    have he := he.symm
    subst he
    refine lv_if_ne (tgt := 45) hx hb dX4_isLineWord_15 (by decide) (fun c4 => ?_) (fun c4 => ?_)
    · skip
      refine lv_iconst (v := 1) hx hb dX4_isLineWord_45 (by decide) ?_
      refine lv_goto (tgt := 50) hx hb dX4_isLineWord_46 (by decide) ?_
      exact hret _ _ _ _ _ hT0 hS2 ⟨(by decide), ⟨(by decide), trivial⟩, rfl⟩ dX4_isLineWord_50
    · skip
      refine lv_aload_n hx hb dX4_isLineWord_18 rfl (lv_at hl 0 rfl) ?_
      refine va_ldcS hx hb hown (hZ.2.1 2 _ rfl) dX4_isLineWord_19 ?_
      refine h_callVi (T := TX4) (rest := []) (As := [.ref (G.2.2.1 2)]) hx hb hml hown hts hK hT0 hZ (fun _ h => h) hS2 (c_isWord2 l G Y P (re) (tp) (o) hE hP hY) trivial wd_X4_isWord wV_X4_isWord wL_X4_68 (hE.o rfl) rfl rfl hl.1 rfl (Nat.le_of_ble_eq_true rfl) dX4_isLineWord_21 ⟨Nat.le_of_ble_eq_true rfl, Nat.le_of_ble_eq_true rfl⟩ ⟨Nat.zero_le _, Nat.zero_le _⟩ (fun r5 H3 locs hp3 hT3 hS3 hk3 => ?_)
      obtain ⟨hp3, he⟩ := hp3
      have he := he.symm
      subst he
      refine lv_if_ne (tgt := 45) hx hb dX4_isLineWord_24 (by decide) (fun c6 => ?_) (fun c6 => ?_)
      · skip
        refine lv_iconst (v := 1) hx hb dX4_isLineWord_45 (by decide) ?_
        refine lv_goto (tgt := 50) hx hb dX4_isLineWord_46 (by decide) ?_
        exact hret _ _ _ _ _ hT0 hS3 ⟨(by decide), ⟨(by decide), trivial⟩, rfl⟩ dX4_isLineWord_50
      · skip
        refine lv_aload_n hx hb dX4_isLineWord_27 rfl (lv_at hl 0 rfl) ?_
        refine va_ldcS hx hb hown (hZ.2.1 3 _ rfl) dX4_isLineWord_28 ?_
        refine h_callVi (T := TX4) (rest := []) (As := [.ref (G.2.2.1 3)]) hx hb hml hown hts hK hT0 hZ (fun _ h => h) hS3 (c_isWord3 l G Y P (re) (tp) (o) hE hP hY) trivial wd_X4_isWord wV_X4_isWord wL_X4_68 (hE.o rfl) rfl rfl hl.1 rfl (Nat.le_of_ble_eq_true rfl) dX4_isLineWord_30 ⟨Nat.le_of_ble_eq_true rfl, Nat.le_of_ble_eq_true rfl⟩ ⟨Nat.zero_le _, Nat.zero_le _⟩ (fun r7 H4 locs hp4 hT4 hS4 hk4 => ?_)
        obtain ⟨hp4, he⟩ := hp4
        have he := he.symm
        subst he
        refine lv_if_ne (tgt := 45) hx hb dX4_isLineWord_33 (by decide) (fun c8 => ?_) (fun c8 => ?_)
        · skip
          refine lv_iconst (v := 1) hx hb dX4_isLineWord_45 (by decide) ?_
          refine lv_goto (tgt := 50) hx hb dX4_isLineWord_46 (by decide) ?_
          exact hret _ _ _ _ _ hT0 hS4 ⟨(by decide), ⟨(by decide), trivial⟩, rfl⟩ dX4_isLineWord_50
        · skip
          refine lv_aload_n hx hb dX4_isLineWord_36 rfl (lv_at hl 0 rfl) ?_
          refine va_ldcS hx hb hown (hZ.2.1 4 _ rfl) dX4_isLineWord_37 ?_
          refine h_callVi (T := TX4) (rest := []) (As := [.ref (G.2.2.1 4)]) hx hb hml hown hts hK hT0 hZ (fun _ h => h) hS4 (c_isWord4 l G Y P (re) (tp) (o) hE hP hY) trivial wd_X4_isWord wV_X4_isWord wL_X4_68 (hE.o rfl) rfl rfl hl.1 rfl (Nat.le_of_ble_eq_true rfl) dX4_isLineWord_39 ⟨Nat.le_of_ble_eq_true rfl, Nat.le_of_ble_eq_true rfl⟩ ⟨Nat.zero_le _, Nat.zero_le _⟩ (fun r9 H5 locs hp5 hT5 hS5 hk5 => ?_)
          obtain ⟨hp5, he⟩ := hp5
          have he := he.symm
          subst he
          refine lv_if_eq (tgt := 49) hx hb dX4_isLineWord_42 (by decide) (fun c10 => ?_) (fun c10 => ?_)
          · skip
            refine lv_iconst (v := 0) hx hb dX4_isLineWord_49 (by decide) ?_
            exact hret _ _ _ _ _ hT0 hS5 ⟨(by decide), ⟨(by decide), trivial⟩, rfl⟩ dX4_isLineWord_50
          · skip
            refine lv_iconst (v := 1) hx hb dX4_isLineWord_45 (by decide) ?_
            refine lv_goto (tgt := 50) hx hb dX4_isLineWord_46 (by decide) ?_
            exact hret _ _ _ _ _ hT0 hS5 ⟨(by decide), ⟨(by decide), trivial⟩, rfl⟩ dX4_isLineWord_50
set_option maxHeartbeats 4000000 in
set_option maxRecDepth 100000 in
theorem c_X4_readName (l : Launch) (G : hG) (Y : hW) (P : Int32 → Prop) (re tp o : Nat) (hE : h_On Y re (reE (tC P) re tp o)) (hP : h_On Y tp (taE (tC P) tp)) (hY : h_On Y o (ringE (tC P) o)) (u1 : Int32) : hMi l yX4_readName cX4_readName 3 (some .boolean) 6 127 G Y [.ref (re), .int u1] (fun H => True) (fun H r H1 => (r = 0 ∨ r = 1) ∧ True) := by
  refine h_ofz (by decide +kernel) (Nat.le_of_ble_eq_true rfl) ?_
  intro p e s m args below meth c H0 ls Q hx hb hts hown hml hK hZ hT0 hpr hS0 hl hret
  have hl : lv_has ls 3 [(0, .ref (re)), (1, .int u1)] := hl
  refine lv_aload_n hx hb dX4_readName_0 rfl (lv_at hl 0 rfl) ?_
  refine h_callVi (T := TX4) (rest := []) (As := []) hx hb hml hown hts hK hT0 hZ (fun _ h => h) hS0 (c_X4_readToken l G Y P (re) (tp) (o) hE hP hY) trivial wd_X4_readToken wV_X4_readToken wL_X4_59 (hE.o rfl) rfl rfl hl.1 rfl (Nat.le_of_ble_eq_true rfl) dX4_readName_1 ⟨Nat.le_of_ble_eq_true rfl, Nat.le_of_ble_eq_true rfl⟩ ⟨Nat.zero_le _, Nat.zero_le _⟩ (fun r1 H1 locs hp1 hT1 hS1 hk1 => ?_)
  refine lv_if_ne (tgt := 9) hx hb dX4_readName_4 (by decide) (fun c2 => ?_) (fun c2 => ?_)
  · skip
    refine lv_aload_n hx hb dX4_readName_9 rfl (lv_at hl 0 rfl) ?_
    refine h_geti (C := RX4) (T := TX4) (N := 13) hx hb hts inX4 hown hK hT1 (hE.o rfl) rfl 6 rfl wF_X4_25 rfl dX4_readName_10 (fun p3 => ?_)
    refine lv_topi (fun x4 ex4 => ?_)
    refine lv_iconst (v := 1) hx hb dX4_readName_13 (by decide) ?_
    refine lv_icmp_ne (tgt := 33) hx hb dX4_readName_14 (by decide) (fun c5 => ?_) (fun c5 => ?_)
    · skip
      refine lv_aload_n hx hb dX4_readName_33 rfl (lv_at hl 0 rfl) ?_
      refine lv_iconst (v := 2) hx hb dX4_readName_34 (by decide) ?_
      refine h_callVi (T := TX4) (rest := []) (As := [.int 2]) hx hb hml hown hts hK hT1 hZ (fun _ h => h) hS1 (c_X4_fail l G Y P (re) (tp) (o) hE hP hY 2) trivial wd_X4_fail wV_X4_fail wL_X4_95 (hE.o rfl) rfl rfl hl.1 rfl (Nat.le_of_ble_eq_true rfl) dX4_readName_35 ⟨Nat.le_of_ble_eq_true rfl, Nat.le_of_ble_eq_true rfl⟩ ⟨Nat.zero_le _, Nat.zero_le _⟩ (fun r6 H2 locs hp2 hT2 hS2 hk2 => ?_)
      exact hret _ _ _ _ _ hT2 hS2 ⟨hp2.1, ⟨hp2.1, trivial⟩⟩ dX4_readName_38
    · skip
      refine lv_aload_n hx hb dX4_readName_17 rfl (lv_at hl 0 rfl) ?_
      refine h_geti (C := RX4) (T := TX4) (N := 13) hx hb hts inX4 hown hK hT1 (hE.o rfl) rfl 8 rfl wF_X4_31 rfl dX4_readName_18 (fun p7 => ?_)
      refine lv_topi (fun x8 ex8 => ?_)
      refine lv_bipush (v := 8) hx hb dX4_readName_21 (by decide) ?_
      refine lv_icmp_gt (tgt := 33) hx hb dX4_readName_23 (by decide) (fun c9 => ?_) (fun c9 => ?_)
      · skip
        refine lv_aload_n hx hb dX4_readName_33 rfl (lv_at hl 0 rfl) ?_
        refine lv_iconst (v := 2) hx hb dX4_readName_34 (by decide) ?_
        refine h_callVi (T := TX4) (rest := []) (As := [.int 2]) hx hb hml hown hts hK hT1 hZ (fun _ h => h) hS1 (c_X4_fail l G Y P (re) (tp) (o) hE hP hY 2) trivial wd_X4_fail wV_X4_fail wL_X4_95 (hE.o rfl) rfl rfl hl.1 rfl (Nat.le_of_ble_eq_true rfl) dX4_readName_35 ⟨Nat.le_of_ble_eq_true rfl, Nat.le_of_ble_eq_true rfl⟩ ⟨Nat.zero_le _, Nat.zero_le _⟩ (fun r10 H3 locs hp3 hT3 hS3 hk3 => ?_)
        exact hret _ _ _ _ _ hT3 hS3 ⟨hp3.1, ⟨hp3.1, trivial⟩⟩ dX4_readName_38
      · skip
        refine lv_aload_n hx hb dX4_readName_26 rfl (lv_at hl 0 rfl) ?_
        refine h_callVi (T := TX4) (rest := []) (As := []) hx hb hml hown hts hK hT1 hZ (fun _ h => h) hS1 (c_X4_isLineWord l G Y P (re) (tp) (o) hE hP hY) trivial wd_X4_isLineWord wV_X4_isLineWord wL_X4_154 (hE.o rfl) rfl rfl hl.1 rfl (Nat.le_of_ble_eq_true rfl) dX4_readName_27 ⟨Nat.le_of_ble_eq_true rfl, Nat.le_of_ble_eq_true rfl⟩ ⟨Nat.zero_le _, Nat.zero_le _⟩ (fun r11 H4 locs hp4 hT4 hS4 hk4 => ?_)
        obtain ⟨hp4, he⟩ := hp4
        have he := he.symm
        subst he
        refine lv_if_eq (tgt := 39) hx hb dX4_readName_30 (by decide) (fun c12 => ?_) (fun c12 => ?_)
        · skip
          refine lv_aload_n hx hb dX4_readName_39 rfl (lv_at hl 0 rfl) ?_
          refine lv_iconst (v := (-1)) hx hb dX4_readName_40 (by decide) ?_
          refine h_puti (C := RX4) (T := TX4) (N := 13) hx hb hts inX4 tyX4 tyX4_ok nmX4 hown hK hT1 (fun _ h => h) hS4 (hE.o rfl) rfl 10 rfl wF_X4_37 rfl rfl trivial rfl rfl dX4_readName_41 (fun H5 locs hT5 hS5 hu5 => ?_)
          refine lv_iconst (v := 0) hx hb dX4_readName_44 (by decide) ?_
          refine lv_istore_n (lv' := [(2, .int 0), (0, .ref (re)), (1, .int u1)]) hx hb dX4_readName_45 rfl hl (by decide) rfl (fun ls hl => ?_)
          have LP1 : ∀ (n1 : Nat) (w1_2 : Int32), 2147483647 - w1_2.toInt < (n1 : Int) → 0 ≤ w1_2.toInt → ∀ (H6 : Heap) (locs : List Loc) (ls : Array Slot), hT G Y H6 → va_S (h_A Y) s.heap H6 locs → lv_has ls 3 [(2, .int w1_2), (0, .ref (re)), (1, .int u1)] → W p l e (h_rm 6 127) s m args below meth c H6 locs 0 0 Q (F0 m 46 ls []) := by
            intro n1
            induction n1 with
            | zero =>
              intro w1_2 hm
              exact absurd hm (by have := Int32.toInt_lt w1_2; have := Int32.le_toInt w1_2; omega)
            | succ n1 ih1 =>
              intro w1_2 hm1 hz1 H6 locs ls hT6 hS6 hl
              refine lv_iload_n hx hb dX4_readName_46 rfl (lv_at hl 0 rfl) ?_
              refine lv_aload_n hx hb dX4_readName_47 rfl (lv_at hl 1 rfl) ?_
              refine h_getr (C := RX4) (T := TX4) (N := 13) hx hb hts inX4 hown hK hT6 (hE.o rfl) rfl 1 rfl wF_X4_50 rfl dX4_readName_48 ?_
              refine h_getr (C := RX5) (T := TX5) (N := 11) hx hb hts inX5 hown hK hT6 (on_rg hY) rfl 0 rfl wF_X4_99 rfl dX4_readName_51 ?_
              refine h_geti (C := RX7) (T := TX7) (N := 9) hx hb hts inX7 hown hK hT6 ((on_st hY).o rfl) rfl 5 rfl wF_X4_103 rfl dX4_readName_54 (fun p13 => ?_)
              refine lv_topi (fun x14 ex14 => ?_)
              refine lv_icmp_ge (tgt := 79) hx hb dX4_readName_57 (by decide) (fun c15 => ?_) (fun c15 => ?_)
              · skip
                refine lv_iload_n hx hb dX4_readName_79 rfl (lv_at hl 2 rfl) ?_
                refine lv_aload_n hx hb dX4_readName_80 rfl (lv_at hl 1 rfl) ?_
                refine h_geti (C := RX4) (T := TX4) (N := 13) hx hb hts inX4 hown hK hT6 (hE.o rfl) rfl 10 rfl wF_X4_37 rfl dX4_readName_81 (fun p16 => ?_)
                refine lv_topi (fun x17 ex17 => ?_)
                refine lv_iconst (v := (-1)) hx hb dX4_readName_84 (by decide) ?_
                refine lv_icmp_ne (tgt := 92) hx hb dX4_readName_85 (by decide) (fun c18 => ?_) (fun c18 => ?_)
                · skip
                  refine lv_iconst (v := 0) hx hb dX4_readName_92 (by decide) ?_
                  refine lv_icmp_eq (tgt := 104) hx hb dX4_readName_93 (by decide) (fun c19 => ?_) (fun c19 => ?_)
                  · skip
                    refine lv_iconst (v := 1) hx hb dX4_readName_104 (by decide) ?_
                    refine lv_goto (tgt := 109) hx hb dX4_readName_105 (by decide) ?_
                    exact hret _ _ _ _ _ hT6 hS6 ⟨(by decide), ⟨(by decide), trivial⟩⟩ dX4_readName_109
                  · skip
                    refine lv_aload_n hx hb dX4_readName_96 rfl (lv_at hl 1 rfl) ?_
                    refine lv_iconst (v := 3) hx hb dX4_readName_97 (by decide) ?_
                    refine h_callVi (T := TX4) (rest := []) (As := [.int 3]) hx hb hml hown hts hK hT6 hZ (fun _ h => h) hS6 (c_X4_fail l G Y P (re) (tp) (o) hE hP hY 3) trivial wd_X4_fail wV_X4_fail wL_X4_95 (hE.o rfl) rfl rfl hl.1 rfl (Nat.le_of_ble_eq_true rfl) dX4_readName_98 ⟨Nat.le_of_ble_eq_true rfl, Nat.le_of_ble_eq_true rfl⟩ ⟨Nat.zero_le _, Nat.zero_le _⟩ (fun r20 H7 locs hp7 hT7 hS7 hk7 => ?_)
                    refine lv_if_eq (tgt := 108) hx hb dX4_readName_101 (by decide) (fun c21 => ?_) (fun c21 => ?_)
                    · skip
                      refine lv_iconst (v := 0) hx hb dX4_readName_108 (by decide) ?_
                      exact hret _ _ _ _ _ hT7 hS7 ⟨(by decide), ⟨(by decide), trivial⟩⟩ dX4_readName_109
                    · skip
                      refine lv_iconst (v := 1) hx hb dX4_readName_104 (by decide) ?_
                      refine lv_goto (tgt := 109) hx hb dX4_readName_105 (by decide) ?_
                      exact hret _ _ _ _ _ hT7 hS7 ⟨(by decide), ⟨(by decide), trivial⟩⟩ dX4_readName_109
                · skip
                  refine lv_iconst (v := 1) hx hb dX4_readName_88 (by decide) ?_
                  refine lv_goto (tgt := 93) hx hb dX4_readName_89 (by decide) ?_
                  refine lv_icmp_eq (tgt := 104) hx hb dX4_readName_93 (by decide) (fun c22 => ?_) (fun c22 => ?_)
                  · skip
                    refine lv_iconst (v := 1) hx hb dX4_readName_104 (by decide) ?_
                    refine lv_goto (tgt := 109) hx hb dX4_readName_105 (by decide) ?_
                    exact hret _ _ _ _ _ hT6 hS6 ⟨(by decide), ⟨(by decide), trivial⟩⟩ dX4_readName_109
                  · skip
                    refine lv_aload_n hx hb dX4_readName_96 rfl (lv_at hl 1 rfl) ?_
                    refine lv_iconst (v := 3) hx hb dX4_readName_97 (by decide) ?_
                    refine h_callVi (T := TX4) (rest := []) (As := [.int 3]) hx hb hml hown hts hK hT6 hZ (fun _ h => h) hS6 (c_X4_fail l G Y P (re) (tp) (o) hE hP hY 3) trivial wd_X4_fail wV_X4_fail wL_X4_95 (hE.o rfl) rfl rfl hl.1 rfl (Nat.le_of_ble_eq_true rfl) dX4_readName_98 ⟨Nat.le_of_ble_eq_true rfl, Nat.le_of_ble_eq_true rfl⟩ ⟨Nat.zero_le _, Nat.zero_le _⟩ (fun r23 H8 locs hp8 hT8 hS8 hk8 => ?_)
                    refine lv_if_eq (tgt := 108) hx hb dX4_readName_101 (by decide) (fun c24 => ?_) (fun c24 => ?_)
                    · skip
                      refine lv_iconst (v := 0) hx hb dX4_readName_108 (by decide) ?_
                      exact hret _ _ _ _ _ hT8 hS8 ⟨(by decide), ⟨(by decide), trivial⟩⟩ dX4_readName_109
                    · skip
                      refine lv_iconst (v := 1) hx hb dX4_readName_104 (by decide) ?_
                      refine lv_goto (tgt := 109) hx hb dX4_readName_105 (by decide) ?_
                      exact hret _ _ _ _ _ hT8 hS8 ⟨(by decide), ⟨(by decide), trivial⟩⟩ dX4_readName_109
              · skip
                refine lv_aload_n hx hb dX4_readName_60 rfl (lv_at hl 1 rfl) ?_
                refine lv_iload_n hx hb dX4_readName_61 rfl (lv_at hl 0 rfl) ?_
                refine h_callVi (T := TX4) (rest := []) (As := [.int w1_2]) hx hb hml hown hts hK hT6 hZ (fun _ h => h) hS6 (c_X4_isNameOf l G Y P (re) (tp) (o) hE hP hY w1_2) trivial wd_X4_isNameOf wV_X4_isNameOf wL_X4_157 (hE.o rfl) rfl rfl hl.1 rfl (Nat.le_of_ble_eq_true rfl) dX4_readName_62 ⟨Nat.le_of_ble_eq_true rfl, Nat.le_of_ble_eq_true rfl⟩ ⟨Nat.zero_le _, Nat.zero_le _⟩ (fun r25 H9 locs hp9 hT9 hS9 hk9 => ?_)
                obtain ⟨hp9, he⟩ := hp9
                have he := he.symm
                subst he
                refine lv_if_eq (tgt := 73) hx hb dX4_readName_65 (by decide) (fun c26 => ?_) (fun c26 => ?_)
                · skip
                  obtain ⟨x27, ex27⟩ : ∃ y : Int32, y = w1_2 + 1 := ⟨_, rfl⟩
                  refine lv_iinc (v := x27) (lv' := [(2, .int x27), (0, .ref (re)), (1, .int u1)]) hx hb dX4_readName_73 hl (k := 0) rfl (by rw [ex27]; rfl) (by decide) rfl (fun ls hl => ?_)
                  refine lv_goto (tgt := 46) hx hb dX4_readName_76 (by decide) ?_
                  exact ih1 x27 (h_dn hm1 ex27 (by first | exact h_lu c15 | exact h_lu2 c15 | ((try simp only [Int32.lt_iff_toInt_lt, Int32.le_iff_toInt_le, ← Int32.toInt_inj, Int32.reduceToInt, (show (-1 : Int32).toInt = -1 from rfl)] at c15 ⊢); omega))) (h_nn hz1 ex27 (by first | exact h_lu c15 | exact h_lu2 c15 | ((try simp only [Int32.lt_iff_toInt_lt, Int32.le_iff_toInt_le, ← Int32.toInt_inj, Int32.reduceToInt, (show (-1 : Int32).toInt = -1 from rfl)] at c15 ⊢); omega))) _ _ _ hT6 hS9 (lv_sub hl [0, 1, 2] rfl)
                · skip
                  refine lv_aload_n hx hb dX4_readName_68 rfl (lv_at hl 1 rfl) ?_
                  refine lv_iload_n hx hb dX4_readName_69 rfl (lv_at hl 0 rfl) ?_
                  refine h_puti (C := RX4) (T := TX4) (N := 13) hx hb hts inX4 tyX4 tyX4_ok nmX4 hown hK hT6 (fun _ h => h) hS9 (hE.o rfl) rfl 10 rfl wF_X4_37 rfl rfl trivial rfl rfl dX4_readName_70 (fun H10 locs hT10 hS10 hu10 => ?_)
                  obtain ⟨x28, ex28⟩ : ∃ y : Int32, y = w1_2 + 1 := ⟨_, rfl⟩
                  refine lv_iinc (v := x28) (lv' := [(2, .int x28), (0, .ref (re)), (1, .int u1)]) hx hb dX4_readName_73 hl (k := 0) rfl (by rw [ex28]; rfl) (by decide) rfl (fun ls hl => ?_)
                  refine lv_goto (tgt := 46) hx hb dX4_readName_76 (by decide) ?_
                  exact ih1 x28 (h_dn hm1 ex28 (by first | exact h_lu c15 | exact h_lu2 c15 | ((try simp only [Int32.lt_iff_toInt_lt, Int32.le_iff_toInt_le, ← Int32.toInt_inj, Int32.reduceToInt, (show (-1 : Int32).toInt = -1 from rfl)] at c15 ⊢); omega))) (h_nn hz1 ex28 (by first | exact h_lu c15 | exact h_lu2 c15 | ((try simp only [Int32.lt_iff_toInt_lt, Int32.le_iff_toInt_le, ← Int32.toInt_inj, Int32.reduceToInt, (show (-1 : Int32).toInt = -1 from rfl)] at c15 ⊢); omega))) _ _ _ hT10 hS10 (lv_sub hl [0, 1, 2] rfl)
          exact LP1 4294967296 0 (h_m0 _) (by decide) _ _ _ hT5 hS5 (lv_sub hl [0, 1, 2] rfl)
        · skip
          refine lv_aload_n hx hb dX4_readName_33 rfl (lv_at hl 0 rfl) ?_
          refine lv_iconst (v := 2) hx hb dX4_readName_34 (by decide) ?_
          refine h_callVi (T := TX4) (rest := []) (As := [.int 2]) hx hb hml hown hts hK hT1 hZ (fun _ h => h) hS4 (c_X4_fail l G Y P (re) (tp) (o) hE hP hY 2) trivial wd_X4_fail wV_X4_fail wL_X4_95 (hE.o rfl) rfl rfl hl.1 rfl (Nat.le_of_ble_eq_true rfl) dX4_readName_35 ⟨Nat.le_of_ble_eq_true rfl, Nat.le_of_ble_eq_true rfl⟩ ⟨Nat.zero_le _, Nat.zero_le _⟩ (fun r29 H11 locs hp11 hT11 hS11 hk11 => ?_)
          exact hret _ _ _ _ _ hT11 hS11 ⟨hp11.1, ⟨hp11.1, trivial⟩⟩ dX4_readName_38
  · skip
    refine lv_iconst (v := 0) hx hb dX4_readName_7 (by decide) ?_
    exact hret _ _ _ _ _ hT1 hS1 ⟨(by decide), ⟨(by decide), trivial⟩⟩ dX4_readName_8
set_option maxHeartbeats 4000000 in
set_option maxRecDepth 100000 in
theorem c_X4_readStation (l : Launch) (G : hG) (Y : hW) (P : Int32 → Prop) (re tp o : Nat) (hE : h_On Y re (reE (tC P) re tp o)) (hP : h_On Y tp (taE (tC P) tp)) (hY : h_On Y o (ringE (tC P) o)) : hMi l yX4_readStation cX4_readStation 3 (some .boolean) 7 149 G Y [.ref (re)] (fun H => True) (fun H r H1 => (r = 0 ∨ r = 1) ∧ True) := by
  refine h_ofz (by decide +kernel) (Nat.le_of_ble_eq_true rfl) ?_
  intro p e s m args below meth c H0 ls Q hx hb hts hown hml hK hZ hT0 hpr hS0 hl hret
  have hl : lv_has ls 3 [(0, .ref (re))] := hl
  refine lv_aload_n hx hb dX4_readStation_0 rfl (lv_at hl 0 rfl) ?_
  refine h_getr (C := RX4) (T := TX4) (N := 13) hx hb hts inX4 hown hK hT0 (hE.o rfl) rfl 1 rfl wF_X4_50 rfl dX4_readStation_1 ?_
  refine h_getr (C := RX5) (T := TX5) (N := 11) hx hb hts inX5 hown hK hT0 (on_rg hY) rfl 0 rfl wF_X4_99 rfl dX4_readStation_4 ?_
  refine lv_astore_n (lv' := [(1, .ref (o + 1)), (0, .ref (re))]) hx hb dX4_readStation_7 rfl hl (by decide) rfl (fun ls hl => ?_)
  refine lv_aload_n hx hb dX4_readStation_8 rfl (lv_at hl 0 rfl) ?_
  refine h_geti (C := RX7) (T := TX7) (N := 9) hx hb hts inX7 hown hK hT0 ((on_st hY).o rfl) rfl 5 rfl wF_X4_103 rfl dX4_readStation_9 (fun p1 => ?_)
  refine lv_topi (fun x2 ex2 => ?_)
  refine lv_istore_n (lv' := [(2, .int x2), (1, .ref (o + 1)), (0, .ref (re))]) hx hb dX4_readStation_12 rfl hl (by decide) rfl (fun ls hl => ?_)
  refine lv_iload_n hx hb dX4_readStation_13 rfl (lv_at hl 0 rfl) ?_
  refine lv_if_lt (tgt := 23) hx hb dX4_readStation_14 (by decide) (fun c3 => ?_) (fun c3 => ?_)
  · skip
    refine lv_aload_n hx hb dX4_readStation_23 rfl (lv_at hl 2 rfl) ?_
    refine lv_bipush (v := 6) hx hb dX4_readStation_24 (by decide) ?_
    refine h_callVi (T := TX4) (rest := []) (As := [.int 6]) hx hb hml hown hts hK hT0 hZ (fun _ h => h) hS0 (c_X4_fail l G Y P (re) (tp) (o) hE hP hY 6) trivial wd_X4_fail wV_X4_fail wL_X4_95 (hE.o rfl) rfl rfl hl.1 rfl (Nat.le_of_ble_eq_true rfl) dX4_readStation_26 ⟨Nat.le_of_ble_eq_true rfl, Nat.le_of_ble_eq_true rfl⟩ ⟨Nat.zero_le _, Nat.zero_le _⟩ (fun r4 H1 locs hp1 hT1 hS1 hk1 => ?_)
    exact hret _ _ _ _ _ hT1 hS1 ⟨hp1.1, ⟨hp1.1, trivial⟩⟩ dX4_readStation_29
  · skip
    refine lv_iload_n hx hb dX4_readStation_17 rfl (lv_at hl 0 rfl) ?_
    refine lv_bipush (v := 8) hx hb dX4_readStation_18 (by decide) ?_
    refine lv_icmp_lt (tgt := 30) hx hb dX4_readStation_20 (by decide) (fun c5 => ?_) (fun c5 => ?_)
    · skip
      refine lv_aload_n hx hb dX4_readStation_30 rfl (lv_at hl 2 rfl) ?_
      refine lv_iconst (v := 1) hx hb dX4_readStation_31 (by decide) ?_
      refine h_callVi (T := TX4) (rest := []) (As := [.int 1]) hx hb hml hown hts hK hT0 hZ (fun _ h => h) hS0 (c_X4_readName l G Y P (re) (tp) (o) hE hP hY 1) trivial wd_X4_readName wV_X4_readName wL_X4_108 (hE.o rfl) rfl rfl hl.1 rfl (Nat.le_of_ble_eq_true rfl) dX4_readStation_32 ⟨Nat.le_of_ble_eq_true rfl, Nat.le_of_ble_eq_true rfl⟩ ⟨Nat.zero_le _, Nat.zero_le _⟩ (fun r6 H2 locs hp2 hT2 hS2 hk2 => ?_)
      refine lv_if_ne (tgt := 40) hx hb dX4_readStation_35 (by decide) (fun c7 => ?_) (fun c7 => ?_)
      · skip
        refine lv_aload_n hx hb dX4_readStation_40 rfl (lv_at hl 2 rfl) ?_
        refine h_getr (C := RX4) (T := TX4) (N := 13) hx hb hts inX4 hown hK hT2 (hE.o rfl) rfl 2 rfl wF_X4_9 rfl dX4_readStation_41 ?_
        refine lv_iload_n hx hb dX4_readStation_44 rfl (lv_at hl 0 rfl) ?_
        refine lv_aload_n hx hb dX4_readStation_45 rfl (lv_at hl 2 rfl) ?_
        refine h_geti (C := RX4) (T := TX4) (N := 13) hx hb hts inX4 hown hK hT2 (hE.o rfl) rfl 7 rfl wF_X4_28 rfl dX4_readStation_46 (fun p8 => ?_)
        refine lv_topi (fun x9 ex9 => ?_)
        refine h_iast hx hb hK hT2 (fun _ h => h) hS2 (hE.at 1 rfl) (vp_in_iff.mpr (by (try simp only [Int32.lt_iff_toInt_lt, Int32.le_iff_toInt_le, ← Int32.toInt_inj, Int32.reduceToInt, (show (-1 : Int32).toInt = -1 from rfl)] at c3 c5 ⊢); omega)) trivial dX4_readStation_49 (fun H3 locs hT3 hS3 hu3 => ?_)
        refine lv_aload_n hx hb dX4_readStation_50 rfl (lv_at hl 2 rfl) ?_
        refine h_getr (C := RX4) (T := TX4) (N := 13) hx hb hts inX4 hown hK hT3 (hE.o rfl) rfl 3 rfl wF_X4_15 rfl dX4_readStation_51 ?_
        refine lv_iload_n hx hb dX4_readStation_54 rfl (lv_at hl 0 rfl) ?_
        refine lv_aload_n hx hb dX4_readStation_55 rfl (lv_at hl 2 rfl) ?_
        refine h_geti (C := RX4) (T := TX4) (N := 13) hx hb hts inX4 hown hK hT3 (hE.o rfl) rfl 8 rfl wF_X4_31 rfl dX4_readStation_56 (fun p10 => ?_)
        refine lv_topi (fun x11 ex11 => ?_)
        refine h_iast hx hb hK hT3 (fun _ h => h) hS3 (hE.at 2 rfl) (vp_in_iff.mpr (by (try simp only [Int32.lt_iff_toInt_lt, Int32.le_iff_toInt_le, ← Int32.toInt_inj, Int32.reduceToInt, (show (-1 : Int32).toInt = -1 from rfl)] at c3 c5 ⊢); omega)) trivial dX4_readStation_59 (fun H4 locs hT4 hS4 hu4 => ?_)
        refine lv_aload_n hx hb dX4_readStation_60 rfl (lv_at hl 2 rfl) ?_
        refine lv_bipush (v := 99) hx hb dX4_readStation_61 (by decide) ?_
        refine h_callVi (T := TX4) (rest := []) (As := [.int 99]) hx hb hml hown hts hK hT4 hZ (fun _ h => h) hS4 (c_X4_readNumber l G Y P (re) (tp) (o) hE hP hY 99) trivial wd_X4_readNumber wV_X4_readNumber wL_X4_112 (hE.o rfl) rfl rfl hl.1 rfl (Nat.le_of_ble_eq_true rfl) dX4_readStation_63 ⟨Nat.le_of_ble_eq_true rfl, Nat.le_of_ble_eq_true rfl⟩ ⟨Nat.zero_le _, Nat.zero_le _⟩ (fun r12 H5 locs hp5 hT5 hS5 hk5 => ?_)
        refine lv_if_ne (tgt := 71) hx hb dX4_readStation_66 (by decide) (fun c13 => ?_) (fun c13 => ?_)
        · skip
          refine lv_aload_n hx hb dX4_readStation_71 rfl (lv_at hl 1 rfl) ?_
          refine lv_aload_n hx hb dX4_readStation_72 rfl (lv_at hl 2 rfl) ?_
          refine h_geti (C := RX4) (T := TX4) (N := 13) hx hb hts inX4 hown hK hT5 (hE.o rfl) rfl 9 rfl wF_X4_34 rfl dX4_readStation_73 (fun p14 => ?_)
          refine lv_topi (fun x15 ex15 => ?_)
          refine h_callVi (T := TX7) (rest := []) (As := [.int x15]) hx hb hml hown hts hK hT5 hZ (fun _ h => h) hS5 (c_X7_hasAddress l G Y P (o + 1) (on_st hY) x15) trivial wd_X7_hasAddress wV_X7_hasAddress wL_X4_115 ((on_st hY).o rfl) rfl rfl hl.1 rfl (Nat.le_of_ble_eq_true rfl) dX4_readStation_76 ⟨Nat.le_of_ble_eq_true rfl, Nat.le_of_ble_eq_true rfl⟩ ⟨Nat.zero_le _, Nat.zero_le _⟩ (fun r16 H6 locs hp6 hT6 hS6 hk6 => ?_)
          obtain ⟨hp6, he⟩ := hp6
          have he := he.symm
          subst he
          refine lv_if_eq (tgt := 88) hx hb dX4_readStation_79 (by decide) (fun c17 => ?_) (fun c17 => ?_)
          · skip
            refine lv_aload_n hx hb dX4_readStation_88 rfl (lv_at hl 1 rfl) ?_
            refine lv_aload_n hx hb dX4_readStation_89 rfl (lv_at hl 2 rfl) ?_
            refine h_geti (C := RX4) (T := TX4) (N := 13) hx hb hts inX4 hown hK hT5 (hE.o rfl) rfl 9 rfl wF_X4_34 rfl dX4_readStation_90 (fun p18 => ?_)
            refine h_top (v := x15) ex15.symm ?_
            refine h_callVv (T := TX7) (rest := []) (As := [.int x15]) hx hb hml hown hts hK hT5 hZ (fun _ h => h) hS6 (c_X7_append l G Y P (o + 1) (on_st hY) x15) trivial wd_X7_append wV_X7_append wL_X4_118 ((on_st hY).o rfl) rfl rfl hl.1 rfl (Nat.le_of_ble_eq_true rfl) dX4_readStation_93 ⟨Nat.le_of_ble_eq_true rfl, Nat.le_of_ble_eq_true rfl⟩ ⟨Nat.zero_le _, Nat.zero_le _⟩ (fun H7 locs hp7 hT7 hS7 hk7 => ?_)
            refine lv_aload_n hx hb dX4_readStation_96 rfl (lv_at hl 2 rfl) ?_
            refine h_callVi (T := TX4) (rest := []) (As := []) hx hb hml hown hts hK hT7 hZ (fun _ h => h) hS7 (c_X4_readSign l G Y P (re) (tp) (o) hE hP hY) trivial wd_X4_readSign wV_X4_readSign wL_X4_122 (hE.o rfl) rfl rfl hl.1 rfl (Nat.le_of_ble_eq_true rfl) dX4_readStation_97 ⟨Nat.le_of_ble_eq_true rfl, Nat.le_of_ble_eq_true rfl⟩ ⟨Nat.zero_le _, Nat.zero_le _⟩ (fun r19 H8 locs hp8 hT8 hS8 hk8 => ?_)
            exact hret _ _ _ _ _ hT8 hS8 ⟨hp8.1, ⟨hp8.1, trivial⟩⟩ dX4_readStation_100
          · skip
            refine lv_aload_n hx hb dX4_readStation_82 rfl (lv_at hl 2 rfl) ?_
            refine lv_iconst (v := 4) hx hb dX4_readStation_83 (by decide) ?_
            refine h_callVi (T := TX4) (rest := []) (As := [.int 4]) hx hb hml hown hts hK hT5 hZ (fun _ h => h) hS6 (c_X4_fail l G Y P (re) (tp) (o) hE hP hY 4) trivial wd_X4_fail wV_X4_fail wL_X4_95 (hE.o rfl) rfl rfl hl.1 rfl (Nat.le_of_ble_eq_true rfl) dX4_readStation_84 ⟨Nat.le_of_ble_eq_true rfl, Nat.le_of_ble_eq_true rfl⟩ ⟨Nat.zero_le _, Nat.zero_le _⟩ (fun r20 H9 locs hp9 hT9 hS9 hk9 => ?_)
            exact hret _ _ _ _ _ hT9 hS9 ⟨hp9.1, ⟨hp9.1, trivial⟩⟩ dX4_readStation_87
        · skip
          refine lv_iconst (v := 0) hx hb dX4_readStation_69 (by decide) ?_
          exact hret _ _ _ _ _ hT5 hS5 ⟨(by decide), ⟨(by decide), trivial⟩⟩ dX4_readStation_70
      · skip
        refine lv_iconst (v := 0) hx hb dX4_readStation_38 (by decide) ?_
        exact hret _ _ _ _ _ hT2 hS2 ⟨(by decide), ⟨(by decide), trivial⟩⟩ dX4_readStation_39
    · skip
      refine lv_aload_n hx hb dX4_readStation_23 rfl (lv_at hl 2 rfl) ?_
      refine lv_bipush (v := 6) hx hb dX4_readStation_24 (by decide) ?_
      refine h_callVi (T := TX4) (rest := []) (As := [.int 6]) hx hb hml hown hts hK hT0 hZ (fun _ h => h) hS0 (c_X4_fail l G Y P (re) (tp) (o) hE hP hY 6) trivial wd_X4_fail wV_X4_fail wL_X4_95 (hE.o rfl) rfl rfl hl.1 rfl (Nat.le_of_ble_eq_true rfl) dX4_readStation_26 ⟨Nat.le_of_ble_eq_true rfl, Nat.le_of_ble_eq_true rfl⟩ ⟨Nat.zero_le _, Nat.zero_le _⟩ (fun r21 H10 locs hp10 hT10 hS10 hk10 => ?_)
      exact hret _ _ _ _ _ hT10 hS10 ⟨hp10.1, ⟨hp10.1, trivial⟩⟩ dX4_readStation_29
set_option maxHeartbeats 4000000 in
set_option maxRecDepth 100000 in
theorem c_X4_readOff (l : Launch) (G : hG) (Y : hW) (P : Int32 → Prop) (re tp o : Nat) (hE : h_On Y re (reE (tC P) re tp o)) (hP : h_On Y tp (taE (tC P) tp)) (hY : h_On Y o (ringE (tC P) o)) : hMi l yX4_readOff cX4_readOff 1 (some .boolean) 7 149 G Y [.ref (re)] (fun H => True) (fun H r H1 => (r = 0 ∨ r = 1) ∧ True) := by
  refine h_ofz (by decide +kernel) (Nat.le_of_ble_eq_true rfl) ?_
  intro p e s m args below meth c H0 ls Q hx hb hts hown hml hK hZ hT0 hpr hS0 hl hret
  have hl : lv_has ls 1 [(0, .ref (re))] := hl
  refine lv_aload_n hx hb dX4_readOff_0 rfl (lv_at hl 0 rfl) ?_
  refine lv_iconst (v := 0) hx hb dX4_readOff_1 (by decide) ?_
  refine h_callVi (T := TX4) (rest := []) (As := [.int 0]) hx hb hml hown hts hK hT0 hZ (fun _ h => h) hS0 (c_X4_readName l G Y P (re) (tp) (o) hE hP hY 0) trivial wd_X4_readName wV_X4_readName wL_X4_108 (hE.o rfl) rfl rfl hl.1 rfl (Nat.le_of_ble_eq_true rfl) dX4_readOff_2 ⟨Nat.le_of_ble_eq_true rfl, Nat.le_of_ble_eq_true rfl⟩ ⟨Nat.zero_le _, Nat.zero_le _⟩ (fun r1 H1 locs hp1 hT1 hS1 hk1 => ?_)
  refine lv_if_ne (tgt := 10) hx hb dX4_readOff_5 (by decide) (fun c2 => ?_) (fun c2 => ?_)
  · skip
    refine lv_aload_n hx hb dX4_readOff_10 rfl (lv_at hl 0 rfl) ?_
    refine h_getr (C := RX4) (T := TX4) (N := 13) hx hb hts inX4 hown hK hT1 (hE.o rfl) rfl 1 rfl wF_X4_50 rfl dX4_readOff_11 ?_
    refine h_getr (C := RX5) (T := TX5) (N := 11) hx hb hts inX5 hown hK hT1 (on_rg hY) rfl 0 rfl wF_X4_99 rfl dX4_readOff_14 ?_
    refine lv_aload_n hx hb dX4_readOff_17 rfl (lv_at hl 0 rfl) ?_
    refine h_geti (C := RX4) (T := TX4) (N := 13) hx hb hts inX4 hown hK hT1 (hE.o rfl) rfl 10 rfl wF_X4_37 rfl dX4_readOff_18 (fun p3 => ?_)
    refine lv_topi (fun x4 ex4 => ?_)
    refine h_callVi (T := TX7) (rest := []) (As := [.int x4]) hx hb hml hown hts hK hT1 hZ (fun _ h => h) hS1 (c_X7_isOn l G Y P (o + 1) (on_st hY) x4) trivial wd_X7_isOn wV_X7_isOn wL_X4_125 ((on_st hY).o rfl) rfl rfl hl.1 rfl (Nat.le_of_ble_eq_true rfl) dX4_readOff_21 ⟨Nat.le_of_ble_eq_true rfl, Nat.le_of_ble_eq_true rfl⟩ ⟨Nat.zero_le _, Nat.zero_le _⟩ (fun r5 H2 locs hp2 hT2 hS2 hk2 => ?_)
    obtain ⟨hp2, he⟩ := hp2
    have he := he.symm
    subst he
    refine lv_if_ne (tgt := 33) hx hb dX4_readOff_24 (by decide) (fun c6 => ?_) (fun c6 => ?_)
    · skip
      obtain ⟨g7a, g7b⟩ := hp2.2 c6
      refine lv_aload_n hx hb dX4_readOff_33 rfl (lv_at hl 0 rfl) ?_
      refine h_getr (C := RX4) (T := TX4) (N := 13) hx hb hts inX4 hown hK hT1 (hE.o rfl) rfl 1 rfl wF_X4_50 rfl dX4_readOff_34 ?_
      refine h_getr (C := RX5) (T := TX5) (N := 11) hx hb hts inX5 hown hK hT1 (on_rg hY) rfl 0 rfl wF_X4_99 rfl dX4_readOff_37 ?_
      refine lv_aload_n hx hb dX4_readOff_40 rfl (lv_at hl 0 rfl) ?_
      refine h_geti (C := RX4) (T := TX4) (N := 13) hx hb hts inX4 hown hK hT1 (hE.o rfl) rfl 10 rfl wF_X4_37 rfl dX4_readOff_41 (fun p8 => ?_)
      refine h_top (v := x4) ex4.symm ?_
      refine h_callVv (T := TX7) (rest := []) (As := [.int x4]) hx hb hml hown hts hK hT1 hZ (fun _ h => h) hS2 (c_X7_switchOff l G Y P (o + 1) (on_st hY) x4) trivial wd_X7_switchOff wV_X7_switchOff wL_X4_128 ((on_st hY).o rfl) rfl rfl hl.1 rfl (Nat.le_of_ble_eq_true rfl) dX4_readOff_44 ⟨Nat.le_of_ble_eq_true rfl, Nat.le_of_ble_eq_true rfl⟩ ⟨Nat.zero_le _, Nat.zero_le _⟩ (fun H3 locs hp3 hT3 hS3 hk3 => ?_)
      refine lv_aload_n hx hb dX4_readOff_47 rfl (lv_at hl 0 rfl) ?_
      refine h_callVi (T := TX4) (rest := []) (As := []) hx hb hml hown hts hK hT3 hZ (fun _ h => h) hS3 (c_X4_readSign l G Y P (re) (tp) (o) hE hP hY) trivial wd_X4_readSign wV_X4_readSign wL_X4_122 (hE.o rfl) rfl rfl hl.1 rfl (Nat.le_of_ble_eq_true rfl) dX4_readOff_48 ⟨Nat.le_of_ble_eq_true rfl, Nat.le_of_ble_eq_true rfl⟩ ⟨Nat.zero_le _, Nat.zero_le _⟩ (fun r9 H4 locs hp4 hT4 hS4 hk4 => ?_)
      exact hret _ _ _ _ _ hT4 hS4 ⟨hp4.1, ⟨hp4.1, trivial⟩⟩ dX4_readOff_51
    · skip
      refine lv_aload_n hx hb dX4_readOff_27 rfl (lv_at hl 0 rfl) ?_
      refine lv_iconst (v := 5) hx hb dX4_readOff_28 (by decide) ?_
      refine h_callVi (T := TX4) (rest := []) (As := [.int 5]) hx hb hml hown hts hK hT1 hZ (fun _ h => h) hS2 (c_X4_fail l G Y P (re) (tp) (o) hE hP hY 5) trivial wd_X4_fail wV_X4_fail wL_X4_95 (hE.o rfl) rfl rfl hl.1 rfl (Nat.le_of_ble_eq_true rfl) dX4_readOff_29 ⟨Nat.le_of_ble_eq_true rfl, Nat.le_of_ble_eq_true rfl⟩ ⟨Nat.zero_le _, Nat.zero_le _⟩ (fun r10 H5 locs hp5 hT5 hS5 hk5 => ?_)
      exact hret _ _ _ _ _ hT5 hS5 ⟨hp5.1, ⟨hp5.1, trivial⟩⟩ dX4_readOff_32
  · skip
    refine lv_iconst (v := 0) hx hb dX4_readOff_8 (by decide) ?_
    exact hret _ _ _ _ _ hT1 hS1 ⟨(by decide), ⟨(by decide), trivial⟩⟩ dX4_readOff_9
set_option maxHeartbeats 4000000 in
set_option maxRecDepth 100000 in
theorem c_X4_readMonitor (l : Launch) (G : hG) (Y : hW) (P : Int32 → Prop) (re tp o : Nat) (hE : h_On Y re (reE (tC P) re tp o)) (hP : h_On Y tp (taE (tC P) tp)) (hY : h_On Y o (ringE (tC P) o)) : hMi l yX4_readMonitor cX4_readMonitor 1 (some .boolean) 7 149 G Y [.ref (re)] (fun H => True) (fun H r H1 => (r = 0 ∨ r = 1) ∧ True) := by
  refine h_ofz (by decide +kernel) (Nat.le_of_ble_eq_true rfl) ?_
  intro p e s m args below meth c H0 ls Q hx hb hts hown hml hK hZ hT0 hpr hS0 hl hret
  have hl : lv_has ls 1 [(0, .ref (re))] := hl
  refine lv_aload_n hx hb dX4_readMonitor_0 rfl (lv_at hl 0 rfl) ?_
  refine lv_iconst (v := 0) hx hb dX4_readMonitor_1 (by decide) ?_
  refine h_callVi (T := TX4) (rest := []) (As := [.int 0]) hx hb hml hown hts hK hT0 hZ (fun _ h => h) hS0 (c_X4_readName l G Y P (re) (tp) (o) hE hP hY 0) trivial wd_X4_readName wV_X4_readName wL_X4_108 (hE.o rfl) rfl rfl hl.1 rfl (Nat.le_of_ble_eq_true rfl) dX4_readMonitor_2 ⟨Nat.le_of_ble_eq_true rfl, Nat.le_of_ble_eq_true rfl⟩ ⟨Nat.zero_le _, Nat.zero_le _⟩ (fun r1 H1 locs hp1 hT1 hS1 hk1 => ?_)
  refine lv_if_ne (tgt := 10) hx hb dX4_readMonitor_5 (by decide) (fun c2 => ?_) (fun c2 => ?_)
  · skip
    refine lv_aload_n hx hb dX4_readMonitor_10 rfl (lv_at hl 0 rfl) ?_
    refine h_getr (C := RX4) (T := TX4) (N := 13) hx hb hts inX4 hown hK hT1 (hE.o rfl) rfl 1 rfl wF_X4_50 rfl dX4_readMonitor_11 ?_
    refine h_getr (C := RX5) (T := TX5) (N := 11) hx hb hts inX5 hown hK hT1 (on_rg hY) rfl 0 rfl wF_X4_99 rfl dX4_readMonitor_14 ?_
    refine lv_aload_n hx hb dX4_readMonitor_17 rfl (lv_at hl 0 rfl) ?_
    refine h_geti (C := RX4) (T := TX4) (N := 13) hx hb hts inX4 hown hK hT1 (hE.o rfl) rfl 10 rfl wF_X4_37 rfl dX4_readMonitor_18 (fun p3 => ?_)
    refine lv_topi (fun x4 ex4 => ?_)
    refine h_puti (C := RX7) (T := TX7) (N := 9) hx hb hts inX7 tyX7 tyX7_ok nmX7 hown hK hT1 (fun _ h => h) hS1 ((on_st hY).o rfl) rfl 6 rfl wF_X4_131 rfl rfl trivial rfl rfl dX4_readMonitor_21 (fun H2 locs hT2 hS2 hu2 => ?_)
    refine lv_aload_n hx hb dX4_readMonitor_24 rfl (lv_at hl 0 rfl) ?_
    refine h_callVi (T := TX4) (rest := []) (As := []) hx hb hml hown hts hK hT2 hZ (fun _ h => h) hS2 (c_X4_readSign l G Y P (re) (tp) (o) hE hP hY) trivial wd_X4_readSign wV_X4_readSign wL_X4_122 (hE.o rfl) rfl rfl hl.1 rfl (Nat.le_of_ble_eq_true rfl) dX4_readMonitor_25 ⟨Nat.le_of_ble_eq_true rfl, Nat.le_of_ble_eq_true rfl⟩ ⟨Nat.zero_le _, Nat.zero_le _⟩ (fun r5 H3 locs hp3 hT3 hS3 hk3 => ?_)
    exact hret _ _ _ _ _ hT3 hS3 ⟨hp3.1, ⟨hp3.1, trivial⟩⟩ dX4_readMonitor_28
  · skip
    refine lv_iconst (v := 0) hx hb dX4_readMonitor_8 (by decide) ?_
    exact hret _ _ _ _ _ hT1 hS1 ⟨(by decide), ⟨(by decide), trivial⟩⟩ dX4_readMonitor_9
set_option maxHeartbeats 4000000 in
set_option maxRecDepth 100000 in
theorem c_X4_readSend (l : Launch) (G : hG) (Y : hW) (P : Int32 → Prop) (re tp o : Nat) (hE : h_On Y re (reE (tC P) re tp o)) (hP : h_On Y tp (taE (tC P) tp)) (hY : h_On Y o (ringE (tC P) o)) : hMi l yX4_readSend cX4_readSend 3 (some .boolean) 7 149 G Y [.ref (re)] (fun H => True) (fun H r H1 => (r = 0 ∨ r = 1) ∧ True) := by
  refine h_ofz (by decide +kernel) (Nat.le_of_ble_eq_true rfl) ?_
  intro p e s m args below meth c H0 ls Q hx hb hts hown hml hK hZ hT0 hpr hS0 hl hret
  have hl : lv_has ls 3 [(0, .ref (re))] := hl
  refine lv_aload_n hx hb dX4_readSend_0 rfl (lv_at hl 0 rfl) ?_
  refine lv_iconst (v := 0) hx hb dX4_readSend_1 (by decide) ?_
  refine h_callVi (T := TX4) (rest := []) (As := [.int 0]) hx hb hml hown hts hK hT0 hZ (fun _ h => h) hS0 (c_X4_readName l G Y P (re) (tp) (o) hE hP hY 0) trivial wd_X4_readName wV_X4_readName wL_X4_108 (hE.o rfl) rfl rfl hl.1 rfl (Nat.le_of_ble_eq_true rfl) dX4_readSend_2 ⟨Nat.le_of_ble_eq_true rfl, Nat.le_of_ble_eq_true rfl⟩ ⟨Nat.zero_le _, Nat.zero_le _⟩ (fun r1 H1 locs hp1 hT1 hS1 hk1 => ?_)
  refine lv_if_ne (tgt := 10) hx hb dX4_readSend_5 (by decide) (fun c2 => ?_) (fun c2 => ?_)
  · skip
    refine lv_aload_n hx hb dX4_readSend_10 rfl (lv_at hl 0 rfl) ?_
    refine h_geti (C := RX4) (T := TX4) (N := 13) hx hb hts inX4 hown hK hT1 (hE.o rfl) rfl 10 rfl wF_X4_37 rfl dX4_readSend_11 (fun p3 => ?_)
    refine lv_topi (fun x4 ex4 => ?_)
    refine lv_istore_n (lv' := [(1, .int x4), (0, .ref (re))]) hx hb dX4_readSend_14 rfl hl (by decide) rfl (fun ls hl => ?_)
    refine lv_aload_n hx hb dX4_readSend_15 rfl (lv_at hl 1 rfl) ?_
    refine h_getr (C := RX4) (T := TX4) (N := 13) hx hb hts inX4 hown hK hT1 (hE.o rfl) rfl 1 rfl wF_X4_50 rfl dX4_readSend_16 ?_
    refine h_getr (C := RX5) (T := TX5) (N := 11) hx hb hts inX5 hown hK hT1 (on_rg hY) rfl 1 rfl wF_X4_134 rfl dX4_readSend_19 ?_
    refine lv_iload_n hx hb dX4_readSend_22 rfl (lv_at hl 0 rfl) ?_
    refine h_callVi (T := TX2) (rest := []) (As := [.int x4]) hx hb hml hown hts hK hT1 hZ (fun _ h => h) hS1 (c_X2_isFull l G Y P (o + 7) (on_qu hY) x4) trivial wd_X2_isFull wV_X2_isFull wL_X4_138 ((on_qu hY).o rfl) rfl rfl hl.1 rfl (Nat.le_of_ble_eq_true rfl) dX4_readSend_23 ⟨Nat.le_of_ble_eq_true rfl, Nat.le_of_ble_eq_true rfl⟩ ⟨Nat.zero_le _, Nat.zero_le _⟩ (fun r5 H2 locs hp2 hT2 hS2 hk2 => ?_)
    obtain ⟨hp2, he⟩ := hp2
    have he := he.symm
    subst he
    refine lv_if_eq (tgt := 36) hx hb dX4_readSend_26 (by decide) (fun c6 => ?_) (fun c6 => ?_)
    · skip
      refine lv_aload_n hx hb dX4_readSend_36 rfl (lv_at hl 1 rfl) ?_
      refine lv_iconst (v := 0) hx hb dX4_readSend_37 (by decide) ?_
      refine h_callVi (T := TX4) (rest := []) (As := [.int 0]) hx hb hml hown hts hK hT1 hZ (fun _ h => h) hS2 (c_X4_readName l G Y P (re) (tp) (o) hE hP hY 0) trivial wd_X4_readName wV_X4_readName wL_X4_108 (hE.o rfl) rfl rfl hl.1 rfl (Nat.le_of_ble_eq_true rfl) dX4_readSend_38 ⟨Nat.le_of_ble_eq_true rfl, Nat.le_of_ble_eq_true rfl⟩ ⟨Nat.zero_le _, Nat.zero_le _⟩ (fun r7 H3 locs hp3 hT3 hS3 hk3 => ?_)
      refine lv_if_ne (tgt := 46) hx hb dX4_readSend_41 (by decide) (fun c8 => ?_) (fun c8 => ?_)
      · skip
        refine lv_aload_n hx hb dX4_readSend_46 rfl (lv_at hl 1 rfl) ?_
        refine h_geti (C := RX4) (T := TX4) (N := 13) hx hb hts inX4 hown hK hT3 (hE.o rfl) rfl 10 rfl wF_X4_37 rfl dX4_readSend_47 (fun p9 => ?_)
        refine lv_topi (fun x10 ex10 => ?_)
        refine lv_istore_n (lv' := [(2, .int x10), (1, .int x4), (0, .ref (re))]) hx hb dX4_readSend_50 rfl hl (by decide) rfl (fun ls hl => ?_)
        refine lv_iload_n hx hb dX4_readSend_51 rfl (lv_at hl 0 rfl) ?_
        refine lv_iload_n hx hb dX4_readSend_52 rfl (lv_at hl 1 rfl) ?_
        refine lv_icmp_ne (tgt := 62) hx hb dX4_readSend_53 (by decide) (fun c11 => ?_) (fun c11 => ?_)
        · skip
          refine lv_aload_n hx hb dX4_readSend_62 rfl (lv_at hl 2 rfl) ?_
          refine lv_bipush (v := 7) hx hb dX4_readSend_63 (by decide) ?_
          refine h_callVi (T := TX4) (rest := []) (As := [.int 7]) hx hb hml hown hts hK hT3 hZ (fun _ h => h) hS3 (c_X4_readNumber l G Y P (re) (tp) (o) hE hP hY 7) trivial wd_X4_readNumber wV_X4_readNumber wL_X4_112 (hE.o rfl) rfl rfl hl.1 rfl (Nat.le_of_ble_eq_true rfl) dX4_readSend_65 ⟨Nat.le_of_ble_eq_true rfl, Nat.le_of_ble_eq_true rfl⟩ ⟨Nat.zero_le _, Nat.zero_le _⟩ (fun r12 H4 locs hp4 hT4 hS4 hk4 => ?_)
          refine lv_if_ne (tgt := 73) hx hb dX4_readSend_68 (by decide) (fun c13 => ?_) (fun c13 => ?_)
          · skip
            refine lv_aload_n hx hb dX4_readSend_73 rfl (lv_at hl 2 rfl) ?_
            refine h_getr (C := RX4) (T := TX4) (N := 13) hx hb hts inX4 hown hK hT4 (hE.o rfl) rfl 1 rfl wF_X4_50 rfl dX4_readSend_74 ?_
            refine lv_iload_n hx hb dX4_readSend_77 rfl (lv_at hl 1 rfl) ?_
            refine lv_iload_n hx hb dX4_readSend_78 rfl (lv_at hl 0 rfl) ?_
            refine lv_aload_n hx hb dX4_readSend_79 rfl (lv_at hl 2 rfl) ?_
            refine h_geti (C := RX4) (T := TX4) (N := 13) hx hb hts inX4 hown hK hT4 (hE.o rfl) rfl 9 rfl wF_X4_34 rfl dX4_readSend_80 (fun p14 => ?_)
            refine lv_topi (fun x15 ex15 => ?_)
            refine h_callVi (T := TX5) (rest := []) (As := [.int x4, .int x10, .int x15]) hx hb hml hown hts hK hT4 hZ (fun _ h => h) hS4 (c_X5_newFrame l G Y P (o) hY x4 x10 x15) trivial wd_X5_newFrame wV_X5_newFrame wL_X4_143 (on_rg hY) rfl rfl hl.1 rfl (Nat.le_of_ble_eq_true rfl) dX4_readSend_83 ⟨Nat.le_of_ble_eq_true rfl, Nat.le_of_ble_eq_true rfl⟩ ⟨Nat.zero_le _, Nat.zero_le _⟩ (fun r16 H5 locs hp5 hT5 hS5 hk5 => ?_)
            refine lv_pop hx hb dX4_readSend_86 rfl ?_
            refine lv_aload_n hx hb dX4_readSend_87 rfl (lv_at hl 2 rfl) ?_
            refine h_callVi (T := TX4) (rest := []) (As := []) hx hb hml hown hts hK hT5 hZ (fun _ h => h) hS5 (c_X4_readSign l G Y P (re) (tp) (o) hE hP hY) trivial wd_X4_readSign wV_X4_readSign wL_X4_122 (hE.o rfl) rfl rfl hl.1 rfl (Nat.le_of_ble_eq_true rfl) dX4_readSend_88 ⟨Nat.le_of_ble_eq_true rfl, Nat.le_of_ble_eq_true rfl⟩ ⟨Nat.zero_le _, Nat.zero_le _⟩ (fun r17 H6 locs hp6 hT6 hS6 hk6 => ?_)
            exact hret _ _ _ _ _ hT6 hS6 ⟨hp6.1, ⟨hp6.1, trivial⟩⟩ dX4_readSend_91
          · skip
            refine lv_iconst (v := 0) hx hb dX4_readSend_71 (by decide) ?_
            exact hret _ _ _ _ _ hT4 hS4 ⟨(by decide), ⟨(by decide), trivial⟩⟩ dX4_readSend_72
        · skip
          refine lv_aload_n hx hb dX4_readSend_56 rfl (lv_at hl 2 rfl) ?_
          refine lv_iconst (v := 5) hx hb dX4_readSend_57 (by decide) ?_
          refine h_callVi (T := TX4) (rest := []) (As := [.int 5]) hx hb hml hown hts hK hT3 hZ (fun _ h => h) hS3 (c_X4_fail l G Y P (re) (tp) (o) hE hP hY 5) trivial wd_X4_fail wV_X4_fail wL_X4_95 (hE.o rfl) rfl rfl hl.1 rfl (Nat.le_of_ble_eq_true rfl) dX4_readSend_58 ⟨Nat.le_of_ble_eq_true rfl, Nat.le_of_ble_eq_true rfl⟩ ⟨Nat.zero_le _, Nat.zero_le _⟩ (fun r18 H7 locs hp7 hT7 hS7 hk7 => ?_)
          exact hret _ _ _ _ _ hT7 hS7 ⟨hp7.1, ⟨hp7.1, trivial⟩⟩ dX4_readSend_61
      · skip
        refine lv_iconst (v := 0) hx hb dX4_readSend_44 (by decide) ?_
        exact hret _ _ _ _ _ hT3 hS3 ⟨(by decide), ⟨(by decide), trivial⟩⟩ dX4_readSend_45
    · skip
      refine lv_aload_n hx hb dX4_readSend_29 rfl (lv_at hl 1 rfl) ?_
      refine lv_bipush (v := 6) hx hb dX4_readSend_30 (by decide) ?_
      refine h_callVi (T := TX4) (rest := []) (As := [.int 6]) hx hb hml hown hts hK hT1 hZ (fun _ h => h) hS2 (c_X4_fail l G Y P (re) (tp) (o) hE hP hY 6) trivial wd_X4_fail wV_X4_fail wL_X4_95 (hE.o rfl) rfl rfl hl.1 rfl (Nat.le_of_ble_eq_true rfl) dX4_readSend_32 ⟨Nat.le_of_ble_eq_true rfl, Nat.le_of_ble_eq_true rfl⟩ ⟨Nat.zero_le _, Nat.zero_le _⟩ (fun r19 H8 locs hp8 hT8 hS8 hk8 => ?_)
      exact hret _ _ _ _ _ hT8 hS8 ⟨hp8.1, ⟨hp8.1, trivial⟩⟩ dX4_readSend_35
  · skip
    refine lv_iconst (v := 0) hx hb dX4_readSend_8 (by decide) ?_
    exact hret _ _ _ _ _ hT1 hS1 ⟨(by decide), ⟨(by decide), trivial⟩⟩ dX4_readSend_9
set_option maxHeartbeats 4000000 in
set_option maxRecDepth 100000 in
theorem c_X4_readBreak (l : Launch) (G : hG) (Y : hW) (P : Int32 → Prop) (re tp o : Nat) (hE : h_On Y re (reE (tC P) re tp o)) (hP : h_On Y tp (taE (tC P) tp)) (hY : h_On Y o (ringE (tC P) o)) : hMi l yX4_readBreak cX4_readBreak 2 (some .boolean) 7 149 G Y [.ref (re)] (fun H => True) (fun H r H1 => (r = 0 ∨ r = 1) ∧ True) := by
  refine h_ofz (by decide +kernel) (Nat.le_of_ble_eq_true rfl) ?_
  intro p e s m args below meth c H0 ls Q hx hb hts hown hml hK hZ hT0 hpr hS0 hl hret
  have hl : lv_has ls 2 [(0, .ref (re))] := hl
  refine lv_aload_n hx hb dX4_readBreak_0 rfl (lv_at hl 0 rfl) ?_
  refine h_getr (C := RX4) (T := TX4) (N := 13) hx hb hts inX4 hown hK hT0 (hE.o rfl) rfl 1 rfl wF_X4_50 rfl dX4_readBreak_1 ?_
  refine h_getr (C := RX5) (T := TX5) (N := 11) hx hb hts inX5 hown hK hT0 (on_rg hY) rfl 0 rfl wF_X4_99 rfl dX4_readBreak_4 ?_
  refine h_geti (C := RX7) (T := TX7) (N := 9) hx hb hts inX7 hown hK hT0 ((on_st hY).o rfl) rfl 7 rfl wF_X4_147 rfl dX4_readBreak_7 (fun p1 => ?_)
  refine lv_topi (fun x2 ex2 => ?_)
  refine lv_iconst (v := (-1)) hx hb dX4_readBreak_10 (by decide) ?_
  refine lv_icmp_eq (tgt := 21) hx hb dX4_readBreak_11 (by decide) (fun c3 => ?_) (fun c3 => ?_)
  · skip
    refine lv_aload_n hx hb dX4_readBreak_21 rfl (lv_at hl 0 rfl) ?_
    refine lv_iconst (v := 0) hx hb dX4_readBreak_22 (by decide) ?_
    refine h_callVi (T := TX4) (rest := []) (As := [.int 0]) hx hb hml hown hts hK hT0 hZ (fun _ h => h) hS0 (c_X4_readName l G Y P (re) (tp) (o) hE hP hY 0) trivial wd_X4_readName wV_X4_readName wL_X4_108 (hE.o rfl) rfl rfl hl.1 rfl (Nat.le_of_ble_eq_true rfl) dX4_readBreak_23 ⟨Nat.le_of_ble_eq_true rfl, Nat.le_of_ble_eq_true rfl⟩ ⟨Nat.zero_le _, Nat.zero_le _⟩ (fun r4 H1 locs hp1 hT1 hS1 hk1 => ?_)
    refine lv_if_ne (tgt := 31) hx hb dX4_readBreak_26 (by decide) (fun c5 => ?_) (fun c5 => ?_)
    · skip
      refine lv_aload_n hx hb dX4_readBreak_31 rfl (lv_at hl 0 rfl) ?_
      refine h_geti (C := RX4) (T := TX4) (N := 13) hx hb hts inX4 hown hK hT1 (hE.o rfl) rfl 10 rfl wF_X4_37 rfl dX4_readBreak_32 (fun p6 => ?_)
      refine lv_topi (fun x7 ex7 => ?_)
      refine lv_istore_n (lv' := [(1, .int x7), (0, .ref (re))]) hx hb dX4_readBreak_35 rfl hl (by decide) rfl (fun ls hl => ?_)
      refine lv_aload_n hx hb dX4_readBreak_36 rfl (lv_at hl 1 rfl) ?_
      refine lv_iconst (v := 2) hx hb dX4_readBreak_37 (by decide) ?_
      refine h_callVi (T := TX4) (rest := []) (As := [.int 2]) hx hb hml hown hts hK hT1 hZ (fun _ h => h) hS1 (c_X4_readNumber l G Y P (re) (tp) (o) hE hP hY 2) trivial wd_X4_readNumber wV_X4_readNumber wL_X4_112 (hE.o rfl) rfl rfl hl.1 rfl (Nat.le_of_ble_eq_true rfl) dX4_readBreak_38 ⟨Nat.le_of_ble_eq_true rfl, Nat.le_of_ble_eq_true rfl⟩ ⟨Nat.zero_le _, Nat.zero_le _⟩ (fun r8 H2 locs hp2 hT2 hS2 hk2 => ?_)
      refine lv_if_ne (tgt := 46) hx hb dX4_readBreak_41 (by decide) (fun c9 => ?_) (fun c9 => ?_)
      · skip
        refine lv_aload_n hx hb dX4_readBreak_46 rfl (lv_at hl 1 rfl) ?_
        refine h_getr (C := RX4) (T := TX4) (N := 13) hx hb hts inX4 hown hK hT2 (hE.o rfl) rfl 1 rfl wF_X4_50 rfl dX4_readBreak_47 ?_
        refine h_getr (C := RX5) (T := TX5) (N := 11) hx hb hts inX5 hown hK hT2 (on_rg hY) rfl 0 rfl wF_X4_99 rfl dX4_readBreak_50 ?_
        refine lv_iload_n hx hb dX4_readBreak_53 rfl (lv_at hl 0 rfl) ?_
        refine lv_aload_n hx hb dX4_readBreak_54 rfl (lv_at hl 1 rfl) ?_
        refine h_geti (C := RX4) (T := TX4) (N := 13) hx hb hts inX4 hown hK hT2 (hE.o rfl) rfl 9 rfl wF_X4_34 rfl dX4_readBreak_55 (fun p10 => ?_)
        refine lv_topi (fun x11 ex11 => ?_)
        refine h_callVv (T := TX7) (rest := []) (As := [.int x7, .int x11]) hx hb hml hown hts hK hT2 hZ (fun _ h => h) hS2 (c_X7_setBreak l G Y P (o + 1) (on_st hY) x7 x11) trivial wd_X7_setBreak wV_X7_setBreak wL_X4_150 ((on_st hY).o rfl) rfl rfl hl.1 rfl (Nat.le_of_ble_eq_true rfl) dX4_readBreak_58 ⟨Nat.le_of_ble_eq_true rfl, Nat.le_of_ble_eq_true rfl⟩ ⟨Nat.zero_le _, Nat.zero_le _⟩ (fun H3 locs hp3 hT3 hS3 hk3 => ?_)
        refine lv_aload_n hx hb dX4_readBreak_61 rfl (lv_at hl 1 rfl) ?_
        refine h_callVi (T := TX4) (rest := []) (As := []) hx hb hml hown hts hK hT3 hZ (fun _ h => h) hS3 (c_X4_readSign l G Y P (re) (tp) (o) hE hP hY) trivial wd_X4_readSign wV_X4_readSign wL_X4_122 (hE.o rfl) rfl rfl hl.1 rfl (Nat.le_of_ble_eq_true rfl) dX4_readBreak_62 ⟨Nat.le_of_ble_eq_true rfl, Nat.le_of_ble_eq_true rfl⟩ ⟨Nat.zero_le _, Nat.zero_le _⟩ (fun r12 H4 locs hp4 hT4 hS4 hk4 => ?_)
        exact hret _ _ _ _ _ hT4 hS4 ⟨hp4.1, ⟨hp4.1, trivial⟩⟩ dX4_readBreak_65
      · skip
        refine lv_iconst (v := 0) hx hb dX4_readBreak_44 (by decide) ?_
        exact hret _ _ _ _ _ hT2 hS2 ⟨(by decide), ⟨(by decide), trivial⟩⟩ dX4_readBreak_45
    · skip
      refine lv_iconst (v := 0) hx hb dX4_readBreak_29 (by decide) ?_
      exact hret _ _ _ _ _ hT1 hS1 ⟨(by decide), ⟨(by decide), trivial⟩⟩ dX4_readBreak_30
  · skip
    refine lv_aload_n hx hb dX4_readBreak_14 rfl (lv_at hl 0 rfl) ?_
    refine lv_bipush (v := 6) hx hb dX4_readBreak_15 (by decide) ?_
    refine h_callVi (T := TX4) (rest := []) (As := [.int 6]) hx hb hml hown hts hK hT0 hZ (fun _ h => h) hS0 (c_X4_fail l G Y P (re) (tp) (o) hE hP hY 6) trivial wd_X4_fail wV_X4_fail wL_X4_95 (hE.o rfl) rfl rfl hl.1 rfl (Nat.le_of_ble_eq_true rfl) dX4_readBreak_17 ⟨Nat.le_of_ble_eq_true rfl, Nat.le_of_ble_eq_true rfl⟩ ⟨Nat.zero_le _, Nat.zero_le _⟩ (fun r13 H5 locs hp5 hT5 hS5 hk5 => ?_)
    exact hret _ _ _ _ _ hT5 hS5 ⟨hp5.1, ⟨hp5.1, trivial⟩⟩ dX4_readBreak_20
set_option maxHeartbeats 4000000 in
set_option maxRecDepth 100000 in
theorem c_X4_readLine (l : Launch) (G : hG) (Y : hW) (P : Int32 → Prop) (re tp o : Nat) (hE : h_On Y re (reE (tC P) re tp o)) (hP : h_On Y tp (taE (tC P) tp)) (hY : h_On Y o (ringE (tC P) o)) : hMi l yX4_readLine cX4_readLine 1 (some .boolean) 8 171 G Y [.ref (re)] (fun H => True) (fun H r H1 => (r = 0 ∨ r = 1) ∧ True) := by
  refine h_ofz (by decide +kernel) (Nat.le_of_ble_eq_true rfl) ?_
  intro p e s m args below meth c H0 ls Q hx hb hts hown hml hK hZ hT0 hpr hS0 hl hret
  have hl : lv_has ls 1 [(0, .ref (re))] := hl
  refine lv_aload_n hx hb dX4_readLine_0 rfl (lv_at hl 0 rfl) ?_
  refine va_ldcS hx hb hown (hZ.2.1 0 _ rfl) dX4_readLine_1 ?_
  refine h_callVi (T := TX4) (rest := []) (As := [.ref (G.2.2.1 0)]) hx hb hml hown hts hK hT0 hZ (fun _ h => h) hS0 (c_isWord0 l G Y P (re) (tp) (o) hE hP hY) trivial wd_X4_isWord wV_X4_isWord wL_X4_68 (hE.o rfl) rfl rfl hl.1 rfl (Nat.le_of_ble_eq_true rfl) dX4_readLine_3 ⟨Nat.le_of_ble_eq_true rfl, Nat.le_of_ble_eq_true rfl⟩ ⟨Nat.zero_le _, Nat.zero_le _⟩ (fun r1 H1 locs hp1 hT1 hS1 hk1 => ?_)
  obtain ⟨hp1, he⟩ := hp1
  have he := he.symm
  subst he
  refine lv_if_eq (tgt := 14) hx hb dX4_readLine_6 (by decide) (fun c2 => ?_) (fun c2 => ?_)
  · skip
    refine lv_aload_n hx hb dX4_readLine_14 rfl (lv_at hl 0 rfl) ?_
    refine va_ldcS hx hb hown (hZ.2.1 1 _ rfl) dX4_readLine_15 ?_
    refine h_callVi (T := TX4) (rest := []) (As := [.ref (G.2.2.1 1)]) hx hb hml hown hts hK hT0 hZ (fun _ h => h) hS1 (c_isWord1 l G Y P (re) (tp) (o) hE hP hY) trivial wd_X4_isWord wV_X4_isWord wL_X4_68 (hE.o rfl) rfl rfl hl.1 rfl (Nat.le_of_ble_eq_true rfl) dX4_readLine_17 ⟨Nat.le_of_ble_eq_true rfl, Nat.le_of_ble_eq_true rfl⟩ ⟨Nat.zero_le _, Nat.zero_le _⟩ (fun r3 H2 locs hp2 hT2 hS2 hk2 => ?_)
    obtain ⟨hp2, he⟩ := hp2
    have he := he.symm
    subst he
    refine lv_if_eq (tgt := 28) hx hb dX4_readLine_20 (by decide) (fun c4 => ?_) (fun c4 => ?_)
    · skip
      refine lv_aload_n hx hb dX4_readLine_28 rfl (lv_at hl 0 rfl) ?_
      refine va_ldcS hx hb hown (hZ.2.1 2 _ rfl) dX4_readLine_29 ?_
      refine h_callVi (T := TX4) (rest := []) (As := [.ref (G.2.2.1 2)]) hx hb hml hown hts hK hT0 hZ (fun _ h => h) hS2 (c_isWord2 l G Y P (re) (tp) (o) hE hP hY) trivial wd_X4_isWord wV_X4_isWord wL_X4_68 (hE.o rfl) rfl rfl hl.1 rfl (Nat.le_of_ble_eq_true rfl) dX4_readLine_31 ⟨Nat.le_of_ble_eq_true rfl, Nat.le_of_ble_eq_true rfl⟩ ⟨Nat.zero_le _, Nat.zero_le _⟩ (fun r5 H3 locs hp3 hT3 hS3 hk3 => ?_)
      obtain ⟨hp3, he⟩ := hp3
      have he := he.symm
      subst he
      refine lv_if_eq (tgt := 42) hx hb dX4_readLine_34 (by decide) (fun c6 => ?_) (fun c6 => ?_)
      · skip
        refine lv_aload_n hx hb dX4_readLine_42 rfl (lv_at hl 0 rfl) ?_
        refine va_ldcS hx hb hown (hZ.2.1 3 _ rfl) dX4_readLine_43 ?_
        refine h_callVi (T := TX4) (rest := []) (As := [.ref (G.2.2.1 3)]) hx hb hml hown hts hK hT0 hZ (fun _ h => h) hS3 (c_isWord3 l G Y P (re) (tp) (o) hE hP hY) trivial wd_X4_isWord wV_X4_isWord wL_X4_68 (hE.o rfl) rfl rfl hl.1 rfl (Nat.le_of_ble_eq_true rfl) dX4_readLine_45 ⟨Nat.le_of_ble_eq_true rfl, Nat.le_of_ble_eq_true rfl⟩ ⟨Nat.zero_le _, Nat.zero_le _⟩ (fun r7 H4 locs hp4 hT4 hS4 hk4 => ?_)
        obtain ⟨hp4, he⟩ := hp4
        have he := he.symm
        subst he
        refine lv_if_eq (tgt := 56) hx hb dX4_readLine_48 (by decide) (fun c8 => ?_) (fun c8 => ?_)
        · skip
          refine lv_aload_n hx hb dX4_readLine_56 rfl (lv_at hl 0 rfl) ?_
          refine va_ldcS hx hb hown (hZ.2.1 4 _ rfl) dX4_readLine_57 ?_
          refine h_callVi (T := TX4) (rest := []) (As := [.ref (G.2.2.1 4)]) hx hb hml hown hts hK hT0 hZ (fun _ h => h) hS4 (c_isWord4 l G Y P (re) (tp) (o) hE hP hY) trivial wd_X4_isWord wV_X4_isWord wL_X4_68 (hE.o rfl) rfl rfl hl.1 rfl (Nat.le_of_ble_eq_true rfl) dX4_readLine_59 ⟨Nat.le_of_ble_eq_true rfl, Nat.le_of_ble_eq_true rfl⟩ ⟨Nat.zero_le _, Nat.zero_le _⟩ (fun r9 H5 locs hp5 hT5 hS5 hk5 => ?_)
          obtain ⟨hp5, he⟩ := hp5
          have he := he.symm
          subst he
          refine lv_if_eq (tgt := 70) hx hb dX4_readLine_62 (by decide) (fun c10 => ?_) (fun c10 => ?_)
          · skip
            refine lv_aload_n hx hb dX4_readLine_70 rfl (lv_at hl 0 rfl) ?_
            refine lv_iconst (v := 2) hx hb dX4_readLine_71 (by decide) ?_
            refine h_callVi (T := TX4) (rest := []) (As := [.int 2]) hx hb hml hown hts hK hT0 hZ (fun _ h => h) hS5 (c_X4_fail l G Y P (re) (tp) (o) hE hP hY 2) trivial wd_X4_fail wV_X4_fail wL_X4_95 (hE.o rfl) rfl rfl hl.1 rfl (Nat.le_of_ble_eq_true rfl) dX4_readLine_72 ⟨Nat.le_of_ble_eq_true rfl, Nat.le_of_ble_eq_true rfl⟩ ⟨Nat.zero_le _, Nat.zero_le _⟩ (fun r11 H6 locs hp6 hT6 hS6 hk6 => ?_)
            exact hret _ _ _ _ _ hT6 hS6 ⟨hp6.1, ⟨hp6.1, trivial⟩⟩ dX4_readLine_75
          · skip
            refine lv_aload_n hx hb dX4_readLine_65 rfl (lv_at hl 0 rfl) ?_
            refine h_callVi (T := TX4) (rest := []) (As := []) hx hb hml hown hts hK hT0 hZ (fun _ h => h) hS5 (c_X4_readBreak l G Y P (re) (tp) (o) hE hP hY) trivial wd_X4_readBreak wV_X4_readBreak wL_X4_92 (hE.o rfl) rfl rfl hl.1 rfl (Nat.le_of_ble_eq_true rfl) dX4_readLine_66 ⟨Nat.le_of_ble_eq_true rfl, Nat.le_of_ble_eq_true rfl⟩ ⟨Nat.zero_le _, Nat.zero_le _⟩ (fun r12 H7 locs hp7 hT7 hS7 hk7 => ?_)
            exact hret _ _ _ _ _ hT7 hS7 ⟨hp7.1, ⟨hp7.1, trivial⟩⟩ dX4_readLine_69
        · skip
          refine lv_aload_n hx hb dX4_readLine_51 rfl (lv_at hl 0 rfl) ?_
          refine h_callVi (T := TX4) (rest := []) (As := []) hx hb hml hown hts hK hT0 hZ (fun _ h => h) hS4 (c_X4_readSend l G Y P (re) (tp) (o) hE hP hY) trivial wd_X4_readSend wV_X4_readSend wL_X4_87 (hE.o rfl) rfl rfl hl.1 rfl (Nat.le_of_ble_eq_true rfl) dX4_readLine_52 ⟨Nat.le_of_ble_eq_true rfl, Nat.le_of_ble_eq_true rfl⟩ ⟨Nat.zero_le _, Nat.zero_le _⟩ (fun r13 H8 locs hp8 hT8 hS8 hk8 => ?_)
          exact hret _ _ _ _ _ hT8 hS8 ⟨hp8.1, ⟨hp8.1, trivial⟩⟩ dX4_readLine_55
      · skip
        refine lv_aload_n hx hb dX4_readLine_37 rfl (lv_at hl 0 rfl) ?_
        refine h_callVi (T := TX4) (rest := []) (As := []) hx hb hml hown hts hK hT0 hZ (fun _ h => h) hS3 (c_X4_readMonitor l G Y P (re) (tp) (o) hE hP hY) trivial wd_X4_readMonitor wV_X4_readMonitor wL_X4_82 (hE.o rfl) rfl rfl hl.1 rfl (Nat.le_of_ble_eq_true rfl) dX4_readLine_38 ⟨Nat.le_of_ble_eq_true rfl, Nat.le_of_ble_eq_true rfl⟩ ⟨Nat.zero_le _, Nat.zero_le _⟩ (fun r14 H9 locs hp9 hT9 hS9 hk9 => ?_)
        exact hret _ _ _ _ _ hT9 hS9 ⟨hp9.1, ⟨hp9.1, trivial⟩⟩ dX4_readLine_41
    · skip
      refine lv_aload_n hx hb dX4_readLine_23 rfl (lv_at hl 0 rfl) ?_
      refine h_callVi (T := TX4) (rest := []) (As := []) hx hb hml hown hts hK hT0 hZ (fun _ h => h) hS2 (c_X4_readOff l G Y P (re) (tp) (o) hE hP hY) trivial wd_X4_readOff wV_X4_readOff wL_X4_77 (hE.o rfl) rfl rfl hl.1 rfl (Nat.le_of_ble_eq_true rfl) dX4_readLine_24 ⟨Nat.le_of_ble_eq_true rfl, Nat.le_of_ble_eq_true rfl⟩ ⟨Nat.zero_le _, Nat.zero_le _⟩ (fun r15 H10 locs hp10 hT10 hS10 hk10 => ?_)
      exact hret _ _ _ _ _ hT10 hS10 ⟨hp10.1, ⟨hp10.1, trivial⟩⟩ dX4_readLine_27
  · skip
    refine lv_aload_n hx hb dX4_readLine_9 rfl (lv_at hl 0 rfl) ?_
    refine h_callVi (T := TX4) (rest := []) (As := []) hx hb hml hown hts hK hT0 hZ (fun _ h => h) hS1 (c_X4_readStation l G Y P (re) (tp) (o) hE hP hY) trivial wd_X4_readStation wV_X4_readStation wL_X4_72 (hE.o rfl) rfl rfl hl.1 rfl (Nat.le_of_ble_eq_true rfl) dX4_readLine_10 ⟨Nat.le_of_ble_eq_true rfl, Nat.le_of_ble_eq_true rfl⟩ ⟨Nat.zero_le _, Nat.zero_le _⟩ (fun r16 H11 locs hp11 hT11 hS11 hk11 => ?_)
    exact hret _ _ _ _ _ hT11 hS11 ⟨hp11.1, ⟨hp11.1, trivial⟩⟩ dX4_readLine_13
set_option maxHeartbeats 4000000 in
set_option maxRecDepth 100000 in
theorem c_X4_readText (l : Launch) (G : hG) (Y : hW) (P : Int32 → Prop) (re tp o : Nat) (hE : h_On Y re (reE (tC P) re tp o)) (hP : h_On Y tp (taE (tC P) tp)) (hY : h_On Y o (ringE (tC P) o)) (u1 : Int32) : hMi l yX4_readText cX4_readText 3 (some .boolean) 9 191 G Y [.ref (re), .int u1] (fun H => True) (fun H r H1 => (r = 0 ∨ r = 1) ∧ True) := by
  refine h_ofz (by decide +kernel) (Nat.le_of_ble_eq_true rfl) ?_
  intro p e s m args below meth c H0 ls Q hx hb hts hown hml hK hZ hT0 hpr hS0 hl hret
  have hl : lv_has ls 3 [(0, .ref (re)), (1, .int u1)] := hl
  refine lv_aload_n hx hb dX4_readText_0 rfl (lv_at hl 0 rfl) ?_
  refine h_getr (C := RX4) (T := TX4) (N := 13) hx hb hts inX4 hown hK hT0 (hE.o rfl) rfl 1 rfl wF_X4_50 rfl dX4_readText_1 ?_
  refine h_callVv (T := TX5) (rest := []) (As := []) hx hb hml hown hts hK hT0 hZ (fun _ h => h) hS0 (c_X5_clear l G Y P (o) hY) trivial wd_X5_clear wV_X5_clear wL_X4_54 (on_rg hY) rfl rfl hl.1 rfl (Nat.le_of_ble_eq_true rfl) dX4_readText_4 ⟨Nat.le_of_ble_eq_true rfl, Nat.le_of_ble_eq_true rfl⟩ ⟨Nat.zero_le _, Nat.zero_le _⟩ (fun H1 locs hp1 hT1 hS1 hk1 => ?_)
  refine lv_aload_n hx hb dX4_readText_7 rfl (lv_at hl 0 rfl) ?_
  refine lv_iload_n hx hb dX4_readText_8 rfl (lv_at hl 1 rfl) ?_
  refine h_puti (C := RX4) (T := TX4) (N := 13) hx hb hts inX4 tyX4 tyX4_ok nmX4 hown hK hT1 (fun _ h => h) hS1 (hE.o rfl) rfl 4 rfl wF_X4_18 rfl rfl trivial rfl rfl dX4_readText_9 (fun H2 locs hT2 hS2 hu2 => ?_)
  refine lv_aload_n hx hb dX4_readText_12 rfl (lv_at hl 0 rfl) ?_
  refine lv_iconst (v := 0) hx hb dX4_readText_13 (by decide) ?_
  refine h_puti (C := RX4) (T := TX4) (N := 13) hx hb hts inX4 tyX4 tyX4_ok nmX4 hown hK hT2 (fun _ h => h) hS2 (hE.o rfl) rfl 5 rfl wF_X4_22 rfl rfl trivial rfl rfl dX4_readText_14 (fun H3 locs hT3 hS3 hu3 => ?_)
  refine lv_aload_n hx hb dX4_readText_17 rfl (lv_at hl 0 rfl) ?_
  refine lv_iconst (v := 0) hx hb dX4_readText_18 (by decide) ?_
  refine h_puti (C := RX4) (T := TX4) (N := 13) hx hb hts inX4 tyX4 tyX4_ok nmX4 hown hK hT3 (fun _ h => h) hS3 (hE.o rfl) rfl 11 rfl wF_X4_40 rfl rfl trivial rfl rfl dX4_readText_19 (fun H4 locs hT4 hS4 hu4 => ?_)
  refine lv_aload_n hx hb dX4_readText_22 rfl (lv_at hl 0 rfl) ?_
  refine lv_iconst (v := (-1)) hx hb dX4_readText_23 (by decide) ?_
  refine h_puti (C := RX4) (T := TX4) (N := 13) hx hb hts inX4 tyX4 tyX4_ok nmX4 hown hK hT4 (fun _ h => h) hS4 (hE.o rfl) rfl 12 rfl wF_X4_43 rfl rfl trivial rfl rfl dX4_readText_24 (fun H5 locs hT5 hS5 hu5 => ?_)
  refine lv_iconst (v := 0) hx hb dX4_readText_27 (by decide) ?_
  refine lv_istore_n (lv' := [(2, .int 0), (0, .ref (re)), (1, .int u1)]) hx hb dX4_readText_28 rfl hl (by decide) rfl (fun ls hl => ?_)
  have LP1 : ∀ (n1 : Nat) (w1_2 : Int32), 2147483647 - w1_2.toInt < (n1 : Int) → 0 ≤ w1_2.toInt → ∀ (H6 : Heap) (locs : List Loc) (ls : Array Slot), hT G Y H6 → va_S (h_A Y) s.heap H6 locs → lv_has ls 3 [(2, .int w1_2), (0, .ref (re))] → W p l e (h_rm 9 191) s m args below meth c H6 locs 0 0 Q (F0 m 29 ls []) := by
    intro n1
    induction n1 with
    | zero =>
      intro w1_2 hm
      exact absurd hm (by have := Int32.toInt_lt w1_2; have := Int32.le_toInt w1_2; omega)
    | succ n1 ih1 =>
      intro w1_2 hm1 hz1 H6 locs ls hT6 hS6 hl
      refine lv_iload_n hx hb dX4_readText_29 rfl (lv_at hl 0 rfl) ?_
      refine lv_sipush (v := 500) hx hb dX4_readText_30 (by decide) ?_
      refine lv_icmp_gt (tgt := 69) hx hb dX4_readText_33 (by decide) (fun c1 => ?_) (fun c1 => ?_)
      · skip
        refine lv_iconst (v := 1) hx hb dX4_readText_69 (by decide) ?_
        exact hret _ _ _ _ _ hT6 hS6 ⟨(by decide), ⟨(by decide), trivial⟩⟩ dX4_readText_70
      · skip
        refine lv_aload_n hx hb dX4_readText_36 rfl (lv_at hl 1 rfl) ?_
        refine h_callVi (T := TX4) (rest := []) (As := []) hx hb hml hown hts hK hT6 hZ (fun _ h => h) hS6 (c_X4_readToken l G Y P (re) (tp) (o) hE hP hY) trivial wd_X4_readToken wV_X4_readToken wL_X4_59 (hE.o rfl) rfl rfl hl.1 rfl (Nat.le_of_ble_eq_true rfl) dX4_readText_37 ⟨Nat.le_of_ble_eq_true rfl, Nat.le_of_ble_eq_true rfl⟩ ⟨Nat.zero_le _, Nat.zero_le _⟩ (fun r2 H7 locs hp7 hT7 hS7 hk7 => ?_)
        refine lv_if_ne (tgt := 45) hx hb dX4_readText_40 (by decide) (fun c3 => ?_) (fun c3 => ?_)
        · skip
          refine lv_aload_n hx hb dX4_readText_45 rfl (lv_at hl 1 rfl) ?_
          refine h_geti (C := RX4) (T := TX4) (N := 13) hx hb hts inX4 hown hK hT7 (hE.o rfl) rfl 6 rfl wF_X4_25 rfl dX4_readText_46 (fun p4 => ?_)
          refine lv_topi (fun x5 ex5 => ?_)
          refine lv_if_ne (tgt := 54) hx hb dX4_readText_49 (by decide) (fun c6 => ?_) (fun c6 => ?_)
          · skip
            refine lv_aload_n hx hb dX4_readText_54 rfl (lv_at hl 1 rfl) ?_
            refine h_callVi (T := TX4) (rest := []) (As := []) hx hb hml hown hts hK hT7 hZ (fun _ h => h) hS7 (c_X4_readLine l G Y P (re) (tp) (o) hE hP hY) trivial wd_X4_readLine wV_X4_readLine wL_X4_63 (hE.o rfl) rfl rfl hl.1 rfl (Nat.le_of_ble_eq_true rfl) dX4_readText_55 ⟨Nat.le_of_ble_eq_true rfl, Nat.le_of_ble_eq_true rfl⟩ ⟨Nat.zero_le _, Nat.zero_le _⟩ (fun r7 H8 locs hp8 hT8 hS8 hk8 => ?_)
            refine lv_if_ne (tgt := 63) hx hb dX4_readText_58 (by decide) (fun c8 => ?_) (fun c8 => ?_)
            · skip
              obtain ⟨x9, ex9⟩ : ∃ y : Int32, y = w1_2 + 1 := ⟨_, rfl⟩
              refine lv_iinc (v := x9) (lv' := [(2, .int x9), (0, .ref (re))]) hx hb dX4_readText_63 hl (k := 0) rfl (by rw [ex9]; rfl) (by decide) rfl (fun ls hl => ?_)
              refine lv_goto (tgt := 29) hx hb dX4_readText_66 (by decide) ?_
              exact ih1 x9 (h_dn hm1 ex9 (by (try simp only [Int32.lt_iff_toInt_lt, Int32.le_iff_toInt_le, ← Int32.toInt_inj, Int32.reduceToInt, (show (-1 : Int32).toInt = -1 from rfl)] at c1 ⊢); omega)) (h_nn hz1 ex9 (by (try simp only [Int32.lt_iff_toInt_lt, Int32.le_iff_toInt_le, ← Int32.toInt_inj, Int32.reduceToInt, (show (-1 : Int32).toInt = -1 from rfl)] at c1 ⊢); omega)) _ _ _ hT8 hS8 (lv_sub hl [0, 1] rfl)
            · skip
              refine lv_iconst (v := 0) hx hb dX4_readText_61 (by decide) ?_
              exact hret _ _ _ _ _ hT8 hS8 ⟨(by decide), ⟨(by decide), trivial⟩⟩ dX4_readText_62
          · skip
            refine lv_iconst (v := 1) hx hb dX4_readText_52 (by decide) ?_
            exact hret _ _ _ _ _ hT7 hS7 ⟨(by decide), ⟨(by decide), trivial⟩⟩ dX4_readText_53
        · skip
          refine lv_iconst (v := 0) hx hb dX4_readText_43 (by decide) ?_
          exact hret _ _ _ _ _ hT7 hS7 ⟨(by decide), ⟨(by decide), trivial⟩⟩ dX4_readText_44
  exact LP1 4294967296 0 (h_m0 _) (by decide) _ _ _ hT5 hS5 (lv_sub hl [0, 1] rfl)
