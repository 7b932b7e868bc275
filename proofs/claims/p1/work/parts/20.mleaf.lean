theorem tF_all {j : Nat} {x : Int32} (h : tF.2 1100 j x) (h1 : j < 600) (h3 : j ≠ 3) (h4 : j ≠ 4) : x = if j = 1 ∨ j = 16 then -1 else 0 := h h1 h3 h4
/-- the copy aside is one of a fresh ring -/
def h_AS (H : Heap) (o : Nat) : Prop := ∀ j : Nat, j < 600 → tF.2 1100 j (h_ai H (o + 1) (600 + j))
theorem h_AS.same {H H1 : Heap} {o : Nat} (h : h_AS H o) (hq : H1[o + 1]? = H[o + 1]?) : h_AS H1 o := fun j hj => by rw [h_ai_same hq]; exact h j hj
theorem h_AS.up {H H1 : Heap} {o : Nat} (h : h_AS H o) (hq : ∀ j : Nat, 600 ≤ j → h_ai H1 (o + 1) j = h_ai H (o + 1) j) : h_AS H1 o := fun j hj => by rw [hq _ (by omega)]; exact h j hj
set_option maxHeartbeats 4000000 in
set_option maxRecDepth 100000 in
theorem c_of (l : Launch) (G : hG) (Y : hW) (t : hTb) (o : Nat) (hM : h_On Y o (modE t o)) (u1 : Int32) (k : Nat) (hk : u1.toNatClampNeg = k) (hin : vp_in u1 3600) : hMi l yX11_of cX11_of 2 (some .int) 0 0 G Y [.ref (o), .int u1] (fun H => True) (fun H r H1 => r = h_ai H (o + 1) k ∧ H1 = H) := by
  refine h_ofi (by decide +kernel) (Nat.le_of_ble_eq_true rfl) ?_
  intro p e s m args below meth c H0 ls Q hx hb hts hown hml hK hT0 hpr hS0 hl hret
  have hl : lv_has ls 2 [(0, .ref (o)), (1, .int u1)] := hl
  refine lv_aload_n hx hb dX11_of_0 rfl (lv_at hl 0 rfl) ?_
  refine h_getr (C := RX11) (T := TX11) (N := 23) hx hb hts inX11 hown hK hT0 (hM.o rfl) rfl 0 rfl wF_X11_7 rfl dX11_of_1 ?_
  refine lv_iload_n hx hb dX11_of_4 rfl (lv_at hl 1 rfl) ?_
  refine h_iald hx hb hK hT0 (hM.at 1 rfl) hin dX11_of_5 (fun p1 => ?_)
  refine lv_topi (fun x2 ex2 => ?_)
  exact hret _ _ _ _ _ hT0 hS0 ⟨ex2.trans (by rw [hk]), rfl⟩ dX11_of_6
set_option maxHeartbeats 4000000 in
set_option maxRecDepth 100000 in
theorem c_puts (l : Launch) (G : hG) (Y : hW) (t : hTb) (o : Nat) (hM : h_On Y o (modE t o)) (u1 u2 : Int32) (k : Nat) (hk : u1.toNatClampNeg = k) (hin : vp_in u1 3600) (hP : t.2 1100 k u2) : hMv l yX11_puts cX11_puts 3 none 0 0 G Y [.ref (o), .int u1, .int u2] (fun H => True) (fun H H1 => h_apu H H1 (o + 1) k (.int u2)) := by
  refine h_ofv (by decide +kernel) (Nat.le_of_ble_eq_true rfl) ?_
  intro p e s m args below meth c H0 ls Q hx hb hts hown hml hK hT0 hpr hS0 hl hret
  have hl : lv_has ls 3 [(0, .ref (o)), (1, .int u1), (2, .int u2)] := hl
  refine lv_aload_n hx hb dX11_puts_0 rfl (lv_at hl 0 rfl) ?_
  refine h_getr (C := RX11) (T := TX11) (N := 23) hx hb hts inX11 hown hK hT0 (hM.o rfl) rfl 0 rfl wF_X11_7 rfl dX11_puts_1 ?_
  refine lv_iload_n hx hb dX11_puts_4 rfl (lv_at hl 1 rfl) ?_
  refine lv_iload_n hx hb dX11_puts_5 rfl (lv_at hl 2 rfl) ?_
  refine h_iast hx hb hK hT0 (fun _ h => h) hS0 (hM.at 1 rfl) hin (by rw [hk]; exact hP) dX11_puts_6 (fun H1 locs hT1 hS1 hu1 => ?_)
  exact hret _ _ _ _ hT1 hS1 (hk ▸ hu1) dX11_puts_7
set_option maxHeartbeats 4000000 in
set_option maxRecDepth 100000 in
theorem c_adds (l : Launch) (G : hG) (Y : hW) (t : hTb) (o : Nat) (hM : h_On Y o (modE t o)) (u1 u2 : Int32) (k : Nat) (hk : u1.toNatClampNeg = k) (hin : vp_in u1 3600) (hP : ∀ x, t.2 1100 k x) : hMv l yX11_adds cX11_adds 3 none 0 0 G Y [.ref (o), .int u1, .int u2] (fun H => True) (fun H H1 => h_apu H H1 (o + 1) k (.int (h_ai H (o + 1) k + u2))) := by
  refine h_ofv (by decide +kernel) (Nat.le_of_ble_eq_true rfl) ?_
  intro p e s m args below meth c H0 ls Q hx hb hts hown hml hK hT0 hpr hS0 hl hret
  have hl : lv_has ls 3 [(0, .ref (o)), (1, .int u1), (2, .int u2)] := hl
  refine lv_aload_n hx hb dX11_adds_0 rfl (lv_at hl 0 rfl) ?_
  refine h_getr (C := RX11) (T := TX11) (N := 23) hx hb hts inX11 hown hK hT0 (hM.o rfl) rfl 0 rfl wF_X11_7 rfl dX11_adds_1 ?_
  refine lv_iload_n hx hb dX11_adds_4 rfl (lv_at hl 1 rfl) ?_
  refine lv_dup2_11 hx hb dX11_adds_5 rfl rfl ?_
  refine h_iald hx hb hK hT0 (hM.at 1 rfl) hin dX11_adds_6 (fun p1 => ?_)
  refine lv_topi (fun x2 ex2 => ?_)
  refine lv_iload_n hx hb dX11_adds_7 rfl (lv_at hl 2 rfl) ?_
  refine lv_iadd hx hb dX11_adds_8 ?_
  refine lv_topi (fun x3 ex3 => ?_)
  refine h_iast hx hb hK hT0 (fun _ h => h) hS0 (hM.at 1 rfl) hin (by rw [hk]; exact hP _) dX11_adds_9 (fun H1 locs hT1 hS1 hu1 => ?_)
  exact hret _ _ _ _ hT1 hS1 (by have h9 := hu1; rw [ex3, ex2, hk] at h9; exact h9) dX11_adds_10
set_option maxHeartbeats 4000000 in
set_option maxRecDepth 100000 in
theorem c_isFrom (l : Launch) (G : hG) (Y : hW) (u1 u2 u3 : Int32) : hMi l yX11_isFrom cX11_isFrom 3 (some .boolean) 0 0 G Y [.int u1, .int u2, .int u3] (fun H => True) (fun H r H1 => ((u2.toInt ≤ u1.toInt ∧ u1.toInt ≤ u3.toInt → r = 1) ∧ (¬ (u2.toInt ≤ u1.toInt ∧ u1.toInt ≤ u3.toInt) → r = 0)) ∧ H1 = H) := by
  refine h_ofz (by decide +kernel) (Nat.le_of_ble_eq_true rfl) ?_
  intro p e s m args below meth c H0 ls Q hx hb hts hown hml hK hT0 hpr hS0 hl hret
  have hl : lv_has ls 3 [(0, .int u1), (1, .int u2), (2, .int u3)] := hl
  refine lv_iload_n hx hb dX11_isFrom_0 rfl (lv_at hl 0 rfl) ?_
  refine lv_iload_n hx hb dX11_isFrom_1 rfl (lv_at hl 1 rfl) ?_
  refine lv_icmp_lt (tgt := 14) hx hb dX11_isFrom_2 (by decide) (fun c1 => ?_) (fun c1 => ?_)
  · skip
    refine lv_iconst (v := 0) hx hb dX11_isFrom_14 (by decide) ?_
    exact hret _ _ _ _ _ hT0 hS0 ⟨by decide, ⟨(by refine ⟨fun h => ?_, fun h => ?_⟩ <;> first | rfl | exact absurd h (by decide) | (exfalso; simp only [Int32.lt_iff_toInt_lt, Int32.le_iff_toInt_le, ← Int32.toInt_inj, Int32.reduceToInt, (show (-1 : Int32).toInt = -1 from rfl)] at c1 <;> omega)), rfl⟩⟩ dX11_isFrom_15
  · skip
    refine lv_iload_n hx hb dX11_isFrom_5 rfl (lv_at hl 0 rfl) ?_
    refine lv_iload_n hx hb dX11_isFrom_6 rfl (lv_at hl 2 rfl) ?_
    refine lv_icmp_gt (tgt := 14) hx hb dX11_isFrom_7 (by decide) (fun c2 => ?_) (fun c2 => ?_)
    · skip
      refine lv_iconst (v := 0) hx hb dX11_isFrom_14 (by decide) ?_
      exact hret _ _ _ _ _ hT0 hS0 ⟨by decide, ⟨(by refine ⟨fun h => ?_, fun h => ?_⟩ <;> first | rfl | exact absurd h (by decide) | (exfalso; simp only [Int32.lt_iff_toInt_lt, Int32.le_iff_toInt_le, ← Int32.toInt_inj, Int32.reduceToInt, (show (-1 : Int32).toInt = -1 from rfl)] at c1 c2 <;> omega)), rfl⟩⟩ dX11_isFrom_15
    · skip
      refine lv_iconst (v := 1) hx hb dX11_isFrom_10 (by decide) ?_
      refine lv_goto (tgt := 15) hx hb dX11_isFrom_11 (by decide) ?_
      exact hret _ _ _ _ _ hT0 hS0 ⟨by decide, ⟨(by refine ⟨fun h => ?_, fun h => ?_⟩ <;> first | rfl | exact absurd h (by decide) | (exfalso; simp only [Int32.lt_iff_toInt_lt, Int32.le_iff_toInt_le, ← Int32.toInt_inj, Int32.reduceToInt, (show (-1 : Int32).toInt = -1 from rfl)] at c1 c2 <;> omega)), rfl⟩⟩ dX11_isFrom_15
