abbrev zA (G : hG) (t n : Nat) : va_E := .inl (G.2.1 t, n, .inl (fun _ => 0))
abbrev zJ (G : hG) (n : Nat) : va_E := .inl (G.2.1 3, n, .inr (.inl (fun _ => 0)))
abbrev stV (G : hG) (a : Nat) : List va_E := [.inr (7, [.ref (a + 1), .ref (a + 2), .ref (a + 3), .ref (a + 4), .ref (a + 5), .int 0, .int (-1), .int (-1), .int (-1)]), zA G 0 8, zA G 2 8, zA G 0 8, zA G 0 8, zA G 0 8]
abbrev quV (G : hG) (a : Nat) : List va_E := [.inr (2, [.ref (a + 1), .ref (a + 2), .ref (a + 3), .ref (a + 4), .ref (a + 5)]), zA G 0 48, zA G 0 48, zA G 0 48, zA G 0 48, zA G 0 8]
abbrev raV (G : hG) (a : Nat) : List va_E := [.inr (3, [.ref (a + 1), .ref (a + 2), .ref (a + 3)]), zA G 0 64, zA G 0 64, zA G 0 8]
abbrev waV (_ : hG) (_ : Nat) : List va_E := [.inr (9, [.int 0, .int (-1), .int 0, .int 0, .int 0, .int (-1), .int (-1), .int 0, .int 0, .int (-1), .int 0])]
abbrev siV (_ : hG) (_ : Nat) : List va_E := [.inr (6, [.int 0, .int 0, .int (-1), .int (-1)])]
abbrev boV (G : hG) (a : Nat) : List va_E := [.inr (0, [.ref (a + 1), .ref (a + 2), .ref (a + 3), .ref (a + 4), .ref (a + 5), .int 0]), zA G 0 10, zA G 0 8, zA G 0 8, zA G 0 96, zA G 0 72]
abbrev taV (G : hG) (a : Nat) : List va_E := [.inr (8, [.ref (a + 1), .int 0, .int (-1), .int (-1)]), zA G 1 500]
def ringV (G : hG) (a : Nat) : List va_E := [.inr (5, [.ref (a + 1), .ref (a + 7), .ref (a + 13), .ref (a + 17), .ref (a + 18), .ref (a + 19), .int 0, .int 0, .int (-1), .int (-1), .int 0])] ++ (stV G (a + 1) ++ (quV G (a + 7) ++ (raV G (a + 13) ++ (waV G (a + 17) ++ (siV G (a + 18) ++ boV G (a + 19))))))
abbrev paV (G : hG) (a r c : Nat) : List va_E := [.inr (1, [.ref r, .ref c, .ref (a + 1), .ref (a + 2)]), zA G 0 48, zA G 0 48]
abbrev reV (G : hG) (a tp r : Nat) : List va_E := [.inr (4, [.ref tp, .ref r, .ref (a + 1), .ref (a + 2), .int 0, .int 0, .int 0, .int 0, .int 0, .int 0, .int (-1), .int 0, .int (-1)]), zA G 0 8, zA G 0 8]
abbrev mkF (a : Nat) : Nat → Option Nat := va_up (va_up (va_up (va_up (fun _ => none) 0 (some a)) 1 (some (a + 27))) 2 (some (a + 54))) 3 (some (a + 81))
def wldV (G : hG) (a : Nat) : List va_E := [.inr (10, [.ref (a + 1), .ref (a + 3), .ref (a + 28), .ref (a + 53), .ref (a + 56), .ref (a + 59), .ref (a + 60), .int 0, .int 0])] ++ (taV G (a + 1) ++ (ringV G (a + 3) ++ (ringV G (a + 28) ++ (paV G (a + 53) (a + 3) (a + 28) ++ (reV G (a + 56) (a + 1) (a + 28) ++ ([.inl (G.2.1 4, 4, .inr (.inr (.inr (.inr (mkF (a + 61))))))] ++ ([.inl (G.2.1 5, 4, .inr (.inr (.inr (.inr (mkF (a + 86))))))] ++ (ringV G (a + 61) ++ (taV G (a + 86) ++ (ringV G (a + 88) ++ (taV G (a + 113) ++ (ringV G (a + 115) ++ (taV G (a + 140) ++ (ringV G (a + 142) ++ taV G (a + 167)))))))))))))))
theorem ringV_len (G : hG) (a : Nat) : (ringV G a).length = 25 := rfl
theorem dv_X0 : ∀ j, j < 6 → defaultValue (tyX0 j) = vp_V [.null, .null, .null, .null, .null, .int 0] j := fun j hj => by rcases (show j = 0 ∨ j = 1 ∨ j = 2 ∨ j = 3 ∨ j = 4 ∨ j = 5 by omega) with rfl | rfl | rfl | rfl | rfl | rfl <;> rfl
theorem dv_X1 : ∀ j, j < 4 → defaultValue (tyX1 j) = vp_V [.null, .null, .null, .null] j := fun j hj => by rcases (show j = 0 ∨ j = 1 ∨ j = 2 ∨ j = 3 by omega) with rfl | rfl | rfl | rfl <;> rfl
theorem dv_X2 : ∀ j, j < 5 → defaultValue (tyX2 j) = vp_V [.null, .null, .null, .null, .null] j := fun j hj => by rcases (show j = 0 ∨ j = 1 ∨ j = 2 ∨ j = 3 ∨ j = 4 by omega) with rfl | rfl | rfl | rfl | rfl <;> rfl
theorem dv_X3 : ∀ j, j < 3 → defaultValue (tyX3 j) = vp_V [.null, .null, .null] j := fun j hj => by rcases (show j = 0 ∨ j = 1 ∨ j = 2 by omega) with rfl | rfl | rfl <;> rfl
theorem dv_X4 : ∀ j, j < 13 → defaultValue (tyX4 j) = vp_V [.null, .null, .null, .null, .int 0, .int 0, .int 0, .int 0, .int 0, .int 0, .int 0, .int 0, .int 0] j := fun j hj => by rcases (show j = 0 ∨ j = 1 ∨ j = 2 ∨ j = 3 ∨ j = 4 ∨ j = 5 ∨ j = 6 ∨ j = 7 ∨ j = 8 ∨ j = 9 ∨ j = 10 ∨ j = 11 ∨ j = 12 by omega) with rfl | rfl | rfl | rfl | rfl | rfl | rfl | rfl | rfl | rfl | rfl | rfl | rfl <;> rfl
theorem dv_X5 : ∀ j, j < 11 → defaultValue (tyX5 j) = vp_V [.null, .null, .null, .null, .null, .null, .int 0, .int 0, .int 0, .int 0, .int 0] j := fun j hj => by rcases (show j = 0 ∨ j = 1 ∨ j = 2 ∨ j = 3 ∨ j = 4 ∨ j = 5 ∨ j = 6 ∨ j = 7 ∨ j = 8 ∨ j = 9 ∨ j = 10 by omega) with rfl | rfl | rfl | rfl | rfl | rfl | rfl | rfl | rfl | rfl | rfl <;> rfl
theorem dv_X6 : ∀ j, j < 4 → defaultValue (tyX6 j) = vp_V [.int 0, .int 0, .int 0, .int 0] j := fun j hj => by rcases (show j = 0 ∨ j = 1 ∨ j = 2 ∨ j = 3 by omega) with rfl | rfl | rfl | rfl <;> rfl
theorem dv_X7 : ∀ j, j < 9 → defaultValue (tyX7 j) = vp_V [.null, .null, .null, .null, .null, .int 0, .int 0, .int 0, .int 0] j := fun j hj => by rcases (show j = 0 ∨ j = 1 ∨ j = 2 ∨ j = 3 ∨ j = 4 ∨ j = 5 ∨ j = 6 ∨ j = 7 ∨ j = 8 by omega) with rfl | rfl | rfl | rfl | rfl | rfl | rfl | rfl | rfl <;> rfl
theorem dv_X8 : ∀ j, j < 4 → defaultValue (tyX8 j) = vp_V [.null, .int 0, .int 0, .int 0] j := fun j hj => by rcases (show j = 0 ∨ j = 1 ∨ j = 2 ∨ j = 3 by omega) with rfl | rfl | rfl | rfl <;> rfl
theorem dv_X9 : ∀ j, j < 11 → defaultValue (tyX9 j) = vp_V [.int 0, .int 0, .int 0, .int 0, .int 0, .int 0, .int 0, .int 0, .int 0, .int 0, .int 0] j := fun j hj => by rcases (show j = 0 ∨ j = 1 ∨ j = 2 ∨ j = 3 ∨ j = 4 ∨ j = 5 ∨ j = 6 ∨ j = 7 ∨ j = 8 ∨ j = 9 ∨ j = 10 by omega) with rfl | rfl | rfl | rfl | rfl | rfl | rfl | rfl | rfl | rfl | rfl <;> rfl
theorem dv_X10 : ∀ j, j < 9 → defaultValue (tyX10 j) = vp_V [.null, .null, .null, .null, .null, .null, .null, .int 0, .int 0] j := fun j hj => by rcases (show j = 0 ∨ j = 1 ∨ j = 2 ∨ j = 3 ∨ j = 4 ∨ j = 5 ∨ j = 6 ∨ j = 7 ∨ j = 8 by omega) with rfl | rfl | rfl | rfl | rfl | rfl | rfl | rfl | rfl <;> rfl
theorem dv_X11 : ∀ j, j < 23 → defaultValue (tyX11 j) = vp_V [.null, .int 0, .int 0, .int 0, .int 0, .int 0, .int 0, .null, .null, .null, .int 0, .int 0, .int 0, .int 0, .int 0, .int 0, .int 0, .int 0, .int 0, .int 0, .int 0, .null, .null] j := fun j hj => by rcases (show j = 0 ∨ j = 1 ∨ j = 2 ∨ j = 3 ∨ j = 4 ∨ j = 5 ∨ j = 6 ∨ j = 7 ∨ j = 8 ∨ j = 9 ∨ j = 10 ∨ j = 11 ∨ j = 12 ∨ j = 13 ∨ j = 14 ∨ j = 15 ∨ j = 16 ∨ j = 17 ∨ j = 18 ∨ j = 19 ∨ j = 20 ∨ j = 21 ∨ j = 22 by omega) with rfl | rfl | rfl | rfl | rfl | rfl | rfl | rfl | rfl | rfl | rfl | rfl | rfl | rfl | rfl | rfl | rfl | rfl | rfl | rfl | rfl | rfl | rfl <;> rfl
set_option maxHeartbeats 4000000 in
set_option maxRecDepth 100000 in
theorem k_X7_init (l : Launch) (G : hG) (a : Nat) : hI l yX7_init cX7_init 1 1 12 5 40 G a [] (.inr (7, [.null, .null, .null, .null, .null, .int 0, .int 0, .int 0, .int 0])) (stV G a) := by
  refine hI_of (by decide +kernel) (Nat.le_of_ble_eq_true rfl) rfl ?_
  intro p e s m args below meth c H0 ls Q hx hb hts hown hml hin hK hN hs0 hz0 g0 hS0 hl hret
  have hl : lv_has ls 1 [(0, .ref a)] := hl
  refine lv_aload_n hx hb dX7_init_0 rfl (lv_at hl 0 rfl) ?_
  refine W.objInit hx hb hown (hts _ wL_X7_3) (hts _ wOi) (hts _ wOc) rfl (by rw [hml]; exact hl.1) rfl dX7_init_1 (Nat.le_of_ble_eq_true rfl) (Nat.le_of_ble_eq_true rfl) ?_
  refine W.eq (g2 := F0 m 4 ls []) rfl ?_
  refine lv_aload_n hx hb dX7_init_4 rfl (lv_at hl 0 rfl) ?_
  refine lv_bipush (v := 8) hx hb dX7_init_5 (by decide) ?_
  refine c_newa (atype := ArrayType.int) (a0 := (8, .inl (fun _ => 0))) (N := 8) hx hb hts wArr_int 0 (by decide) rfl hK hS0 rfl (by decide) (by decide) (Nat.le_of_ble_eq_true rfl) hz0 (Nat.le_of_ble_eq_true rfl) (Nat.le_of_ble_eq_true rfl) dX7_init_7 (fun H1 hz1 g1 oq1 hS1 => ?_)
  replace g0 := g0.kept (oq1 _ (Nat.lt_add_of_pos_right (Nat.le_of_ble_eq_true rfl)))
  clear oq1
  refine c_putF (C := RX7) (T := TX7) (N := 9) hx hb hts inX7 tyX7 tyX7_ok nmX7 hown hK g0 (Nat.le_refl _) hS1 rfl 0 (by decide) wF_X7_9 rfl rfl hin rfl rfl rfl (Nat.le_of_ble_eq_true rfl) dX7_init_9 (fun H2 locs hz2 g0n oq2 hS2 => ?_)
  replace hz2 : H2.size = a + 2 := hz2.trans hz1
  replace g0 : va_at G.1 vwCl (a, .inr (7, [.ref (a + 1), .null, .null, .null, .null, .int 0, .int 0, .int 0, .int 0])) H2 := g0n
  clear g0n
  replace g1 := g1.kept (oq2 _ (Nat.ne_of_gt (Nat.lt_add_of_pos_right (Nat.le_of_ble_eq_true rfl))))
  clear oq2 hz1 hS1
  refine lv_aload_n hx hb dX7_init_12 rfl (lv_at hl 0 rfl) ?_
  refine lv_bipush (v := 8) hx hb dX7_init_13 (by decide) ?_
  refine c_newa (atype := ArrayType.boolean) (a0 := (8, .inl (fun _ => 0))) (N := 8) hx hb hts wArr_boolean 2 (by decide) rfl hK hS2 rfl (by decide) (by decide) (Nat.le_of_ble_eq_true rfl) hz2 (Nat.le_of_ble_eq_true rfl) (Nat.le_of_ble_eq_true rfl) dX7_init_15 (fun H3 hz3 g2 oq3 hS3 => ?_)
  replace g0 := g0.kept (oq3 _ (Nat.lt_add_of_pos_right (Nat.le_of_ble_eq_true rfl)))
  replace g1 := g1.kept (oq3 _ (Nat.add_lt_add_left (n := 1) (m := 2) (Nat.le_of_ble_eq_true rfl) a))
  clear oq3 hz2 hS2
  refine c_putF (C := RX7) (T := TX7) (N := 9) hx hb hts inX7 tyX7 tyX7_ok nmX7 hown hK g0 (Nat.le_refl _) hS3 rfl 1 (by decide) wF_X7_15 rfl rfl hin rfl rfl rfl (Nat.le_of_ble_eq_true rfl) dX7_init_17 (fun H4 locs hz4 g0n oq4 hS4 => ?_)
  replace hz4 : H4.size = a + 3 := hz4.trans hz3
  replace g0 : va_at G.1 vwCl (a, .inr (7, [.ref (a + 1), .ref (a + 2), .null, .null, .null, .int 0, .int 0, .int 0, .int 0])) H4 := g0n
  clear g0n
  replace g1 := g1.kept (oq4 _ (Nat.ne_of_gt (Nat.lt_add_of_pos_right (Nat.le_of_ble_eq_true rfl))))
  replace g2 := g2.kept (oq4 _ (Nat.ne_of_gt (Nat.lt_add_of_pos_right (Nat.le_of_ble_eq_true rfl))))
  clear oq4 hz3 hS3
  refine lv_aload_n hx hb dX7_init_20 rfl (lv_at hl 0 rfl) ?_
  refine lv_bipush (v := 8) hx hb dX7_init_21 (by decide) ?_
  refine c_newa (atype := ArrayType.int) (a0 := (8, .inl (fun _ => 0))) (N := 8) hx hb hts wArr_int 0 (by decide) rfl hK hS4 rfl (by decide) (by decide) (Nat.le_of_ble_eq_true rfl) hz4 (Nat.le_of_ble_eq_true rfl) (Nat.le_of_ble_eq_true rfl) dX7_init_23 (fun H5 hz5 g3 oq5 hS5 => ?_)
  replace g0 := g0.kept (oq5 _ (Nat.lt_add_of_pos_right (Nat.le_of_ble_eq_true rfl)))
  replace g1 := g1.kept (oq5 _ (Nat.add_lt_add_left (n := 1) (m := 3) (Nat.le_of_ble_eq_true rfl) a))
  replace g2 := g2.kept (oq5 _ (Nat.add_lt_add_left (n := 2) (m := 3) (Nat.le_of_ble_eq_true rfl) a))
  clear oq5 hz4 hS4
  refine c_putF (C := RX7) (T := TX7) (N := 9) hx hb hts inX7 tyX7 tyX7_ok nmX7 hown hK g0 (Nat.le_refl _) hS5 rfl 2 (by decide) wF_X7_19 rfl rfl hin rfl rfl rfl (Nat.le_of_ble_eq_true rfl) dX7_init_25 (fun H6 locs hz6 g0n oq6 hS6 => ?_)
  replace hz6 : H6.size = a + 4 := hz6.trans hz5
  replace g0 : va_at G.1 vwCl (a, .inr (7, [.ref (a + 1), .ref (a + 2), .ref (a + 3), .null, .null, .int 0, .int 0, .int 0, .int 0])) H6 := g0n
  clear g0n
  replace g1 := g1.kept (oq6 _ (Nat.ne_of_gt (Nat.lt_add_of_pos_right (Nat.le_of_ble_eq_true rfl))))
  replace g2 := g2.kept (oq6 _ (Nat.ne_of_gt (Nat.lt_add_of_pos_right (Nat.le_of_ble_eq_true rfl))))
  replace g3 := g3.kept (oq6 _ (Nat.ne_of_gt (Nat.lt_add_of_pos_right (Nat.le_of_ble_eq_true rfl))))
  clear oq6 hz5 hS5
  refine lv_aload_n hx hb dX7_init_28 rfl (lv_at hl 0 rfl) ?_
  refine lv_bipush (v := 8) hx hb dX7_init_29 (by decide) ?_
  refine c_newa (atype := ArrayType.int) (a0 := (8, .inl (fun _ => 0))) (N := 8) hx hb hts wArr_int 0 (by decide) rfl hK hS6 rfl (by decide) (by decide) (Nat.le_of_ble_eq_true rfl) hz6 (Nat.le_of_ble_eq_true rfl) (Nat.le_of_ble_eq_true rfl) dX7_init_31 (fun H7 hz7 g4 oq7 hS7 => ?_)
  replace g0 := g0.kept (oq7 _ (Nat.lt_add_of_pos_right (Nat.le_of_ble_eq_true rfl)))
  replace g1 := g1.kept (oq7 _ (Nat.add_lt_add_left (n := 1) (m := 4) (Nat.le_of_ble_eq_true rfl) a))
  replace g2 := g2.kept (oq7 _ (Nat.add_lt_add_left (n := 2) (m := 4) (Nat.le_of_ble_eq_true rfl) a))
  replace g3 := g3.kept (oq7 _ (Nat.add_lt_add_left (n := 3) (m := 4) (Nat.le_of_ble_eq_true rfl) a))
  clear oq7 hz6 hS6
  refine c_putF (C := RX7) (T := TX7) (N := 9) hx hb hts inX7 tyX7 tyX7_ok nmX7 hown hK g0 (Nat.le_refl _) hS7 rfl 3 (by decide) wF_X7_22 rfl rfl hin rfl rfl rfl (Nat.le_of_ble_eq_true rfl) dX7_init_33 (fun H8 locs hz8 g0n oq8 hS8 => ?_)
  replace hz8 : H8.size = a + 5 := hz8.trans hz7
  replace g0 : va_at G.1 vwCl (a, .inr (7, [.ref (a + 1), .ref (a + 2), .ref (a + 3), .ref (a + 4), .null, .int 0, .int 0, .int 0, .int 0])) H8 := g0n
  clear g0n
  replace g1 := g1.kept (oq8 _ (Nat.ne_of_gt (Nat.lt_add_of_pos_right (Nat.le_of_ble_eq_true rfl))))
  replace g2 := g2.kept (oq8 _ (Nat.ne_of_gt (Nat.lt_add_of_pos_right (Nat.le_of_ble_eq_true rfl))))
  replace g3 := g3.kept (oq8 _ (Nat.ne_of_gt (Nat.lt_add_of_pos_right (Nat.le_of_ble_eq_true rfl))))
  replace g4 := g4.kept (oq8 _ (Nat.ne_of_gt (Nat.lt_add_of_pos_right (Nat.le_of_ble_eq_true rfl))))
  clear oq8 hz7 hS7
  refine lv_aload_n hx hb dX7_init_36 rfl (lv_at hl 0 rfl) ?_
  refine lv_bipush (v := 8) hx hb dX7_init_37 (by decide) ?_
  refine c_newa (atype := ArrayType.int) (a0 := (8, .inl (fun _ => 0))) (N := 8) hx hb hts wArr_int 0 (by decide) rfl hK hS8 rfl (by decide) (by decide) (Nat.le_of_ble_eq_true rfl) hz8 (Nat.le_of_ble_eq_true rfl) (Nat.le_of_ble_eq_true rfl) dX7_init_39 (fun H9 hz9 g5 oq9 hS9 => ?_)
  replace g0 := g0.kept (oq9 _ (Nat.lt_add_of_pos_right (Nat.le_of_ble_eq_true rfl)))
  replace g1 := g1.kept (oq9 _ (Nat.add_lt_add_left (n := 1) (m := 5) (Nat.le_of_ble_eq_true rfl) a))
  replace g2 := g2.kept (oq9 _ (Nat.add_lt_add_left (n := 2) (m := 5) (Nat.le_of_ble_eq_true rfl) a))
  replace g3 := g3.kept (oq9 _ (Nat.add_lt_add_left (n := 3) (m := 5) (Nat.le_of_ble_eq_true rfl) a))
  replace g4 := g4.kept (oq9 _ (Nat.add_lt_add_left (n := 4) (m := 5) (Nat.le_of_ble_eq_true rfl) a))
  clear oq9 hz8 hS8
  refine c_putF (C := RX7) (T := TX7) (N := 9) hx hb hts inX7 tyX7 tyX7_ok nmX7 hown hK g0 (Nat.le_refl _) hS9 rfl 4 (by decide) wF_X7_25 rfl rfl hin rfl rfl rfl (Nat.le_of_ble_eq_true rfl) dX7_init_41 (fun H10 locs hz10 g0n oq10 hS10 => ?_)
  replace hz10 : H10.size = a + 6 := hz10.trans hz9
  replace g0 : va_at G.1 vwCl (a, .inr (7, [.ref (a + 1), .ref (a + 2), .ref (a + 3), .ref (a + 4), .ref (a + 5), .int 0, .int 0, .int 0, .int 0])) H10 := g0n
  clear g0n
  replace g1 := g1.kept (oq10 _ (Nat.ne_of_gt (Nat.lt_add_of_pos_right (Nat.le_of_ble_eq_true rfl))))
  replace g2 := g2.kept (oq10 _ (Nat.ne_of_gt (Nat.lt_add_of_pos_right (Nat.le_of_ble_eq_true rfl))))
  replace g3 := g3.kept (oq10 _ (Nat.ne_of_gt (Nat.lt_add_of_pos_right (Nat.le_of_ble_eq_true rfl))))
  replace g4 := g4.kept (oq10 _ (Nat.ne_of_gt (Nat.lt_add_of_pos_right (Nat.le_of_ble_eq_true rfl))))
  replace g5 := g5.kept (oq10 _ (Nat.ne_of_gt (Nat.lt_add_of_pos_right (Nat.le_of_ble_eq_true rfl))))
  clear oq10 hz9 hS9
  refine lv_aload_n hx hb dX7_init_44 rfl (lv_at hl 0 rfl) ?_
  refine lv_iconst (v := 0) hx hb dX7_init_45 (by decide) ?_
  refine c_put (C := RX7) (T := TX7) (N := 9) hx hb hts inX7 tyX7 tyX7_ok nmX7 hown hK g0 (Nat.le_refl _) hS10 rfl 5 (by decide) wF_X7_28 rfl rfl rfl rfl (Nat.le_of_ble_eq_true rfl) dX7_init_46 (fun H11 locs hz11 g0n oq11 hS11 => ?_)
  replace hz11 : H11.size = a + 6 := hz11.trans hz10
  replace g0 : va_at G.1 vwCl (a, .inr (7, [.ref (a + 1), .ref (a + 2), .ref (a + 3), .ref (a + 4), .ref (a + 5), .int 0, .int 0, .int 0, .int 0])) H11 := g0n
  clear g0n
  replace g1 := g1.kept (oq11 _ (Nat.ne_of_gt (Nat.lt_add_of_pos_right (Nat.le_of_ble_eq_true rfl))))
  replace g2 := g2.kept (oq11 _ (Nat.ne_of_gt (Nat.lt_add_of_pos_right (Nat.le_of_ble_eq_true rfl))))
  replace g3 := g3.kept (oq11 _ (Nat.ne_of_gt (Nat.lt_add_of_pos_right (Nat.le_of_ble_eq_true rfl))))
  replace g4 := g4.kept (oq11 _ (Nat.ne_of_gt (Nat.lt_add_of_pos_right (Nat.le_of_ble_eq_true rfl))))
  replace g5 := g5.kept (oq11 _ (Nat.ne_of_gt (Nat.lt_add_of_pos_right (Nat.le_of_ble_eq_true rfl))))
  clear oq11 hz10 hS10
  refine lv_aload_n hx hb dX7_init_49 rfl (lv_at hl 0 rfl) ?_
  refine lv_iconst (v := (-1)) hx hb dX7_init_50 (by decide) ?_
  refine c_put (C := RX7) (T := TX7) (N := 9) hx hb hts inX7 tyX7 tyX7_ok nmX7 hown hK g0 (Nat.le_refl _) hS11 rfl 6 (by decide) wF_X7_32 rfl rfl rfl rfl (Nat.le_of_ble_eq_true rfl) dX7_init_51 (fun H12 locs hz12 g0n oq12 hS12 => ?_)
  replace hz12 : H12.size = a + 6 := hz12.trans hz11
  replace g0 : va_at G.1 vwCl (a, .inr (7, [.ref (a + 1), .ref (a + 2), .ref (a + 3), .ref (a + 4), .ref (a + 5), .int 0, .int (-1), .int 0, .int 0])) H12 := g0n
  clear g0n
  replace g1 := g1.kept (oq12 _ (Nat.ne_of_gt (Nat.lt_add_of_pos_right (Nat.le_of_ble_eq_true rfl))))
  replace g2 := g2.kept (oq12 _ (Nat.ne_of_gt (Nat.lt_add_of_pos_right (Nat.le_of_ble_eq_true rfl))))
  replace g3 := g3.kept (oq12 _ (Nat.ne_of_gt (Nat.lt_add_of_pos_right (Nat.le_of_ble_eq_true rfl))))
  replace g4 := g4.kept (oq12 _ (Nat.ne_of_gt (Nat.lt_add_of_pos_right (Nat.le_of_ble_eq_true rfl))))
  replace g5 := g5.kept (oq12 _ (Nat.ne_of_gt (Nat.lt_add_of_pos_right (Nat.le_of_ble_eq_true rfl))))
  clear oq12 hz11 hS11
  refine lv_aload_n hx hb dX7_init_54 rfl (lv_at hl 0 rfl) ?_
  refine lv_iconst (v := (-1)) hx hb dX7_init_55 (by decide) ?_
  refine c_put (C := RX7) (T := TX7) (N := 9) hx hb hts inX7 tyX7 tyX7_ok nmX7 hown hK g0 (Nat.le_refl _) hS12 rfl 7 (by decide) wF_X7_35 rfl rfl rfl rfl (Nat.le_of_ble_eq_true rfl) dX7_init_56 (fun H13 locs hz13 g0n oq13 hS13 => ?_)
  replace hz13 : H13.size = a + 6 := hz13.trans hz12
  replace g0 : va_at G.1 vwCl (a, .inr (7, [.ref (a + 1), .ref (a + 2), .ref (a + 3), .ref (a + 4), .ref (a + 5), .int 0, .int (-1), .int (-1), .int 0])) H13 := g0n
  clear g0n
  replace g1 := g1.kept (oq13 _ (Nat.ne_of_gt (Nat.lt_add_of_pos_right (Nat.le_of_ble_eq_true rfl))))
  replace g2 := g2.kept (oq13 _ (Nat.ne_of_gt (Nat.lt_add_of_pos_right (Nat.le_of_ble_eq_true rfl))))
  replace g3 := g3.kept (oq13 _ (Nat.ne_of_gt (Nat.lt_add_of_pos_right (Nat.le_of_ble_eq_true rfl))))
  replace g4 := g4.kept (oq13 _ (Nat.ne_of_gt (Nat.lt_add_of_pos_right (Nat.le_of_ble_eq_true rfl))))
  replace g5 := g5.kept (oq13 _ (Nat.ne_of_gt (Nat.lt_add_of_pos_right (Nat.le_of_ble_eq_true rfl))))
  clear oq13 hz12 hS12
  refine lv_aload_n hx hb dX7_init_59 rfl (lv_at hl 0 rfl) ?_
  refine lv_iconst (v := (-1)) hx hb dX7_init_60 (by decide) ?_
  refine c_put (C := RX7) (T := TX7) (N := 9) hx hb hts inX7 tyX7 tyX7_ok nmX7 hown hK g0 (Nat.le_refl _) hS13 rfl 8 (by decide) wF_X7_38 rfl rfl rfl rfl (Nat.le_of_ble_eq_true rfl) dX7_init_61 (fun H14 locs hz14 g0n oq14 hS14 => ?_)
  replace hz14 : H14.size = a + 6 := hz14.trans hz13
  replace g0 : va_at G.1 vwCl (a, .inr (7, [.ref (a + 1), .ref (a + 2), .ref (a + 3), .ref (a + 4), .ref (a + 5), .int 0, .int (-1), .int (-1), .int (-1)])) H14 := g0n
  clear g0n
  replace g1 := g1.kept (oq14 _ (Nat.ne_of_gt (Nat.lt_add_of_pos_right (Nat.le_of_ble_eq_true rfl))))
  replace g2 := g2.kept (oq14 _ (Nat.ne_of_gt (Nat.lt_add_of_pos_right (Nat.le_of_ble_eq_true rfl))))
  replace g3 := g3.kept (oq14 _ (Nat.ne_of_gt (Nat.lt_add_of_pos_right (Nat.le_of_ble_eq_true rfl))))
  replace g4 := g4.kept (oq14 _ (Nat.ne_of_gt (Nat.lt_add_of_pos_right (Nat.le_of_ble_eq_true rfl))))
  replace g5 := g5.kept (oq14 _ (Nat.ne_of_gt (Nat.lt_add_of_pos_right (Nat.le_of_ble_eq_true rfl))))
  clear oq14 hz13 hS13
  exact hret _ _ _ _ hz14 (cw.app (n := 1) (cw.one g0) rfl (cw.app (n := 1) (cw.one g1) rfl (cw.app (n := 1) (cw.one g2) rfl (cw.app (n := 1) (cw.one g3) rfl (cw.app (n := 1) (cw.one g4) rfl (cw.one g5)))))) hS14 dX7_init_64
set_option maxHeartbeats 4000000 in
set_option maxRecDepth 100000 in
theorem k_X2_init (l : Launch) (G : hG) (a : Nat) : hI l yX2_init cX2_init 1 1 12 5 200 G a [] (.inr (2, [.null, .null, .null, .null, .null])) (quV G a) := by
  refine hI_of (by decide +kernel) (Nat.le_of_ble_eq_true rfl) rfl ?_
  intro p e s m args below meth c H0 ls Q hx hb hts hown hml hin hK hN hs0 hz0 g0 hS0 hl hret
  have hl : lv_has ls 1 [(0, .ref a)] := hl
  refine lv_aload_n hx hb dX2_init_0 rfl (lv_at hl 0 rfl) ?_
  refine W.objInit hx hb hown (hts _ wL_X2_3) (hts _ wOi) (hts _ wOc) rfl (by rw [hml]; exact hl.1) rfl dX2_init_1 (Nat.le_of_ble_eq_true rfl) (Nat.le_of_ble_eq_true rfl) ?_
  refine W.eq (g2 := F0 m 4 ls []) rfl ?_
  refine lv_aload_n hx hb dX2_init_4 rfl (lv_at hl 0 rfl) ?_
  refine lv_bipush (v := 48) hx hb dX2_init_5 (by decide) ?_
  refine c_newa (atype := ArrayType.int) (a0 := (48, .inl (fun _ => 0))) (N := 48) hx hb hts wArr_int 0 (by decide) rfl hK hS0 rfl (by decide) (by decide) (Nat.le_of_ble_eq_true rfl) hz0 (Nat.le_of_ble_eq_true rfl) (Nat.le_of_ble_eq_true rfl) dX2_init_7 (fun H1 hz1 g1 oq1 hS1 => ?_)
  replace g0 := g0.kept (oq1 _ (Nat.lt_add_of_pos_right (Nat.le_of_ble_eq_true rfl)))
  clear oq1
  refine c_putF (C := RX2) (T := TX2) (N := 5) hx hb hts inX2 tyX2 tyX2_ok nmX2 hown hK g0 (Nat.le_refl _) hS1 rfl 0 (by decide) wF_X2_9 rfl rfl hin rfl rfl rfl (Nat.le_of_ble_eq_true rfl) dX2_init_9 (fun H2 locs hz2 g0n oq2 hS2 => ?_)
  replace hz2 : H2.size = a + 2 := hz2.trans hz1
  replace g0 : va_at G.1 vwCl (a, .inr (2, [.ref (a + 1), .null, .null, .null, .null])) H2 := g0n
  clear g0n
  replace g1 := g1.kept (oq2 _ (Nat.ne_of_gt (Nat.lt_add_of_pos_right (Nat.le_of_ble_eq_true rfl))))
  clear oq2 hz1 hS1
  refine lv_aload_n hx hb dX2_init_12 rfl (lv_at hl 0 rfl) ?_
  refine lv_bipush (v := 48) hx hb dX2_init_13 (by decide) ?_
  refine c_newa (atype := ArrayType.int) (a0 := (48, .inl (fun _ => 0))) (N := 48) hx hb hts wArr_int 0 (by decide) rfl hK hS2 rfl (by decide) (by decide) (Nat.le_of_ble_eq_true rfl) hz2 (Nat.le_of_ble_eq_true rfl) (Nat.le_of_ble_eq_true rfl) dX2_init_15 (fun H3 hz3 g2 oq3 hS3 => ?_)
  replace g0 := g0.kept (oq3 _ (Nat.lt_add_of_pos_right (Nat.le_of_ble_eq_true rfl)))
  replace g1 := g1.kept (oq3 _ (Nat.add_lt_add_left (n := 1) (m := 2) (Nat.le_of_ble_eq_true rfl) a))
  clear oq3 hz2 hS2
  refine c_putF (C := RX2) (T := TX2) (N := 5) hx hb hts inX2 tyX2 tyX2_ok nmX2 hown hK g0 (Nat.le_refl _) hS3 rfl 1 (by decide) wF_X2_15 rfl rfl hin rfl rfl rfl (Nat.le_of_ble_eq_true rfl) dX2_init_17 (fun H4 locs hz4 g0n oq4 hS4 => ?_)
  replace hz4 : H4.size = a + 3 := hz4.trans hz3
  replace g0 : va_at G.1 vwCl (a, .inr (2, [.ref (a + 1), .ref (a + 2), .null, .null, .null])) H4 := g0n
  clear g0n
  replace g1 := g1.kept (oq4 _ (Nat.ne_of_gt (Nat.lt_add_of_pos_right (Nat.le_of_ble_eq_true rfl))))
  replace g2 := g2.kept (oq4 _ (Nat.ne_of_gt (Nat.lt_add_of_pos_right (Nat.le_of_ble_eq_true rfl))))
  clear oq4 hz3 hS3
  refine lv_aload_n hx hb dX2_init_20 rfl (lv_at hl 0 rfl) ?_
  refine lv_bipush (v := 48) hx hb dX2_init_21 (by decide) ?_
  refine c_newa (atype := ArrayType.int) (a0 := (48, .inl (fun _ => 0))) (N := 48) hx hb hts wArr_int 0 (by decide) rfl hK hS4 rfl (by decide) (by decide) (Nat.le_of_ble_eq_true rfl) hz4 (Nat.le_of_ble_eq_true rfl) (Nat.le_of_ble_eq_true rfl) dX2_init_23 (fun H5 hz5 g3 oq5 hS5 => ?_)
  replace g0 := g0.kept (oq5 _ (Nat.lt_add_of_pos_right (Nat.le_of_ble_eq_true rfl)))
  replace g1 := g1.kept (oq5 _ (Nat.add_lt_add_left (n := 1) (m := 3) (Nat.le_of_ble_eq_true rfl) a))
  replace g2 := g2.kept (oq5 _ (Nat.add_lt_add_left (n := 2) (m := 3) (Nat.le_of_ble_eq_true rfl) a))
  clear oq5 hz4 hS4
  refine c_putF (C := RX2) (T := TX2) (N := 5) hx hb hts inX2 tyX2 tyX2_ok nmX2 hown hK g0 (Nat.le_refl _) hS5 rfl 2 (by decide) wF_X2_18 rfl rfl hin rfl rfl rfl (Nat.le_of_ble_eq_true rfl) dX2_init_25 (fun H6 locs hz6 g0n oq6 hS6 => ?_)
  replace hz6 : H6.size = a + 4 := hz6.trans hz5
  replace g0 : va_at G.1 vwCl (a, .inr (2, [.ref (a + 1), .ref (a + 2), .ref (a + 3), .null, .null])) H6 := g0n
  clear g0n
  replace g1 := g1.kept (oq6 _ (Nat.ne_of_gt (Nat.lt_add_of_pos_right (Nat.le_of_ble_eq_true rfl))))
  replace g2 := g2.kept (oq6 _ (Nat.ne_of_gt (Nat.lt_add_of_pos_right (Nat.le_of_ble_eq_true rfl))))
  replace g3 := g3.kept (oq6 _ (Nat.ne_of_gt (Nat.lt_add_of_pos_right (Nat.le_of_ble_eq_true rfl))))
  clear oq6 hz5 hS5
  refine lv_aload_n hx hb dX2_init_28 rfl (lv_at hl 0 rfl) ?_
  refine lv_bipush (v := 48) hx hb dX2_init_29 (by decide) ?_
  refine c_newa (atype := ArrayType.int) (a0 := (48, .inl (fun _ => 0))) (N := 48) hx hb hts wArr_int 0 (by decide) rfl hK hS6 rfl (by decide) (by decide) (Nat.le_of_ble_eq_true rfl) hz6 (Nat.le_of_ble_eq_true rfl) (Nat.le_of_ble_eq_true rfl) dX2_init_31 (fun H7 hz7 g4 oq7 hS7 => ?_)
  replace g0 := g0.kept (oq7 _ (Nat.lt_add_of_pos_right (Nat.le_of_ble_eq_true rfl)))
  replace g1 := g1.kept (oq7 _ (Nat.add_lt_add_left (n := 1) (m := 4) (Nat.le_of_ble_eq_true rfl) a))
  replace g2 := g2.kept (oq7 _ (Nat.add_lt_add_left (n := 2) (m := 4) (Nat.le_of_ble_eq_true rfl) a))
  replace g3 := g3.kept (oq7 _ (Nat.add_lt_add_left (n := 3) (m := 4) (Nat.le_of_ble_eq_true rfl) a))
  clear oq7 hz6 hS6
  refine c_putF (C := RX2) (T := TX2) (N := 5) hx hb hts inX2 tyX2 tyX2_ok nmX2 hown hK g0 (Nat.le_refl _) hS7 rfl 3 (by decide) wF_X2_21 rfl rfl hin rfl rfl rfl (Nat.le_of_ble_eq_true rfl) dX2_init_33 (fun H8 locs hz8 g0n oq8 hS8 => ?_)
  replace hz8 : H8.size = a + 5 := hz8.trans hz7
  replace g0 : va_at G.1 vwCl (a, .inr (2, [.ref (a + 1), .ref (a + 2), .ref (a + 3), .ref (a + 4), .null])) H8 := g0n
  clear g0n
  replace g1 := g1.kept (oq8 _ (Nat.ne_of_gt (Nat.lt_add_of_pos_right (Nat.le_of_ble_eq_true rfl))))
  replace g2 := g2.kept (oq8 _ (Nat.ne_of_gt (Nat.lt_add_of_pos_right (Nat.le_of_ble_eq_true rfl))))
  replace g3 := g3.kept (oq8 _ (Nat.ne_of_gt (Nat.lt_add_of_pos_right (Nat.le_of_ble_eq_true rfl))))
  replace g4 := g4.kept (oq8 _ (Nat.ne_of_gt (Nat.lt_add_of_pos_right (Nat.le_of_ble_eq_true rfl))))
  clear oq8 hz7 hS7
  refine lv_aload_n hx hb dX2_init_36 rfl (lv_at hl 0 rfl) ?_
  refine lv_bipush (v := 8) hx hb dX2_init_37 (by decide) ?_
  refine c_newa (atype := ArrayType.int) (a0 := (8, .inl (fun _ => 0))) (N := 8) hx hb hts wArr_int 0 (by decide) rfl hK hS8 rfl (by decide) (by decide) (Nat.le_of_ble_eq_true rfl) hz8 (Nat.le_of_ble_eq_true rfl) (Nat.le_of_ble_eq_true rfl) dX2_init_39 (fun H9 hz9 g5 oq9 hS9 => ?_)
  replace g0 := g0.kept (oq9 _ (Nat.lt_add_of_pos_right (Nat.le_of_ble_eq_true rfl)))
  replace g1 := g1.kept (oq9 _ (Nat.add_lt_add_left (n := 1) (m := 5) (Nat.le_of_ble_eq_true rfl) a))
  replace g2 := g2.kept (oq9 _ (Nat.add_lt_add_left (n := 2) (m := 5) (Nat.le_of_ble_eq_true rfl) a))
  replace g3 := g3.kept (oq9 _ (Nat.add_lt_add_left (n := 3) (m := 5) (Nat.le_of_ble_eq_true rfl) a))
  replace g4 := g4.kept (oq9 _ (Nat.add_lt_add_left (n := 4) (m := 5) (Nat.le_of_ble_eq_true rfl) a))
  clear oq9 hz8 hS8
  refine c_putF (C := RX2) (T := TX2) (N := 5) hx hb hts inX2 tyX2 tyX2_ok nmX2 hown hK g0 (Nat.le_refl _) hS9 rfl 4 (by decide) wF_X2_24 rfl rfl hin rfl rfl rfl (Nat.le_of_ble_eq_true rfl) dX2_init_41 (fun H10 locs hz10 g0n oq10 hS10 => ?_)
  replace hz10 : H10.size = a + 6 := hz10.trans hz9
  replace g0 : va_at G.1 vwCl (a, .inr (2, [.ref (a + 1), .ref (a + 2), .ref (a + 3), .ref (a + 4), .ref (a + 5)])) H10 := g0n
  clear g0n
  replace g1 := g1.kept (oq10 _ (Nat.ne_of_gt (Nat.lt_add_of_pos_right (Nat.le_of_ble_eq_true rfl))))
  replace g2 := g2.kept (oq10 _ (Nat.ne_of_gt (Nat.lt_add_of_pos_right (Nat.le_of_ble_eq_true rfl))))
  replace g3 := g3.kept (oq10 _ (Nat.ne_of_gt (Nat.lt_add_of_pos_right (Nat.le_of_ble_eq_true rfl))))
  replace g4 := g4.kept (oq10 _ (Nat.ne_of_gt (Nat.lt_add_of_pos_right (Nat.le_of_ble_eq_true rfl))))
  replace g5 := g5.kept (oq10 _ (Nat.ne_of_gt (Nat.lt_add_of_pos_right (Nat.le_of_ble_eq_true rfl))))
  clear oq10 hz9 hS9
  exact hret _ _ _ _ hz10 (cw.app (n := 1) (cw.one g0) rfl (cw.app (n := 1) (cw.one g1) rfl (cw.app (n := 1) (cw.one g2) rfl (cw.app (n := 1) (cw.one g3) rfl (cw.app (n := 1) (cw.one g4) rfl (cw.one g5)))))) hS10 dX2_init_44
set_option maxHeartbeats 4000000 in
set_option maxRecDepth 100000 in
theorem k_X3_init (l : Launch) (G : hG) (a : Nat) : hI l yX3_init cX3_init 1 1 12 3 136 G a [] (.inr (3, [.null, .null, .null])) (raV G a) := by
  refine hI_of (by decide +kernel) (Nat.le_of_ble_eq_true rfl) rfl ?_
  intro p e s m args below meth c H0 ls Q hx hb hts hown hml hin hK hN hs0 hz0 g0 hS0 hl hret
  have hl : lv_has ls 1 [(0, .ref a)] := hl
  refine lv_aload_n hx hb dX3_init_0 rfl (lv_at hl 0 rfl) ?_
  refine W.objInit hx hb hown (hts _ wL_X3_3) (hts _ wOi) (hts _ wOc) rfl (by rw [hml]; exact hl.1) rfl dX3_init_1 (Nat.le_of_ble_eq_true rfl) (Nat.le_of_ble_eq_true rfl) ?_
  refine W.eq (g2 := F0 m 4 ls []) rfl ?_
  refine lv_aload_n hx hb dX3_init_4 rfl (lv_at hl 0 rfl) ?_
  refine lv_bipush (v := 64) hx hb dX3_init_5 (by decide) ?_
  refine c_newa (atype := ArrayType.int) (a0 := (64, .inl (fun _ => 0))) (N := 64) hx hb hts wArr_int 0 (by decide) rfl hK hS0 rfl (by decide) (by decide) (Nat.le_of_ble_eq_true rfl) hz0 (Nat.le_of_ble_eq_true rfl) (Nat.le_of_ble_eq_true rfl) dX3_init_7 (fun H1 hz1 g1 oq1 hS1 => ?_)
  replace g0 := g0.kept (oq1 _ (Nat.lt_add_of_pos_right (Nat.le_of_ble_eq_true rfl)))
  clear oq1
  refine c_putF (C := RX3) (T := TX3) (N := 3) hx hb hts inX3 tyX3 tyX3_ok nmX3 hown hK g0 (Nat.le_refl _) hS1 rfl 0 (by decide) wF_X3_9 rfl rfl hin rfl rfl rfl (Nat.le_of_ble_eq_true rfl) dX3_init_9 (fun H2 locs hz2 g0n oq2 hS2 => ?_)
  replace hz2 : H2.size = a + 2 := hz2.trans hz1
  replace g0 : va_at G.1 vwCl (a, .inr (3, [.ref (a + 1), .null, .null])) H2 := g0n
  clear g0n
  replace g1 := g1.kept (oq2 _ (Nat.ne_of_gt (Nat.lt_add_of_pos_right (Nat.le_of_ble_eq_true rfl))))
  clear oq2 hz1 hS1
  refine lv_aload_n hx hb dX3_init_12 rfl (lv_at hl 0 rfl) ?_
  refine lv_bipush (v := 64) hx hb dX3_init_13 (by decide) ?_
  refine c_newa (atype := ArrayType.int) (a0 := (64, .inl (fun _ => 0))) (N := 64) hx hb hts wArr_int 0 (by decide) rfl hK hS2 rfl (by decide) (by decide) (Nat.le_of_ble_eq_true rfl) hz2 (Nat.le_of_ble_eq_true rfl) (Nat.le_of_ble_eq_true rfl) dX3_init_15 (fun H3 hz3 g2 oq3 hS3 => ?_)
  replace g0 := g0.kept (oq3 _ (Nat.lt_add_of_pos_right (Nat.le_of_ble_eq_true rfl)))
  replace g1 := g1.kept (oq3 _ (Nat.add_lt_add_left (n := 1) (m := 2) (Nat.le_of_ble_eq_true rfl) a))
  clear oq3 hz2 hS2
  refine c_putF (C := RX3) (T := TX3) (N := 3) hx hb hts inX3 tyX3 tyX3_ok nmX3 hown hK g0 (Nat.le_refl _) hS3 rfl 1 (by decide) wF_X3_15 rfl rfl hin rfl rfl rfl (Nat.le_of_ble_eq_true rfl) dX3_init_17 (fun H4 locs hz4 g0n oq4 hS4 => ?_)
  replace hz4 : H4.size = a + 3 := hz4.trans hz3
  replace g0 : va_at G.1 vwCl (a, .inr (3, [.ref (a + 1), .ref (a + 2), .null])) H4 := g0n
  clear g0n
  replace g1 := g1.kept (oq4 _ (Nat.ne_of_gt (Nat.lt_add_of_pos_right (Nat.le_of_ble_eq_true rfl))))
  replace g2 := g2.kept (oq4 _ (Nat.ne_of_gt (Nat.lt_add_of_pos_right (Nat.le_of_ble_eq_true rfl))))
  clear oq4 hz3 hS3
  refine lv_aload_n hx hb dX3_init_20 rfl (lv_at hl 0 rfl) ?_
  refine lv_bipush (v := 8) hx hb dX3_init_21 (by decide) ?_
  refine c_newa (atype := ArrayType.int) (a0 := (8, .inl (fun _ => 0))) (N := 8) hx hb hts wArr_int 0 (by decide) rfl hK hS4 rfl (by decide) (by decide) (Nat.le_of_ble_eq_true rfl) hz4 (Nat.le_of_ble_eq_true rfl) (Nat.le_of_ble_eq_true rfl) dX3_init_23 (fun H5 hz5 g3 oq5 hS5 => ?_)
  replace g0 := g0.kept (oq5 _ (Nat.lt_add_of_pos_right (Nat.le_of_ble_eq_true rfl)))
  replace g1 := g1.kept (oq5 _ (Nat.add_lt_add_left (n := 1) (m := 3) (Nat.le_of_ble_eq_true rfl) a))
  replace g2 := g2.kept (oq5 _ (Nat.add_lt_add_left (n := 2) (m := 3) (Nat.le_of_ble_eq_true rfl) a))
  clear oq5 hz4 hS4
  refine c_putF (C := RX3) (T := TX3) (N := 3) hx hb hts inX3 tyX3 tyX3_ok nmX3 hown hK g0 (Nat.le_refl _) hS5 rfl 2 (by decide) wF_X3_18 rfl rfl hin rfl rfl rfl (Nat.le_of_ble_eq_true rfl) dX3_init_25 (fun H6 locs hz6 g0n oq6 hS6 => ?_)
  replace hz6 : H6.size = a + 4 := hz6.trans hz5
  replace g0 : va_at G.1 vwCl (a, .inr (3, [.ref (a + 1), .ref (a + 2), .ref (a + 3)])) H6 := g0n
  clear g0n
  replace g1 := g1.kept (oq6 _ (Nat.ne_of_gt (Nat.lt_add_of_pos_right (Nat.le_of_ble_eq_true rfl))))
  replace g2 := g2.kept (oq6 _ (Nat.ne_of_gt (Nat.lt_add_of_pos_right (Nat.le_of_ble_eq_true rfl))))
  replace g3 := g3.kept (oq6 _ (Nat.ne_of_gt (Nat.lt_add_of_pos_right (Nat.le_of_ble_eq_true rfl))))
  clear oq6 hz5 hS5
  exact hret _ _ _ _ hz6 (cw.app (n := 1) (cw.one g0) rfl (cw.app (n := 1) (cw.one g1) rfl (cw.app (n := 1) (cw.one g2) rfl (cw.one g3)))) hS6 dX3_init_28
set_option maxHeartbeats 4000000 in
set_option maxRecDepth 100000 in
theorem k_X9_init (l : Launch) (G : hG) (a : Nat) : hI l yX9_init cX9_init 1 1 12 0 0 G a [] (.inr (9, [.int 0, .int 0, .int 0, .int 0, .int 0, .int 0, .int 0, .int 0, .int 0, .int 0, .int 0])) (waV G a) := by
  refine hI_of (by decide +kernel) (Nat.le_of_ble_eq_true rfl) rfl ?_
  intro p e s m args below meth c H0 ls Q hx hb hts hown hml hin hK hN hs0 hz0 g0 hS0 hl hret
  have hl : lv_has ls 1 [(0, .ref a)] := hl
  refine lv_aload_n hx hb dX9_init_0 rfl (lv_at hl 0 rfl) ?_
  refine W.objInit hx hb hown (hts _ wL_X9_3) (hts _ wOi) (hts _ wOc) rfl (by rw [hml]; exact hl.1) rfl dX9_init_1 (Nat.le_of_ble_eq_true rfl) (Nat.le_of_ble_eq_true rfl) ?_
  refine W.eq (g2 := F0 m 4 ls []) rfl ?_
  refine lv_aload_n hx hb dX9_init_4 rfl (lv_at hl 0 rfl) ?_
  refine lv_iconst (v := 0) hx hb dX9_init_5 (by decide) ?_
  refine c_put (C := RX9) (T := TX9) (N := 11) hx hb hts inX9 tyX9 tyX9_ok nmX9 hown hK g0 (Nat.le_refl _) hS0 rfl 0 (by decide) wF_X9_9 rfl rfl rfl rfl (Nat.le_of_ble_eq_true rfl) dX9_init_6 (fun H1 locs hz1 g0n oq1 hS1 => ?_)
  replace hz1 : H1.size = a + 1 := hz1.trans hz0
  replace g0 : va_at G.1 vwCl (a, .inr (9, [.int 0, .int 0, .int 0, .int 0, .int 0, .int 0, .int 0, .int 0, .int 0, .int 0, .int 0])) H1 := g0n
  clear g0n
  clear oq1
  refine lv_aload_n hx hb dX9_init_9 rfl (lv_at hl 0 rfl) ?_
  refine lv_iconst (v := (-1)) hx hb dX9_init_10 (by decide) ?_
  refine c_put (C := RX9) (T := TX9) (N := 11) hx hb hts inX9 tyX9 tyX9_ok nmX9 hown hK g0 (Nat.le_refl _) hS1 rfl 1 (by decide) wF_X9_15 rfl rfl rfl rfl (Nat.le_of_ble_eq_true rfl) dX9_init_11 (fun H2 locs hz2 g0n oq2 hS2 => ?_)
  replace hz2 : H2.size = a + 1 := hz2.trans hz1
  replace g0 : va_at G.1 vwCl (a, .inr (9, [.int 0, .int (-1), .int 0, .int 0, .int 0, .int 0, .int 0, .int 0, .int 0, .int 0, .int 0])) H2 := g0n
  clear g0n
  clear oq2 hz1 hS1
  refine lv_aload_n hx hb dX9_init_14 rfl (lv_at hl 0 rfl) ?_
  refine lv_iconst (v := 0) hx hb dX9_init_15 (by decide) ?_
  refine c_put (C := RX9) (T := TX9) (N := 11) hx hb hts inX9 tyX9 tyX9_ok nmX9 hown hK g0 (Nat.le_refl _) hS2 rfl 2 (by decide) wF_X9_18 rfl rfl rfl rfl (Nat.le_of_ble_eq_true rfl) dX9_init_16 (fun H3 locs hz3 g0n oq3 hS3 => ?_)
  replace hz3 : H3.size = a + 1 := hz3.trans hz2
  replace g0 : va_at G.1 vwCl (a, .inr (9, [.int 0, .int (-1), .int 0, .int 0, .int 0, .int 0, .int 0, .int 0, .int 0, .int 0, .int 0])) H3 := g0n
  clear g0n
  clear oq3 hz2 hS2
  refine lv_aload_n hx hb dX9_init_19 rfl (lv_at hl 0 rfl) ?_
  refine lv_iconst (v := 0) hx hb dX9_init_20 (by decide) ?_
  refine c_put (C := RX9) (T := TX9) (N := 11) hx hb hts inX9 tyX9 tyX9_ok nmX9 hown hK g0 (Nat.le_refl _) hS3 rfl 3 (by decide) wF_X9_21 rfl rfl rfl rfl (Nat.le_of_ble_eq_true rfl) dX9_init_21 (fun H4 locs hz4 g0n oq4 hS4 => ?_)
  replace hz4 : H4.size = a + 1 := hz4.trans hz3
  replace g0 : va_at G.1 vwCl (a, .inr (9, [.int 0, .int (-1), .int 0, .int 0, .int 0, .int 0, .int 0, .int 0, .int 0, .int 0, .int 0])) H4 := g0n
  clear g0n
  clear oq4 hz3 hS3
  refine lv_aload_n hx hb dX9_init_24 rfl (lv_at hl 0 rfl) ?_
  refine lv_iconst (v := 0) hx hb dX9_init_25 (by decide) ?_
  refine c_put (C := RX9) (T := TX9) (N := 11) hx hb hts inX9 tyX9 tyX9_ok nmX9 hown hK g0 (Nat.le_refl _) hS4 rfl 4 (by decide) wF_X9_24 rfl rfl rfl rfl (Nat.le_of_ble_eq_true rfl) dX9_init_26 (fun H5 locs hz5 g0n oq5 hS5 => ?_)
  replace hz5 : H5.size = a + 1 := hz5.trans hz4
  replace g0 : va_at G.1 vwCl (a, .inr (9, [.int 0, .int (-1), .int 0, .int 0, .int 0, .int 0, .int 0, .int 0, .int 0, .int 0, .int 0])) H5 := g0n
  clear g0n
  clear oq5 hz4 hS4
  refine lv_aload_n hx hb dX9_init_29 rfl (lv_at hl 0 rfl) ?_
  refine lv_iconst (v := (-1)) hx hb dX9_init_30 (by decide) ?_
  refine c_put (C := RX9) (T := TX9) (N := 11) hx hb hts inX9 tyX9 tyX9_ok nmX9 hown hK g0 (Nat.le_refl _) hS5 rfl 5 (by decide) wF_X9_28 rfl rfl rfl rfl (Nat.le_of_ble_eq_true rfl) dX9_init_31 (fun H6 locs hz6 g0n oq6 hS6 => ?_)
  replace hz6 : H6.size = a + 1 := hz6.trans hz5
  replace g0 : va_at G.1 vwCl (a, .inr (9, [.int 0, .int (-1), .int 0, .int 0, .int 0, .int (-1), .int 0, .int 0, .int 0, .int 0, .int 0])) H6 := g0n
  clear g0n
  clear oq6 hz5 hS5
  refine lv_aload_n hx hb dX9_init_34 rfl (lv_at hl 0 rfl) ?_
  refine lv_iconst (v := (-1)) hx hb dX9_init_35 (by decide) ?_
  refine c_put (C := RX9) (T := TX9) (N := 11) hx hb hts inX9 tyX9 tyX9_ok nmX9 hown hK g0 (Nat.le_refl _) hS6 rfl 6 (by decide) wF_X9_31 rfl rfl rfl rfl (Nat.le_of_ble_eq_true rfl) dX9_init_36 (fun H7 locs hz7 g0n oq7 hS7 => ?_)
  replace hz7 : H7.size = a + 1 := hz7.trans hz6
  replace g0 : va_at G.1 vwCl (a, .inr (9, [.int 0, .int (-1), .int 0, .int 0, .int 0, .int (-1), .int (-1), .int 0, .int 0, .int 0, .int 0])) H7 := g0n
  clear g0n
  clear oq7 hz6 hS6
  refine lv_aload_n hx hb dX9_init_39 rfl (lv_at hl 0 rfl) ?_
  refine lv_iconst (v := 0) hx hb dX9_init_40 (by decide) ?_
  refine c_put (C := RX9) (T := TX9) (N := 11) hx hb hts inX9 tyX9 tyX9_ok nmX9 hown hK g0 (Nat.le_refl _) hS7 rfl 7 (by decide) wF_X9_34 rfl rfl rfl rfl (Nat.le_of_ble_eq_true rfl) dX9_init_41 (fun H8 locs hz8 g0n oq8 hS8 => ?_)
  replace hz8 : H8.size = a + 1 := hz8.trans hz7
  replace g0 : va_at G.1 vwCl (a, .inr (9, [.int 0, .int (-1), .int 0, .int 0, .int 0, .int (-1), .int (-1), .int 0, .int 0, .int 0, .int 0])) H8 := g0n
  clear g0n
  clear oq8 hz7 hS7
  refine lv_aload_n hx hb dX9_init_44 rfl (lv_at hl 0 rfl) ?_
  refine lv_iconst (v := 0) hx hb dX9_init_45 (by decide) ?_
  refine c_put (C := RX9) (T := TX9) (N := 11) hx hb hts inX9 tyX9 tyX9_ok nmX9 hown hK g0 (Nat.le_refl _) hS8 rfl 8 (by decide) wF_X9_37 rfl rfl rfl rfl (Nat.le_of_ble_eq_true rfl) dX9_init_46 (fun H9 locs hz9 g0n oq9 hS9 => ?_)
  replace hz9 : H9.size = a + 1 := hz9.trans hz8
  replace g0 : va_at G.1 vwCl (a, .inr (9, [.int 0, .int (-1), .int 0, .int 0, .int 0, .int (-1), .int (-1), .int 0, .int 0, .int 0, .int 0])) H9 := g0n
  clear g0n
  clear oq9 hz8 hS8
  refine lv_aload_n hx hb dX9_init_49 rfl (lv_at hl 0 rfl) ?_
  refine lv_iconst (v := (-1)) hx hb dX9_init_50 (by decide) ?_
  refine c_put (C := RX9) (T := TX9) (N := 11) hx hb hts inX9 tyX9 tyX9_ok nmX9 hown hK g0 (Nat.le_refl _) hS9 rfl 9 (by decide) wF_X9_40 rfl rfl rfl rfl (Nat.le_of_ble_eq_true rfl) dX9_init_51 (fun H10 locs hz10 g0n oq10 hS10 => ?_)
  replace hz10 : H10.size = a + 1 := hz10.trans hz9
  replace g0 : va_at G.1 vwCl (a, .inr (9, [.int 0, .int (-1), .int 0, .int 0, .int 0, .int (-1), .int (-1), .int 0, .int 0, .int (-1), .int 0])) H10 := g0n
  clear g0n
  clear oq10 hz9 hS9
  refine lv_aload_n hx hb dX9_init_54 rfl (lv_at hl 0 rfl) ?_
  refine lv_iconst (v := 0) hx hb dX9_init_55 (by decide) ?_
  refine c_put (C := RX9) (T := TX9) (N := 11) hx hb hts inX9 tyX9 tyX9_ok nmX9 hown hK g0 (Nat.le_refl _) hS10 rfl 10 (by decide) wF_X9_43 rfl rfl rfl rfl (Nat.le_of_ble_eq_true rfl) dX9_init_56 (fun H11 locs hz11 g0n oq11 hS11 => ?_)
  replace hz11 : H11.size = a + 1 := hz11.trans hz10
  replace g0 : va_at G.1 vwCl (a, .inr (9, [.int 0, .int (-1), .int 0, .int 0, .int 0, .int (-1), .int (-1), .int 0, .int 0, .int (-1), .int 0])) H11 := g0n
  clear g0n
  clear oq11 hz10 hS10
  exact hret _ _ _ _ hz11 (cw.one g0) hS11 dX9_init_59
set_option maxHeartbeats 4000000 in
set_option maxRecDepth 100000 in
theorem k_X6_init (l : Launch) (G : hG) (a : Nat) : hI l yX6_init cX6_init 1 1 12 0 0 G a [] (.inr (6, [.int 0, .int 0, .int 0, .int 0])) (siV G a) := by
  refine hI_of (by decide +kernel) (Nat.le_of_ble_eq_true rfl) rfl ?_
  intro p e s m args below meth c H0 ls Q hx hb hts hown hml hin hK hN hs0 hz0 g0 hS0 hl hret
  have hl : lv_has ls 1 [(0, .ref a)] := hl
  refine lv_aload_n hx hb dX6_init_0 rfl (lv_at hl 0 rfl) ?_
  refine W.objInit hx hb hown (hts _ wL_X6_3) (hts _ wOi) (hts _ wOc) rfl (by rw [hml]; exact hl.1) rfl dX6_init_1 (Nat.le_of_ble_eq_true rfl) (Nat.le_of_ble_eq_true rfl) ?_
  refine W.eq (g2 := F0 m 4 ls []) rfl ?_
  refine lv_aload_n hx hb dX6_init_4 rfl (lv_at hl 0 rfl) ?_
  refine lv_iconst (v := 0) hx hb dX6_init_5 (by decide) ?_
  refine c_put (C := RX6) (T := TX6) (N := 4) hx hb hts inX6 tyX6 tyX6_ok nmX6 hown hK g0 (Nat.le_refl _) hS0 rfl 0 (by decide) wF_X6_9 rfl rfl rfl rfl (Nat.le_of_ble_eq_true rfl) dX6_init_6 (fun H1 locs hz1 g0n oq1 hS1 => ?_)
  replace hz1 : H1.size = a + 1 := hz1.trans hz0
  replace g0 : va_at G.1 vwCl (a, .inr (6, [.int 0, .int 0, .int 0, .int 0])) H1 := g0n
  clear g0n
  clear oq1
  refine lv_aload_n hx hb dX6_init_9 rfl (lv_at hl 0 rfl) ?_
  refine lv_iconst (v := 0) hx hb dX6_init_10 (by decide) ?_
  refine c_put (C := RX6) (T := TX6) (N := 4) hx hb hts inX6 tyX6 tyX6_ok nmX6 hown hK g0 (Nat.le_refl _) hS1 rfl 1 (by decide) wF_X6_15 rfl rfl rfl rfl (Nat.le_of_ble_eq_true rfl) dX6_init_11 (fun H2 locs hz2 g0n oq2 hS2 => ?_)
  replace hz2 : H2.size = a + 1 := hz2.trans hz1
  replace g0 : va_at G.1 vwCl (a, .inr (6, [.int 0, .int 0, .int 0, .int 0])) H2 := g0n
  clear g0n
  clear oq2 hz1 hS1
  refine lv_aload_n hx hb dX6_init_14 rfl (lv_at hl 0 rfl) ?_
  refine lv_iconst (v := (-1)) hx hb dX6_init_15 (by decide) ?_
  refine c_put (C := RX6) (T := TX6) (N := 4) hx hb hts inX6 tyX6 tyX6_ok nmX6 hown hK g0 (Nat.le_refl _) hS2 rfl 2 (by decide) wF_X6_18 rfl rfl rfl rfl (Nat.le_of_ble_eq_true rfl) dX6_init_16 (fun H3 locs hz3 g0n oq3 hS3 => ?_)
  replace hz3 : H3.size = a + 1 := hz3.trans hz2
  replace g0 : va_at G.1 vwCl (a, .inr (6, [.int 0, .int 0, .int (-1), .int 0])) H3 := g0n
  clear g0n
  clear oq3 hz2 hS2
  refine lv_aload_n hx hb dX6_init_19 rfl (lv_at hl 0 rfl) ?_
  refine lv_iconst (v := (-1)) hx hb dX6_init_20 (by decide) ?_
  refine c_put (C := RX6) (T := TX6) (N := 4) hx hb hts inX6 tyX6 tyX6_ok nmX6 hown hK g0 (Nat.le_refl _) hS3 rfl 3 (by decide) wF_X6_21 rfl rfl rfl rfl (Nat.le_of_ble_eq_true rfl) dX6_init_21 (fun H4 locs hz4 g0n oq4 hS4 => ?_)
  replace hz4 : H4.size = a + 1 := hz4.trans hz3
  replace g0 : va_at G.1 vwCl (a, .inr (6, [.int 0, .int 0, .int (-1), .int (-1)])) H4 := g0n
  clear g0n
  clear oq4 hz3 hS3
  exact hret _ _ _ _ hz4 (cw.one g0) hS4 dX6_init_24
set_option maxHeartbeats 4000000 in
set_option maxRecDepth 100000 in
theorem k_X0_init (l : Launch) (G : hG) (a : Nat) : hI l yX0_init cX0_init 1 1 12 5 194 G a [] (.inr (0, [.null, .null, .null, .null, .null, .int 0])) (boV G a) := by
  refine hI_of (by decide +kernel) (Nat.le_of_ble_eq_true rfl) rfl ?_
  intro p e s m args below meth c H0 ls Q hx hb hts hown hml hin hK hN hs0 hz0 g0 hS0 hl hret
  have hl : lv_has ls 1 [(0, .ref a)] := hl
  refine lv_aload_n hx hb dX0_init_0 rfl (lv_at hl 0 rfl) ?_
  refine W.objInit hx hb hown (hts _ wL_X0_3) (hts _ wOi) (hts _ wOc) rfl (by rw [hml]; exact hl.1) rfl dX0_init_1 (Nat.le_of_ble_eq_true rfl) (Nat.le_of_ble_eq_true rfl) ?_
  refine W.eq (g2 := F0 m 4 ls []) rfl ?_
  refine lv_aload_n hx hb dX0_init_4 rfl (lv_at hl 0 rfl) ?_
  refine lv_bipush (v := 10) hx hb dX0_init_5 (by decide) ?_
  refine c_newa (atype := ArrayType.int) (a0 := (10, .inl (fun _ => 0))) (N := 10) hx hb hts wArr_int 0 (by decide) rfl hK hS0 rfl (by decide) (by decide) (Nat.le_of_ble_eq_true rfl) hz0 (Nat.le_of_ble_eq_true rfl) (Nat.le_of_ble_eq_true rfl) dX0_init_7 (fun H1 hz1 g1 oq1 hS1 => ?_)
  replace g0 := g0.kept (oq1 _ (Nat.lt_add_of_pos_right (Nat.le_of_ble_eq_true rfl)))
  clear oq1
  refine c_putF (C := RX0) (T := TX0) (N := 6) hx hb hts inX0 tyX0 tyX0_ok nmX0 hown hK g0 (Nat.le_refl _) hS1 rfl 0 (by decide) wF_X0_9 rfl rfl hin rfl rfl rfl (Nat.le_of_ble_eq_true rfl) dX0_init_9 (fun H2 locs hz2 g0n oq2 hS2 => ?_)
  replace hz2 : H2.size = a + 2 := hz2.trans hz1
  replace g0 : va_at G.1 vwCl (a, .inr (0, [.ref (a + 1), .null, .null, .null, .null, .int 0])) H2 := g0n
  clear g0n
  replace g1 := g1.kept (oq2 _ (Nat.ne_of_gt (Nat.lt_add_of_pos_right (Nat.le_of_ble_eq_true rfl))))
  clear oq2 hz1 hS1
  refine lv_aload_n hx hb dX0_init_12 rfl (lv_at hl 0 rfl) ?_
  refine lv_bipush (v := 8) hx hb dX0_init_13 (by decide) ?_
  refine c_newa (atype := ArrayType.int) (a0 := (8, .inl (fun _ => 0))) (N := 8) hx hb hts wArr_int 0 (by decide) rfl hK hS2 rfl (by decide) (by decide) (Nat.le_of_ble_eq_true rfl) hz2 (Nat.le_of_ble_eq_true rfl) (Nat.le_of_ble_eq_true rfl) dX0_init_15 (fun H3 hz3 g2 oq3 hS3 => ?_)
  replace g0 := g0.kept (oq3 _ (Nat.lt_add_of_pos_right (Nat.le_of_ble_eq_true rfl)))
  replace g1 := g1.kept (oq3 _ (Nat.add_lt_add_left (n := 1) (m := 2) (Nat.le_of_ble_eq_true rfl) a))
  clear oq3 hz2 hS2
  refine c_putF (C := RX0) (T := TX0) (N := 6) hx hb hts inX0 tyX0 tyX0_ok nmX0 hown hK g0 (Nat.le_refl _) hS3 rfl 1 (by decide) wF_X0_15 rfl rfl hin rfl rfl rfl (Nat.le_of_ble_eq_true rfl) dX0_init_17 (fun H4 locs hz4 g0n oq4 hS4 => ?_)
  replace hz4 : H4.size = a + 3 := hz4.trans hz3
  replace g0 : va_at G.1 vwCl (a, .inr (0, [.ref (a + 1), .ref (a + 2), .null, .null, .null, .int 0])) H4 := g0n
  clear g0n
  replace g1 := g1.kept (oq4 _ (Nat.ne_of_gt (Nat.lt_add_of_pos_right (Nat.le_of_ble_eq_true rfl))))
  replace g2 := g2.kept (oq4 _ (Nat.ne_of_gt (Nat.lt_add_of_pos_right (Nat.le_of_ble_eq_true rfl))))
  clear oq4 hz3 hS3
  refine lv_aload_n hx hb dX0_init_20 rfl (lv_at hl 0 rfl) ?_
  refine lv_bipush (v := 8) hx hb dX0_init_21 (by decide) ?_
  refine c_newa (atype := ArrayType.int) (a0 := (8, .inl (fun _ => 0))) (N := 8) hx hb hts wArr_int 0 (by decide) rfl hK hS4 rfl (by decide) (by decide) (Nat.le_of_ble_eq_true rfl) hz4 (Nat.le_of_ble_eq_true rfl) (Nat.le_of_ble_eq_true rfl) dX0_init_23 (fun H5 hz5 g3 oq5 hS5 => ?_)
  replace g0 := g0.kept (oq5 _ (Nat.lt_add_of_pos_right (Nat.le_of_ble_eq_true rfl)))
  replace g1 := g1.kept (oq5 _ (Nat.add_lt_add_left (n := 1) (m := 3) (Nat.le_of_ble_eq_true rfl) a))
  replace g2 := g2.kept (oq5 _ (Nat.add_lt_add_left (n := 2) (m := 3) (Nat.le_of_ble_eq_true rfl) a))
  clear oq5 hz4 hS4
  refine c_putF (C := RX0) (T := TX0) (N := 6) hx hb hts inX0 tyX0 tyX0_ok nmX0 hown hK g0 (Nat.le_refl _) hS5 rfl 2 (by decide) wF_X0_18 rfl rfl hin rfl rfl rfl (Nat.le_of_ble_eq_true rfl) dX0_init_25 (fun H6 locs hz6 g0n oq6 hS6 => ?_)
  replace hz6 : H6.size = a + 4 := hz6.trans hz5
  replace g0 : va_at G.1 vwCl (a, .inr (0, [.ref (a + 1), .ref (a + 2), .ref (a + 3), .null, .null, .int 0])) H6 := g0n
  clear g0n
  replace g1 := g1.kept (oq6 _ (Nat.ne_of_gt (Nat.lt_add_of_pos_right (Nat.le_of_ble_eq_true rfl))))
  replace g2 := g2.kept (oq6 _ (Nat.ne_of_gt (Nat.lt_add_of_pos_right (Nat.le_of_ble_eq_true rfl))))
  replace g3 := g3.kept (oq6 _ (Nat.ne_of_gt (Nat.lt_add_of_pos_right (Nat.le_of_ble_eq_true rfl))))
  clear oq6 hz5 hS5
  refine lv_aload_n hx hb dX0_init_28 rfl (lv_at hl 0 rfl) ?_
  refine lv_bipush (v := 96) hx hb dX0_init_29 (by decide) ?_
  refine c_newa (atype := ArrayType.int) (a0 := (96, .inl (fun _ => 0))) (N := 96) hx hb hts wArr_int 0 (by decide) rfl hK hS6 rfl (by decide) (by decide) (Nat.le_of_ble_eq_true rfl) hz6 (Nat.le_of_ble_eq_true rfl) (Nat.le_of_ble_eq_true rfl) dX0_init_31 (fun H7 hz7 g4 oq7 hS7 => ?_)
  replace g0 := g0.kept (oq7 _ (Nat.lt_add_of_pos_right (Nat.le_of_ble_eq_true rfl)))
  replace g1 := g1.kept (oq7 _ (Nat.add_lt_add_left (n := 1) (m := 4) (Nat.le_of_ble_eq_true rfl) a))
  replace g2 := g2.kept (oq7 _ (Nat.add_lt_add_left (n := 2) (m := 4) (Nat.le_of_ble_eq_true rfl) a))
  replace g3 := g3.kept (oq7 _ (Nat.add_lt_add_left (n := 3) (m := 4) (Nat.le_of_ble_eq_true rfl) a))
  clear oq7 hz6 hS6
  refine c_putF (C := RX0) (T := TX0) (N := 6) hx hb hts inX0 tyX0 tyX0_ok nmX0 hown hK g0 (Nat.le_refl _) hS7 rfl 3 (by decide) wF_X0_21 rfl rfl hin rfl rfl rfl (Nat.le_of_ble_eq_true rfl) dX0_init_33 (fun H8 locs hz8 g0n oq8 hS8 => ?_)
  replace hz8 : H8.size = a + 5 := hz8.trans hz7
  replace g0 : va_at G.1 vwCl (a, .inr (0, [.ref (a + 1), .ref (a + 2), .ref (a + 3), .ref (a + 4), .null, .int 0])) H8 := g0n
  clear g0n
  replace g1 := g1.kept (oq8 _ (Nat.ne_of_gt (Nat.lt_add_of_pos_right (Nat.le_of_ble_eq_true rfl))))
  replace g2 := g2.kept (oq8 _ (Nat.ne_of_gt (Nat.lt_add_of_pos_right (Nat.le_of_ble_eq_true rfl))))
  replace g3 := g3.kept (oq8 _ (Nat.ne_of_gt (Nat.lt_add_of_pos_right (Nat.le_of_ble_eq_true rfl))))
  replace g4 := g4.kept (oq8 _ (Nat.ne_of_gt (Nat.lt_add_of_pos_right (Nat.le_of_ble_eq_true rfl))))
  clear oq8 hz7 hS7
  refine lv_aload_n hx hb dX0_init_36 rfl (lv_at hl 0 rfl) ?_
  refine lv_bipush (v := 72) hx hb dX0_init_37 (by decide) ?_
  refine c_newa (atype := ArrayType.int) (a0 := (72, .inl (fun _ => 0))) (N := 72) hx hb hts wArr_int 0 (by decide) rfl hK hS8 rfl (by decide) (by decide) (Nat.le_of_ble_eq_true rfl) hz8 (Nat.le_of_ble_eq_true rfl) (Nat.le_of_ble_eq_true rfl) dX0_init_39 (fun H9 hz9 g5 oq9 hS9 => ?_)
  replace g0 := g0.kept (oq9 _ (Nat.lt_add_of_pos_right (Nat.le_of_ble_eq_true rfl)))
  replace g1 := g1.kept (oq9 _ (Nat.add_lt_add_left (n := 1) (m := 5) (Nat.le_of_ble_eq_true rfl) a))
  replace g2 := g2.kept (oq9 _ (Nat.add_lt_add_left (n := 2) (m := 5) (Nat.le_of_ble_eq_true rfl) a))
  replace g3 := g3.kept (oq9 _ (Nat.add_lt_add_left (n := 3) (m := 5) (Nat.le_of_ble_eq_true rfl) a))
  replace g4 := g4.kept (oq9 _ (Nat.add_lt_add_left (n := 4) (m := 5) (Nat.le_of_ble_eq_true rfl) a))
  clear oq9 hz8 hS8
  refine c_putF (C := RX0) (T := TX0) (N := 6) hx hb hts inX0 tyX0 tyX0_ok nmX0 hown hK g0 (Nat.le_refl _) hS9 rfl 4 (by decide) wF_X0_24 rfl rfl hin rfl rfl rfl (Nat.le_of_ble_eq_true rfl) dX0_init_41 (fun H10 locs hz10 g0n oq10 hS10 => ?_)
  replace hz10 : H10.size = a + 6 := hz10.trans hz9
  replace g0 : va_at G.1 vwCl (a, .inr (0, [.ref (a + 1), .ref (a + 2), .ref (a + 3), .ref (a + 4), .ref (a + 5), .int 0])) H10 := g0n
  clear g0n
  replace g1 := g1.kept (oq10 _ (Nat.ne_of_gt (Nat.lt_add_of_pos_right (Nat.le_of_ble_eq_true rfl))))
  replace g2 := g2.kept (oq10 _ (Nat.ne_of_gt (Nat.lt_add_of_pos_right (Nat.le_of_ble_eq_true rfl))))
  replace g3 := g3.kept (oq10 _ (Nat.ne_of_gt (Nat.lt_add_of_pos_right (Nat.le_of_ble_eq_true rfl))))
  replace g4 := g4.kept (oq10 _ (Nat.ne_of_gt (Nat.lt_add_of_pos_right (Nat.le_of_ble_eq_true rfl))))
  replace g5 := g5.kept (oq10 _ (Nat.ne_of_gt (Nat.lt_add_of_pos_right (Nat.le_of_ble_eq_true rfl))))
  clear oq10 hz9 hS9
  refine lv_aload_n hx hb dX0_init_44 rfl (lv_at hl 0 rfl) ?_
  refine lv_iconst (v := 0) hx hb dX0_init_45 (by decide) ?_
  refine c_put (C := RX0) (T := TX0) (N := 6) hx hb hts inX0 tyX0 tyX0_ok nmX0 hown hK g0 (Nat.le_refl _) hS10 rfl 5 (by decide) wF_X0_27 rfl rfl rfl rfl (Nat.le_of_ble_eq_true rfl) dX0_init_46 (fun H11 locs hz11 g0n oq11 hS11 => ?_)
  replace hz11 : H11.size = a + 6 := hz11.trans hz10
  replace g0 : va_at G.1 vwCl (a, .inr (0, [.ref (a + 1), .ref (a + 2), .ref (a + 3), .ref (a + 4), .ref (a + 5), .int 0])) H11 := g0n
  clear g0n
  replace g1 := g1.kept (oq11 _ (Nat.ne_of_gt (Nat.lt_add_of_pos_right (Nat.le_of_ble_eq_true rfl))))
  replace g2 := g2.kept (oq11 _ (Nat.ne_of_gt (Nat.lt_add_of_pos_right (Nat.le_of_ble_eq_true rfl))))
  replace g3 := g3.kept (oq11 _ (Nat.ne_of_gt (Nat.lt_add_of_pos_right (Nat.le_of_ble_eq_true rfl))))
  replace g4 := g4.kept (oq11 _ (Nat.ne_of_gt (Nat.lt_add_of_pos_right (Nat.le_of_ble_eq_true rfl))))
  replace g5 := g5.kept (oq11 _ (Nat.ne_of_gt (Nat.lt_add_of_pos_right (Nat.le_of_ble_eq_true rfl))))
  clear oq11 hz10 hS10
  exact hret _ _ _ _ hz11 (cw.app (n := 1) (cw.one g0) rfl (cw.app (n := 1) (cw.one g1) rfl (cw.app (n := 1) (cw.one g2) rfl (cw.app (n := 1) (cw.one g3) rfl (cw.app (n := 1) (cw.one g4) rfl (cw.one g5)))))) hS11 dX0_init_49
set_option maxHeartbeats 4000000 in
set_option maxRecDepth 100000 in
theorem k_X8_init (l : Launch) (G : hG) (a : Nat) : hI l yX8_init cX8_init 1 1 12 1 500 G a [] (.inr (8, [.null, .int 0, .int 0, .int 0])) (taV G a) := by
  refine hI_of (by decide +kernel) (Nat.le_of_ble_eq_true rfl) rfl ?_
  intro p e s m args below meth c H0 ls Q hx hb hts hown hml hin hK hN hs0 hz0 g0 hS0 hl hret
  have hl : lv_has ls 1 [(0, .ref a)] := hl
  refine lv_aload_n hx hb dX8_init_0 rfl (lv_at hl 0 rfl) ?_
  refine W.objInit hx hb hown (hts _ wL_X8_3) (hts _ wOi) (hts _ wOc) rfl (by rw [hml]; exact hl.1) rfl dX8_init_1 (Nat.le_of_ble_eq_true rfl) (Nat.le_of_ble_eq_true rfl) ?_
  refine W.eq (g2 := F0 m 4 ls []) rfl ?_
  refine lv_aload_n hx hb dX8_init_4 rfl (lv_at hl 0 rfl) ?_
  refine lv_sipush (v := 500) hx hb dX8_init_5 (by decide) ?_
  refine c_newa (atype := ArrayType.byte) (a0 := (500, .inl (fun _ => 0))) (N := 500) hx hb hts wArr_byte 1 (by decide) rfl hK hS0 rfl (by decide) (by decide) (Nat.le_of_ble_eq_true rfl) hz0 (Nat.le_of_ble_eq_true rfl) (Nat.le_of_ble_eq_true rfl) dX8_init_8 (fun H1 hz1 g1 oq1 hS1 => ?_)
  replace g0 := g0.kept (oq1 _ (Nat.lt_add_of_pos_right (Nat.le_of_ble_eq_true rfl)))
  clear oq1
  refine c_putF (C := RX8) (T := TX8) (N := 4) hx hb hts inX8 tyX8 tyX8_ok nmX8 hown hK g0 (Nat.le_refl _) hS1 rfl 0 (by decide) wF_X8_9 rfl rfl hin rfl rfl rfl (Nat.le_of_ble_eq_true rfl) dX8_init_10 (fun H2 locs hz2 g0n oq2 hS2 => ?_)
  replace hz2 : H2.size = a + 2 := hz2.trans hz1
  replace g0 : va_at G.1 vwCl (a, .inr (8, [.ref (a + 1), .int 0, .int 0, .int 0])) H2 := g0n
  clear g0n
  replace g1 := g1.kept (oq2 _ (Nat.ne_of_gt (Nat.lt_add_of_pos_right (Nat.le_of_ble_eq_true rfl))))
  clear oq2 hz1 hS1
  refine lv_aload_n hx hb dX8_init_13 rfl (lv_at hl 0 rfl) ?_
  refine lv_iconst (v := 0) hx hb dX8_init_14 (by decide) ?_
  refine c_put (C := RX8) (T := TX8) (N := 4) hx hb hts inX8 tyX8 tyX8_ok nmX8 hown hK g0 (Nat.le_refl _) hS2 rfl 1 (by decide) wF_X8_15 rfl rfl rfl rfl (Nat.le_of_ble_eq_true rfl) dX8_init_15 (fun H3 locs hz3 g0n oq3 hS3 => ?_)
  replace hz3 : H3.size = a + 2 := hz3.trans hz2
  replace g0 : va_at G.1 vwCl (a, .inr (8, [.ref (a + 1), .int 0, .int 0, .int 0])) H3 := g0n
  clear g0n
  replace g1 := g1.kept (oq3 _ (Nat.ne_of_gt (Nat.lt_add_of_pos_right (Nat.le_of_ble_eq_true rfl))))
  clear oq3 hz2 hS2
  refine lv_aload_n hx hb dX8_init_18 rfl (lv_at hl 0 rfl) ?_
  refine lv_iconst (v := (-1)) hx hb dX8_init_19 (by decide) ?_
  refine c_put (C := RX8) (T := TX8) (N := 4) hx hb hts inX8 tyX8 tyX8_ok nmX8 hown hK g0 (Nat.le_refl _) hS3 rfl 2 (by decide) wF_X8_19 rfl rfl rfl rfl (Nat.le_of_ble_eq_true rfl) dX8_init_20 (fun H4 locs hz4 g0n oq4 hS4 => ?_)
  replace hz4 : H4.size = a + 2 := hz4.trans hz3
  replace g0 : va_at G.1 vwCl (a, .inr (8, [.ref (a + 1), .int 0, .int (-1), .int 0])) H4 := g0n
  clear g0n
  replace g1 := g1.kept (oq4 _ (Nat.ne_of_gt (Nat.lt_add_of_pos_right (Nat.le_of_ble_eq_true rfl))))
  clear oq4 hz3 hS3
  refine lv_aload_n hx hb dX8_init_23 rfl (lv_at hl 0 rfl) ?_
  refine lv_iconst (v := (-1)) hx hb dX8_init_24 (by decide) ?_
  refine c_put (C := RX8) (T := TX8) (N := 4) hx hb hts inX8 tyX8 tyX8_ok nmX8 hown hK g0 (Nat.le_refl _) hS4 rfl 3 (by decide) wF_X8_22 rfl rfl rfl rfl (Nat.le_of_ble_eq_true rfl) dX8_init_25 (fun H5 locs hz5 g0n oq5 hS5 => ?_)
  replace hz5 : H5.size = a + 2 := hz5.trans hz4
  replace g0 : va_at G.1 vwCl (a, .inr (8, [.ref (a + 1), .int 0, .int (-1), .int (-1)])) H5 := g0n
  clear g0n
  replace g1 := g1.kept (oq5 _ (Nat.ne_of_gt (Nat.lt_add_of_pos_right (Nat.le_of_ble_eq_true rfl))))
  clear oq5 hz4 hS4
  exact hret _ _ _ _ hz5 (cw.app (n := 1) (cw.one g0) rfl (cw.one g1)) hS5 dX8_init_28
set_option maxHeartbeats 4000000 in
set_option maxRecDepth 100000 in
theorem k_X5_init (l : Launch) (G : hG) (a : Nat) : hI l yX5_init cX5_init 1 2 32 24 608 G a [] (.inr (5, [.null, .null, .null, .null, .null, .null, .int 0, .int 0, .int 0, .int 0, .int 0])) (ringV G a) := by
  refine hI_of (by decide +kernel) (Nat.le_of_ble_eq_true rfl) rfl ?_
  intro p e s m args below meth c H0 ls Q hx hb hts hown hml hin hK hN hs0 hz0 g0 hS0 hl hret
  have hl : lv_has ls 1 [(0, .ref a)] := hl
  refine lv_aload_n hx hb dX5_init_0 rfl (lv_at hl 0 rfl) ?_
  refine W.objInit hx hb hown (hts _ wL_X5_3) (hts _ wOi) (hts _ wOc) rfl (by rw [hml]; exact hl.1) rfl dX5_init_1 (Nat.le_of_ble_eq_true rfl) (Nat.le_of_ble_eq_true rfl) ?_
  refine W.eq (g2 := F0 m 4 ls []) rfl ?_
  refine lv_aload_n hx hb dX5_init_4 rfl (lv_at hl 0 rfl) ?_
  refine c_new (ci := 7) (fs := [.null, .null, .null, .null, .null, .int 0, .int 0, .int 0, .int 0]) (C := RX7) (T := TX7) (N := 9) hx hb hts inX7 tyX7 tyX7_ok hown wK_X5_9 wIn_X7 wIz_X7 hK hS0 rfl dv_X7 hz0 (Nat.le_of_ble_eq_true rfl) (Nat.le_of_ble_eq_true rfl) dX5_init_5 (fun H1 hz1 g1 oq1 hS1 => ?_)
  replace g0 := g0.kept (oq1 _ (Nat.lt_add_of_pos_right (Nat.le_of_ble_eq_true rfl)))
  clear oq1
  refine lv_dup hx hb dX5_init_8 rfl ?_
  refine c_callN (rest := [.ref (a + 1), .ref a]) (As := []) hx hb hml hown hts hK hN (fun q h => Nat.le_trans (Nat.le_add_right a _) h) hS1 (k_X7_init l G (a + 1)) hz1 g1 wd_X7_init rfl wM_X7_init hN.1.2.2.1 rfl hl.1 rfl (Nat.le_of_ble_eq_true rfl) dX5_init_9 ⟨Nat.le_of_ble_eq_true rfl, Nat.le_of_ble_eq_true rfl⟩ ⟨Nat.le_of_ble_eq_true rfl, Nat.le_of_ble_eq_true rfl⟩ (fun H2 locs hz2 g1 oq2 hS2 => ?_)
  replace g0 := g0.kept (oq2 _ (Nat.lt_add_of_pos_right (Nat.le_of_ble_eq_true rfl)))
  clear oq2 hz1 hS1
  replace hz2 : H2.size = a + 7 := hz2
  replace g1 : cw G (a + 1) (stV G (a + 1)) H2 := g1
  refine c_putF (C := RX5) (T := TX5) (N := 11) hx hb hts inX5 tyX5 tyX5_ok nmX5 hown hK g0 (Nat.le_refl _) hS2 rfl 0 (by decide) wF_X5_12 rfl rfl hin rfl rfl rfl (Nat.le_of_ble_eq_true rfl) dX5_init_12 (fun H3 locs hz3 g0n oq3 hS3 => ?_)
  replace hz3 : H3.size = a + 7 := hz3.trans hz2
  replace g0 : va_at G.1 vwCl (a, .inr (5, [.ref (a + 1), .null, .null, .null, .null, .null, .int 0, .int 0, .int 0, .int 0, .int 0])) H3 := g0n
  clear g0n
  replace g1 := g1.put (n := 6) rfl oq3 (Or.inl (Nat.lt_add_of_pos_right (Nat.le_of_ble_eq_true rfl)))
  clear oq3 hz2 hS2
  refine lv_aload_n hx hb dX5_init_15 rfl (lv_at hl 0 rfl) ?_
  refine c_new (ci := 2) (fs := [.null, .null, .null, .null, .null]) (C := RX2) (T := TX2) (N := 5) hx hb hts inX2 tyX2 tyX2_ok hown wK_X5_18 wIn_X2 wIz_X2 hK hS3 rfl dv_X2 hz3 (Nat.le_of_ble_eq_true rfl) (Nat.le_of_ble_eq_true rfl) dX5_init_16 (fun H4 hz4 g7 oq4 hS4 => ?_)
  replace g0 := g0.kept (oq4 _ (Nat.lt_add_of_pos_right (Nat.le_of_ble_eq_true rfl)))
  replace g1 := g1.old (n := 6) rfl oq4 (Nat.add_le_add_left (n := 7) (m := 7) (Nat.le_of_ble_eq_true rfl) a)
  clear oq4 hz3 hS3
  refine lv_dup hx hb dX5_init_19 rfl ?_
  refine c_callN (rest := [.ref (a + 7), .ref a]) (As := []) hx hb hml hown hts hK hN (fun q h => Nat.le_trans (Nat.le_add_right a _) h) hS4 (k_X2_init l G (a + 7)) hz4 g7 wd_X2_init rfl wM_X2_init hN.1.2.2.2.1 rfl hl.1 rfl (Nat.le_of_ble_eq_true rfl) dX5_init_20 ⟨Nat.le_of_ble_eq_true rfl, Nat.le_of_ble_eq_true rfl⟩ ⟨Nat.le_of_ble_eq_true rfl, Nat.le_of_ble_eq_true rfl⟩ (fun H5 locs hz5 g7 oq5 hS5 => ?_)
  replace g0 := g0.kept (oq5 _ (Nat.lt_add_of_pos_right (Nat.le_of_ble_eq_true rfl)))
  replace g1 := g1.old (n := 6) rfl oq5 (Nat.add_le_add_left (n := 7) (m := 7) (Nat.le_of_ble_eq_true rfl) a)
  clear oq5 hz4 hS4
  replace hz5 : H5.size = a + 13 := hz5
  replace g7 : cw G (a + 7) (quV G (a + 7)) H5 := g7
  refine c_putF (C := RX5) (T := TX5) (N := 11) hx hb hts inX5 tyX5 tyX5_ok nmX5 hown hK g0 (Nat.le_refl _) hS5 rfl 1 (by decide) wF_X5_21 rfl rfl hin rfl rfl rfl (Nat.le_of_ble_eq_true rfl) dX5_init_23 (fun H6 locs hz6 g0n oq6 hS6 => ?_)
  replace hz6 : H6.size = a + 13 := hz6.trans hz5
  replace g0 : va_at G.1 vwCl (a, .inr (5, [.ref (a + 1), .ref (a + 7), .null, .null, .null, .null, .int 0, .int 0, .int 0, .int 0, .int 0])) H6 := g0n
  clear g0n
  replace g1 := g1.put (n := 6) rfl oq6 (Or.inl (Nat.lt_add_of_pos_right (Nat.le_of_ble_eq_true rfl)))
  replace g7 := g7.put (n := 6) rfl oq6 (Or.inl (Nat.lt_add_of_pos_right (Nat.le_of_ble_eq_true rfl)))
  clear oq6 hz5 hS5
  refine lv_aload_n hx hb dX5_init_26 rfl (lv_at hl 0 rfl) ?_
  refine c_new (ci := 3) (fs := [.null, .null, .null]) (C := RX3) (T := TX3) (N := 3) hx hb hts inX3 tyX3 tyX3_ok hown wK_X5_25 wIn_X3 wIz_X3 hK hS6 rfl dv_X3 hz6 (Nat.le_of_ble_eq_true rfl) (Nat.le_of_ble_eq_true rfl) dX5_init_27 (fun H7 hz7 g13 oq7 hS7 => ?_)
  replace g0 := g0.kept (oq7 _ (Nat.lt_add_of_pos_right (Nat.le_of_ble_eq_true rfl)))
  replace g1 := g1.old (n := 6) rfl oq7 (Nat.add_le_add_left (n := 7) (m := 13) (Nat.le_of_ble_eq_true rfl) a)
  replace g7 := g7.old (n := 6) rfl oq7 (Nat.add_le_add_left (n := 13) (m := 13) (Nat.le_of_ble_eq_true rfl) a)
  clear oq7 hz6 hS6
  refine lv_dup hx hb dX5_init_30 rfl ?_
  refine c_callN (rest := [.ref (a + 13), .ref a]) (As := []) hx hb hml hown hts hK hN (fun q h => Nat.le_trans (Nat.le_add_right a _) h) hS7 (k_X3_init l G (a + 13)) hz7 g13 wd_X3_init rfl wM_X3_init hN.1.2.2.2.2.1 rfl hl.1 rfl (Nat.le_of_ble_eq_true rfl) dX5_init_31 ⟨Nat.le_of_ble_eq_true rfl, Nat.le_of_ble_eq_true rfl⟩ ⟨Nat.le_of_ble_eq_true rfl, Nat.le_of_ble_eq_true rfl⟩ (fun H8 locs hz8 g13 oq8 hS8 => ?_)
  replace g0 := g0.kept (oq8 _ (Nat.lt_add_of_pos_right (Nat.le_of_ble_eq_true rfl)))
  replace g1 := g1.old (n := 6) rfl oq8 (Nat.add_le_add_left (n := 7) (m := 13) (Nat.le_of_ble_eq_true rfl) a)
  replace g7 := g7.old (n := 6) rfl oq8 (Nat.add_le_add_left (n := 13) (m := 13) (Nat.le_of_ble_eq_true rfl) a)
  clear oq8 hz7 hS7
  replace hz8 : H8.size = a + 17 := hz8
  replace g13 : cw G (a + 13) (raV G (a + 13)) H8 := g13
  refine c_putF (C := RX5) (T := TX5) (N := 11) hx hb hts inX5 tyX5 tyX5_ok nmX5 hown hK g0 (Nat.le_refl _) hS8 rfl 2 (by decide) wF_X5_28 rfl rfl hin rfl rfl rfl (Nat.le_of_ble_eq_true rfl) dX5_init_34 (fun H9 locs hz9 g0n oq9 hS9 => ?_)
  replace hz9 : H9.size = a + 17 := hz9.trans hz8
  replace g0 : va_at G.1 vwCl (a, .inr (5, [.ref (a + 1), .ref (a + 7), .ref (a + 13), .null, .null, .null, .int 0, .int 0, .int 0, .int 0, .int 0])) H9 := g0n
  clear g0n
  replace g1 := g1.put (n := 6) rfl oq9 (Or.inl (Nat.lt_add_of_pos_right (Nat.le_of_ble_eq_true rfl)))
  replace g7 := g7.put (n := 6) rfl oq9 (Or.inl (Nat.lt_add_of_pos_right (Nat.le_of_ble_eq_true rfl)))
  replace g13 := g13.put (n := 4) rfl oq9 (Or.inl (Nat.lt_add_of_pos_right (Nat.le_of_ble_eq_true rfl)))
  clear oq9 hz8 hS8
  refine lv_aload_n hx hb dX5_init_37 rfl (lv_at hl 0 rfl) ?_
  refine c_new (ci := 9) (fs := [.int 0, .int 0, .int 0, .int 0, .int 0, .int 0, .int 0, .int 0, .int 0, .int 0, .int 0]) (C := RX9) (T := TX9) (N := 11) hx hb hts inX9 tyX9 tyX9_ok hown wK_X5_32 wIn_X9 wIz_X9 hK hS9 rfl dv_X9 hz9 (Nat.le_of_ble_eq_true rfl) (Nat.le_of_ble_eq_true rfl) dX5_init_38 (fun H10 hz10 g17 oq10 hS10 => ?_)
  replace g0 := g0.kept (oq10 _ (Nat.lt_add_of_pos_right (Nat.le_of_ble_eq_true rfl)))
  replace g1 := g1.old (n := 6) rfl oq10 (Nat.add_le_add_left (n := 7) (m := 17) (Nat.le_of_ble_eq_true rfl) a)
  replace g7 := g7.old (n := 6) rfl oq10 (Nat.add_le_add_left (n := 13) (m := 17) (Nat.le_of_ble_eq_true rfl) a)
  replace g13 := g13.old (n := 4) rfl oq10 (Nat.add_le_add_left (n := 17) (m := 17) (Nat.le_of_ble_eq_true rfl) a)
  clear oq10 hz9 hS9
  refine lv_dup hx hb dX5_init_41 rfl ?_
  refine c_callN (rest := [.ref (a + 17), .ref a]) (As := []) hx hb hml hown hts hK hN (fun q h => Nat.le_trans (Nat.le_add_right a _) h) hS10 (k_X9_init l G (a + 17)) hz10 g17 wd_X9_init rfl wM_X9_init hN.1.2.2.2.2.2.1 rfl hl.1 rfl (Nat.le_of_ble_eq_true rfl) dX5_init_42 ⟨Nat.le_of_ble_eq_true rfl, Nat.le_of_ble_eq_true rfl⟩ ⟨Nat.le_of_ble_eq_true rfl, Nat.le_of_ble_eq_true rfl⟩ (fun H11 locs hz11 g17 oq11 hS11 => ?_)
  replace g0 := g0.kept (oq11 _ (Nat.lt_add_of_pos_right (Nat.le_of_ble_eq_true rfl)))
  replace g1 := g1.old (n := 6) rfl oq11 (Nat.add_le_add_left (n := 7) (m := 17) (Nat.le_of_ble_eq_true rfl) a)
  replace g7 := g7.old (n := 6) rfl oq11 (Nat.add_le_add_left (n := 13) (m := 17) (Nat.le_of_ble_eq_true rfl) a)
  replace g13 := g13.old (n := 4) rfl oq11 (Nat.add_le_add_left (n := 17) (m := 17) (Nat.le_of_ble_eq_true rfl) a)
  clear oq11 hz10 hS10
  replace hz11 : H11.size = a + 18 := hz11
  replace g17 : cw G (a + 17) (waV G (a + 17)) H11 := g17
  refine c_putF (C := RX5) (T := TX5) (N := 11) hx hb hts inX5 tyX5 tyX5_ok nmX5 hown hK g0 (Nat.le_refl _) hS11 rfl 3 (by decide) wF_X5_35 rfl rfl hin rfl rfl rfl (Nat.le_of_ble_eq_true rfl) dX5_init_45 (fun H12 locs hz12 g0n oq12 hS12 => ?_)
  replace hz12 : H12.size = a + 18 := hz12.trans hz11
  replace g0 : va_at G.1 vwCl (a, .inr (5, [.ref (a + 1), .ref (a + 7), .ref (a + 13), .ref (a + 17), .null, .null, .int 0, .int 0, .int 0, .int 0, .int 0])) H12 := g0n
  clear g0n
  replace g1 := g1.put (n := 6) rfl oq12 (Or.inl (Nat.lt_add_of_pos_right (Nat.le_of_ble_eq_true rfl)))
  replace g7 := g7.put (n := 6) rfl oq12 (Or.inl (Nat.lt_add_of_pos_right (Nat.le_of_ble_eq_true rfl)))
  replace g13 := g13.put (n := 4) rfl oq12 (Or.inl (Nat.lt_add_of_pos_right (Nat.le_of_ble_eq_true rfl)))
  replace g17 := g17.put (n := 1) rfl oq12 (Or.inl (Nat.lt_add_of_pos_right (Nat.le_of_ble_eq_true rfl)))
  clear oq12 hz11 hS11
  refine lv_aload_n hx hb dX5_init_48 rfl (lv_at hl 0 rfl) ?_
  refine c_new (ci := 6) (fs := [.int 0, .int 0, .int 0, .int 0]) (C := RX6) (T := TX6) (N := 4) hx hb hts inX6 tyX6 tyX6_ok hown wK_X5_39 wIn_X6 wIz_X6 hK hS12 rfl dv_X6 hz12 (Nat.le_of_ble_eq_true rfl) (Nat.le_of_ble_eq_true rfl) dX5_init_49 (fun H13 hz13 g18 oq13 hS13 => ?_)
  replace g0 := g0.kept (oq13 _ (Nat.lt_add_of_pos_right (Nat.le_of_ble_eq_true rfl)))
  replace g1 := g1.old (n := 6) rfl oq13 (Nat.add_le_add_left (n := 7) (m := 18) (Nat.le_of_ble_eq_true rfl) a)
  replace g7 := g7.old (n := 6) rfl oq13 (Nat.add_le_add_left (n := 13) (m := 18) (Nat.le_of_ble_eq_true rfl) a)
  replace g13 := g13.old (n := 4) rfl oq13 (Nat.add_le_add_left (n := 17) (m := 18) (Nat.le_of_ble_eq_true rfl) a)
  replace g17 := g17.old (n := 1) rfl oq13 (Nat.add_le_add_left (n := 18) (m := 18) (Nat.le_of_ble_eq_true rfl) a)
  clear oq13 hz12 hS12
  refine lv_dup hx hb dX5_init_52 rfl ?_
  refine c_callN (rest := [.ref (a + 18), .ref a]) (As := []) hx hb hml hown hts hK hN (fun q h => Nat.le_trans (Nat.le_add_right a _) h) hS13 (k_X6_init l G (a + 18)) hz13 g18 wd_X6_init rfl wM_X6_init hN.1.2.2.2.2.2.2.1 rfl hl.1 rfl (Nat.le_of_ble_eq_true rfl) dX5_init_53 ⟨Nat.le_of_ble_eq_true rfl, Nat.le_of_ble_eq_true rfl⟩ ⟨Nat.le_of_ble_eq_true rfl, Nat.le_of_ble_eq_true rfl⟩ (fun H14 locs hz14 g18 oq14 hS14 => ?_)
  replace g0 := g0.kept (oq14 _ (Nat.lt_add_of_pos_right (Nat.le_of_ble_eq_true rfl)))
  replace g1 := g1.old (n := 6) rfl oq14 (Nat.add_le_add_left (n := 7) (m := 18) (Nat.le_of_ble_eq_true rfl) a)
  replace g7 := g7.old (n := 6) rfl oq14 (Nat.add_le_add_left (n := 13) (m := 18) (Nat.le_of_ble_eq_true rfl) a)
  replace g13 := g13.old (n := 4) rfl oq14 (Nat.add_le_add_left (n := 17) (m := 18) (Nat.le_of_ble_eq_true rfl) a)
  replace g17 := g17.old (n := 1) rfl oq14 (Nat.add_le_add_left (n := 18) (m := 18) (Nat.le_of_ble_eq_true rfl) a)
  clear oq14 hz13 hS13
  replace hz14 : H14.size = a + 19 := hz14
  replace g18 : cw G (a + 18) (siV G (a + 18)) H14 := g18
  refine c_putF (C := RX5) (T := TX5) (N := 11) hx hb hts inX5 tyX5 tyX5_ok nmX5 hown hK g0 (Nat.le_refl _) hS14 rfl 4 (by decide) wF_X5_42 rfl rfl hin rfl rfl rfl (Nat.le_of_ble_eq_true rfl) dX5_init_56 (fun H15 locs hz15 g0n oq15 hS15 => ?_)
  replace hz15 : H15.size = a + 19 := hz15.trans hz14
  replace g0 : va_at G.1 vwCl (a, .inr (5, [.ref (a + 1), .ref (a + 7), .ref (a + 13), .ref (a + 17), .ref (a + 18), .null, .int 0, .int 0, .int 0, .int 0, .int 0])) H15 := g0n
  clear g0n
  replace g1 := g1.put (n := 6) rfl oq15 (Or.inl (Nat.lt_add_of_pos_right (Nat.le_of_ble_eq_true rfl)))
  replace g7 := g7.put (n := 6) rfl oq15 (Or.inl (Nat.lt_add_of_pos_right (Nat.le_of_ble_eq_true rfl)))
  replace g13 := g13.put (n := 4) rfl oq15 (Or.inl (Nat.lt_add_of_pos_right (Nat.le_of_ble_eq_true rfl)))
  replace g17 := g17.put (n := 1) rfl oq15 (Or.inl (Nat.lt_add_of_pos_right (Nat.le_of_ble_eq_true rfl)))
  replace g18 := g18.put (n := 1) rfl oq15 (Or.inl (Nat.lt_add_of_pos_right (Nat.le_of_ble_eq_true rfl)))
  clear oq15 hz14 hS14
  refine lv_aload_n hx hb dX5_init_59 rfl (lv_at hl 0 rfl) ?_
  refine c_new (ci := 0) (fs := [.null, .null, .null, .null, .null, .int 0]) (C := RX0) (T := TX0) (N := 6) hx hb hts inX0 tyX0 tyX0_ok hown wK_X5_46 wIn_X0 wIz_X0 hK hS15 rfl dv_X0 hz15 (Nat.le_of_ble_eq_true rfl) (Nat.le_of_ble_eq_true rfl) dX5_init_60 (fun H16 hz16 g19 oq16 hS16 => ?_)
  replace g0 := g0.kept (oq16 _ (Nat.lt_add_of_pos_right (Nat.le_of_ble_eq_true rfl)))
  replace g1 := g1.old (n := 6) rfl oq16 (Nat.add_le_add_left (n := 7) (m := 19) (Nat.le_of_ble_eq_true rfl) a)
  replace g7 := g7.old (n := 6) rfl oq16 (Nat.add_le_add_left (n := 13) (m := 19) (Nat.le_of_ble_eq_true rfl) a)
  replace g13 := g13.old (n := 4) rfl oq16 (Nat.add_le_add_left (n := 17) (m := 19) (Nat.le_of_ble_eq_true rfl) a)
  replace g17 := g17.old (n := 1) rfl oq16 (Nat.add_le_add_left (n := 18) (m := 19) (Nat.le_of_ble_eq_true rfl) a)
  replace g18 := g18.old (n := 1) rfl oq16 (Nat.add_le_add_left (n := 19) (m := 19) (Nat.le_of_ble_eq_true rfl) a)
  clear oq16 hz15 hS15
  refine lv_dup hx hb dX5_init_63 rfl ?_
  refine c_callN (rest := [.ref (a + 19), .ref a]) (As := []) hx hb hml hown hts hK hN (fun q h => Nat.le_trans (Nat.le_add_right a _) h) hS16 (k_X0_init l G (a + 19)) hz16 g19 wd_X0_init rfl wM_X0_init hN.1.2.2.2.2.2.2.2 rfl hl.1 rfl (Nat.le_of_ble_eq_true rfl) dX5_init_64 ⟨Nat.le_of_ble_eq_true rfl, Nat.le_of_ble_eq_true rfl⟩ ⟨Nat.le_of_ble_eq_true rfl, Nat.le_of_ble_eq_true rfl⟩ (fun H17 locs hz17 g19 oq17 hS17 => ?_)
  replace g0 := g0.kept (oq17 _ (Nat.lt_add_of_pos_right (Nat.le_of_ble_eq_true rfl)))
  replace g1 := g1.old (n := 6) rfl oq17 (Nat.add_le_add_left (n := 7) (m := 19) (Nat.le_of_ble_eq_true rfl) a)
  replace g7 := g7.old (n := 6) rfl oq17 (Nat.add_le_add_left (n := 13) (m := 19) (Nat.le_of_ble_eq_true rfl) a)
  replace g13 := g13.old (n := 4) rfl oq17 (Nat.add_le_add_left (n := 17) (m := 19) (Nat.le_of_ble_eq_true rfl) a)
  replace g17 := g17.old (n := 1) rfl oq17 (Nat.add_le_add_left (n := 18) (m := 19) (Nat.le_of_ble_eq_true rfl) a)
  replace g18 := g18.old (n := 1) rfl oq17 (Nat.add_le_add_left (n := 19) (m := 19) (Nat.le_of_ble_eq_true rfl) a)
  clear oq17 hz16 hS16
  replace hz17 : H17.size = a + 25 := hz17
  replace g19 : cw G (a + 19) (boV G (a + 19)) H17 := g19
  refine c_putF (C := RX5) (T := TX5) (N := 11) hx hb hts inX5 tyX5 tyX5_ok nmX5 hown hK g0 (Nat.le_refl _) hS17 rfl 5 (by decide) wF_X5_49 rfl rfl hin rfl rfl rfl (Nat.le_of_ble_eq_true rfl) dX5_init_67 (fun H18 locs hz18 g0n oq18 hS18 => ?_)
  replace hz18 : H18.size = a + 25 := hz18.trans hz17
  replace g0 : va_at G.1 vwCl (a, .inr (5, [.ref (a + 1), .ref (a + 7), .ref (a + 13), .ref (a + 17), .ref (a + 18), .ref (a + 19), .int 0, .int 0, .int 0, .int 0, .int 0])) H18 := g0n
  clear g0n
  replace g1 := g1.put (n := 6) rfl oq18 (Or.inl (Nat.lt_add_of_pos_right (Nat.le_of_ble_eq_true rfl)))
  replace g7 := g7.put (n := 6) rfl oq18 (Or.inl (Nat.lt_add_of_pos_right (Nat.le_of_ble_eq_true rfl)))
  replace g13 := g13.put (n := 4) rfl oq18 (Or.inl (Nat.lt_add_of_pos_right (Nat.le_of_ble_eq_true rfl)))
  replace g17 := g17.put (n := 1) rfl oq18 (Or.inl (Nat.lt_add_of_pos_right (Nat.le_of_ble_eq_true rfl)))
  replace g18 := g18.put (n := 1) rfl oq18 (Or.inl (Nat.lt_add_of_pos_right (Nat.le_of_ble_eq_true rfl)))
  replace g19 := g19.put (n := 6) rfl oq18 (Or.inl (Nat.lt_add_of_pos_right (Nat.le_of_ble_eq_true rfl)))
  clear oq18 hz17 hS17
  refine lv_aload_n hx hb dX5_init_70 rfl (lv_at hl 0 rfl) ?_
  refine lv_iconst (v := 0) hx hb dX5_init_71 (by decide) ?_
  refine c_put (C := RX5) (T := TX5) (N := 11) hx hb hts inX5 tyX5 tyX5_ok nmX5 hown hK g0 (Nat.le_refl _) hS18 rfl 6 (by decide) wF_X5_53 rfl rfl rfl rfl (Nat.le_of_ble_eq_true rfl) dX5_init_72 (fun H19 locs hz19 g0n oq19 hS19 => ?_)
  replace hz19 : H19.size = a + 25 := hz19.trans hz18
  replace g0 : va_at G.1 vwCl (a, .inr (5, [.ref (a + 1), .ref (a + 7), .ref (a + 13), .ref (a + 17), .ref (a + 18), .ref (a + 19), .int 0, .int 0, .int 0, .int 0, .int 0])) H19 := g0n
  clear g0n
  replace g1 := g1.put (n := 6) rfl oq19 (Or.inl (Nat.lt_add_of_pos_right (Nat.le_of_ble_eq_true rfl)))
  replace g7 := g7.put (n := 6) rfl oq19 (Or.inl (Nat.lt_add_of_pos_right (Nat.le_of_ble_eq_true rfl)))
  replace g13 := g13.put (n := 4) rfl oq19 (Or.inl (Nat.lt_add_of_pos_right (Nat.le_of_ble_eq_true rfl)))
  replace g17 := g17.put (n := 1) rfl oq19 (Or.inl (Nat.lt_add_of_pos_right (Nat.le_of_ble_eq_true rfl)))
  replace g18 := g18.put (n := 1) rfl oq19 (Or.inl (Nat.lt_add_of_pos_right (Nat.le_of_ble_eq_true rfl)))
  replace g19 := g19.put (n := 6) rfl oq19 (Or.inl (Nat.lt_add_of_pos_right (Nat.le_of_ble_eq_true rfl)))
  clear oq19 hz18 hS18
  refine lv_aload_n hx hb dX5_init_75 rfl (lv_at hl 0 rfl) ?_
  refine lv_iconst (v := 0) hx hb dX5_init_76 (by decide) ?_
  refine c_put (C := RX5) (T := TX5) (N := 11) hx hb hts inX5 tyX5 tyX5_ok nmX5 hown hK g0 (Nat.le_refl _) hS19 rfl 7 (by decide) wF_X5_57 rfl rfl rfl rfl (Nat.le_of_ble_eq_true rfl) dX5_init_77 (fun H20 locs hz20 g0n oq20 hS20 => ?_)
  replace hz20 : H20.size = a + 25 := hz20.trans hz19
  replace g0 : va_at G.1 vwCl (a, .inr (5, [.ref (a + 1), .ref (a + 7), .ref (a + 13), .ref (a + 17), .ref (a + 18), .ref (a + 19), .int 0, .int 0, .int 0, .int 0, .int 0])) H20 := g0n
  clear g0n
  replace g1 := g1.put (n := 6) rfl oq20 (Or.inl (Nat.lt_add_of_pos_right (Nat.le_of_ble_eq_true rfl)))
  replace g7 := g7.put (n := 6) rfl oq20 (Or.inl (Nat.lt_add_of_pos_right (Nat.le_of_ble_eq_true rfl)))
  replace g13 := g13.put (n := 4) rfl oq20 (Or.inl (Nat.lt_add_of_pos_right (Nat.le_of_ble_eq_true rfl)))
  replace g17 := g17.put (n := 1) rfl oq20 (Or.inl (Nat.lt_add_of_pos_right (Nat.le_of_ble_eq_true rfl)))
  replace g18 := g18.put (n := 1) rfl oq20 (Or.inl (Nat.lt_add_of_pos_right (Nat.le_of_ble_eq_true rfl)))
  replace g19 := g19.put (n := 6) rfl oq20 (Or.inl (Nat.lt_add_of_pos_right (Nat.le_of_ble_eq_true rfl)))
  clear oq20 hz19 hS19
  refine lv_aload_n hx hb dX5_init_80 rfl (lv_at hl 0 rfl) ?_
  refine lv_iconst (v := (-1)) hx hb dX5_init_81 (by decide) ?_
  refine c_put (C := RX5) (T := TX5) (N := 11) hx hb hts inX5 tyX5 tyX5_ok nmX5 hown hK g0 (Nat.le_refl _) hS20 rfl 8 (by decide) wF_X5_60 rfl rfl rfl rfl (Nat.le_of_ble_eq_true rfl) dX5_init_82 (fun H21 locs hz21 g0n oq21 hS21 => ?_)
  replace hz21 : H21.size = a + 25 := hz21.trans hz20
  replace g0 : va_at G.1 vwCl (a, .inr (5, [.ref (a + 1), .ref (a + 7), .ref (a + 13), .ref (a + 17), .ref (a + 18), .ref (a + 19), .int 0, .int 0, .int (-1), .int 0, .int 0])) H21 := g0n
  clear g0n
  replace g1 := g1.put (n := 6) rfl oq21 (Or.inl (Nat.lt_add_of_pos_right (Nat.le_of_ble_eq_true rfl)))
  replace g7 := g7.put (n := 6) rfl oq21 (Or.inl (Nat.lt_add_of_pos_right (Nat.le_of_ble_eq_true rfl)))
  replace g13 := g13.put (n := 4) rfl oq21 (Or.inl (Nat.lt_add_of_pos_right (Nat.le_of_ble_eq_true rfl)))
  replace g17 := g17.put (n := 1) rfl oq21 (Or.inl (Nat.lt_add_of_pos_right (Nat.le_of_ble_eq_true rfl)))
  replace g18 := g18.put (n := 1) rfl oq21 (Or.inl (Nat.lt_add_of_pos_right (Nat.le_of_ble_eq_true rfl)))
  replace g19 := g19.put (n := 6) rfl oq21 (Or.inl (Nat.lt_add_of_pos_right (Nat.le_of_ble_eq_true rfl)))
  clear oq21 hz20 hS20
  refine lv_aload_n hx hb dX5_init_85 rfl (lv_at hl 0 rfl) ?_
  refine lv_iconst (v := (-1)) hx hb dX5_init_86 (by decide) ?_
  refine c_put (C := RX5) (T := TX5) (N := 11) hx hb hts inX5 tyX5 tyX5_ok nmX5 hown hK g0 (Nat.le_refl _) hS21 rfl 9 (by decide) wF_X5_63 rfl rfl rfl rfl (Nat.le_of_ble_eq_true rfl) dX5_init_87 (fun H22 locs hz22 g0n oq22 hS22 => ?_)
  replace hz22 : H22.size = a + 25 := hz22.trans hz21
  replace g0 : va_at G.1 vwCl (a, .inr (5, [.ref (a + 1), .ref (a + 7), .ref (a + 13), .ref (a + 17), .ref (a + 18), .ref (a + 19), .int 0, .int 0, .int (-1), .int (-1), .int 0])) H22 := g0n
  clear g0n
  replace g1 := g1.put (n := 6) rfl oq22 (Or.inl (Nat.lt_add_of_pos_right (Nat.le_of_ble_eq_true rfl)))
  replace g7 := g7.put (n := 6) rfl oq22 (Or.inl (Nat.lt_add_of_pos_right (Nat.le_of_ble_eq_true rfl)))
  replace g13 := g13.put (n := 4) rfl oq22 (Or.inl (Nat.lt_add_of_pos_right (Nat.le_of_ble_eq_true rfl)))
  replace g17 := g17.put (n := 1) rfl oq22 (Or.inl (Nat.lt_add_of_pos_right (Nat.le_of_ble_eq_true rfl)))
  replace g18 := g18.put (n := 1) rfl oq22 (Or.inl (Nat.lt_add_of_pos_right (Nat.le_of_ble_eq_true rfl)))
  replace g19 := g19.put (n := 6) rfl oq22 (Or.inl (Nat.lt_add_of_pos_right (Nat.le_of_ble_eq_true rfl)))
  clear oq22 hz21 hS21
  refine lv_aload_n hx hb dX5_init_90 rfl (lv_at hl 0 rfl) ?_
  refine lv_iconst (v := 0) hx hb dX5_init_91 (by decide) ?_
  refine c_put (C := RX5) (T := TX5) (N := 11) hx hb hts inX5 tyX5 tyX5_ok nmX5 hown hK g0 (Nat.le_refl _) hS22 rfl 10 (by decide) wF_X5_66 rfl rfl rfl rfl (Nat.le_of_ble_eq_true rfl) dX5_init_92 (fun H23 locs hz23 g0n oq23 hS23 => ?_)
  replace hz23 : H23.size = a + 25 := hz23.trans hz22
  replace g0 : va_at G.1 vwCl (a, .inr (5, [.ref (a + 1), .ref (a + 7), .ref (a + 13), .ref (a + 17), .ref (a + 18), .ref (a + 19), .int 0, .int 0, .int (-1), .int (-1), .int 0])) H23 := g0n
  clear g0n
  replace g1 := g1.put (n := 6) rfl oq23 (Or.inl (Nat.lt_add_of_pos_right (Nat.le_of_ble_eq_true rfl)))
  replace g7 := g7.put (n := 6) rfl oq23 (Or.inl (Nat.lt_add_of_pos_right (Nat.le_of_ble_eq_true rfl)))
  replace g13 := g13.put (n := 4) rfl oq23 (Or.inl (Nat.lt_add_of_pos_right (Nat.le_of_ble_eq_true rfl)))
  replace g17 := g17.put (n := 1) rfl oq23 (Or.inl (Nat.lt_add_of_pos_right (Nat.le_of_ble_eq_true rfl)))
  replace g18 := g18.put (n := 1) rfl oq23 (Or.inl (Nat.lt_add_of_pos_right (Nat.le_of_ble_eq_true rfl)))
  replace g19 := g19.put (n := 6) rfl oq23 (Or.inl (Nat.lt_add_of_pos_right (Nat.le_of_ble_eq_true rfl)))
  clear oq23 hz22 hS22
  exact hret _ _ _ _ hz23 (cw.app (n := 1) (cw.one g0) rfl (cw.app (n := 6) g1 rfl (cw.app (n := 6) g7 rfl (cw.app (n := 4) g13 rfl (cw.app (n := 1) g17 rfl (cw.app (n := 1) g18 rfl g19)))))) hS23 dX5_init_95
set_option maxHeartbeats 4000000 in
set_option maxRecDepth 100000 in
theorem k_X1_init (l : Launch) (G : hG) (a : Nat) (r c0 : Nat) : hI l yX1_init cX1_init 3 1 12 2 96 G a [.ref (r), .ref (c0)] (.inr (1, [.null, .null, .null, .null])) (paV G a r c0) := by
  refine hI_of (by decide +kernel) (Nat.le_of_ble_eq_true rfl) rfl ?_
  intro p e s m args below meth c H0 ls Q hx hb hts hown hml hin hK hN hs0 hz0 g0 hS0 hl hret
  have hl : lv_has ls 3 [(0, .ref a), (1, .ref (r)), (2, .ref (c0))] := hl
  refine lv_aload_n hx hb dX1_init_0 rfl (lv_at hl 0 rfl) ?_
  refine W.objInit hx hb hown (hts _ wL_X1_3) (hts _ wOi) (hts _ wOc) rfl (by rw [hml]; exact hl.1) rfl dX1_init_1 (Nat.le_of_ble_eq_true rfl) (Nat.le_of_ble_eq_true rfl) ?_
  refine W.eq (g2 := F0 m 4 ls []) rfl ?_
  refine lv_aload_n hx hb dX1_init_4 rfl (lv_at hl 0 rfl) ?_
  refine lv_bipush (v := 48) hx hb dX1_init_5 (by decide) ?_
  refine c_newa (atype := ArrayType.int) (a0 := (48, .inl (fun _ => 0))) (N := 48) hx hb hts wArr_int 0 (by decide) rfl hK hS0 rfl (by decide) (by decide) (Nat.le_of_ble_eq_true rfl) hz0 (Nat.le_of_ble_eq_true rfl) (Nat.le_of_ble_eq_true rfl) dX1_init_7 (fun H1 hz1 g1 oq1 hS1 => ?_)
  replace g0 := g0.kept (oq1 _ (Nat.lt_add_of_pos_right (Nat.le_of_ble_eq_true rfl)))
  clear oq1
  refine c_putF (C := RX1) (T := TX1) (N := 4) hx hb hts inX1 tyX1 tyX1_ok nmX1 hown hK g0 (Nat.le_refl _) hS1 rfl 2 (by decide) wF_X1_9 rfl rfl hin rfl rfl rfl (Nat.le_of_ble_eq_true rfl) dX1_init_9 (fun H2 locs hz2 g0n oq2 hS2 => ?_)
  replace hz2 : H2.size = a + 2 := hz2.trans hz1
  replace g0 : va_at G.1 vwCl (a, .inr (1, [.null, .null, .ref (a + 1), .null])) H2 := g0n
  clear g0n
  replace g1 := g1.kept (oq2 _ (Nat.ne_of_gt (Nat.lt_add_of_pos_right (Nat.le_of_ble_eq_true rfl))))
  clear oq2 hz1 hS1
  refine lv_aload_n hx hb dX1_init_12 rfl (lv_at hl 0 rfl) ?_
  refine lv_bipush (v := 48) hx hb dX1_init_13 (by decide) ?_
  refine c_newa (atype := ArrayType.int) (a0 := (48, .inl (fun _ => 0))) (N := 48) hx hb hts wArr_int 0 (by decide) rfl hK hS2 rfl (by decide) (by decide) (Nat.le_of_ble_eq_true rfl) hz2 (Nat.le_of_ble_eq_true rfl) (Nat.le_of_ble_eq_true rfl) dX1_init_15 (fun H3 hz3 g2 oq3 hS3 => ?_)
  replace g0 := g0.kept (oq3 _ (Nat.lt_add_of_pos_right (Nat.le_of_ble_eq_true rfl)))
  replace g1 := g1.kept (oq3 _ (Nat.add_lt_add_left (n := 1) (m := 2) (Nat.le_of_ble_eq_true rfl) a))
  clear oq3 hz2 hS2
  refine c_putF (C := RX1) (T := TX1) (N := 4) hx hb hts inX1 tyX1 tyX1_ok nmX1 hown hK g0 (Nat.le_refl _) hS3 rfl 3 (by decide) wF_X1_15 rfl rfl hin rfl rfl rfl (Nat.le_of_ble_eq_true rfl) dX1_init_17 (fun H4 locs hz4 g0n oq4 hS4 => ?_)
  replace hz4 : H4.size = a + 3 := hz4.trans hz3
  replace g0 : va_at G.1 vwCl (a, .inr (1, [.null, .null, .ref (a + 1), .ref (a + 2)])) H4 := g0n
  clear g0n
  replace g1 := g1.kept (oq4 _ (Nat.ne_of_gt (Nat.lt_add_of_pos_right (Nat.le_of_ble_eq_true rfl))))
  replace g2 := g2.kept (oq4 _ (Nat.ne_of_gt (Nat.lt_add_of_pos_right (Nat.le_of_ble_eq_true rfl))))
  clear oq4 hz3 hS3
  refine lv_aload_n hx hb dX1_init_20 rfl (lv_at hl 0 rfl) ?_
  refine lv_aload_n hx hb dX1_init_21 rfl (lv_at hl 1 rfl) ?_
  refine c_putF (C := RX1) (T := TX1) (N := 4) hx hb hts inX1 tyX1 tyX1_ok nmX1 hown hK g0 (Nat.le_refl _) hS4 rfl 0 (by decide) wF_X1_18 rfl rfl hin rfl rfl rfl (Nat.le_of_ble_eq_true rfl) dX1_init_22 (fun H5 locs hz5 g0n oq5 hS5 => ?_)
  replace hz5 : H5.size = a + 3 := hz5.trans hz4
  replace g0 : va_at G.1 vwCl (a, .inr (1, [.ref (r), .null, .ref (a + 1), .ref (a + 2)])) H5 := g0n
  clear g0n
  replace g1 := g1.kept (oq5 _ (Nat.ne_of_gt (Nat.lt_add_of_pos_right (Nat.le_of_ble_eq_true rfl))))
  replace g2 := g2.kept (oq5 _ (Nat.ne_of_gt (Nat.lt_add_of_pos_right (Nat.le_of_ble_eq_true rfl))))
  clear oq5 hz4 hS4
  refine lv_aload_n hx hb dX1_init_25 rfl (lv_at hl 0 rfl) ?_
  refine lv_aload_n hx hb dX1_init_26 rfl (lv_at hl 2 rfl) ?_
  refine c_putF (C := RX1) (T := TX1) (N := 4) hx hb hts inX1 tyX1 tyX1_ok nmX1 hown hK g0 (Nat.le_refl _) hS5 rfl 1 (by decide) wF_X1_22 rfl rfl hin rfl rfl rfl (Nat.le_of_ble_eq_true rfl) dX1_init_27 (fun H6 locs hz6 g0n oq6 hS6 => ?_)
  replace hz6 : H6.size = a + 3 := hz6.trans hz5
  replace g0 : va_at G.1 vwCl (a, .inr (1, [.ref (r), .ref (c0), .ref (a + 1), .ref (a + 2)])) H6 := g0n
  clear g0n
  replace g1 := g1.kept (oq6 _ (Nat.ne_of_gt (Nat.lt_add_of_pos_right (Nat.le_of_ble_eq_true rfl))))
  replace g2 := g2.kept (oq6 _ (Nat.ne_of_gt (Nat.lt_add_of_pos_right (Nat.le_of_ble_eq_true rfl))))
  clear oq6 hz5 hS5
  exact hret _ _ _ _ hz6 (cw.app (n := 1) (cw.one g0) rfl (cw.app (n := 1) (cw.one g1) rfl (cw.one g2))) hS6 dX1_init_30
set_option maxHeartbeats 4000000 in
set_option maxRecDepth 100000 in
theorem k_X4_init (l : Launch) (G : hG) (a : Nat) (tp r : Nat) : hI l yX4_init cX4_init 3 1 12 2 16 G a [.ref (tp), .ref (r)] (.inr (4, [.null, .null, .null, .null, .int 0, .int 0, .int 0, .int 0, .int 0, .int 0, .int 0, .int 0, .int 0])) (reV G a tp r) := by
  refine hI_of (by decide +kernel) (Nat.le_of_ble_eq_true rfl) rfl ?_
  intro p e s m args below meth c H0 ls Q hx hb hts hown hml hin hK hN hs0 hz0 g0 hS0 hl hret
  have hl : lv_has ls 3 [(0, .ref a), (1, .ref (tp)), (2, .ref (r))] := hl
  refine lv_aload_n hx hb dX4_init_0 rfl (lv_at hl 0 rfl) ?_
  refine W.objInit hx hb hown (hts _ wL_X4_3) (hts _ wOi) (hts _ wOc) rfl (by rw [hml]; exact hl.1) rfl dX4_init_1 (Nat.le_of_ble_eq_true rfl) (Nat.le_of_ble_eq_true rfl) ?_
  refine W.eq (g2 := F0 m 4 ls []) rfl ?_
  refine lv_aload_n hx hb dX4_init_4 rfl (lv_at hl 0 rfl) ?_
  refine lv_bipush (v := 8) hx hb dX4_init_5 (by decide) ?_
  refine c_newa (atype := ArrayType.int) (a0 := (8, .inl (fun _ => 0))) (N := 8) hx hb hts wArr_int 0 (by decide) rfl hK hS0 rfl (by decide) (by decide) (Nat.le_of_ble_eq_true rfl) hz0 (Nat.le_of_ble_eq_true rfl) (Nat.le_of_ble_eq_true rfl) dX4_init_7 (fun H1 hz1 g1 oq1 hS1 => ?_)
  replace g0 := g0.kept (oq1 _ (Nat.lt_add_of_pos_right (Nat.le_of_ble_eq_true rfl)))
  clear oq1
  refine c_putF (C := RX4) (T := TX4) (N := 13) hx hb hts inX4 tyX4 tyX4_ok nmX4 hown hK g0 (Nat.le_refl _) hS1 rfl 2 (by decide) wF_X4_9 rfl rfl hin rfl rfl rfl (Nat.le_of_ble_eq_true rfl) dX4_init_9 (fun H2 locs hz2 g0n oq2 hS2 => ?_)
  replace hz2 : H2.size = a + 2 := hz2.trans hz1
  replace g0 : va_at G.1 vwCl (a, .inr (4, [.null, .null, .ref (a + 1), .null, .int 0, .int 0, .int 0, .int 0, .int 0, .int 0, .int 0, .int 0, .int 0])) H2 := g0n
  clear g0n
  replace g1 := g1.kept (oq2 _ (Nat.ne_of_gt (Nat.lt_add_of_pos_right (Nat.le_of_ble_eq_true rfl))))
  clear oq2 hz1 hS1
  refine lv_aload_n hx hb dX4_init_12 rfl (lv_at hl 0 rfl) ?_
  refine lv_bipush (v := 8) hx hb dX4_init_13 (by decide) ?_
  refine c_newa (atype := ArrayType.int) (a0 := (8, .inl (fun _ => 0))) (N := 8) hx hb hts wArr_int 0 (by decide) rfl hK hS2 rfl (by decide) (by decide) (Nat.le_of_ble_eq_true rfl) hz2 (Nat.le_of_ble_eq_true rfl) (Nat.le_of_ble_eq_true rfl) dX4_init_15 (fun H3 hz3 g2 oq3 hS3 => ?_)
  replace g0 := g0.kept (oq3 _ (Nat.lt_add_of_pos_right (Nat.le_of_ble_eq_true rfl)))
  replace g1 := g1.kept (oq3 _ (Nat.add_lt_add_left (n := 1) (m := 2) (Nat.le_of_ble_eq_true rfl) a))
  clear oq3 hz2 hS2
  refine c_putF (C := RX4) (T := TX4) (N := 13) hx hb hts inX4 tyX4 tyX4_ok nmX4 hown hK g0 (Nat.le_refl _) hS3 rfl 3 (by decide) wF_X4_15 rfl rfl hin rfl rfl rfl (Nat.le_of_ble_eq_true rfl) dX4_init_17 (fun H4 locs hz4 g0n oq4 hS4 => ?_)
  replace hz4 : H4.size = a + 3 := hz4.trans hz3
  replace g0 : va_at G.1 vwCl (a, .inr (4, [.null, .null, .ref (a + 1), .ref (a + 2), .int 0, .int 0, .int 0, .int 0, .int 0, .int 0, .int 0, .int 0, .int 0])) H4 := g0n
  clear g0n
  replace g1 := g1.kept (oq4 _ (Nat.ne_of_gt (Nat.lt_add_of_pos_right (Nat.le_of_ble_eq_true rfl))))
  replace g2 := g2.kept (oq4 _ (Nat.ne_of_gt (Nat.lt_add_of_pos_right (Nat.le_of_ble_eq_true rfl))))
  clear oq4 hz3 hS3
  refine lv_aload_n hx hb dX4_init_20 rfl (lv_at hl 0 rfl) ?_
  refine lv_iconst (v := 0) hx hb dX4_init_21 (by decide) ?_
  refine c_put (C := RX4) (T := TX4) (N := 13) hx hb hts inX4 tyX4 tyX4_ok nmX4 hown hK g0 (Nat.le_refl _) hS4 rfl 4 (by decide) wF_X4_18 rfl rfl rfl rfl (Nat.le_of_ble_eq_true rfl) dX4_init_22 (fun H5 locs hz5 g0n oq5 hS5 => ?_)
  replace hz5 : H5.size = a + 3 := hz5.trans hz4
  replace g0 : va_at G.1 vwCl (a, .inr (4, [.null, .null, .ref (a + 1), .ref (a + 2), .int 0, .int 0, .int 0, .int 0, .int 0, .int 0, .int 0, .int 0, .int 0])) H5 := g0n
  clear g0n
  replace g1 := g1.kept (oq5 _ (Nat.ne_of_gt (Nat.lt_add_of_pos_right (Nat.le_of_ble_eq_true rfl))))
  replace g2 := g2.kept (oq5 _ (Nat.ne_of_gt (Nat.lt_add_of_pos_right (Nat.le_of_ble_eq_true rfl))))
  clear oq5 hz4 hS4
  refine lv_aload_n hx hb dX4_init_25 rfl (lv_at hl 0 rfl) ?_
  refine lv_iconst (v := 0) hx hb dX4_init_26 (by decide) ?_
  refine c_put (C := RX4) (T := TX4) (N := 13) hx hb hts inX4 tyX4 tyX4_ok nmX4 hown hK g0 (Nat.le_refl _) hS5 rfl 5 (by decide) wF_X4_22 rfl rfl rfl rfl (Nat.le_of_ble_eq_true rfl) dX4_init_27 (fun H6 locs hz6 g0n oq6 hS6 => ?_)
  replace hz6 : H6.size = a + 3 := hz6.trans hz5
  replace g0 : va_at G.1 vwCl (a, .inr (4, [.null, .null, .ref (a + 1), .ref (a + 2), .int 0, .int 0, .int 0, .int 0, .int 0, .int 0, .int 0, .int 0, .int 0])) H6 := g0n
  clear g0n
  replace g1 := g1.kept (oq6 _ (Nat.ne_of_gt (Nat.lt_add_of_pos_right (Nat.le_of_ble_eq_true rfl))))
  replace g2 := g2.kept (oq6 _ (Nat.ne_of_gt (Nat.lt_add_of_pos_right (Nat.le_of_ble_eq_true rfl))))
  clear oq6 hz5 hS5
  refine lv_aload_n hx hb dX4_init_30 rfl (lv_at hl 0 rfl) ?_
  refine lv_iconst (v := 0) hx hb dX4_init_31 (by decide) ?_
  refine c_put (C := RX4) (T := TX4) (N := 13) hx hb hts inX4 tyX4 tyX4_ok nmX4 hown hK g0 (Nat.le_refl _) hS6 rfl 6 (by decide) wF_X4_25 rfl rfl rfl rfl (Nat.le_of_ble_eq_true rfl) dX4_init_32 (fun H7 locs hz7 g0n oq7 hS7 => ?_)
  replace hz7 : H7.size = a + 3 := hz7.trans hz6
  replace g0 : va_at G.1 vwCl (a, .inr (4, [.null, .null, .ref (a + 1), .ref (a + 2), .int 0, .int 0, .int 0, .int 0, .int 0, .int 0, .int 0, .int 0, .int 0])) H7 := g0n
  clear g0n
  replace g1 := g1.kept (oq7 _ (Nat.ne_of_gt (Nat.lt_add_of_pos_right (Nat.le_of_ble_eq_true rfl))))
  replace g2 := g2.kept (oq7 _ (Nat.ne_of_gt (Nat.lt_add_of_pos_right (Nat.le_of_ble_eq_true rfl))))
  clear oq7 hz6 hS6
  refine lv_aload_n hx hb dX4_init_35 rfl (lv_at hl 0 rfl) ?_
  refine lv_iconst (v := 0) hx hb dX4_init_36 (by decide) ?_
  refine c_put (C := RX4) (T := TX4) (N := 13) hx hb hts inX4 tyX4 tyX4_ok nmX4 hown hK g0 (Nat.le_refl _) hS7 rfl 7 (by decide) wF_X4_28 rfl rfl rfl rfl (Nat.le_of_ble_eq_true rfl) dX4_init_37 (fun H8 locs hz8 g0n oq8 hS8 => ?_)
  replace hz8 : H8.size = a + 3 := hz8.trans hz7
  replace g0 : va_at G.1 vwCl (a, .inr (4, [.null, .null, .ref (a + 1), .ref (a + 2), .int 0, .int 0, .int 0, .int 0, .int 0, .int 0, .int 0, .int 0, .int 0])) H8 := g0n
  clear g0n
  replace g1 := g1.kept (oq8 _ (Nat.ne_of_gt (Nat.lt_add_of_pos_right (Nat.le_of_ble_eq_true rfl))))
  replace g2 := g2.kept (oq8 _ (Nat.ne_of_gt (Nat.lt_add_of_pos_right (Nat.le_of_ble_eq_true rfl))))
  clear oq8 hz7 hS7
  refine lv_aload_n hx hb dX4_init_40 rfl (lv_at hl 0 rfl) ?_
  refine lv_iconst (v := 0) hx hb dX4_init_41 (by decide) ?_
  refine c_put (C := RX4) (T := TX4) (N := 13) hx hb hts inX4 tyX4 tyX4_ok nmX4 hown hK g0 (Nat.le_refl _) hS8 rfl 8 (by decide) wF_X4_31 rfl rfl rfl rfl (Nat.le_of_ble_eq_true rfl) dX4_init_42 (fun H9 locs hz9 g0n oq9 hS9 => ?_)
  replace hz9 : H9.size = a + 3 := hz9.trans hz8
  replace g0 : va_at G.1 vwCl (a, .inr (4, [.null, .null, .ref (a + 1), .ref (a + 2), .int 0, .int 0, .int 0, .int 0, .int 0, .int 0, .int 0, .int 0, .int 0])) H9 := g0n
  clear g0n
  replace g1 := g1.kept (oq9 _ (Nat.ne_of_gt (Nat.lt_add_of_pos_right (Nat.le_of_ble_eq_true rfl))))
  replace g2 := g2.kept (oq9 _ (Nat.ne_of_gt (Nat.lt_add_of_pos_right (Nat.le_of_ble_eq_true rfl))))
  clear oq9 hz8 hS8
  refine lv_aload_n hx hb dX4_init_45 rfl (lv_at hl 0 rfl) ?_
  refine lv_iconst (v := 0) hx hb dX4_init_46 (by decide) ?_
  refine c_put (C := RX4) (T := TX4) (N := 13) hx hb hts inX4 tyX4 tyX4_ok nmX4 hown hK g0 (Nat.le_refl _) hS9 rfl 9 (by decide) wF_X4_34 rfl rfl rfl rfl (Nat.le_of_ble_eq_true rfl) dX4_init_47 (fun H10 locs hz10 g0n oq10 hS10 => ?_)
  replace hz10 : H10.size = a + 3 := hz10.trans hz9
  replace g0 : va_at G.1 vwCl (a, .inr (4, [.null, .null, .ref (a + 1), .ref (a + 2), .int 0, .int 0, .int 0, .int 0, .int 0, .int 0, .int 0, .int 0, .int 0])) H10 := g0n
  clear g0n
  replace g1 := g1.kept (oq10 _ (Nat.ne_of_gt (Nat.lt_add_of_pos_right (Nat.le_of_ble_eq_true rfl))))
  replace g2 := g2.kept (oq10 _ (Nat.ne_of_gt (Nat.lt_add_of_pos_right (Nat.le_of_ble_eq_true rfl))))
  clear oq10 hz9 hS9
  refine lv_aload_n hx hb dX4_init_50 rfl (lv_at hl 0 rfl) ?_
  refine lv_iconst (v := (-1)) hx hb dX4_init_51 (by decide) ?_
  refine c_put (C := RX4) (T := TX4) (N := 13) hx hb hts inX4 tyX4 tyX4_ok nmX4 hown hK g0 (Nat.le_refl _) hS10 rfl 10 (by decide) wF_X4_37 rfl rfl rfl rfl (Nat.le_of_ble_eq_true rfl) dX4_init_52 (fun H11 locs hz11 g0n oq11 hS11 => ?_)
  replace hz11 : H11.size = a + 3 := hz11.trans hz10
  replace g0 : va_at G.1 vwCl (a, .inr (4, [.null, .null, .ref (a + 1), .ref (a + 2), .int 0, .int 0, .int 0, .int 0, .int 0, .int 0, .int (-1), .int 0, .int 0])) H11 := g0n
  clear g0n
  replace g1 := g1.kept (oq11 _ (Nat.ne_of_gt (Nat.lt_add_of_pos_right (Nat.le_of_ble_eq_true rfl))))
  replace g2 := g2.kept (oq11 _ (Nat.ne_of_gt (Nat.lt_add_of_pos_right (Nat.le_of_ble_eq_true rfl))))
  clear oq11 hz10 hS10
  refine lv_aload_n hx hb dX4_init_55 rfl (lv_at hl 0 rfl) ?_
  refine lv_iconst (v := 0) hx hb dX4_init_56 (by decide) ?_
  refine c_put (C := RX4) (T := TX4) (N := 13) hx hb hts inX4 tyX4 tyX4_ok nmX4 hown hK g0 (Nat.le_refl _) hS11 rfl 11 (by decide) wF_X4_40 rfl rfl rfl rfl (Nat.le_of_ble_eq_true rfl) dX4_init_57 (fun H12 locs hz12 g0n oq12 hS12 => ?_)
  replace hz12 : H12.size = a + 3 := hz12.trans hz11
  replace g0 : va_at G.1 vwCl (a, .inr (4, [.null, .null, .ref (a + 1), .ref (a + 2), .int 0, .int 0, .int 0, .int 0, .int 0, .int 0, .int (-1), .int 0, .int 0])) H12 := g0n
  clear g0n
  replace g1 := g1.kept (oq12 _ (Nat.ne_of_gt (Nat.lt_add_of_pos_right (Nat.le_of_ble_eq_true rfl))))
  replace g2 := g2.kept (oq12 _ (Nat.ne_of_gt (Nat.lt_add_of_pos_right (Nat.le_of_ble_eq_true rfl))))
  clear oq12 hz11 hS11
  refine lv_aload_n hx hb dX4_init_60 rfl (lv_at hl 0 rfl) ?_
  refine lv_iconst (v := (-1)) hx hb dX4_init_61 (by decide) ?_
  refine c_put (C := RX4) (T := TX4) (N := 13) hx hb hts inX4 tyX4 tyX4_ok nmX4 hown hK g0 (Nat.le_refl _) hS12 rfl 12 (by decide) wF_X4_43 rfl rfl rfl rfl (Nat.le_of_ble_eq_true rfl) dX4_init_62 (fun H13 locs hz13 g0n oq13 hS13 => ?_)
  replace hz13 : H13.size = a + 3 := hz13.trans hz12
  replace g0 : va_at G.1 vwCl (a, .inr (4, [.null, .null, .ref (a + 1), .ref (a + 2), .int 0, .int 0, .int 0, .int 0, .int 0, .int 0, .int (-1), .int 0, .int (-1)])) H13 := g0n
  clear g0n
  replace g1 := g1.kept (oq13 _ (Nat.ne_of_gt (Nat.lt_add_of_pos_right (Nat.le_of_ble_eq_true rfl))))
  replace g2 := g2.kept (oq13 _ (Nat.ne_of_gt (Nat.lt_add_of_pos_right (Nat.le_of_ble_eq_true rfl))))
  clear oq13 hz12 hS12
  refine lv_aload_n hx hb dX4_init_65 rfl (lv_at hl 0 rfl) ?_
  refine lv_aload_n hx hb dX4_init_66 rfl (lv_at hl 1 rfl) ?_
  refine c_putF (C := RX4) (T := TX4) (N := 13) hx hb hts inX4 tyX4 tyX4_ok nmX4 hown hK g0 (Nat.le_refl _) hS13 rfl 0 (by decide) wF_X4_46 rfl rfl hin rfl rfl rfl (Nat.le_of_ble_eq_true rfl) dX4_init_67 (fun H14 locs hz14 g0n oq14 hS14 => ?_)
  replace hz14 : H14.size = a + 3 := hz14.trans hz13
  replace g0 : va_at G.1 vwCl (a, .inr (4, [.ref (tp), .null, .ref (a + 1), .ref (a + 2), .int 0, .int 0, .int 0, .int 0, .int 0, .int 0, .int (-1), .int 0, .int (-1)])) H14 := g0n
  clear g0n
  replace g1 := g1.kept (oq14 _ (Nat.ne_of_gt (Nat.lt_add_of_pos_right (Nat.le_of_ble_eq_true rfl))))
  replace g2 := g2.kept (oq14 _ (Nat.ne_of_gt (Nat.lt_add_of_pos_right (Nat.le_of_ble_eq_true rfl))))
  clear oq14 hz13 hS13
  refine lv_aload_n hx hb dX4_init_70 rfl (lv_at hl 0 rfl) ?_
  refine lv_aload_n hx hb dX4_init_71 rfl (lv_at hl 2 rfl) ?_
  refine c_putF (C := RX4) (T := TX4) (N := 13) hx hb hts inX4 tyX4 tyX4_ok nmX4 hown hK g0 (Nat.le_refl _) hS14 rfl 1 (by decide) wF_X4_50 rfl rfl hin rfl rfl rfl (Nat.le_of_ble_eq_true rfl) dX4_init_72 (fun H15 locs hz15 g0n oq15 hS15 => ?_)
  replace hz15 : H15.size = a + 3 := hz15.trans hz14
  replace g0 : va_at G.1 vwCl (a, .inr (4, [.ref (tp), .ref (r), .ref (a + 1), .ref (a + 2), .int 0, .int 0, .int 0, .int 0, .int 0, .int 0, .int (-1), .int 0, .int (-1)])) H15 := g0n
  clear g0n
  replace g1 := g1.kept (oq15 _ (Nat.ne_of_gt (Nat.lt_add_of_pos_right (Nat.le_of_ble_eq_true rfl))))
  replace g2 := g2.kept (oq15 _ (Nat.ne_of_gt (Nat.lt_add_of_pos_right (Nat.le_of_ble_eq_true rfl))))
  clear oq15 hz14 hS14
  exact hret _ _ _ _ hz15 (cw.app (n := 1) (cw.one g0) rfl (cw.app (n := 1) (cw.one g1) rfl (cw.one g2))) hS15 dX4_init_75
set_option maxHeartbeats 4000000 in
set_option maxRecDepth 100000 in
theorem k_X10_init (l : Launch) (G : hG) (a : Nat) : hI l yX10_init cX10_init 2 3 52 168 6371 G a [] (.inr (10, [.null, .null, .null, .null, .null, .null, .null, .int 0, .int 0])) (wldV G a) := by
  refine hI_of (by decide +kernel) (Nat.le_of_ble_eq_true rfl) rfl ?_
  intro p e s m args below meth c H0 ls Q hx hb hts hown hml hin hK hN hs0 hz0 g0 hS0 hl hret
  have hl : lv_has ls 2 [(0, .ref a)] := hl
  refine lv_aload_n hx hb dX10_init_0 rfl (lv_at hl 0 rfl) ?_
  refine W.objInit hx hb hown (hts _ wL_X10_1) (hts _ wOi) (hts _ wOc) rfl (by rw [hml]; exact hl.1) rfl dX10_init_1 (Nat.le_of_ble_eq_true rfl) (Nat.le_of_ble_eq_true rfl) ?_
  refine W.eq (g2 := F0 m 4 ls []) rfl ?_
  refine lv_aload_n hx hb dX10_init_4 rfl (lv_at hl 0 rfl) ?_
  refine c_new (ci := 8) (fs := [.null, .int 0, .int 0, .int 0]) (C := RX8) (T := TX8) (N := 4) hx hb hts inX8 tyX8 tyX8_ok hown wK_X10_7 wIn_X8 wIz_X8 hK hS0 rfl dv_X8 hz0 (Nat.le_of_ble_eq_true rfl) (Nat.le_of_ble_eq_true rfl) dX10_init_5 (fun H1 hz1 g1 oq1 hS1 => ?_)
  replace g0 := g0.kept (oq1 _ (Nat.lt_add_of_pos_right (Nat.le_of_ble_eq_true rfl)))
  clear oq1
  refine lv_dup hx hb dX10_init_8 rfl ?_
  refine c_callN (rest := [.ref (a + 1), .ref a]) (As := []) hx hb hml hown hts hK hN (fun q h => Nat.le_trans (Nat.le_add_right a _) h) hS1 (k_X8_init l G (a + 1)) hz1 g1 wd_X8_init rfl wM_X8_init hN.1.1 rfl hl.1 rfl (Nat.le_of_ble_eq_true rfl) dX10_init_9 ⟨Nat.le_of_ble_eq_true rfl, Nat.le_of_ble_eq_true rfl⟩ ⟨Nat.le_of_ble_eq_true rfl, Nat.le_of_ble_eq_true rfl⟩ (fun H2 locs hz2 g1 oq2 hS2 => ?_)
  replace g0 := g0.kept (oq2 _ (Nat.lt_add_of_pos_right (Nat.le_of_ble_eq_true rfl)))
  clear oq2 hz1 hS1
  replace hz2 : H2.size = a + 3 := hz2
  replace g1 : cw G (a + 1) (taV G (a + 1)) H2 := g1
  refine c_putF (C := RX10) (T := TX10) (N := 9) hx hb hts inX10 tyX10 tyX10_ok nmX10 hown hK g0 (Nat.le_refl _) hS2 rfl 0 (by decide) wF_X10_10 rfl rfl hin rfl rfl rfl (Nat.le_of_ble_eq_true rfl) dX10_init_12 (fun H3 locs hz3 g0n oq3 hS3 => ?_)
  replace hz3 : H3.size = a + 3 := hz3.trans hz2
  replace g0 : va_at G.1 vwCl (a, .inr (10, [.ref (a + 1), .null, .null, .null, .null, .null, .null, .int 0, .int 0])) H3 := g0n
  clear g0n
  replace g1 := g1.put (n := 2) rfl oq3 (Or.inl (Nat.lt_add_of_pos_right (Nat.le_of_ble_eq_true rfl)))
  clear oq3 hz2 hS2
  refine lv_aload_n hx hb dX10_init_15 rfl (lv_at hl 0 rfl) ?_
  refine c_new (ci := 5) (fs := [.null, .null, .null, .null, .null, .null, .int 0, .int 0, .int 0, .int 0, .int 0]) (C := RX5) (T := TX5) (N := 11) hx hb hts inX5 tyX5 tyX5_ok hown wK_X10_16 wIn_X5 wIz_X5 hK hS3 rfl dv_X5 hz3 (Nat.le_of_ble_eq_true rfl) (Nat.le_of_ble_eq_true rfl) dX10_init_16 (fun H4 hz4 g3 oq4 hS4 => ?_)
  replace g0 := g0.kept (oq4 _ (Nat.lt_add_of_pos_right (Nat.le_of_ble_eq_true rfl)))
  replace g1 := g1.old (n := 2) rfl oq4 (Nat.add_le_add_left (n := 3) (m := 3) (Nat.le_of_ble_eq_true rfl) a)
  clear oq4 hz3 hS3
  refine lv_dup hx hb dX10_init_19 rfl ?_
  refine c_callN (rest := [.ref (a + 3), .ref a]) (As := []) hx hb hml hown hts hK hN (fun q h => Nat.le_trans (Nat.le_add_right a _) h) hS4 (k_X5_init l G (a + 3)) hz4 g3 wd_X5_init rfl wM_X5_init hN.1.2.1 rfl hl.1 rfl (Nat.le_of_ble_eq_true rfl) dX10_init_20 ⟨Nat.le_of_ble_eq_true rfl, Nat.le_of_ble_eq_true rfl⟩ ⟨Nat.le_of_ble_eq_true rfl, Nat.le_of_ble_eq_true rfl⟩ (fun H5 locs hz5 g3 oq5 hS5 => ?_)
  replace g0 := g0.kept (oq5 _ (Nat.lt_add_of_pos_right (Nat.le_of_ble_eq_true rfl)))
  replace g1 := g1.old (n := 2) rfl oq5 (Nat.add_le_add_left (n := 3) (m := 3) (Nat.le_of_ble_eq_true rfl) a)
  clear oq5 hz4 hS4
  replace hz5 : H5.size = a + 28 := hz5
  replace g3 : cw G (a + 3) (ringV G (a + 3)) H5 := g3
  refine c_putF (C := RX10) (T := TX10) (N := 9) hx hb hts inX10 tyX10 tyX10_ok nmX10 hown hK g0 (Nat.le_refl _) hS5 rfl 1 (by decide) wF_X10_19 rfl rfl hin rfl rfl rfl (Nat.le_of_ble_eq_true rfl) dX10_init_23 (fun H6 locs hz6 g0n oq6 hS6 => ?_)
  replace hz6 : H6.size = a + 28 := hz6.trans hz5
  replace g0 : va_at G.1 vwCl (a, .inr (10, [.ref (a + 1), .ref (a + 3), .null, .null, .null, .null, .null, .int 0, .int 0])) H6 := g0n
  clear g0n
  replace g1 := g1.put (n := 2) rfl oq6 (Or.inl (Nat.lt_add_of_pos_right (Nat.le_of_ble_eq_true rfl)))
  replace g3 := g3.put (n := 25) rfl oq6 (Or.inl (Nat.lt_add_of_pos_right (Nat.le_of_ble_eq_true rfl)))
  clear oq6 hz5 hS5
  refine lv_aload_n hx hb dX10_init_26 rfl (lv_at hl 0 rfl) ?_
  refine c_new (ci := 5) (fs := [.null, .null, .null, .null, .null, .null, .int 0, .int 0, .int 0, .int 0, .int 0]) (C := RX5) (T := TX5) (N := 11) hx hb hts inX5 tyX5 tyX5_ok hown wK_X10_16 wIn_X5 wIz_X5 hK hS6 rfl dv_X5 hz6 (Nat.le_of_ble_eq_true rfl) (Nat.le_of_ble_eq_true rfl) dX10_init_27 (fun H7 hz7 g28 oq7 hS7 => ?_)
  replace g0 := g0.kept (oq7 _ (Nat.lt_add_of_pos_right (Nat.le_of_ble_eq_true rfl)))
  replace g1 := g1.old (n := 2) rfl oq7 (Nat.add_le_add_left (n := 3) (m := 28) (Nat.le_of_ble_eq_true rfl) a)
  replace g3 := g3.old (n := 25) rfl oq7 (Nat.add_le_add_left (n := 28) (m := 28) (Nat.le_of_ble_eq_true rfl) a)
  clear oq7 hz6 hS6
  refine lv_dup hx hb dX10_init_30 rfl ?_
  refine c_callN (rest := [.ref (a + 28), .ref a]) (As := []) hx hb hml hown hts hK hN (fun q h => Nat.le_trans (Nat.le_add_right a _) h) hS7 (k_X5_init l G (a + 28)) hz7 g28 wd_X5_init rfl wM_X5_init hN.1.2.1 rfl hl.1 rfl (Nat.le_of_ble_eq_true rfl) dX10_init_31 ⟨Nat.le_of_ble_eq_true rfl, Nat.le_of_ble_eq_true rfl⟩ ⟨Nat.le_of_ble_eq_true rfl, Nat.le_of_ble_eq_true rfl⟩ (fun H8 locs hz8 g28 oq8 hS8 => ?_)
  replace g0 := g0.kept (oq8 _ (Nat.lt_add_of_pos_right (Nat.le_of_ble_eq_true rfl)))
  replace g1 := g1.old (n := 2) rfl oq8 (Nat.add_le_add_left (n := 3) (m := 28) (Nat.le_of_ble_eq_true rfl) a)
  replace g3 := g3.old (n := 25) rfl oq8 (Nat.add_le_add_left (n := 28) (m := 28) (Nat.le_of_ble_eq_true rfl) a)
  clear oq8 hz7 hS7
  replace hz8 : H8.size = a + 53 := hz8
  replace g28 : cw G (a + 28) (ringV G (a + 28)) H8 := g28
  refine c_putF (C := RX10) (T := TX10) (N := 9) hx hb hts inX10 tyX10 tyX10_ok nmX10 hown hK g0 (Nat.le_refl _) hS8 rfl 2 (by decide) wF_X10_23 rfl rfl hin rfl rfl rfl (Nat.le_of_ble_eq_true rfl) dX10_init_34 (fun H9 locs hz9 g0n oq9 hS9 => ?_)
  replace hz9 : H9.size = a + 53 := hz9.trans hz8
  replace g0 : va_at G.1 vwCl (a, .inr (10, [.ref (a + 1), .ref (a + 3), .ref (a + 28), .null, .null, .null, .null, .int 0, .int 0])) H9 := g0n
  clear g0n
  replace g1 := g1.put (n := 2) rfl oq9 (Or.inl (Nat.lt_add_of_pos_right (Nat.le_of_ble_eq_true rfl)))
  replace g3 := g3.put (n := 25) rfl oq9 (Or.inl (Nat.lt_add_of_pos_right (Nat.le_of_ble_eq_true rfl)))
  replace g28 := g28.put (n := 25) rfl oq9 (Or.inl (Nat.lt_add_of_pos_right (Nat.le_of_ble_eq_true rfl)))
  clear oq9 hz8 hS8
  refine lv_aload_n hx hb dX10_init_37 rfl (lv_at hl 0 rfl) ?_
  refine c_new (ci := 1) (fs := [.null, .null, .null, .null]) (C := RX1) (T := TX1) (N := 4) hx hb hts inX1 tyX1 tyX1_ok hown wK_X10_26 wIn_X1 wIz_X1 hK hS9 rfl dv_X1 hz9 (Nat.le_of_ble_eq_true rfl) (Nat.le_of_ble_eq_true rfl) dX10_init_38 (fun H10 hz10 g53 oq10 hS10 => ?_)
  replace g0 := g0.kept (oq10 _ (Nat.lt_add_of_pos_right (Nat.le_of_ble_eq_true rfl)))
  replace g1 := g1.old (n := 2) rfl oq10 (Nat.add_le_add_left (n := 3) (m := 53) (Nat.le_of_ble_eq_true rfl) a)
  replace g3 := g3.old (n := 25) rfl oq10 (Nat.add_le_add_left (n := 28) (m := 53) (Nat.le_of_ble_eq_true rfl) a)
  replace g28 := g28.old (n := 25) rfl oq10 (Nat.add_le_add_left (n := 53) (m := 53) (Nat.le_of_ble_eq_true rfl) a)
  clear oq10 hz9 hS9
  refine lv_dup hx hb dX10_init_41 rfl ?_
  refine lv_aload_n hx hb dX10_init_42 rfl (lv_at hl 0 rfl) ?_
  refine c_get (C := RX10) (T := TX10) (N := 9) hx hb hts inX10 hown hK g0 rfl 1 (by decide) wF_X10_19 rfl rfl dX10_init_43 ?_
  refine lv_aload_n hx hb dX10_init_46 rfl (lv_at hl 0 rfl) ?_
  refine c_get (C := RX10) (T := TX10) (N := 9) hx hb hts inX10 hown hK g0 rfl 2 (by decide) wF_X10_23 rfl rfl dX10_init_47 ?_
  refine c_callI (rest := [.ref (a + 53), .ref a]) (As := [.ref (a + 3), .ref (a + 28)]) hx hb hml hown hts hK hN (fun q h => Nat.le_trans (Nat.le_add_right a _) h) hS10 (k_X1_init l G (a + 53) (a + 3) (a + 28)) hz10 g53 wd_X1_init rfl wM_X1_init wL_X10_28 rfl hl.1 rfl (Nat.le_of_ble_eq_true rfl) dX10_init_50 ⟨Nat.le_of_ble_eq_true rfl, Nat.le_of_ble_eq_true rfl⟩ ⟨Nat.le_of_ble_eq_true rfl, Nat.le_of_ble_eq_true rfl⟩ (fun H11 locs hz11 g53 oq11 hS11 => ?_)
  replace g0 := g0.kept (oq11 _ (Nat.lt_add_of_pos_right (Nat.le_of_ble_eq_true rfl)))
  replace g1 := g1.old (n := 2) rfl oq11 (Nat.add_le_add_left (n := 3) (m := 53) (Nat.le_of_ble_eq_true rfl) a)
  replace g3 := g3.old (n := 25) rfl oq11 (Nat.add_le_add_left (n := 28) (m := 53) (Nat.le_of_ble_eq_true rfl) a)
  replace g28 := g28.old (n := 25) rfl oq11 (Nat.add_le_add_left (n := 53) (m := 53) (Nat.le_of_ble_eq_true rfl) a)
  clear oq11 hz10 hS10
  replace hz11 : H11.size = a + 56 := hz11
  replace g53 : cw G (a + 53) (paV G (a + 53) (a + 3) (a + 28)) H11 := g53
  refine c_putF (C := RX10) (T := TX10) (N := 9) hx hb hts inX10 tyX10 tyX10_ok nmX10 hown hK g0 (Nat.le_refl _) hS11 rfl 3 (by decide) wF_X10_31 rfl rfl hin rfl rfl rfl (Nat.le_of_ble_eq_true rfl) dX10_init_53 (fun H12 locs hz12 g0n oq12 hS12 => ?_)
  replace hz12 : H12.size = a + 56 := hz12.trans hz11
  replace g0 : va_at G.1 vwCl (a, .inr (10, [.ref (a + 1), .ref (a + 3), .ref (a + 28), .ref (a + 53), .null, .null, .null, .int 0, .int 0])) H12 := g0n
  clear g0n
  replace g1 := g1.put (n := 2) rfl oq12 (Or.inl (Nat.lt_add_of_pos_right (Nat.le_of_ble_eq_true rfl)))
  replace g3 := g3.put (n := 25) rfl oq12 (Or.inl (Nat.lt_add_of_pos_right (Nat.le_of_ble_eq_true rfl)))
  replace g28 := g28.put (n := 25) rfl oq12 (Or.inl (Nat.lt_add_of_pos_right (Nat.le_of_ble_eq_true rfl)))
  replace g53 := g53.put (n := 3) rfl oq12 (Or.inl (Nat.lt_add_of_pos_right (Nat.le_of_ble_eq_true rfl)))
  clear oq12 hz11 hS11
  refine lv_aload_n hx hb dX10_init_56 rfl (lv_at hl 0 rfl) ?_
  refine c_new (ci := 4) (fs := [.null, .null, .null, .null, .int 0, .int 0, .int 0, .int 0, .int 0, .int 0, .int 0, .int 0, .int 0]) (C := RX4) (T := TX4) (N := 13) hx hb hts inX4 tyX4 tyX4_ok hown wK_X10_35 wIn_X4 wIz_X4 hK hS12 rfl dv_X4 hz12 (Nat.le_of_ble_eq_true rfl) (Nat.le_of_ble_eq_true rfl) dX10_init_57 (fun H13 hz13 g56 oq13 hS13 => ?_)
  replace g0 := g0.kept (oq13 _ (Nat.lt_add_of_pos_right (Nat.le_of_ble_eq_true rfl)))
  replace g1 := g1.old (n := 2) rfl oq13 (Nat.add_le_add_left (n := 3) (m := 56) (Nat.le_of_ble_eq_true rfl) a)
  replace g3 := g3.old (n := 25) rfl oq13 (Nat.add_le_add_left (n := 28) (m := 56) (Nat.le_of_ble_eq_true rfl) a)
  replace g28 := g28.old (n := 25) rfl oq13 (Nat.add_le_add_left (n := 53) (m := 56) (Nat.le_of_ble_eq_true rfl) a)
  replace g53 := g53.old (n := 3) rfl oq13 (Nat.add_le_add_left (n := 56) (m := 56) (Nat.le_of_ble_eq_true rfl) a)
  clear oq13 hz12 hS12
  refine lv_dup hx hb dX10_init_60 rfl ?_
  refine lv_aload_n hx hb dX10_init_61 rfl (lv_at hl 0 rfl) ?_
  refine c_get (C := RX10) (T := TX10) (N := 9) hx hb hts inX10 hown hK g0 rfl 0 (by decide) wF_X10_10 rfl rfl dX10_init_62 ?_
  refine lv_aload_n hx hb dX10_init_65 rfl (lv_at hl 0 rfl) ?_
  refine c_get (C := RX10) (T := TX10) (N := 9) hx hb hts inX10 hown hK g0 rfl 2 (by decide) wF_X10_23 rfl rfl dX10_init_66 ?_
  refine c_callI (rest := [.ref (a + 56), .ref a]) (As := [.ref (a + 1), .ref (a + 28)]) hx hb hml hown hts hK hN (fun q h => Nat.le_trans (Nat.le_add_right a _) h) hS13 (k_X4_init l G (a + 56) (a + 1) (a + 28)) hz13 g56 wd_X4_init rfl wM_X4_init wL_X10_37 rfl hl.1 rfl (Nat.le_of_ble_eq_true rfl) dX10_init_69 ⟨Nat.le_of_ble_eq_true rfl, Nat.le_of_ble_eq_true rfl⟩ ⟨Nat.le_of_ble_eq_true rfl, Nat.le_of_ble_eq_true rfl⟩ (fun H14 locs hz14 g56 oq14 hS14 => ?_)
  replace g0 := g0.kept (oq14 _ (Nat.lt_add_of_pos_right (Nat.le_of_ble_eq_true rfl)))
  replace g1 := g1.old (n := 2) rfl oq14 (Nat.add_le_add_left (n := 3) (m := 56) (Nat.le_of_ble_eq_true rfl) a)
  replace g3 := g3.old (n := 25) rfl oq14 (Nat.add_le_add_left (n := 28) (m := 56) (Nat.le_of_ble_eq_true rfl) a)
  replace g28 := g28.old (n := 25) rfl oq14 (Nat.add_le_add_left (n := 53) (m := 56) (Nat.le_of_ble_eq_true rfl) a)
  replace g53 := g53.old (n := 3) rfl oq14 (Nat.add_le_add_left (n := 56) (m := 56) (Nat.le_of_ble_eq_true rfl) a)
  clear oq14 hz13 hS13
  replace hz14 : H14.size = a + 59 := hz14
  replace g56 : cw G (a + 56) (reV G (a + 56) (a + 1) (a + 28)) H14 := g56
  refine c_putF (C := RX10) (T := TX10) (N := 9) hx hb hts inX10 tyX10 tyX10_ok nmX10 hown hK g0 (Nat.le_refl _) hS14 rfl 4 (by decide) wF_X10_40 rfl rfl hin rfl rfl rfl (Nat.le_of_ble_eq_true rfl) dX10_init_72 (fun H15 locs hz15 g0n oq15 hS15 => ?_)
  replace hz15 : H15.size = a + 59 := hz15.trans hz14
  replace g0 : va_at G.1 vwCl (a, .inr (10, [.ref (a + 1), .ref (a + 3), .ref (a + 28), .ref (a + 53), .ref (a + 56), .null, .null, .int 0, .int 0])) H15 := g0n
  clear g0n
  replace g1 := g1.put (n := 2) rfl oq15 (Or.inl (Nat.lt_add_of_pos_right (Nat.le_of_ble_eq_true rfl)))
  replace g3 := g3.put (n := 25) rfl oq15 (Or.inl (Nat.lt_add_of_pos_right (Nat.le_of_ble_eq_true rfl)))
  replace g28 := g28.put (n := 25) rfl oq15 (Or.inl (Nat.lt_add_of_pos_right (Nat.le_of_ble_eq_true rfl)))
  replace g53 := g53.put (n := 3) rfl oq15 (Or.inl (Nat.lt_add_of_pos_right (Nat.le_of_ble_eq_true rfl)))
  replace g56 := g56.put (n := 3) rfl oq15 (Or.inl (Nat.lt_add_of_pos_right (Nat.le_of_ble_eq_true rfl)))
  clear oq15 hz14 hS14
  refine lv_aload_n hx hb dX10_init_75 rfl (lv_at hl 0 rfl) ?_
  refine lv_iconst (v := 4) hx hb dX10_init_76 (by decide) ?_
  refine c_newq (N := 4) hx hb hts hown wK_X10_16 hN.2.1 4 (by decide) rfl hK hS15 (by decide) (by decide) (Nat.le_of_ble_eq_true rfl) hz15 (Nat.le_of_ble_eq_true rfl) (Nat.le_of_ble_eq_true rfl) dX10_init_77 (fun H16 hz16 g59 oq16 hS16 => ?_)
  replace g0 := g0.kept (oq16 _ (Nat.lt_add_of_pos_right (Nat.le_of_ble_eq_true rfl)))
  replace g1 := g1.old (n := 2) rfl oq16 (Nat.add_le_add_left (n := 3) (m := 59) (Nat.le_of_ble_eq_true rfl) a)
  replace g3 := g3.old (n := 25) rfl oq16 (Nat.add_le_add_left (n := 28) (m := 59) (Nat.le_of_ble_eq_true rfl) a)
  replace g28 := g28.old (n := 25) rfl oq16 (Nat.add_le_add_left (n := 53) (m := 59) (Nat.le_of_ble_eq_true rfl) a)
  replace g53 := g53.old (n := 3) rfl oq16 (Nat.add_le_add_left (n := 56) (m := 59) (Nat.le_of_ble_eq_true rfl) a)
  replace g56 := g56.old (n := 3) rfl oq16 (Nat.add_le_add_left (n := 59) (m := 59) (Nat.le_of_ble_eq_true rfl) a)
  clear oq16 hz15 hS15
  refine c_putF (C := RX10) (T := TX10) (N := 9) hx hb hts inX10 tyX10 tyX10_ok nmX10 hown hK g0 (Nat.le_refl _) hS16 rfl 5 (by decide) wF_X10_44 rfl rfl hin rfl rfl rfl (Nat.le_of_ble_eq_true rfl) dX10_init_80 (fun H17 locs hz17 g0n oq17 hS17 => ?_)
  replace hz17 : H17.size = a + 60 := hz17.trans hz16
  replace g0 : va_at G.1 vwCl (a, .inr (10, [.ref (a + 1), .ref (a + 3), .ref (a + 28), .ref (a + 53), .ref (a + 56), .ref (a + 59), .null, .int 0, .int 0])) H17 := g0n
  clear g0n
  replace g1 := g1.put (n := 2) rfl oq17 (Or.inl (Nat.lt_add_of_pos_right (Nat.le_of_ble_eq_true rfl)))
  replace g3 := g3.put (n := 25) rfl oq17 (Or.inl (Nat.lt_add_of_pos_right (Nat.le_of_ble_eq_true rfl)))
  replace g28 := g28.put (n := 25) rfl oq17 (Or.inl (Nat.lt_add_of_pos_right (Nat.le_of_ble_eq_true rfl)))
  replace g53 := g53.put (n := 3) rfl oq17 (Or.inl (Nat.lt_add_of_pos_right (Nat.le_of_ble_eq_true rfl)))
  replace g56 := g56.put (n := 3) rfl oq17 (Or.inl (Nat.lt_add_of_pos_right (Nat.le_of_ble_eq_true rfl)))
  replace g59 := g59.kept (oq17 _ (Nat.ne_of_gt (Nat.lt_add_of_pos_right (Nat.le_of_ble_eq_true rfl))))
  clear oq17 hz16 hS16
  refine lv_aload_n hx hb dX10_init_83 rfl (lv_at hl 0 rfl) ?_
  refine lv_iconst (v := 4) hx hb dX10_init_84 (by decide) ?_
  refine c_newq (N := 4) hx hb hts hown wK_X10_7 hN.2.2 5 (by decide) rfl hK hS17 (by decide) (by decide) (Nat.le_of_ble_eq_true rfl) hz17 (Nat.le_of_ble_eq_true rfl) (Nat.le_of_ble_eq_true rfl) dX10_init_85 (fun H18 hz18 g60 oq18 hS18 => ?_)
  replace g0 := g0.kept (oq18 _ (Nat.lt_add_of_pos_right (Nat.le_of_ble_eq_true rfl)))
  replace g1 := g1.old (n := 2) rfl oq18 (Nat.add_le_add_left (n := 3) (m := 60) (Nat.le_of_ble_eq_true rfl) a)
  replace g3 := g3.old (n := 25) rfl oq18 (Nat.add_le_add_left (n := 28) (m := 60) (Nat.le_of_ble_eq_true rfl) a)
  replace g28 := g28.old (n := 25) rfl oq18 (Nat.add_le_add_left (n := 53) (m := 60) (Nat.le_of_ble_eq_true rfl) a)
  replace g53 := g53.old (n := 3) rfl oq18 (Nat.add_le_add_left (n := 56) (m := 60) (Nat.le_of_ble_eq_true rfl) a)
  replace g56 := g56.old (n := 3) rfl oq18 (Nat.add_le_add_left (n := 59) (m := 60) (Nat.le_of_ble_eq_true rfl) a)
  replace g59 := g59.kept (oq18 _ (Nat.add_lt_add_left (n := 59) (m := 60) (Nat.le_of_ble_eq_true rfl) a))
  clear oq18 hz17 hS17
  refine c_putF (C := RX10) (T := TX10) (N := 9) hx hb hts inX10 tyX10 tyX10_ok nmX10 hown hK g0 (Nat.le_refl _) hS18 rfl 6 (by decide) wF_X10_48 rfl rfl hin rfl rfl rfl (Nat.le_of_ble_eq_true rfl) dX10_init_88 (fun H19 locs hz19 g0n oq19 hS19 => ?_)
  replace hz19 : H19.size = a + 61 := hz19.trans hz18
  replace g0 : va_at G.1 vwCl (a, .inr (10, [.ref (a + 1), .ref (a + 3), .ref (a + 28), .ref (a + 53), .ref (a + 56), .ref (a + 59), .ref (a + 60), .int 0, .int 0])) H19 := g0n
  clear g0n
  replace g1 := g1.put (n := 2) rfl oq19 (Or.inl (Nat.lt_add_of_pos_right (Nat.le_of_ble_eq_true rfl)))
  replace g3 := g3.put (n := 25) rfl oq19 (Or.inl (Nat.lt_add_of_pos_right (Nat.le_of_ble_eq_true rfl)))
  replace g28 := g28.put (n := 25) rfl oq19 (Or.inl (Nat.lt_add_of_pos_right (Nat.le_of_ble_eq_true rfl)))
  replace g53 := g53.put (n := 3) rfl oq19 (Or.inl (Nat.lt_add_of_pos_right (Nat.le_of_ble_eq_true rfl)))
  replace g56 := g56.put (n := 3) rfl oq19 (Or.inl (Nat.lt_add_of_pos_right (Nat.le_of_ble_eq_true rfl)))
  replace g59 := g59.kept (oq19 _ (Nat.ne_of_gt (Nat.lt_add_of_pos_right (Nat.le_of_ble_eq_true rfl))))
  replace g60 := g60.kept (oq19 _ (Nat.ne_of_gt (Nat.lt_add_of_pos_right (Nat.le_of_ble_eq_true rfl))))
  clear oq19 hz18 hS18
  refine lv_iconst (v := 0) hx hb dX10_init_91 (by decide) ?_
  refine lv_istore_n (lv' := [(1, .int 0), (0, .ref a)]) hx hb dX10_init_92 rfl hl (by decide) rfl (fun ls hl => ?_)
  refine lv_iload_n hx hb dX10_init_93 rfl (lv_at hl 0 rfl) ?_
  refine lv_iconst (v := 4) hx hb dX10_init_94 (by decide) ?_
  refine lv_icmp_ge (tgt := 130) hx hb dX10_init_95 (by decide) (fun h => absurd h (by decide)) (fun _ => ?_)
  refine lv_aload_n hx hb dX10_init_98 rfl (lv_at hl 1 rfl) ?_
  refine c_get (C := RX10) (T := TX10) (N := 9) hx hb hts inX10 hown hK g0 rfl 5 (by decide) wF_X10_44 rfl rfl dX10_init_99 ?_
  refine lv_iload_n hx hb dX10_init_102 rfl (lv_at hl 0 rfl) ?_
  refine c_new (ci := 5) (fs := [.null, .null, .null, .null, .null, .null, .int 0, .int 0, .int 0, .int 0, .int 0]) (C := RX5) (T := TX5) (N := 11) hx hb hts inX5 tyX5 tyX5_ok hown wK_X10_16 wIn_X5 wIz_X5 hK hS19 rfl dv_X5 hz19 (Nat.le_of_ble_eq_true rfl) (Nat.le_of_ble_eq_true rfl) dX10_init_103 (fun H20 hz20 g61 oq20 hS20 => ?_)
  replace g0 := g0.kept (oq20 _ (Nat.lt_add_of_pos_right (Nat.le_of_ble_eq_true rfl)))
  replace g1 := g1.old (n := 2) rfl oq20 (Nat.add_le_add_left (n := 3) (m := 61) (Nat.le_of_ble_eq_true rfl) a)
  replace g3 := g3.old (n := 25) rfl oq20 (Nat.add_le_add_left (n := 28) (m := 61) (Nat.le_of_ble_eq_true rfl) a)
  replace g28 := g28.old (n := 25) rfl oq20 (Nat.add_le_add_left (n := 53) (m := 61) (Nat.le_of_ble_eq_true rfl) a)
  replace g53 := g53.old (n := 3) rfl oq20 (Nat.add_le_add_left (n := 56) (m := 61) (Nat.le_of_ble_eq_true rfl) a)
  replace g56 := g56.old (n := 3) rfl oq20 (Nat.add_le_add_left (n := 59) (m := 61) (Nat.le_of_ble_eq_true rfl) a)
  replace g59 := g59.kept (oq20 _ (Nat.add_lt_add_left (n := 59) (m := 61) (Nat.le_of_ble_eq_true rfl) a))
  replace g60 := g60.kept (oq20 _ (Nat.add_lt_add_left (n := 60) (m := 61) (Nat.le_of_ble_eq_true rfl) a))
  clear oq20 hz19 hS19
  refine lv_dup hx hb dX10_init_106 rfl ?_
  refine c_callN (rest := [.ref (a + 61), .int 0, .ref (a + 59)]) (As := []) hx hb hml hown hts hK hN (fun q h => Nat.le_trans (Nat.le_add_right a _) h) hS20 (k_X5_init l G (a + 61)) hz20 g61 wd_X5_init rfl wM_X5_init hN.1.2.1 rfl hl.1 rfl (Nat.le_of_ble_eq_true rfl) dX10_init_107 ⟨Nat.le_of_ble_eq_true rfl, Nat.le_of_ble_eq_true rfl⟩ ⟨Nat.le_of_ble_eq_true rfl, Nat.le_of_ble_eq_true rfl⟩ (fun H21 locs hz21 g61 oq21 hS21 => ?_)
  replace g0 := g0.kept (oq21 _ (Nat.lt_add_of_pos_right (Nat.le_of_ble_eq_true rfl)))
  replace g1 := g1.old (n := 2) rfl oq21 (Nat.add_le_add_left (n := 3) (m := 61) (Nat.le_of_ble_eq_true rfl) a)
  replace g3 := g3.old (n := 25) rfl oq21 (Nat.add_le_add_left (n := 28) (m := 61) (Nat.le_of_ble_eq_true rfl) a)
  replace g28 := g28.old (n := 25) rfl oq21 (Nat.add_le_add_left (n := 53) (m := 61) (Nat.le_of_ble_eq_true rfl) a)
  replace g53 := g53.old (n := 3) rfl oq21 (Nat.add_le_add_left (n := 56) (m := 61) (Nat.le_of_ble_eq_true rfl) a)
  replace g56 := g56.old (n := 3) rfl oq21 (Nat.add_le_add_left (n := 59) (m := 61) (Nat.le_of_ble_eq_true rfl) a)
  replace g59 := g59.kept (oq21 _ (Nat.add_lt_add_left (n := 59) (m := 61) (Nat.le_of_ble_eq_true rfl) a))
  replace g60 := g60.kept (oq21 _ (Nat.add_lt_add_left (n := 60) (m := 61) (Nat.le_of_ble_eq_true rfl) a))
  clear oq21 hz20 hS20
  replace hz21 : H21.size = a + 86 := hz21
  replace g61 : cw G (a + 61) (ringV G (a + 61)) H21 := g61
  refine c_aast hx hb hK (by decide) g59 (Nat.le_add_right a _) hS21 ((show cw G (a + 61) (_ :: _) H21 from g61).hd) (r := (RX5, TX5, 11)) rfl rfl (h_inc (by decide)) dX10_init_110 (fun H22 locs hz22 g59n oq22 hS22 => ?_)
  replace hz22 : H22.size = a + 86 := hz22.trans hz21
  rw [show (0 : Int32).toNatClampNeg = 0 from by decide] at g59n
  replace g59 : va_at G.1 vwCl (a + 59, .inl (G.2.1 4, 4, .inr (.inr (.inr (.inr (va_up (fun _ => none) 0 (some (a + 61)))))))) H22 := g59n
  clear g59n
  replace g0 := g0.kept (oq22 _ (Nat.ne_of_lt (Nat.lt_add_of_pos_right (Nat.le_of_ble_eq_true rfl))))
  replace g1 := g1.put (n := 2) rfl oq22 (Or.inr (Nat.add_le_add_left (n := 3) (m := 59) (Nat.le_of_ble_eq_true rfl) a))
  replace g3 := g3.put (n := 25) rfl oq22 (Or.inr (Nat.add_le_add_left (n := 28) (m := 59) (Nat.le_of_ble_eq_true rfl) a))
  replace g28 := g28.put (n := 25) rfl oq22 (Or.inr (Nat.add_le_add_left (n := 53) (m := 59) (Nat.le_of_ble_eq_true rfl) a))
  replace g53 := g53.put (n := 3) rfl oq22 (Or.inr (Nat.add_le_add_left (n := 56) (m := 59) (Nat.le_of_ble_eq_true rfl) a))
  replace g56 := g56.put (n := 3) rfl oq22 (Or.inr (Nat.add_le_add_left (n := 59) (m := 59) (Nat.le_of_ble_eq_true rfl) a))
  replace g60 := g60.kept (oq22 _ (Nat.ne_of_gt (Nat.add_lt_add_left (n := 59) (m := 60) (Nat.le_of_ble_eq_true rfl) a)))
  replace g61 := g61.put (n := 25) rfl oq22 (Or.inl (Nat.add_lt_add_left (n := 59) (m := 61) (Nat.le_of_ble_eq_true rfl) a))
  clear oq22 hz21 hS21
  refine lv_aload_n hx hb dX10_init_111 rfl (lv_at hl 1 rfl) ?_
  refine c_get (C := RX10) (T := TX10) (N := 9) hx hb hts inX10 hown hK g0 rfl 6 (by decide) wF_X10_48 rfl rfl dX10_init_112 ?_
  refine lv_iload_n hx hb dX10_init_115 rfl (lv_at hl 0 rfl) ?_
  refine c_new (ci := 8) (fs := [.null, .int 0, .int 0, .int 0]) (C := RX8) (T := TX8) (N := 4) hx hb hts inX8 tyX8 tyX8_ok hown wK_X10_7 wIn_X8 wIz_X8 hK hS22 rfl dv_X8 hz22 (Nat.le_of_ble_eq_true rfl) (Nat.le_of_ble_eq_true rfl) dX10_init_116 (fun H23 hz23 g86 oq23 hS23 => ?_)
  replace g0 := g0.kept (oq23 _ (Nat.lt_add_of_pos_right (Nat.le_of_ble_eq_true rfl)))
  replace g1 := g1.old (n := 2) rfl oq23 (Nat.add_le_add_left (n := 3) (m := 86) (Nat.le_of_ble_eq_true rfl) a)
  replace g3 := g3.old (n := 25) rfl oq23 (Nat.add_le_add_left (n := 28) (m := 86) (Nat.le_of_ble_eq_true rfl) a)
  replace g28 := g28.old (n := 25) rfl oq23 (Nat.add_le_add_left (n := 53) (m := 86) (Nat.le_of_ble_eq_true rfl) a)
  replace g53 := g53.old (n := 3) rfl oq23 (Nat.add_le_add_left (n := 56) (m := 86) (Nat.le_of_ble_eq_true rfl) a)
  replace g56 := g56.old (n := 3) rfl oq23 (Nat.add_le_add_left (n := 59) (m := 86) (Nat.le_of_ble_eq_true rfl) a)
  replace g59 := g59.kept (oq23 _ (Nat.add_lt_add_left (n := 59) (m := 86) (Nat.le_of_ble_eq_true rfl) a))
  replace g60 := g60.kept (oq23 _ (Nat.add_lt_add_left (n := 60) (m := 86) (Nat.le_of_ble_eq_true rfl) a))
  replace g61 := g61.old (n := 25) rfl oq23 (Nat.add_le_add_left (n := 86) (m := 86) (Nat.le_of_ble_eq_true rfl) a)
  clear oq23 hz22 hS22
  refine lv_dup hx hb dX10_init_119 rfl ?_
  refine c_callN (rest := [.ref (a + 86), .int 0, .ref (a + 60)]) (As := []) hx hb hml hown hts hK hN (fun q h => Nat.le_trans (Nat.le_add_right a _) h) hS23 (k_X8_init l G (a + 86)) hz23 g86 wd_X8_init rfl wM_X8_init hN.1.1 rfl hl.1 rfl (Nat.le_of_ble_eq_true rfl) dX10_init_120 ⟨Nat.le_of_ble_eq_true rfl, Nat.le_of_ble_eq_true rfl⟩ ⟨Nat.le_of_ble_eq_true rfl, Nat.le_of_ble_eq_true rfl⟩ (fun H24 locs hz24 g86 oq24 hS24 => ?_)
  replace g0 := g0.kept (oq24 _ (Nat.lt_add_of_pos_right (Nat.le_of_ble_eq_true rfl)))
  replace g1 := g1.old (n := 2) rfl oq24 (Nat.add_le_add_left (n := 3) (m := 86) (Nat.le_of_ble_eq_true rfl) a)
  replace g3 := g3.old (n := 25) rfl oq24 (Nat.add_le_add_left (n := 28) (m := 86) (Nat.le_of_ble_eq_true rfl) a)
  replace g28 := g28.old (n := 25) rfl oq24 (Nat.add_le_add_left (n := 53) (m := 86) (Nat.le_of_ble_eq_true rfl) a)
  replace g53 := g53.old (n := 3) rfl oq24 (Nat.add_le_add_left (n := 56) (m := 86) (Nat.le_of_ble_eq_true rfl) a)
  replace g56 := g56.old (n := 3) rfl oq24 (Nat.add_le_add_left (n := 59) (m := 86) (Nat.le_of_ble_eq_true rfl) a)
  replace g59 := g59.kept (oq24 _ (Nat.add_lt_add_left (n := 59) (m := 86) (Nat.le_of_ble_eq_true rfl) a))
  replace g60 := g60.kept (oq24 _ (Nat.add_lt_add_left (n := 60) (m := 86) (Nat.le_of_ble_eq_true rfl) a))
  replace g61 := g61.old (n := 25) rfl oq24 (Nat.add_le_add_left (n := 86) (m := 86) (Nat.le_of_ble_eq_true rfl) a)
  clear oq24 hz23 hS23
  replace hz24 : H24.size = a + 88 := hz24
  replace g86 : cw G (a + 86) (taV G (a + 86)) H24 := g86
  refine c_aast hx hb hK (by decide) g60 (Nat.le_add_right a _) hS24 ((show cw G (a + 86) (_ :: _) H24 from g86).hd) (r := (RX8, TX8, 4)) rfl rfl (h_inc (by decide)) dX10_init_123 (fun H25 locs hz25 g60n oq25 hS25 => ?_)
  replace hz25 : H25.size = a + 88 := hz25.trans hz24
  rw [show (0 : Int32).toNatClampNeg = 0 from by decide] at g60n
  replace g60 : va_at G.1 vwCl (a + 60, .inl (G.2.1 5, 4, .inr (.inr (.inr (.inr (va_up (fun _ => none) 0 (some (a + 86)))))))) H25 := g60n
  clear g60n
  replace g0 := g0.kept (oq25 _ (Nat.ne_of_lt (Nat.lt_add_of_pos_right (Nat.le_of_ble_eq_true rfl))))
  replace g1 := g1.put (n := 2) rfl oq25 (Or.inr (Nat.add_le_add_left (n := 3) (m := 60) (Nat.le_of_ble_eq_true rfl) a))
  replace g3 := g3.put (n := 25) rfl oq25 (Or.inr (Nat.add_le_add_left (n := 28) (m := 60) (Nat.le_of_ble_eq_true rfl) a))
  replace g28 := g28.put (n := 25) rfl oq25 (Or.inr (Nat.add_le_add_left (n := 53) (m := 60) (Nat.le_of_ble_eq_true rfl) a))
  replace g53 := g53.put (n := 3) rfl oq25 (Or.inr (Nat.add_le_add_left (n := 56) (m := 60) (Nat.le_of_ble_eq_true rfl) a))
  replace g56 := g56.put (n := 3) rfl oq25 (Or.inr (Nat.add_le_add_left (n := 59) (m := 60) (Nat.le_of_ble_eq_true rfl) a))
  replace g59 := g59.kept (oq25 _ (Nat.ne_of_lt (Nat.add_lt_add_left (n := 59) (m := 60) (Nat.le_of_ble_eq_true rfl) a)))
  replace g61 := g61.put (n := 25) rfl oq25 (Or.inl (Nat.add_lt_add_left (n := 60) (m := 61) (Nat.le_of_ble_eq_true rfl) a))
  replace g86 := g86.put (n := 2) rfl oq25 (Or.inl (Nat.add_lt_add_left (n := 60) (m := 86) (Nat.le_of_ble_eq_true rfl) a))
  clear oq25 hz24 hS24
  refine lv_iinc (v := 1) (lv' := [(1, .int 1), (0, .ref a)]) hx hb dX10_init_124 hl (k := 0) rfl (by decide) (by decide) rfl (fun ls hl => ?_)
  refine lv_goto (tgt := 93) hx hb dX10_init_127 (by decide) ?_
  refine lv_iload_n hx hb dX10_init_93 rfl (lv_at hl 0 rfl) ?_
  refine lv_iconst (v := 4) hx hb dX10_init_94 (by decide) ?_
  refine lv_icmp_ge (tgt := 130) hx hb dX10_init_95 (by decide) (fun h => absurd h (by decide)) (fun _ => ?_)
  refine lv_aload_n hx hb dX10_init_98 rfl (lv_at hl 1 rfl) ?_
  refine c_get (C := RX10) (T := TX10) (N := 9) hx hb hts inX10 hown hK g0 rfl 5 (by decide) wF_X10_44 rfl rfl dX10_init_99 ?_
  refine lv_iload_n hx hb dX10_init_102 rfl (lv_at hl 0 rfl) ?_
  refine c_new (ci := 5) (fs := [.null, .null, .null, .null, .null, .null, .int 0, .int 0, .int 0, .int 0, .int 0]) (C := RX5) (T := TX5) (N := 11) hx hb hts inX5 tyX5 tyX5_ok hown wK_X10_16 wIn_X5 wIz_X5 hK hS25 rfl dv_X5 hz25 (Nat.le_of_ble_eq_true rfl) (Nat.le_of_ble_eq_true rfl) dX10_init_103 (fun H26 hz26 g88 oq26 hS26 => ?_)
  replace g0 := g0.kept (oq26 _ (Nat.lt_add_of_pos_right (Nat.le_of_ble_eq_true rfl)))
  replace g1 := g1.old (n := 2) rfl oq26 (Nat.add_le_add_left (n := 3) (m := 88) (Nat.le_of_ble_eq_true rfl) a)
  replace g3 := g3.old (n := 25) rfl oq26 (Nat.add_le_add_left (n := 28) (m := 88) (Nat.le_of_ble_eq_true rfl) a)
  replace g28 := g28.old (n := 25) rfl oq26 (Nat.add_le_add_left (n := 53) (m := 88) (Nat.le_of_ble_eq_true rfl) a)
  replace g53 := g53.old (n := 3) rfl oq26 (Nat.add_le_add_left (n := 56) (m := 88) (Nat.le_of_ble_eq_true rfl) a)
  replace g56 := g56.old (n := 3) rfl oq26 (Nat.add_le_add_left (n := 59) (m := 88) (Nat.le_of_ble_eq_true rfl) a)
  replace g59 := g59.kept (oq26 _ (Nat.add_lt_add_left (n := 59) (m := 88) (Nat.le_of_ble_eq_true rfl) a))
  replace g60 := g60.kept (oq26 _ (Nat.add_lt_add_left (n := 60) (m := 88) (Nat.le_of_ble_eq_true rfl) a))
  replace g61 := g61.old (n := 25) rfl oq26 (Nat.add_le_add_left (n := 86) (m := 88) (Nat.le_of_ble_eq_true rfl) a)
  replace g86 := g86.old (n := 2) rfl oq26 (Nat.add_le_add_left (n := 88) (m := 88) (Nat.le_of_ble_eq_true rfl) a)
  clear oq26 hz25 hS25
  refine lv_dup hx hb dX10_init_106 rfl ?_
  refine c_callN (rest := [.ref (a + 88), .int 1, .ref (a + 59)]) (As := []) hx hb hml hown hts hK hN (fun q h => Nat.le_trans (Nat.le_add_right a _) h) hS26 (k_X5_init l G (a + 88)) hz26 g88 wd_X5_init rfl wM_X5_init hN.1.2.1 rfl hl.1 rfl (Nat.le_of_ble_eq_true rfl) dX10_init_107 ⟨Nat.le_of_ble_eq_true rfl, Nat.le_of_ble_eq_true rfl⟩ ⟨Nat.le_of_ble_eq_true rfl, Nat.le_of_ble_eq_true rfl⟩ (fun H27 locs hz27 g88 oq27 hS27 => ?_)
  replace g0 := g0.kept (oq27 _ (Nat.lt_add_of_pos_right (Nat.le_of_ble_eq_true rfl)))
  replace g1 := g1.old (n := 2) rfl oq27 (Nat.add_le_add_left (n := 3) (m := 88) (Nat.le_of_ble_eq_true rfl) a)
  replace g3 := g3.old (n := 25) rfl oq27 (Nat.add_le_add_left (n := 28) (m := 88) (Nat.le_of_ble_eq_true rfl) a)
  replace g28 := g28.old (n := 25) rfl oq27 (Nat.add_le_add_left (n := 53) (m := 88) (Nat.le_of_ble_eq_true rfl) a)
  replace g53 := g53.old (n := 3) rfl oq27 (Nat.add_le_add_left (n := 56) (m := 88) (Nat.le_of_ble_eq_true rfl) a)
  replace g56 := g56.old (n := 3) rfl oq27 (Nat.add_le_add_left (n := 59) (m := 88) (Nat.le_of_ble_eq_true rfl) a)
  replace g59 := g59.kept (oq27 _ (Nat.add_lt_add_left (n := 59) (m := 88) (Nat.le_of_ble_eq_true rfl) a))
  replace g60 := g60.kept (oq27 _ (Nat.add_lt_add_left (n := 60) (m := 88) (Nat.le_of_ble_eq_true rfl) a))
  replace g61 := g61.old (n := 25) rfl oq27 (Nat.add_le_add_left (n := 86) (m := 88) (Nat.le_of_ble_eq_true rfl) a)
  replace g86 := g86.old (n := 2) rfl oq27 (Nat.add_le_add_left (n := 88) (m := 88) (Nat.le_of_ble_eq_true rfl) a)
  clear oq27 hz26 hS26
  replace hz27 : H27.size = a + 113 := hz27
  replace g88 : cw G (a + 88) (ringV G (a + 88)) H27 := g88
  refine c_aast hx hb hK (by decide) g59 (Nat.le_add_right a _) hS27 ((show cw G (a + 88) (_ :: _) H27 from g88).hd) (r := (RX5, TX5, 11)) rfl rfl (h_inc (by decide)) dX10_init_110 (fun H28 locs hz28 g59n oq28 hS28 => ?_)
  replace hz28 : H28.size = a + 113 := hz28.trans hz27
  rw [show (1 : Int32).toNatClampNeg = 1 from by decide] at g59n
  replace g59 : va_at G.1 vwCl (a + 59, .inl (G.2.1 4, 4, .inr (.inr (.inr (.inr (va_up (va_up (fun _ => none) 0 (some (a + 61))) 1 (some (a + 88)))))))) H28 := g59n
  clear g59n
  replace g0 := g0.kept (oq28 _ (Nat.ne_of_lt (Nat.lt_add_of_pos_right (Nat.le_of_ble_eq_true rfl))))
  replace g1 := g1.put (n := 2) rfl oq28 (Or.inr (Nat.add_le_add_left (n := 3) (m := 59) (Nat.le_of_ble_eq_true rfl) a))
  replace g3 := g3.put (n := 25) rfl oq28 (Or.inr (Nat.add_le_add_left (n := 28) (m := 59) (Nat.le_of_ble_eq_true rfl) a))
  replace g28 := g28.put (n := 25) rfl oq28 (Or.inr (Nat.add_le_add_left (n := 53) (m := 59) (Nat.le_of_ble_eq_true rfl) a))
  replace g53 := g53.put (n := 3) rfl oq28 (Or.inr (Nat.add_le_add_left (n := 56) (m := 59) (Nat.le_of_ble_eq_true rfl) a))
  replace g56 := g56.put (n := 3) rfl oq28 (Or.inr (Nat.add_le_add_left (n := 59) (m := 59) (Nat.le_of_ble_eq_true rfl) a))
  replace g60 := g60.kept (oq28 _ (Nat.ne_of_gt (Nat.add_lt_add_left (n := 59) (m := 60) (Nat.le_of_ble_eq_true rfl) a)))
  replace g61 := g61.put (n := 25) rfl oq28 (Or.inl (Nat.add_lt_add_left (n := 59) (m := 61) (Nat.le_of_ble_eq_true rfl) a))
  replace g86 := g86.put (n := 2) rfl oq28 (Or.inl (Nat.add_lt_add_left (n := 59) (m := 86) (Nat.le_of_ble_eq_true rfl) a))
  replace g88 := g88.put (n := 25) rfl oq28 (Or.inl (Nat.add_lt_add_left (n := 59) (m := 88) (Nat.le_of_ble_eq_true rfl) a))
  clear oq28 hz27 hS27
  refine lv_aload_n hx hb dX10_init_111 rfl (lv_at hl 1 rfl) ?_
  refine c_get (C := RX10) (T := TX10) (N := 9) hx hb hts inX10 hown hK g0 rfl 6 (by decide) wF_X10_48 rfl rfl dX10_init_112 ?_
  refine lv_iload_n hx hb dX10_init_115 rfl (lv_at hl 0 rfl) ?_
  refine c_new (ci := 8) (fs := [.null, .int 0, .int 0, .int 0]) (C := RX8) (T := TX8) (N := 4) hx hb hts inX8 tyX8 tyX8_ok hown wK_X10_7 wIn_X8 wIz_X8 hK hS28 rfl dv_X8 hz28 (Nat.le_of_ble_eq_true rfl) (Nat.le_of_ble_eq_true rfl) dX10_init_116 (fun H29 hz29 g113 oq29 hS29 => ?_)
  replace g0 := g0.kept (oq29 _ (Nat.lt_add_of_pos_right (Nat.le_of_ble_eq_true rfl)))
  replace g1 := g1.old (n := 2) rfl oq29 (Nat.add_le_add_left (n := 3) (m := 113) (Nat.le_of_ble_eq_true rfl) a)
  replace g3 := g3.old (n := 25) rfl oq29 (Nat.add_le_add_left (n := 28) (m := 113) (Nat.le_of_ble_eq_true rfl) a)
  replace g28 := g28.old (n := 25) rfl oq29 (Nat.add_le_add_left (n := 53) (m := 113) (Nat.le_of_ble_eq_true rfl) a)
  replace g53 := g53.old (n := 3) rfl oq29 (Nat.add_le_add_left (n := 56) (m := 113) (Nat.le_of_ble_eq_true rfl) a)
  replace g56 := g56.old (n := 3) rfl oq29 (Nat.add_le_add_left (n := 59) (m := 113) (Nat.le_of_ble_eq_true rfl) a)
  replace g59 := g59.kept (oq29 _ (Nat.add_lt_add_left (n := 59) (m := 113) (Nat.le_of_ble_eq_true rfl) a))
  replace g60 := g60.kept (oq29 _ (Nat.add_lt_add_left (n := 60) (m := 113) (Nat.le_of_ble_eq_true rfl) a))
  replace g61 := g61.old (n := 25) rfl oq29 (Nat.add_le_add_left (n := 86) (m := 113) (Nat.le_of_ble_eq_true rfl) a)
  replace g86 := g86.old (n := 2) rfl oq29 (Nat.add_le_add_left (n := 88) (m := 113) (Nat.le_of_ble_eq_true rfl) a)
  replace g88 := g88.old (n := 25) rfl oq29 (Nat.add_le_add_left (n := 113) (m := 113) (Nat.le_of_ble_eq_true rfl) a)
  clear oq29 hz28 hS28
  refine lv_dup hx hb dX10_init_119 rfl ?_
  refine c_callN (rest := [.ref (a + 113), .int 1, .ref (a + 60)]) (As := []) hx hb hml hown hts hK hN (fun q h => Nat.le_trans (Nat.le_add_right a _) h) hS29 (k_X8_init l G (a + 113)) hz29 g113 wd_X8_init rfl wM_X8_init hN.1.1 rfl hl.1 rfl (Nat.le_of_ble_eq_true rfl) dX10_init_120 ⟨Nat.le_of_ble_eq_true rfl, Nat.le_of_ble_eq_true rfl⟩ ⟨Nat.le_of_ble_eq_true rfl, Nat.le_of_ble_eq_true rfl⟩ (fun H30 locs hz30 g113 oq30 hS30 => ?_)
  replace g0 := g0.kept (oq30 _ (Nat.lt_add_of_pos_right (Nat.le_of_ble_eq_true rfl)))
  replace g1 := g1.old (n := 2) rfl oq30 (Nat.add_le_add_left (n := 3) (m := 113) (Nat.le_of_ble_eq_true rfl) a)
  replace g3 := g3.old (n := 25) rfl oq30 (Nat.add_le_add_left (n := 28) (m := 113) (Nat.le_of_ble_eq_true rfl) a)
  replace g28 := g28.old (n := 25) rfl oq30 (Nat.add_le_add_left (n := 53) (m := 113) (Nat.le_of_ble_eq_true rfl) a)
  replace g53 := g53.old (n := 3) rfl oq30 (Nat.add_le_add_left (n := 56) (m := 113) (Nat.le_of_ble_eq_true rfl) a)
  replace g56 := g56.old (n := 3) rfl oq30 (Nat.add_le_add_left (n := 59) (m := 113) (Nat.le_of_ble_eq_true rfl) a)
  replace g59 := g59.kept (oq30 _ (Nat.add_lt_add_left (n := 59) (m := 113) (Nat.le_of_ble_eq_true rfl) a))
  replace g60 := g60.kept (oq30 _ (Nat.add_lt_add_left (n := 60) (m := 113) (Nat.le_of_ble_eq_true rfl) a))
  replace g61 := g61.old (n := 25) rfl oq30 (Nat.add_le_add_left (n := 86) (m := 113) (Nat.le_of_ble_eq_true rfl) a)
  replace g86 := g86.old (n := 2) rfl oq30 (Nat.add_le_add_left (n := 88) (m := 113) (Nat.le_of_ble_eq_true rfl) a)
  replace g88 := g88.old (n := 25) rfl oq30 (Nat.add_le_add_left (n := 113) (m := 113) (Nat.le_of_ble_eq_true rfl) a)
  clear oq30 hz29 hS29
  replace hz30 : H30.size = a + 115 := hz30
  replace g113 : cw G (a + 113) (taV G (a + 113)) H30 := g113
  refine c_aast hx hb hK (by decide) g60 (Nat.le_add_right a _) hS30 ((show cw G (a + 113) (_ :: _) H30 from g113).hd) (r := (RX8, TX8, 4)) rfl rfl (h_inc (by decide)) dX10_init_123 (fun H31 locs hz31 g60n oq31 hS31 => ?_)
  replace hz31 : H31.size = a + 115 := hz31.trans hz30
  rw [show (1 : Int32).toNatClampNeg = 1 from by decide] at g60n
  replace g60 : va_at G.1 vwCl (a + 60, .inl (G.2.1 5, 4, .inr (.inr (.inr (.inr (va_up (va_up (fun _ => none) 0 (some (a + 86))) 1 (some (a + 113)))))))) H31 := g60n
  clear g60n
  replace g0 := g0.kept (oq31 _ (Nat.ne_of_lt (Nat.lt_add_of_pos_right (Nat.le_of_ble_eq_true rfl))))
  replace g1 := g1.put (n := 2) rfl oq31 (Or.inr (Nat.add_le_add_left (n := 3) (m := 60) (Nat.le_of_ble_eq_true rfl) a))
  replace g3 := g3.put (n := 25) rfl oq31 (Or.inr (Nat.add_le_add_left (n := 28) (m := 60) (Nat.le_of_ble_eq_true rfl) a))
  replace g28 := g28.put (n := 25) rfl oq31 (Or.inr (Nat.add_le_add_left (n := 53) (m := 60) (Nat.le_of_ble_eq_true rfl) a))
  replace g53 := g53.put (n := 3) rfl oq31 (Or.inr (Nat.add_le_add_left (n := 56) (m := 60) (Nat.le_of_ble_eq_true rfl) a))
  replace g56 := g56.put (n := 3) rfl oq31 (Or.inr (Nat.add_le_add_left (n := 59) (m := 60) (Nat.le_of_ble_eq_true rfl) a))
  replace g59 := g59.kept (oq31 _ (Nat.ne_of_lt (Nat.add_lt_add_left (n := 59) (m := 60) (Nat.le_of_ble_eq_true rfl) a)))
  replace g61 := g61.put (n := 25) rfl oq31 (Or.inl (Nat.add_lt_add_left (n := 60) (m := 61) (Nat.le_of_ble_eq_true rfl) a))
  replace g86 := g86.put (n := 2) rfl oq31 (Or.inl (Nat.add_lt_add_left (n := 60) (m := 86) (Nat.le_of_ble_eq_true rfl) a))
  replace g88 := g88.put (n := 25) rfl oq31 (Or.inl (Nat.add_lt_add_left (n := 60) (m := 88) (Nat.le_of_ble_eq_true rfl) a))
  replace g113 := g113.put (n := 2) rfl oq31 (Or.inl (Nat.add_lt_add_left (n := 60) (m := 113) (Nat.le_of_ble_eq_true rfl) a))
  clear oq31 hz30 hS30
  refine lv_iinc (v := 2) (lv' := [(1, .int 2), (0, .ref a)]) hx hb dX10_init_124 hl (k := 0) rfl (by decide) (by decide) rfl (fun ls hl => ?_)
  refine lv_goto (tgt := 93) hx hb dX10_init_127 (by decide) ?_
  refine lv_iload_n hx hb dX10_init_93 rfl (lv_at hl 0 rfl) ?_
  refine lv_iconst (v := 4) hx hb dX10_init_94 (by decide) ?_
  refine lv_icmp_ge (tgt := 130) hx hb dX10_init_95 (by decide) (fun h => absurd h (by decide)) (fun _ => ?_)
  refine lv_aload_n hx hb dX10_init_98 rfl (lv_at hl 1 rfl) ?_
  refine c_get (C := RX10) (T := TX10) (N := 9) hx hb hts inX10 hown hK g0 rfl 5 (by decide) wF_X10_44 rfl rfl dX10_init_99 ?_
  refine lv_iload_n hx hb dX10_init_102 rfl (lv_at hl 0 rfl) ?_
  refine c_new (ci := 5) (fs := [.null, .null, .null, .null, .null, .null, .int 0, .int 0, .int 0, .int 0, .int 0]) (C := RX5) (T := TX5) (N := 11) hx hb hts inX5 tyX5 tyX5_ok hown wK_X10_16 wIn_X5 wIz_X5 hK hS31 rfl dv_X5 hz31 (Nat.le_of_ble_eq_true rfl) (Nat.le_of_ble_eq_true rfl) dX10_init_103 (fun H32 hz32 g115 oq32 hS32 => ?_)
  replace g0 := g0.kept (oq32 _ (Nat.lt_add_of_pos_right (Nat.le_of_ble_eq_true rfl)))
  replace g1 := g1.old (n := 2) rfl oq32 (Nat.add_le_add_left (n := 3) (m := 115) (Nat.le_of_ble_eq_true rfl) a)
  replace g3 := g3.old (n := 25) rfl oq32 (Nat.add_le_add_left (n := 28) (m := 115) (Nat.le_of_ble_eq_true rfl) a)
  replace g28 := g28.old (n := 25) rfl oq32 (Nat.add_le_add_left (n := 53) (m := 115) (Nat.le_of_ble_eq_true rfl) a)
  replace g53 := g53.old (n := 3) rfl oq32 (Nat.add_le_add_left (n := 56) (m := 115) (Nat.le_of_ble_eq_true rfl) a)
  replace g56 := g56.old (n := 3) rfl oq32 (Nat.add_le_add_left (n := 59) (m := 115) (Nat.le_of_ble_eq_true rfl) a)
  replace g59 := g59.kept (oq32 _ (Nat.add_lt_add_left (n := 59) (m := 115) (Nat.le_of_ble_eq_true rfl) a))
  replace g60 := g60.kept (oq32 _ (Nat.add_lt_add_left (n := 60) (m := 115) (Nat.le_of_ble_eq_true rfl) a))
  replace g61 := g61.old (n := 25) rfl oq32 (Nat.add_le_add_left (n := 86) (m := 115) (Nat.le_of_ble_eq_true rfl) a)
  replace g86 := g86.old (n := 2) rfl oq32 (Nat.add_le_add_left (n := 88) (m := 115) (Nat.le_of_ble_eq_true rfl) a)
  replace g88 := g88.old (n := 25) rfl oq32 (Nat.add_le_add_left (n := 113) (m := 115) (Nat.le_of_ble_eq_true rfl) a)
  replace g113 := g113.old (n := 2) rfl oq32 (Nat.add_le_add_left (n := 115) (m := 115) (Nat.le_of_ble_eq_true rfl) a)
  clear oq32 hz31 hS31
  refine lv_dup hx hb dX10_init_106 rfl ?_
  refine c_callN (rest := [.ref (a + 115), .int 2, .ref (a + 59)]) (As := []) hx hb hml hown hts hK hN (fun q h => Nat.le_trans (Nat.le_add_right a _) h) hS32 (k_X5_init l G (a + 115)) hz32 g115 wd_X5_init rfl wM_X5_init hN.1.2.1 rfl hl.1 rfl (Nat.le_of_ble_eq_true rfl) dX10_init_107 ⟨Nat.le_of_ble_eq_true rfl, Nat.le_of_ble_eq_true rfl⟩ ⟨Nat.le_of_ble_eq_true rfl, Nat.le_of_ble_eq_true rfl⟩ (fun H33 locs hz33 g115 oq33 hS33 => ?_)
  replace g0 := g0.kept (oq33 _ (Nat.lt_add_of_pos_right (Nat.le_of_ble_eq_true rfl)))
  replace g1 := g1.old (n := 2) rfl oq33 (Nat.add_le_add_left (n := 3) (m := 115) (Nat.le_of_ble_eq_true rfl) a)
  replace g3 := g3.old (n := 25) rfl oq33 (Nat.add_le_add_left (n := 28) (m := 115) (Nat.le_of_ble_eq_true rfl) a)
  replace g28 := g28.old (n := 25) rfl oq33 (Nat.add_le_add_left (n := 53) (m := 115) (Nat.le_of_ble_eq_true rfl) a)
  replace g53 := g53.old (n := 3) rfl oq33 (Nat.add_le_add_left (n := 56) (m := 115) (Nat.le_of_ble_eq_true rfl) a)
  replace g56 := g56.old (n := 3) rfl oq33 (Nat.add_le_add_left (n := 59) (m := 115) (Nat.le_of_ble_eq_true rfl) a)
  replace g59 := g59.kept (oq33 _ (Nat.add_lt_add_left (n := 59) (m := 115) (Nat.le_of_ble_eq_true rfl) a))
  replace g60 := g60.kept (oq33 _ (Nat.add_lt_add_left (n := 60) (m := 115) (Nat.le_of_ble_eq_true rfl) a))
  replace g61 := g61.old (n := 25) rfl oq33 (Nat.add_le_add_left (n := 86) (m := 115) (Nat.le_of_ble_eq_true rfl) a)
  replace g86 := g86.old (n := 2) rfl oq33 (Nat.add_le_add_left (n := 88) (m := 115) (Nat.le_of_ble_eq_true rfl) a)
  replace g88 := g88.old (n := 25) rfl oq33 (Nat.add_le_add_left (n := 113) (m := 115) (Nat.le_of_ble_eq_true rfl) a)
  replace g113 := g113.old (n := 2) rfl oq33 (Nat.add_le_add_left (n := 115) (m := 115) (Nat.le_of_ble_eq_true rfl) a)
  clear oq33 hz32 hS32
  replace hz33 : H33.size = a + 140 := hz33
  replace g115 : cw G (a + 115) (ringV G (a + 115)) H33 := g115
  refine c_aast hx hb hK (by decide) g59 (Nat.le_add_right a _) hS33 ((show cw G (a + 115) (_ :: _) H33 from g115).hd) (r := (RX5, TX5, 11)) rfl rfl (h_inc (by decide)) dX10_init_110 (fun H34 locs hz34 g59n oq34 hS34 => ?_)
  replace hz34 : H34.size = a + 140 := hz34.trans hz33
  rw [show (2 : Int32).toNatClampNeg = 2 from by decide] at g59n
  replace g59 : va_at G.1 vwCl (a + 59, .inl (G.2.1 4, 4, .inr (.inr (.inr (.inr (va_up (va_up (va_up (fun _ => none) 0 (some (a + 61))) 1 (some (a + 88))) 2 (some (a + 115)))))))) H34 := g59n
  clear g59n
  replace g0 := g0.kept (oq34 _ (Nat.ne_of_lt (Nat.lt_add_of_pos_right (Nat.le_of_ble_eq_true rfl))))
  replace g1 := g1.put (n := 2) rfl oq34 (Or.inr (Nat.add_le_add_left (n := 3) (m := 59) (Nat.le_of_ble_eq_true rfl) a))
  replace g3 := g3.put (n := 25) rfl oq34 (Or.inr (Nat.add_le_add_left (n := 28) (m := 59) (Nat.le_of_ble_eq_true rfl) a))
  replace g28 := g28.put (n := 25) rfl oq34 (Or.inr (Nat.add_le_add_left (n := 53) (m := 59) (Nat.le_of_ble_eq_true rfl) a))
  replace g53 := g53.put (n := 3) rfl oq34 (Or.inr (Nat.add_le_add_left (n := 56) (m := 59) (Nat.le_of_ble_eq_true rfl) a))
  replace g56 := g56.put (n := 3) rfl oq34 (Or.inr (Nat.add_le_add_left (n := 59) (m := 59) (Nat.le_of_ble_eq_true rfl) a))
  replace g60 := g60.kept (oq34 _ (Nat.ne_of_gt (Nat.add_lt_add_left (n := 59) (m := 60) (Nat.le_of_ble_eq_true rfl) a)))
  replace g61 := g61.put (n := 25) rfl oq34 (Or.inl (Nat.add_lt_add_left (n := 59) (m := 61) (Nat.le_of_ble_eq_true rfl) a))
  replace g86 := g86.put (n := 2) rfl oq34 (Or.inl (Nat.add_lt_add_left (n := 59) (m := 86) (Nat.le_of_ble_eq_true rfl) a))
  replace g88 := g88.put (n := 25) rfl oq34 (Or.inl (Nat.add_lt_add_left (n := 59) (m := 88) (Nat.le_of_ble_eq_true rfl) a))
  replace g113 := g113.put (n := 2) rfl oq34 (Or.inl (Nat.add_lt_add_left (n := 59) (m := 113) (Nat.le_of_ble_eq_true rfl) a))
  replace g115 := g115.put (n := 25) rfl oq34 (Or.inl (Nat.add_lt_add_left (n := 59) (m := 115) (Nat.le_of_ble_eq_true rfl) a))
  clear oq34 hz33 hS33
  refine lv_aload_n hx hb dX10_init_111 rfl (lv_at hl 1 rfl) ?_
  refine c_get (C := RX10) (T := TX10) (N := 9) hx hb hts inX10 hown hK g0 rfl 6 (by decide) wF_X10_48 rfl rfl dX10_init_112 ?_
  refine lv_iload_n hx hb dX10_init_115 rfl (lv_at hl 0 rfl) ?_
  refine c_new (ci := 8) (fs := [.null, .int 0, .int 0, .int 0]) (C := RX8) (T := TX8) (N := 4) hx hb hts inX8 tyX8 tyX8_ok hown wK_X10_7 wIn_X8 wIz_X8 hK hS34 rfl dv_X8 hz34 (Nat.le_of_ble_eq_true rfl) (Nat.le_of_ble_eq_true rfl) dX10_init_116 (fun H35 hz35 g140 oq35 hS35 => ?_)
  replace g0 := g0.kept (oq35 _ (Nat.lt_add_of_pos_right (Nat.le_of_ble_eq_true rfl)))
  replace g1 := g1.old (n := 2) rfl oq35 (Nat.add_le_add_left (n := 3) (m := 140) (Nat.le_of_ble_eq_true rfl) a)
  replace g3 := g3.old (n := 25) rfl oq35 (Nat.add_le_add_left (n := 28) (m := 140) (Nat.le_of_ble_eq_true rfl) a)
  replace g28 := g28.old (n := 25) rfl oq35 (Nat.add_le_add_left (n := 53) (m := 140) (Nat.le_of_ble_eq_true rfl) a)
  replace g53 := g53.old (n := 3) rfl oq35 (Nat.add_le_add_left (n := 56) (m := 140) (Nat.le_of_ble_eq_true rfl) a)
  replace g56 := g56.old (n := 3) rfl oq35 (Nat.add_le_add_left (n := 59) (m := 140) (Nat.le_of_ble_eq_true rfl) a)
  replace g59 := g59.kept (oq35 _ (Nat.add_lt_add_left (n := 59) (m := 140) (Nat.le_of_ble_eq_true rfl) a))
  replace g60 := g60.kept (oq35 _ (Nat.add_lt_add_left (n := 60) (m := 140) (Nat.le_of_ble_eq_true rfl) a))
  replace g61 := g61.old (n := 25) rfl oq35 (Nat.add_le_add_left (n := 86) (m := 140) (Nat.le_of_ble_eq_true rfl) a)
  replace g86 := g86.old (n := 2) rfl oq35 (Nat.add_le_add_left (n := 88) (m := 140) (Nat.le_of_ble_eq_true rfl) a)
  replace g88 := g88.old (n := 25) rfl oq35 (Nat.add_le_add_left (n := 113) (m := 140) (Nat.le_of_ble_eq_true rfl) a)
  replace g113 := g113.old (n := 2) rfl oq35 (Nat.add_le_add_left (n := 115) (m := 140) (Nat.le_of_ble_eq_true rfl) a)
  replace g115 := g115.old (n := 25) rfl oq35 (Nat.add_le_add_left (n := 140) (m := 140) (Nat.le_of_ble_eq_true rfl) a)
  clear oq35 hz34 hS34
  refine lv_dup hx hb dX10_init_119 rfl ?_
  refine c_callN (rest := [.ref (a + 140), .int 2, .ref (a + 60)]) (As := []) hx hb hml hown hts hK hN (fun q h => Nat.le_trans (Nat.le_add_right a _) h) hS35 (k_X8_init l G (a + 140)) hz35 g140 wd_X8_init rfl wM_X8_init hN.1.1 rfl hl.1 rfl (Nat.le_of_ble_eq_true rfl) dX10_init_120 ⟨Nat.le_of_ble_eq_true rfl, Nat.le_of_ble_eq_true rfl⟩ ⟨Nat.le_of_ble_eq_true rfl, Nat.le_of_ble_eq_true rfl⟩ (fun H36 locs hz36 g140 oq36 hS36 => ?_)
  replace g0 := g0.kept (oq36 _ (Nat.lt_add_of_pos_right (Nat.le_of_ble_eq_true rfl)))
  replace g1 := g1.old (n := 2) rfl oq36 (Nat.add_le_add_left (n := 3) (m := 140) (Nat.le_of_ble_eq_true rfl) a)
  replace g3 := g3.old (n := 25) rfl oq36 (Nat.add_le_add_left (n := 28) (m := 140) (Nat.le_of_ble_eq_true rfl) a)
  replace g28 := g28.old (n := 25) rfl oq36 (Nat.add_le_add_left (n := 53) (m := 140) (Nat.le_of_ble_eq_true rfl) a)
  replace g53 := g53.old (n := 3) rfl oq36 (Nat.add_le_add_left (n := 56) (m := 140) (Nat.le_of_ble_eq_true rfl) a)
  replace g56 := g56.old (n := 3) rfl oq36 (Nat.add_le_add_left (n := 59) (m := 140) (Nat.le_of_ble_eq_true rfl) a)
  replace g59 := g59.kept (oq36 _ (Nat.add_lt_add_left (n := 59) (m := 140) (Nat.le_of_ble_eq_true rfl) a))
  replace g60 := g60.kept (oq36 _ (Nat.add_lt_add_left (n := 60) (m := 140) (Nat.le_of_ble_eq_true rfl) a))
  replace g61 := g61.old (n := 25) rfl oq36 (Nat.add_le_add_left (n := 86) (m := 140) (Nat.le_of_ble_eq_true rfl) a)
  replace g86 := g86.old (n := 2) rfl oq36 (Nat.add_le_add_left (n := 88) (m := 140) (Nat.le_of_ble_eq_true rfl) a)
  replace g88 := g88.old (n := 25) rfl oq36 (Nat.add_le_add_left (n := 113) (m := 140) (Nat.le_of_ble_eq_true rfl) a)
  replace g113 := g113.old (n := 2) rfl oq36 (Nat.add_le_add_left (n := 115) (m := 140) (Nat.le_of_ble_eq_true rfl) a)
  replace g115 := g115.old (n := 25) rfl oq36 (Nat.add_le_add_left (n := 140) (m := 140) (Nat.le_of_ble_eq_true rfl) a)
  clear oq36 hz35 hS35
  replace hz36 : H36.size = a + 142 := hz36
  replace g140 : cw G (a + 140) (taV G (a + 140)) H36 := g140
  refine c_aast hx hb hK (by decide) g60 (Nat.le_add_right a _) hS36 ((show cw G (a + 140) (_ :: _) H36 from g140).hd) (r := (RX8, TX8, 4)) rfl rfl (h_inc (by decide)) dX10_init_123 (fun H37 locs hz37 g60n oq37 hS37 => ?_)
  replace hz37 : H37.size = a + 142 := hz37.trans hz36
  rw [show (2 : Int32).toNatClampNeg = 2 from by decide] at g60n
  replace g60 : va_at G.1 vwCl (a + 60, .inl (G.2.1 5, 4, .inr (.inr (.inr (.inr (va_up (va_up (va_up (fun _ => none) 0 (some (a + 86))) 1 (some (a + 113))) 2 (some (a + 140)))))))) H37 := g60n
  clear g60n
  replace g0 := g0.kept (oq37 _ (Nat.ne_of_lt (Nat.lt_add_of_pos_right (Nat.le_of_ble_eq_true rfl))))
  replace g1 := g1.put (n := 2) rfl oq37 (Or.inr (Nat.add_le_add_left (n := 3) (m := 60) (Nat.le_of_ble_eq_true rfl) a))
  replace g3 := g3.put (n := 25) rfl oq37 (Or.inr (Nat.add_le_add_left (n := 28) (m := 60) (Nat.le_of_ble_eq_true rfl) a))
  replace g28 := g28.put (n := 25) rfl oq37 (Or.inr (Nat.add_le_add_left (n := 53) (m := 60) (Nat.le_of_ble_eq_true rfl) a))
  replace g53 := g53.put (n := 3) rfl oq37 (Or.inr (Nat.add_le_add_left (n := 56) (m := 60) (Nat.le_of_ble_eq_true rfl) a))
  replace g56 := g56.put (n := 3) rfl oq37 (Or.inr (Nat.add_le_add_left (n := 59) (m := 60) (Nat.le_of_ble_eq_true rfl) a))
  replace g59 := g59.kept (oq37 _ (Nat.ne_of_lt (Nat.add_lt_add_left (n := 59) (m := 60) (Nat.le_of_ble_eq_true rfl) a)))
  replace g61 := g61.put (n := 25) rfl oq37 (Or.inl (Nat.add_lt_add_left (n := 60) (m := 61) (Nat.le_of_ble_eq_true rfl) a))
  replace g86 := g86.put (n := 2) rfl oq37 (Or.inl (Nat.add_lt_add_left (n := 60) (m := 86) (Nat.le_of_ble_eq_true rfl) a))
  replace g88 := g88.put (n := 25) rfl oq37 (Or.inl (Nat.add_lt_add_left (n := 60) (m := 88) (Nat.le_of_ble_eq_true rfl) a))
  replace g113 := g113.put (n := 2) rfl oq37 (Or.inl (Nat.add_lt_add_left (n := 60) (m := 113) (Nat.le_of_ble_eq_true rfl) a))
  replace g115 := g115.put (n := 25) rfl oq37 (Or.inl (Nat.add_lt_add_left (n := 60) (m := 115) (Nat.le_of_ble_eq_true rfl) a))
  replace g140 := g140.put (n := 2) rfl oq37 (Or.inl (Nat.add_lt_add_left (n := 60) (m := 140) (Nat.le_of_ble_eq_true rfl) a))
  clear oq37 hz36 hS36
  refine lv_iinc (v := 3) (lv' := [(1, .int 3), (0, .ref a)]) hx hb dX10_init_124 hl (k := 0) rfl (by decide) (by decide) rfl (fun ls hl => ?_)
  refine lv_goto (tgt := 93) hx hb dX10_init_127 (by decide) ?_
  refine lv_iload_n hx hb dX10_init_93 rfl (lv_at hl 0 rfl) ?_
  refine lv_iconst (v := 4) hx hb dX10_init_94 (by decide) ?_
  refine lv_icmp_ge (tgt := 130) hx hb dX10_init_95 (by decide) (fun h => absurd h (by decide)) (fun _ => ?_)
  refine lv_aload_n hx hb dX10_init_98 rfl (lv_at hl 1 rfl) ?_
  refine c_get (C := RX10) (T := TX10) (N := 9) hx hb hts inX10 hown hK g0 rfl 5 (by decide) wF_X10_44 rfl rfl dX10_init_99 ?_
  refine lv_iload_n hx hb dX10_init_102 rfl (lv_at hl 0 rfl) ?_
  refine c_new (ci := 5) (fs := [.null, .null, .null, .null, .null, .null, .int 0, .int 0, .int 0, .int 0, .int 0]) (C := RX5) (T := TX5) (N := 11) hx hb hts inX5 tyX5 tyX5_ok hown wK_X10_16 wIn_X5 wIz_X5 hK hS37 rfl dv_X5 hz37 (Nat.le_of_ble_eq_true rfl) (Nat.le_of_ble_eq_true rfl) dX10_init_103 (fun H38 hz38 g142 oq38 hS38 => ?_)
  replace g0 := g0.kept (oq38 _ (Nat.lt_add_of_pos_right (Nat.le_of_ble_eq_true rfl)))
  replace g1 := g1.old (n := 2) rfl oq38 (Nat.add_le_add_left (n := 3) (m := 142) (Nat.le_of_ble_eq_true rfl) a)
  replace g3 := g3.old (n := 25) rfl oq38 (Nat.add_le_add_left (n := 28) (m := 142) (Nat.le_of_ble_eq_true rfl) a)
  replace g28 := g28.old (n := 25) rfl oq38 (Nat.add_le_add_left (n := 53) (m := 142) (Nat.le_of_ble_eq_true rfl) a)
  replace g53 := g53.old (n := 3) rfl oq38 (Nat.add_le_add_left (n := 56) (m := 142) (Nat.le_of_ble_eq_true rfl) a)
  replace g56 := g56.old (n := 3) rfl oq38 (Nat.add_le_add_left (n := 59) (m := 142) (Nat.le_of_ble_eq_true rfl) a)
  replace g59 := g59.kept (oq38 _ (Nat.add_lt_add_left (n := 59) (m := 142) (Nat.le_of_ble_eq_true rfl) a))
  replace g60 := g60.kept (oq38 _ (Nat.add_lt_add_left (n := 60) (m := 142) (Nat.le_of_ble_eq_true rfl) a))
  replace g61 := g61.old (n := 25) rfl oq38 (Nat.add_le_add_left (n := 86) (m := 142) (Nat.le_of_ble_eq_true rfl) a)
  replace g86 := g86.old (n := 2) rfl oq38 (Nat.add_le_add_left (n := 88) (m := 142) (Nat.le_of_ble_eq_true rfl) a)
  replace g88 := g88.old (n := 25) rfl oq38 (Nat.add_le_add_left (n := 113) (m := 142) (Nat.le_of_ble_eq_true rfl) a)
  replace g113 := g113.old (n := 2) rfl oq38 (Nat.add_le_add_left (n := 115) (m := 142) (Nat.le_of_ble_eq_true rfl) a)
  replace g115 := g115.old (n := 25) rfl oq38 (Nat.add_le_add_left (n := 140) (m := 142) (Nat.le_of_ble_eq_true rfl) a)
  replace g140 := g140.old (n := 2) rfl oq38 (Nat.add_le_add_left (n := 142) (m := 142) (Nat.le_of_ble_eq_true rfl) a)
  clear oq38 hz37 hS37
  refine lv_dup hx hb dX10_init_106 rfl ?_
  refine c_callN (rest := [.ref (a + 142), .int 3, .ref (a + 59)]) (As := []) hx hb hml hown hts hK hN (fun q h => Nat.le_trans (Nat.le_add_right a _) h) hS38 (k_X5_init l G (a + 142)) hz38 g142 wd_X5_init rfl wM_X5_init hN.1.2.1 rfl hl.1 rfl (Nat.le_of_ble_eq_true rfl) dX10_init_107 ⟨Nat.le_of_ble_eq_true rfl, Nat.le_of_ble_eq_true rfl⟩ ⟨Nat.le_of_ble_eq_true rfl, Nat.le_of_ble_eq_true rfl⟩ (fun H39 locs hz39 g142 oq39 hS39 => ?_)
  replace g0 := g0.kept (oq39 _ (Nat.lt_add_of_pos_right (Nat.le_of_ble_eq_true rfl)))
  replace g1 := g1.old (n := 2) rfl oq39 (Nat.add_le_add_left (n := 3) (m := 142) (Nat.le_of_ble_eq_true rfl) a)
  replace g3 := g3.old (n := 25) rfl oq39 (Nat.add_le_add_left (n := 28) (m := 142) (Nat.le_of_ble_eq_true rfl) a)
  replace g28 := g28.old (n := 25) rfl oq39 (Nat.add_le_add_left (n := 53) (m := 142) (Nat.le_of_ble_eq_true rfl) a)
  replace g53 := g53.old (n := 3) rfl oq39 (Nat.add_le_add_left (n := 56) (m := 142) (Nat.le_of_ble_eq_true rfl) a)
  replace g56 := g56.old (n := 3) rfl oq39 (Nat.add_le_add_left (n := 59) (m := 142) (Nat.le_of_ble_eq_true rfl) a)
  replace g59 := g59.kept (oq39 _ (Nat.add_lt_add_left (n := 59) (m := 142) (Nat.le_of_ble_eq_true rfl) a))
  replace g60 := g60.kept (oq39 _ (Nat.add_lt_add_left (n := 60) (m := 142) (Nat.le_of_ble_eq_true rfl) a))
  replace g61 := g61.old (n := 25) rfl oq39 (Nat.add_le_add_left (n := 86) (m := 142) (Nat.le_of_ble_eq_true rfl) a)
  replace g86 := g86.old (n := 2) rfl oq39 (Nat.add_le_add_left (n := 88) (m := 142) (Nat.le_of_ble_eq_true rfl) a)
  replace g88 := g88.old (n := 25) rfl oq39 (Nat.add_le_add_left (n := 113) (m := 142) (Nat.le_of_ble_eq_true rfl) a)
  replace g113 := g113.old (n := 2) rfl oq39 (Nat.add_le_add_left (n := 115) (m := 142) (Nat.le_of_ble_eq_true rfl) a)
  replace g115 := g115.old (n := 25) rfl oq39 (Nat.add_le_add_left (n := 140) (m := 142) (Nat.le_of_ble_eq_true rfl) a)
  replace g140 := g140.old (n := 2) rfl oq39 (Nat.add_le_add_left (n := 142) (m := 142) (Nat.le_of_ble_eq_true rfl) a)
  clear oq39 hz38 hS38
  replace hz39 : H39.size = a + 167 := hz39
  replace g142 : cw G (a + 142) (ringV G (a + 142)) H39 := g142
  refine c_aast hx hb hK (by decide) g59 (Nat.le_add_right a _) hS39 ((show cw G (a + 142) (_ :: _) H39 from g142).hd) (r := (RX5, TX5, 11)) rfl rfl (h_inc (by decide)) dX10_init_110 (fun H40 locs hz40 g59n oq40 hS40 => ?_)
  replace hz40 : H40.size = a + 167 := hz40.trans hz39
  rw [show (3 : Int32).toNatClampNeg = 3 from by decide] at g59n
  replace g59 : va_at G.1 vwCl (a + 59, .inl (G.2.1 4, 4, .inr (.inr (.inr (.inr (va_up (va_up (va_up (va_up (fun _ => none) 0 (some (a + 61))) 1 (some (a + 88))) 2 (some (a + 115))) 3 (some (a + 142)))))))) H40 := g59n
  clear g59n
  replace g0 := g0.kept (oq40 _ (Nat.ne_of_lt (Nat.lt_add_of_pos_right (Nat.le_of_ble_eq_true rfl))))
  replace g1 := g1.put (n := 2) rfl oq40 (Or.inr (Nat.add_le_add_left (n := 3) (m := 59) (Nat.le_of_ble_eq_true rfl) a))
  replace g3 := g3.put (n := 25) rfl oq40 (Or.inr (Nat.add_le_add_left (n := 28) (m := 59) (Nat.le_of_ble_eq_true rfl) a))
  replace g28 := g28.put (n := 25) rfl oq40 (Or.inr (Nat.add_le_add_left (n := 53) (m := 59) (Nat.le_of_ble_eq_true rfl) a))
  replace g53 := g53.put (n := 3) rfl oq40 (Or.inr (Nat.add_le_add_left (n := 56) (m := 59) (Nat.le_of_ble_eq_true rfl) a))
  replace g56 := g56.put (n := 3) rfl oq40 (Or.inr (Nat.add_le_add_left (n := 59) (m := 59) (Nat.le_of_ble_eq_true rfl) a))
  replace g60 := g60.kept (oq40 _ (Nat.ne_of_gt (Nat.add_lt_add_left (n := 59) (m := 60) (Nat.le_of_ble_eq_true rfl) a)))
  replace g61 := g61.put (n := 25) rfl oq40 (Or.inl (Nat.add_lt_add_left (n := 59) (m := 61) (Nat.le_of_ble_eq_true rfl) a))
  replace g86 := g86.put (n := 2) rfl oq40 (Or.inl (Nat.add_lt_add_left (n := 59) (m := 86) (Nat.le_of_ble_eq_true rfl) a))
  replace g88 := g88.put (n := 25) rfl oq40 (Or.inl (Nat.add_lt_add_left (n := 59) (m := 88) (Nat.le_of_ble_eq_true rfl) a))
  replace g113 := g113.put (n := 2) rfl oq40 (Or.inl (Nat.add_lt_add_left (n := 59) (m := 113) (Nat.le_of_ble_eq_true rfl) a))
  replace g115 := g115.put (n := 25) rfl oq40 (Or.inl (Nat.add_lt_add_left (n := 59) (m := 115) (Nat.le_of_ble_eq_true rfl) a))
  replace g140 := g140.put (n := 2) rfl oq40 (Or.inl (Nat.add_lt_add_left (n := 59) (m := 140) (Nat.le_of_ble_eq_true rfl) a))
  replace g142 := g142.put (n := 25) rfl oq40 (Or.inl (Nat.add_lt_add_left (n := 59) (m := 142) (Nat.le_of_ble_eq_true rfl) a))
  clear oq40 hz39 hS39
  refine lv_aload_n hx hb dX10_init_111 rfl (lv_at hl 1 rfl) ?_
  refine c_get (C := RX10) (T := TX10) (N := 9) hx hb hts inX10 hown hK g0 rfl 6 (by decide) wF_X10_48 rfl rfl dX10_init_112 ?_
  refine lv_iload_n hx hb dX10_init_115 rfl (lv_at hl 0 rfl) ?_
  refine c_new (ci := 8) (fs := [.null, .int 0, .int 0, .int 0]) (C := RX8) (T := TX8) (N := 4) hx hb hts inX8 tyX8 tyX8_ok hown wK_X10_7 wIn_X8 wIz_X8 hK hS40 rfl dv_X8 hz40 (Nat.le_of_ble_eq_true rfl) (Nat.le_of_ble_eq_true rfl) dX10_init_116 (fun H41 hz41 g167 oq41 hS41 => ?_)
  replace g0 := g0.kept (oq41 _ (Nat.lt_add_of_pos_right (Nat.le_of_ble_eq_true rfl)))
  replace g1 := g1.old (n := 2) rfl oq41 (Nat.add_le_add_left (n := 3) (m := 167) (Nat.le_of_ble_eq_true rfl) a)
  replace g3 := g3.old (n := 25) rfl oq41 (Nat.add_le_add_left (n := 28) (m := 167) (Nat.le_of_ble_eq_true rfl) a)
  replace g28 := g28.old (n := 25) rfl oq41 (Nat.add_le_add_left (n := 53) (m := 167) (Nat.le_of_ble_eq_true rfl) a)
  replace g53 := g53.old (n := 3) rfl oq41 (Nat.add_le_add_left (n := 56) (m := 167) (Nat.le_of_ble_eq_true rfl) a)
  replace g56 := g56.old (n := 3) rfl oq41 (Nat.add_le_add_left (n := 59) (m := 167) (Nat.le_of_ble_eq_true rfl) a)
  replace g59 := g59.kept (oq41 _ (Nat.add_lt_add_left (n := 59) (m := 167) (Nat.le_of_ble_eq_true rfl) a))
  replace g60 := g60.kept (oq41 _ (Nat.add_lt_add_left (n := 60) (m := 167) (Nat.le_of_ble_eq_true rfl) a))
  replace g61 := g61.old (n := 25) rfl oq41 (Nat.add_le_add_left (n := 86) (m := 167) (Nat.le_of_ble_eq_true rfl) a)
  replace g86 := g86.old (n := 2) rfl oq41 (Nat.add_le_add_left (n := 88) (m := 167) (Nat.le_of_ble_eq_true rfl) a)
  replace g88 := g88.old (n := 25) rfl oq41 (Nat.add_le_add_left (n := 113) (m := 167) (Nat.le_of_ble_eq_true rfl) a)
  replace g113 := g113.old (n := 2) rfl oq41 (Nat.add_le_add_left (n := 115) (m := 167) (Nat.le_of_ble_eq_true rfl) a)
  replace g115 := g115.old (n := 25) rfl oq41 (Nat.add_le_add_left (n := 140) (m := 167) (Nat.le_of_ble_eq_true rfl) a)
  replace g140 := g140.old (n := 2) rfl oq41 (Nat.add_le_add_left (n := 142) (m := 167) (Nat.le_of_ble_eq_true rfl) a)
  replace g142 := g142.old (n := 25) rfl oq41 (Nat.add_le_add_left (n := 167) (m := 167) (Nat.le_of_ble_eq_true rfl) a)
  clear oq41 hz40 hS40
  refine lv_dup hx hb dX10_init_119 rfl ?_
  refine c_callN (rest := [.ref (a + 167), .int 3, .ref (a + 60)]) (As := []) hx hb hml hown hts hK hN (fun q h => Nat.le_trans (Nat.le_add_right a _) h) hS41 (k_X8_init l G (a + 167)) hz41 g167 wd_X8_init rfl wM_X8_init hN.1.1 rfl hl.1 rfl (Nat.le_of_ble_eq_true rfl) dX10_init_120 ⟨Nat.le_of_ble_eq_true rfl, Nat.le_of_ble_eq_true rfl⟩ ⟨Nat.le_of_ble_eq_true rfl, Nat.le_of_ble_eq_true rfl⟩ (fun H42 locs hz42 g167 oq42 hS42 => ?_)
  replace g0 := g0.kept (oq42 _ (Nat.lt_add_of_pos_right (Nat.le_of_ble_eq_true rfl)))
  replace g1 := g1.old (n := 2) rfl oq42 (Nat.add_le_add_left (n := 3) (m := 167) (Nat.le_of_ble_eq_true rfl) a)
  replace g3 := g3.old (n := 25) rfl oq42 (Nat.add_le_add_left (n := 28) (m := 167) (Nat.le_of_ble_eq_true rfl) a)
  replace g28 := g28.old (n := 25) rfl oq42 (Nat.add_le_add_left (n := 53) (m := 167) (Nat.le_of_ble_eq_true rfl) a)
  replace g53 := g53.old (n := 3) rfl oq42 (Nat.add_le_add_left (n := 56) (m := 167) (Nat.le_of_ble_eq_true rfl) a)
  replace g56 := g56.old (n := 3) rfl oq42 (Nat.add_le_add_left (n := 59) (m := 167) (Nat.le_of_ble_eq_true rfl) a)
  replace g59 := g59.kept (oq42 _ (Nat.add_lt_add_left (n := 59) (m := 167) (Nat.le_of_ble_eq_true rfl) a))
  replace g60 := g60.kept (oq42 _ (Nat.add_lt_add_left (n := 60) (m := 167) (Nat.le_of_ble_eq_true rfl) a))
  replace g61 := g61.old (n := 25) rfl oq42 (Nat.add_le_add_left (n := 86) (m := 167) (Nat.le_of_ble_eq_true rfl) a)
  replace g86 := g86.old (n := 2) rfl oq42 (Nat.add_le_add_left (n := 88) (m := 167) (Nat.le_of_ble_eq_true rfl) a)
  replace g88 := g88.old (n := 25) rfl oq42 (Nat.add_le_add_left (n := 113) (m := 167) (Nat.le_of_ble_eq_true rfl) a)
  replace g113 := g113.old (n := 2) rfl oq42 (Nat.add_le_add_left (n := 115) (m := 167) (Nat.le_of_ble_eq_true rfl) a)
  replace g115 := g115.old (n := 25) rfl oq42 (Nat.add_le_add_left (n := 140) (m := 167) (Nat.le_of_ble_eq_true rfl) a)
  replace g140 := g140.old (n := 2) rfl oq42 (Nat.add_le_add_left (n := 142) (m := 167) (Nat.le_of_ble_eq_true rfl) a)
  replace g142 := g142.old (n := 25) rfl oq42 (Nat.add_le_add_left (n := 167) (m := 167) (Nat.le_of_ble_eq_true rfl) a)
  clear oq42 hz41 hS41
  replace hz42 : H42.size = a + 169 := hz42
  replace g167 : cw G (a + 167) (taV G (a + 167)) H42 := g167
  refine c_aast hx hb hK (by decide) g60 (Nat.le_add_right a _) hS42 ((show cw G (a + 167) (_ :: _) H42 from g167).hd) (r := (RX8, TX8, 4)) rfl rfl (h_inc (by decide)) dX10_init_123 (fun H43 locs hz43 g60n oq43 hS43 => ?_)
  replace hz43 : H43.size = a + 169 := hz43.trans hz42
  rw [show (3 : Int32).toNatClampNeg = 3 from by decide] at g60n
  replace g60 : va_at G.1 vwCl (a + 60, .inl (G.2.1 5, 4, .inr (.inr (.inr (.inr (va_up (va_up (va_up (va_up (fun _ => none) 0 (some (a + 86))) 1 (some (a + 113))) 2 (some (a + 140))) 3 (some (a + 167)))))))) H43 := g60n
  clear g60n
  replace g0 := g0.kept (oq43 _ (Nat.ne_of_lt (Nat.lt_add_of_pos_right (Nat.le_of_ble_eq_true rfl))))
  replace g1 := g1.put (n := 2) rfl oq43 (Or.inr (Nat.add_le_add_left (n := 3) (m := 60) (Nat.le_of_ble_eq_true rfl) a))
  replace g3 := g3.put (n := 25) rfl oq43 (Or.inr (Nat.add_le_add_left (n := 28) (m := 60) (Nat.le_of_ble_eq_true rfl) a))
  replace g28 := g28.put (n := 25) rfl oq43 (Or.inr (Nat.add_le_add_left (n := 53) (m := 60) (Nat.le_of_ble_eq_true rfl) a))
  replace g53 := g53.put (n := 3) rfl oq43 (Or.inr (Nat.add_le_add_left (n := 56) (m := 60) (Nat.le_of_ble_eq_true rfl) a))
  replace g56 := g56.put (n := 3) rfl oq43 (Or.inr (Nat.add_le_add_left (n := 59) (m := 60) (Nat.le_of_ble_eq_true rfl) a))
  replace g59 := g59.kept (oq43 _ (Nat.ne_of_lt (Nat.add_lt_add_left (n := 59) (m := 60) (Nat.le_of_ble_eq_true rfl) a)))
  replace g61 := g61.put (n := 25) rfl oq43 (Or.inl (Nat.add_lt_add_left (n := 60) (m := 61) (Nat.le_of_ble_eq_true rfl) a))
  replace g86 := g86.put (n := 2) rfl oq43 (Or.inl (Nat.add_lt_add_left (n := 60) (m := 86) (Nat.le_of_ble_eq_true rfl) a))
  replace g88 := g88.put (n := 25) rfl oq43 (Or.inl (Nat.add_lt_add_left (n := 60) (m := 88) (Nat.le_of_ble_eq_true rfl) a))
  replace g113 := g113.put (n := 2) rfl oq43 (Or.inl (Nat.add_lt_add_left (n := 60) (m := 113) (Nat.le_of_ble_eq_true rfl) a))
  replace g115 := g115.put (n := 25) rfl oq43 (Or.inl (Nat.add_lt_add_left (n := 60) (m := 115) (Nat.le_of_ble_eq_true rfl) a))
  replace g140 := g140.put (n := 2) rfl oq43 (Or.inl (Nat.add_lt_add_left (n := 60) (m := 140) (Nat.le_of_ble_eq_true rfl) a))
  replace g142 := g142.put (n := 25) rfl oq43 (Or.inl (Nat.add_lt_add_left (n := 60) (m := 142) (Nat.le_of_ble_eq_true rfl) a))
  replace g167 := g167.put (n := 2) rfl oq43 (Or.inl (Nat.add_lt_add_left (n := 60) (m := 167) (Nat.le_of_ble_eq_true rfl) a))
  clear oq43 hz42 hS42
  refine lv_iinc (v := 4) (lv' := [(1, .int 4), (0, .ref a)]) hx hb dX10_init_124 hl (k := 0) rfl (by decide) (by decide) rfl (fun ls hl => ?_)
  refine lv_goto (tgt := 93) hx hb dX10_init_127 (by decide) ?_
  refine lv_iload_n hx hb dX10_init_93 rfl (lv_at hl 0 rfl) ?_
  refine lv_iconst (v := 4) hx hb dX10_init_94 (by decide) ?_
  refine lv_icmp_ge (tgt := 130) hx hb dX10_init_95 (by decide) (fun _ => ?_) (fun h => absurd (by decide) h)
  refine lv_aload_n hx hb dX10_init_130 rfl (lv_at hl 1 rfl) ?_
  refine lv_iconst (v := 0) hx hb dX10_init_131 (by decide) ?_
  refine c_put (C := RX10) (T := TX10) (N := 9) hx hb hts inX10 tyX10 tyX10_ok nmX10 hown hK g0 (Nat.le_refl _) hS43 rfl 7 (by decide) wF_X10_52 rfl rfl rfl rfl (Nat.le_of_ble_eq_true rfl) dX10_init_132 (fun H44 locs hz44 g0n oq44 hS44 => ?_)
  replace hz44 : H44.size = a + 169 := hz44.trans hz43
  replace g0 : va_at G.1 vwCl (a, .inr (10, [.ref (a + 1), .ref (a + 3), .ref (a + 28), .ref (a + 53), .ref (a + 56), .ref (a + 59), .ref (a + 60), .int 0, .int 0])) H44 := g0n
  clear g0n
  replace g1 := g1.put (n := 2) rfl oq44 (Or.inl (Nat.lt_add_of_pos_right (Nat.le_of_ble_eq_true rfl)))
  replace g3 := g3.put (n := 25) rfl oq44 (Or.inl (Nat.lt_add_of_pos_right (Nat.le_of_ble_eq_true rfl)))
  replace g28 := g28.put (n := 25) rfl oq44 (Or.inl (Nat.lt_add_of_pos_right (Nat.le_of_ble_eq_true rfl)))
  replace g53 := g53.put (n := 3) rfl oq44 (Or.inl (Nat.lt_add_of_pos_right (Nat.le_of_ble_eq_true rfl)))
  replace g56 := g56.put (n := 3) rfl oq44 (Or.inl (Nat.lt_add_of_pos_right (Nat.le_of_ble_eq_true rfl)))
  replace g59 := g59.kept (oq44 _ (Nat.ne_of_gt (Nat.lt_add_of_pos_right (Nat.le_of_ble_eq_true rfl))))
  replace g60 := g60.kept (oq44 _ (Nat.ne_of_gt (Nat.lt_add_of_pos_right (Nat.le_of_ble_eq_true rfl))))
  replace g61 := g61.put (n := 25) rfl oq44 (Or.inl (Nat.lt_add_of_pos_right (Nat.le_of_ble_eq_true rfl)))
  replace g86 := g86.put (n := 2) rfl oq44 (Or.inl (Nat.lt_add_of_pos_right (Nat.le_of_ble_eq_true rfl)))
  replace g88 := g88.put (n := 25) rfl oq44 (Or.inl (Nat.lt_add_of_pos_right (Nat.le_of_ble_eq_true rfl)))
  replace g113 := g113.put (n := 2) rfl oq44 (Or.inl (Nat.lt_add_of_pos_right (Nat.le_of_ble_eq_true rfl)))
  replace g115 := g115.put (n := 25) rfl oq44 (Or.inl (Nat.lt_add_of_pos_right (Nat.le_of_ble_eq_true rfl)))
  replace g140 := g140.put (n := 2) rfl oq44 (Or.inl (Nat.lt_add_of_pos_right (Nat.le_of_ble_eq_true rfl)))
  replace g142 := g142.put (n := 25) rfl oq44 (Or.inl (Nat.lt_add_of_pos_right (Nat.le_of_ble_eq_true rfl)))
  replace g167 := g167.put (n := 2) rfl oq44 (Or.inl (Nat.lt_add_of_pos_right (Nat.le_of_ble_eq_true rfl)))
  clear oq44 hz43 hS43
  refine lv_aload_n hx hb dX10_init_135 rfl (lv_at hl 1 rfl) ?_
  refine lv_iconst (v := 0) hx hb dX10_init_136 (by decide) ?_
  refine c_put (C := RX10) (T := TX10) (N := 9) hx hb hts inX10 tyX10 tyX10_ok nmX10 hown hK g0 (Nat.le_refl _) hS44 rfl 8 (by decide) wF_X10_56 rfl rfl rfl rfl (Nat.le_of_ble_eq_true rfl) dX10_init_137 (fun H45 locs hz45 g0n oq45 hS45 => ?_)
  replace hz45 : H45.size = a + 169 := hz45.trans hz44
  replace g0 : va_at G.1 vwCl (a, .inr (10, [.ref (a + 1), .ref (a + 3), .ref (a + 28), .ref (a + 53), .ref (a + 56), .ref (a + 59), .ref (a + 60), .int 0, .int 0])) H45 := g0n
  clear g0n
  replace g1 := g1.put (n := 2) rfl oq45 (Or.inl (Nat.lt_add_of_pos_right (Nat.le_of_ble_eq_true rfl)))
  replace g3 := g3.put (n := 25) rfl oq45 (Or.inl (Nat.lt_add_of_pos_right (Nat.le_of_ble_eq_true rfl)))
  replace g28 := g28.put (n := 25) rfl oq45 (Or.inl (Nat.lt_add_of_pos_right (Nat.le_of_ble_eq_true rfl)))
  replace g53 := g53.put (n := 3) rfl oq45 (Or.inl (Nat.lt_add_of_pos_right (Nat.le_of_ble_eq_true rfl)))
  replace g56 := g56.put (n := 3) rfl oq45 (Or.inl (Nat.lt_add_of_pos_right (Nat.le_of_ble_eq_true rfl)))
  replace g59 := g59.kept (oq45 _ (Nat.ne_of_gt (Nat.lt_add_of_pos_right (Nat.le_of_ble_eq_true rfl))))
  replace g60 := g60.kept (oq45 _ (Nat.ne_of_gt (Nat.lt_add_of_pos_right (Nat.le_of_ble_eq_true rfl))))
  replace g61 := g61.put (n := 25) rfl oq45 (Or.inl (Nat.lt_add_of_pos_right (Nat.le_of_ble_eq_true rfl)))
  replace g86 := g86.put (n := 2) rfl oq45 (Or.inl (Nat.lt_add_of_pos_right (Nat.le_of_ble_eq_true rfl)))
  replace g88 := g88.put (n := 25) rfl oq45 (Or.inl (Nat.lt_add_of_pos_right (Nat.le_of_ble_eq_true rfl)))
  replace g113 := g113.put (n := 2) rfl oq45 (Or.inl (Nat.lt_add_of_pos_right (Nat.le_of_ble_eq_true rfl)))
  replace g115 := g115.put (n := 25) rfl oq45 (Or.inl (Nat.lt_add_of_pos_right (Nat.le_of_ble_eq_true rfl)))
  replace g140 := g140.put (n := 2) rfl oq45 (Or.inl (Nat.lt_add_of_pos_right (Nat.le_of_ble_eq_true rfl)))
  replace g142 := g142.put (n := 25) rfl oq45 (Or.inl (Nat.lt_add_of_pos_right (Nat.le_of_ble_eq_true rfl)))
  replace g167 := g167.put (n := 2) rfl oq45 (Or.inl (Nat.lt_add_of_pos_right (Nat.le_of_ble_eq_true rfl)))
  clear oq45 hz44 hS44
  exact hret _ _ _ _ hz45 (cw.app (n := 1) (cw.one g0) rfl (cw.app (n := 2) g1 rfl (cw.app (n := 25) g3 rfl (cw.app (n := 25) g28 rfl (cw.app (n := 3) g53 rfl (cw.app (n := 3) g56 rfl (cw.app (n := 1) (cw.one g59) rfl (cw.app (n := 1) (cw.one g60) rfl (cw.app (n := 25) g61 rfl (cw.app (n := 2) g86 rfl (cw.app (n := 25) g88 rfl (cw.app (n := 2) g113 rfl (cw.app (n := 25) g115 rfl (cw.app (n := 2) g140 rfl (cw.app (n := 25) g142 rfl g167))))))))))))))) hS45 dX10_init_140
