set_option maxHeartbeats 4000000 in
set_option maxRecDepth 100000 in
theorem c_append_0 (l : Launch) (G : hG) (Y : hW) (o : Nat) (hY : h_On Y o (taE tF o)) (u1 : Int32) : hMv l yX8_append cX8_append 3 none 0 0 G Y [.ref (o), .int u1] (fun H => h_gi G H 8 o 1 = 0) (fun H H1 => h_gi G H1 8 o 1 = 4) := by
  refine h_ofv (by decide +kernel) (Nat.le_of_ble_eq_true rfl) ?_
  intro p e s m args below meth c H0 ls Q hx hb hts hown hml hK hT0 hpr hS0 hl hret
  have hl : lv_has ls 3 [(0, .ref (o)), (1, .int u1)] := hl
  refine lv_bipush (v := 24) hx hb dX8_append_0 (by decide) ?_
  refine lv_istore_n (lv' := [(2, .int 24), (0, .ref (o)), (1, .int u1)]) hx hb dX8_append_2 rfl hl (by decide) rfl (fun ls hl => ?_)
  refine lv_iload_n hx hb dX8_append_3 rfl (lv_at hl 0 rfl) ?_
  refine lv_if_lt (tgt := 53) hx hb dX8_append_4 (by decide) (fun h => absurd h (by decide)) (fun _ => ?_)
  refine lv_aload_n hx hb dX8_append_7 rfl (lv_at hl 1 rfl) ?_
  refine h_geti (C := RX8) (T := TX8) (N := 4) hx hb hts inX8 hown hK hT0 (hY.o rfl) rfl 1 rfl wF_X8_15 rfl dX8_append_8 (fun p2 => ?_)
  refine h_top (v := 0) hpr ?_
  refine lv_if_lt (tgt := 47) hx hb dX8_append_11 (by decide) (fun h => absurd h (by decide)) (fun _ => ?_)
  refine lv_aload_n hx hb dX8_append_14 rfl (lv_at hl 1 rfl) ?_
  refine h_geti (C := RX8) (T := TX8) (N := 4) hx hb hts inX8 hown hK hT0 (hY.o rfl) rfl 1 rfl wF_X8_15 rfl dX8_append_15 (fun p4 => ?_)
  refine h_top (v := 0) hpr ?_
  refine lv_sipush (v := 500) hx hb dX8_append_18 (by decide) ?_
  refine lv_icmp_ge (tgt := 47) hx hb dX8_append_21 (by decide) (fun h => absurd h (by decide)) (fun _ => ?_)
  refine lv_aload_n hx hb dX8_append_24 rfl (lv_at hl 1 rfl) ?_
  refine h_getr (C := RX8) (T := TX8) (N := 4) hx hb hts inX8 hown hK hT0 (hY.o rfl) rfl 0 rfl wF_X8_9 rfl dX8_append_25 ?_
  refine lv_aload_n hx hb dX8_append_28 rfl (lv_at hl 1 rfl) ?_
  refine h_geti (C := RX8) (T := TX8) (N := 4) hx hb hts inX8 hown hK hT0 (hY.o rfl) rfl 1 rfl wF_X8_15 rfl dX8_append_29 (fun p6 => ?_)
  refine h_top (v := 0) hpr ?_
  refine lv_iload_n hx hb dX8_append_32 rfl (lv_at hl 2 rfl) ?_
  refine lv_iload_n hx hb dX8_append_33 rfl (lv_at hl 0 rfl) ?_
  refine lv_ishr hx hb dX8_append_34 ?_
  refine lv_topi (fun x7 ex7 => ?_)
  refine lv_i2b hx hb dX8_append_35 rfl ?_
  refine lv_topi (fun x8 ex8 => ?_)
  refine h_bast hx hb hK hT0 (fun _ h => h) hS0 (hY.at 1 rfl) (h_inc (by decide)) trivial dX8_append_36 (fun H1 locs hT1 hS1 hu1 => ?_)
  refine lv_aload_n hx hb dX8_append_37 rfl (lv_at hl 1 rfl) ?_
  refine lv_dup hx hb dX8_append_38 rfl ?_
  refine h_geti (C := RX8) (T := TX8) (N := 4) hx hb hts inX8 hown hK hT1 (hY.o rfl) rfl 1 rfl wF_X8_15 rfl dX8_append_39 (fun p9 => ?_)
  refine h_top (v := 0) ((h_gi_same (hu1.2.1 _ (by omega))).trans hpr) ?_
  refine lv_iconst (v := 1) hx hb dX8_append_42 (by decide) ?_
  refine lv_iadd hx hb dX8_append_43 ?_
  refine h_top (v := 1) (by decide) ?_
  refine h_puti (C := RX8) (T := TX8) (N := 4) hx hb hts inX8 tyX8 tyX8_ok nmX8 hown hK hT1 (fun _ h => h) hS1 (hY.o rfl) rfl 1 rfl wF_X8_15 rfl rfl trivial rfl rfl dX8_append_44 (fun H2 locs hT2 hS2 hu2 => ?_)
  refine lv_iinc (v := 16) (lv' := [(2, .int 16), (0, .ref (o)), (1, .int u1)]) hx hb dX8_append_47 hl (k := 0) rfl (by decide) (by decide) rfl (fun ls hl => ?_)
  refine lv_goto (tgt := 3) hx hb dX8_append_50 (by decide) ?_
  refine lv_iload_n hx hb dX8_append_3 rfl (lv_at hl 0 rfl) ?_
  refine lv_if_lt (tgt := 53) hx hb dX8_append_4 (by decide) (fun h => absurd h (by decide)) (fun _ => ?_)
  refine lv_aload_n hx hb dX8_append_7 rfl (lv_at hl 1 rfl) ?_
  refine h_geti (C := RX8) (T := TX8) (N := 4) hx hb hts inX8 hown hK hT2 (hY.o rfl) rfl 1 rfl wF_X8_15 rfl dX8_append_8 (fun p11 => ?_)
  refine h_top (v := 1) (h_pu hu2) ?_
  refine lv_if_lt (tgt := 47) hx hb dX8_append_11 (by decide) (fun h => absurd h (by decide)) (fun _ => ?_)
  refine lv_aload_n hx hb dX8_append_14 rfl (lv_at hl 1 rfl) ?_
  refine h_geti (C := RX8) (T := TX8) (N := 4) hx hb hts inX8 hown hK hT2 (hY.o rfl) rfl 1 rfl wF_X8_15 rfl dX8_append_15 (fun p13 => ?_)
  refine h_top (v := 1) (h_pu hu2) ?_
  refine lv_sipush (v := 500) hx hb dX8_append_18 (by decide) ?_
  refine lv_icmp_ge (tgt := 47) hx hb dX8_append_21 (by decide) (fun h => absurd h (by decide)) (fun _ => ?_)
  refine lv_aload_n hx hb dX8_append_24 rfl (lv_at hl 1 rfl) ?_
  refine h_getr (C := RX8) (T := TX8) (N := 4) hx hb hts inX8 hown hK hT2 (hY.o rfl) rfl 0 rfl wF_X8_9 rfl dX8_append_25 ?_
  refine lv_aload_n hx hb dX8_append_28 rfl (lv_at hl 1 rfl) ?_
  refine h_geti (C := RX8) (T := TX8) (N := 4) hx hb hts inX8 hown hK hT2 (hY.o rfl) rfl 1 rfl wF_X8_15 rfl dX8_append_29 (fun p15 => ?_)
  refine h_top (v := 1) (h_pu hu2) ?_
  refine lv_iload_n hx hb dX8_append_32 rfl (lv_at hl 2 rfl) ?_
  refine lv_iload_n hx hb dX8_append_33 rfl (lv_at hl 0 rfl) ?_
  refine lv_ishr hx hb dX8_append_34 ?_
  refine lv_topi (fun x16 ex16 => ?_)
  refine lv_i2b hx hb dX8_append_35 rfl ?_
  refine lv_topi (fun x17 ex17 => ?_)
  refine h_bast hx hb hK hT2 (fun _ h => h) hS2 (hY.at 1 rfl) (h_inc (by decide)) trivial dX8_append_36 (fun H3 locs hT3 hS3 hu3 => ?_)
  refine lv_aload_n hx hb dX8_append_37 rfl (lv_at hl 1 rfl) ?_
  refine lv_dup hx hb dX8_append_38 rfl ?_
  refine h_geti (C := RX8) (T := TX8) (N := 4) hx hb hts inX8 hown hK hT3 (hY.o rfl) rfl 1 rfl wF_X8_15 rfl dX8_append_39 (fun p18 => ?_)
  refine h_top (v := 1) ((h_gi_same (hu3.2.1 _ (by omega))).trans (h_pu hu2)) ?_
  refine lv_iconst (v := 1) hx hb dX8_append_42 (by decide) ?_
  refine lv_iadd hx hb dX8_append_43 ?_
  refine h_top (v := 2) (by decide) ?_
  refine h_puti (C := RX8) (T := TX8) (N := 4) hx hb hts inX8 tyX8 tyX8_ok nmX8 hown hK hT3 (fun _ h => h) hS3 (hY.o rfl) rfl 1 rfl wF_X8_15 rfl rfl trivial rfl rfl dX8_append_44 (fun H4 locs hT4 hS4 hu4 => ?_)
  refine lv_iinc (v := 8) (lv' := [(2, .int 8), (0, .ref (o)), (1, .int u1)]) hx hb dX8_append_47 hl (k := 0) rfl (by decide) (by decide) rfl (fun ls hl => ?_)
  refine lv_goto (tgt := 3) hx hb dX8_append_50 (by decide) ?_
  refine lv_iload_n hx hb dX8_append_3 rfl (lv_at hl 0 rfl) ?_
  refine lv_if_lt (tgt := 53) hx hb dX8_append_4 (by decide) (fun h => absurd h (by decide)) (fun _ => ?_)
  refine lv_aload_n hx hb dX8_append_7 rfl (lv_at hl 1 rfl) ?_
  refine h_geti (C := RX8) (T := TX8) (N := 4) hx hb hts inX8 hown hK hT4 (hY.o rfl) rfl 1 rfl wF_X8_15 rfl dX8_append_8 (fun p20 => ?_)
  refine h_top (v := 2) (h_pu hu4) ?_
  refine lv_if_lt (tgt := 47) hx hb dX8_append_11 (by decide) (fun h => absurd h (by decide)) (fun _ => ?_)
  refine lv_aload_n hx hb dX8_append_14 rfl (lv_at hl 1 rfl) ?_
  refine h_geti (C := RX8) (T := TX8) (N := 4) hx hb hts inX8 hown hK hT4 (hY.o rfl) rfl 1 rfl wF_X8_15 rfl dX8_append_15 (fun p22 => ?_)
  refine h_top (v := 2) (h_pu hu4) ?_
  refine lv_sipush (v := 500) hx hb dX8_append_18 (by decide) ?_
  refine lv_icmp_ge (tgt := 47) hx hb dX8_append_21 (by decide) (fun h => absurd h (by decide)) (fun _ => ?_)
  refine lv_aload_n hx hb dX8_append_24 rfl (lv_at hl 1 rfl) ?_
  refine h_getr (C := RX8) (T := TX8) (N := 4) hx hb hts inX8 hown hK hT4 (hY.o rfl) rfl 0 rfl wF_X8_9 rfl dX8_append_25 ?_
  refine lv_aload_n hx hb dX8_append_28 rfl (lv_at hl 1 rfl) ?_
  refine h_geti (C := RX8) (T := TX8) (N := 4) hx hb hts inX8 hown hK hT4 (hY.o rfl) rfl 1 rfl wF_X8_15 rfl dX8_append_29 (fun p24 => ?_)
  refine h_top (v := 2) (h_pu hu4) ?_
  refine lv_iload_n hx hb dX8_append_32 rfl (lv_at hl 2 rfl) ?_
  refine lv_iload_n hx hb dX8_append_33 rfl (lv_at hl 0 rfl) ?_
  refine lv_ishr hx hb dX8_append_34 ?_
  refine lv_topi (fun x25 ex25 => ?_)
  refine lv_i2b hx hb dX8_append_35 rfl ?_
  refine lv_topi (fun x26 ex26 => ?_)
  refine h_bast hx hb hK hT4 (fun _ h => h) hS4 (hY.at 1 rfl) (h_inc (by decide)) trivial dX8_append_36 (fun H5 locs hT5 hS5 hu5 => ?_)
  refine lv_aload_n hx hb dX8_append_37 rfl (lv_at hl 1 rfl) ?_
  refine lv_dup hx hb dX8_append_38 rfl ?_
  refine h_geti (C := RX8) (T := TX8) (N := 4) hx hb hts inX8 hown hK hT5 (hY.o rfl) rfl 1 rfl wF_X8_15 rfl dX8_append_39 (fun p27 => ?_)
  refine h_top (v := 2) ((h_gi_same (hu5.2.1 _ (by omega))).trans (h_pu hu4)) ?_
  refine lv_iconst (v := 1) hx hb dX8_append_42 (by decide) ?_
  refine lv_iadd hx hb dX8_append_43 ?_
  refine h_top (v := 3) (by decide) ?_
  refine h_puti (C := RX8) (T := TX8) (N := 4) hx hb hts inX8 tyX8 tyX8_ok nmX8 hown hK hT5 (fun _ h => h) hS5 (hY.o rfl) rfl 1 rfl wF_X8_15 rfl rfl trivial rfl rfl dX8_append_44 (fun H6 locs hT6 hS6 hu6 => ?_)
  refine lv_iinc (v := 0) (lv' := [(2, .int 0), (0, .ref (o)), (1, .int u1)]) hx hb dX8_append_47 hl (k := 0) rfl (by decide) (by decide) rfl (fun ls hl => ?_)
  refine lv_goto (tgt := 3) hx hb dX8_append_50 (by decide) ?_
  refine lv_iload_n hx hb dX8_append_3 rfl (lv_at hl 0 rfl) ?_
  refine lv_if_lt (tgt := 53) hx hb dX8_append_4 (by decide) (fun h => absurd h (by decide)) (fun _ => ?_)
  refine lv_aload_n hx hb dX8_append_7 rfl (lv_at hl 1 rfl) ?_
  refine h_geti (C := RX8) (T := TX8) (N := 4) hx hb hts inX8 hown hK hT6 (hY.o rfl) rfl 1 rfl wF_X8_15 rfl dX8_append_8 (fun p29 => ?_)
  refine h_top (v := 3) (h_pu hu6) ?_
  refine lv_if_lt (tgt := 47) hx hb dX8_append_11 (by decide) (fun h => absurd h (by decide)) (fun _ => ?_)
  refine lv_aload_n hx hb dX8_append_14 rfl (lv_at hl 1 rfl) ?_
  refine h_geti (C := RX8) (T := TX8) (N := 4) hx hb hts inX8 hown hK hT6 (hY.o rfl) rfl 1 rfl wF_X8_15 rfl dX8_append_15 (fun p31 => ?_)
  refine h_top (v := 3) (h_pu hu6) ?_
  refine lv_sipush (v := 500) hx hb dX8_append_18 (by decide) ?_
  refine lv_icmp_ge (tgt := 47) hx hb dX8_append_21 (by decide) (fun h => absurd h (by decide)) (fun _ => ?_)
  refine lv_aload_n hx hb dX8_append_24 rfl (lv_at hl 1 rfl) ?_
  refine h_getr (C := RX8) (T := TX8) (N := 4) hx hb hts inX8 hown hK hT6 (hY.o rfl) rfl 0 rfl wF_X8_9 rfl dX8_append_25 ?_
  refine lv_aload_n hx hb dX8_append_28 rfl (lv_at hl 1 rfl) ?_
  refine h_geti (C := RX8) (T := TX8) (N := 4) hx hb hts inX8 hown hK hT6 (hY.o rfl) rfl 1 rfl wF_X8_15 rfl dX8_append_29 (fun p33 => ?_)
  refine h_top (v := 3) (h_pu hu6) ?_
  refine lv_iload_n hx hb dX8_append_32 rfl (lv_at hl 2 rfl) ?_
  refine lv_iload_n hx hb dX8_append_33 rfl (lv_at hl 0 rfl) ?_
  refine lv_ishr hx hb dX8_append_34 ?_
  refine lv_topi (fun x34 ex34 => ?_)
  refine lv_i2b hx hb dX8_append_35 rfl ?_
  refine lv_topi (fun x35 ex35 => ?_)
  refine h_bast hx hb hK hT6 (fun _ h => h) hS6 (hY.at 1 rfl) (h_inc (by decide)) trivial dX8_append_36 (fun H7 locs hT7 hS7 hu7 => ?_)
  refine lv_aload_n hx hb dX8_append_37 rfl (lv_at hl 1 rfl) ?_
  refine lv_dup hx hb dX8_append_38 rfl ?_
  refine h_geti (C := RX8) (T := TX8) (N := 4) hx hb hts inX8 hown hK hT7 (hY.o rfl) rfl 1 rfl wF_X8_15 rfl dX8_append_39 (fun p36 => ?_)
  refine h_top (v := 3) ((h_gi_same (hu7.2.1 _ (by omega))).trans (h_pu hu6)) ?_
  refine lv_iconst (v := 1) hx hb dX8_append_42 (by decide) ?_
  refine lv_iadd hx hb dX8_append_43 ?_
  refine h_top (v := 4) (by decide) ?_
  refine h_puti (C := RX8) (T := TX8) (N := 4) hx hb hts inX8 tyX8 tyX8_ok nmX8 hown hK hT7 (fun _ h => h) hS7 (hY.o rfl) rfl 1 rfl wF_X8_15 rfl rfl trivial rfl rfl dX8_append_44 (fun H8 locs hT8 hS8 hu8 => ?_)
  refine lv_iinc (v := (-8)) (lv' := [(2, .int (-8)), (0, .ref (o)), (1, .int u1)]) hx hb dX8_append_47 hl (k := 0) rfl (by decide) (by decide) rfl (fun ls hl => ?_)
  refine lv_goto (tgt := 3) hx hb dX8_append_50 (by decide) ?_
  refine lv_iload_n hx hb dX8_append_3 rfl (lv_at hl 0 rfl) ?_
  refine lv_if_lt (tgt := 53) hx hb dX8_append_4 (by decide) (fun _ => ?_) (fun h => absurd (by decide) h)
  exact hret _ _ _ _ hT8 hS8 (h_pu hu8) dX8_append_53
set_option maxHeartbeats 4000000 in
set_option maxRecDepth 100000 in
theorem c_append_4 (l : Launch) (G : hG) (Y : hW) (o : Nat) (hY : h_On Y o (taE tF o)) (u1 : Int32) : hMv l yX8_append cX8_append 3 none 0 0 G Y [.ref (o), .int u1] (fun H => h_gi G H 8 o 1 = 4) (fun H H1 => h_gi G H1 8 o 1 = 8) := by
  refine h_ofv (by decide +kernel) (Nat.le_of_ble_eq_true rfl) ?_
  intro p e s m args below meth c H0 ls Q hx hb hts hown hml hK hT0 hpr hS0 hl hret
  have hl : lv_has ls 3 [(0, .ref (o)), (1, .int u1)] := hl
  refine lv_bipush (v := 24) hx hb dX8_append_0 (by decide) ?_
  refine lv_istore_n (lv' := [(2, .int 24), (0, .ref (o)), (1, .int u1)]) hx hb dX8_append_2 rfl hl (by decide) rfl (fun ls hl => ?_)
  refine lv_iload_n hx hb dX8_append_3 rfl (lv_at hl 0 rfl) ?_
  refine lv_if_lt (tgt := 53) hx hb dX8_append_4 (by decide) (fun h => absurd h (by decide)) (fun _ => ?_)
  refine lv_aload_n hx hb dX8_append_7 rfl (lv_at hl 1 rfl) ?_
  refine h_geti (C := RX8) (T := TX8) (N := 4) hx hb hts inX8 hown hK hT0 (hY.o rfl) rfl 1 rfl wF_X8_15 rfl dX8_append_8 (fun p2 => ?_)
  refine h_top (v := 4) hpr ?_
  refine lv_if_lt (tgt := 47) hx hb dX8_append_11 (by decide) (fun h => absurd h (by decide)) (fun _ => ?_)
  refine lv_aload_n hx hb dX8_append_14 rfl (lv_at hl 1 rfl) ?_
  refine h_geti (C := RX8) (T := TX8) (N := 4) hx hb hts inX8 hown hK hT0 (hY.o rfl) rfl 1 rfl wF_X8_15 rfl dX8_append_15 (fun p4 => ?_)
  refine h_top (v := 4) hpr ?_
  refine lv_sipush (v := 500) hx hb dX8_append_18 (by decide) ?_
  refine lv_icmp_ge (tgt := 47) hx hb dX8_append_21 (by decide) (fun h => absurd h (by decide)) (fun _ => ?_)
  refine lv_aload_n hx hb dX8_append_24 rfl (lv_at hl 1 rfl) ?_
  refine h_getr (C := RX8) (T := TX8) (N := 4) hx hb hts inX8 hown hK hT0 (hY.o rfl) rfl 0 rfl wF_X8_9 rfl dX8_append_25 ?_
  refine lv_aload_n hx hb dX8_append_28 rfl (lv_at hl 1 rfl) ?_
  refine h_geti (C := RX8) (T := TX8) (N := 4) hx hb hts inX8 hown hK hT0 (hY.o rfl) rfl 1 rfl wF_X8_15 rfl dX8_append_29 (fun p6 => ?_)
  refine h_top (v := 4) hpr ?_
  refine lv_iload_n hx hb dX8_append_32 rfl (lv_at hl 2 rfl) ?_
  refine lv_iload_n hx hb dX8_append_33 rfl (lv_at hl 0 rfl) ?_
  refine lv_ishr hx hb dX8_append_34 ?_
  refine lv_topi (fun x7 ex7 => ?_)
  refine lv_i2b hx hb dX8_append_35 rfl ?_
  refine lv_topi (fun x8 ex8 => ?_)
  refine h_bast hx hb hK hT0 (fun _ h => h) hS0 (hY.at 1 rfl) (h_inc (by decide)) trivial dX8_append_36 (fun H1 locs hT1 hS1 hu1 => ?_)
  refine lv_aload_n hx hb dX8_append_37 rfl (lv_at hl 1 rfl) ?_
  refine lv_dup hx hb dX8_append_38 rfl ?_
  refine h_geti (C := RX8) (T := TX8) (N := 4) hx hb hts inX8 hown hK hT1 (hY.o rfl) rfl 1 rfl wF_X8_15 rfl dX8_append_39 (fun p9 => ?_)
  refine h_top (v := 4) ((h_gi_same (hu1.2.1 _ (by omega))).trans hpr) ?_
  refine lv_iconst (v := 1) hx hb dX8_append_42 (by decide) ?_
  refine lv_iadd hx hb dX8_append_43 ?_
  refine h_top (v := 5) (by decide) ?_
  refine h_puti (C := RX8) (T := TX8) (N := 4) hx hb hts inX8 tyX8 tyX8_ok nmX8 hown hK hT1 (fun _ h => h) hS1 (hY.o rfl) rfl 1 rfl wF_X8_15 rfl rfl trivial rfl rfl dX8_append_44 (fun H2 locs hT2 hS2 hu2 => ?_)
  refine lv_iinc (v := 16) (lv' := [(2, .int 16), (0, .ref (o)), (1, .int u1)]) hx hb dX8_append_47 hl (k := 0) rfl (by decide) (by decide) rfl (fun ls hl => ?_)
  refine lv_goto (tgt := 3) hx hb dX8_append_50 (by decide) ?_
  refine lv_iload_n hx hb dX8_append_3 rfl (lv_at hl 0 rfl) ?_
  refine lv_if_lt (tgt := 53) hx hb dX8_append_4 (by decide) (fun h => absurd h (by decide)) (fun _ => ?_)
  refine lv_aload_n hx hb dX8_append_7 rfl (lv_at hl 1 rfl) ?_
  refine h_geti (C := RX8) (T := TX8) (N := 4) hx hb hts inX8 hown hK hT2 (hY.o rfl) rfl 1 rfl wF_X8_15 rfl dX8_append_8 (fun p11 => ?_)
  refine h_top (v := 5) (h_pu hu2) ?_
  refine lv_if_lt (tgt := 47) hx hb dX8_append_11 (by decide) (fun h => absurd h (by decide)) (fun _ => ?_)
  refine lv_aload_n hx hb dX8_append_14 rfl (lv_at hl 1 rfl) ?_
  refine h_geti (C := RX8) (T := TX8) (N := 4) hx hb hts inX8 hown hK hT2 (hY.o rfl) rfl 1 rfl wF_X8_15 rfl dX8_append_15 (fun p13 => ?_)
  refine h_top (v := 5) (h_pu hu2) ?_
  refine lv_sipush (v := 500) hx hb dX8_append_18 (by decide) ?_
  refine lv_icmp_ge (tgt := 47) hx hb dX8_append_21 (by decide) (fun h => absurd h (by decide)) (fun _ => ?_)
  refine lv_aload_n hx hb dX8_append_24 rfl (lv_at hl 1 rfl) ?_
  refine h_getr (C := RX8) (T := TX8) (N := 4) hx hb hts inX8 hown hK hT2 (hY.o rfl) rfl 0 rfl wF_X8_9 rfl dX8_append_25 ?_
  refine lv_aload_n hx hb dX8_append_28 rfl (lv_at hl 1 rfl) ?_
  refine h_geti (C := RX8) (T := TX8) (N := 4) hx hb hts inX8 hown hK hT2 (hY.o rfl) rfl 1 rfl wF_X8_15 rfl dX8_append_29 (fun p15 => ?_)
  refine h_top (v := 5) (h_pu hu2) ?_
  refine lv_iload_n hx hb dX8_append_32 rfl (lv_at hl 2 rfl) ?_
  refine lv_iload_n hx hb dX8_append_33 rfl (lv_at hl 0 rfl) ?_
  refine lv_ishr hx hb dX8_append_34 ?_
  refine lv_topi (fun x16 ex16 => ?_)
  refine lv_i2b hx hb dX8_append_35 rfl ?_
  refine lv_topi (fun x17 ex17 => ?_)
  refine h_bast hx hb hK hT2 (fun _ h => h) hS2 (hY.at 1 rfl) (h_inc (by decide)) trivial dX8_append_36 (fun H3 locs hT3 hS3 hu3 => ?_)
  refine lv_aload_n hx hb dX8_append_37 rfl (lv_at hl 1 rfl) ?_
  refine lv_dup hx hb dX8_append_38 rfl ?_
  refine h_geti (C := RX8) (T := TX8) (N := 4) hx hb hts inX8 hown hK hT3 (hY.o rfl) rfl 1 rfl wF_X8_15 rfl dX8_append_39 (fun p18 => ?_)
  refine h_top (v := 5) ((h_gi_same (hu3.2.1 _ (by omega))).trans (h_pu hu2)) ?_
  refine lv_iconst (v := 1) hx hb dX8_append_42 (by decide) ?_
  refine lv_iadd hx hb dX8_append_43 ?_
  refine h_top (v := 6) (by decide) ?_
  refine h_puti (C := RX8) (T := TX8) (N := 4) hx hb hts inX8 tyX8 tyX8_ok nmX8 hown hK hT3 (fun _ h => h) hS3 (hY.o rfl) rfl 1 rfl wF_X8_15 rfl rfl trivial rfl rfl dX8_append_44 (fun H4 locs hT4 hS4 hu4 => ?_)
  refine lv_iinc (v := 8) (lv' := [(2, .int 8), (0, .ref (o)), (1, .int u1)]) hx hb dX8_append_47 hl (k := 0) rfl (by decide) (by decide) rfl (fun ls hl => ?_)
  refine lv_goto (tgt := 3) hx hb dX8_append_50 (by decide) ?_
  refine lv_iload_n hx hb dX8_append_3 rfl (lv_at hl 0 rfl) ?_
  refine lv_if_lt (tgt := 53) hx hb dX8_append_4 (by decide) (fun h => absurd h (by decide)) (fun _ => ?_)
  refine lv_aload_n hx hb dX8_append_7 rfl (lv_at hl 1 rfl) ?_
  refine h_geti (C := RX8) (T := TX8) (N := 4) hx hb hts inX8 hown hK hT4 (hY.o rfl) rfl 1 rfl wF_X8_15 rfl dX8_append_8 (fun p20 => ?_)
  refine h_top (v := 6) (h_pu hu4) ?_
  refine lv_if_lt (tgt := 47) hx hb dX8_append_11 (by decide) (fun h => absurd h (by decide)) (fun _ => ?_)
  refine lv_aload_n hx hb dX8_append_14 rfl (lv_at hl 1 rfl) ?_
  refine h_geti (C := RX8) (T := TX8) (N := 4) hx hb hts inX8 hown hK hT4 (hY.o rfl) rfl 1 rfl wF_X8_15 rfl dX8_append_15 (fun p22 => ?_)
  refine h_top (v := 6) (h_pu hu4) ?_
  refine lv_sipush (v := 500) hx hb dX8_append_18 (by decide) ?_
  refine lv_icmp_ge (tgt := 47) hx hb dX8_append_21 (by decide) (fun h => absurd h (by decide)) (fun _ => ?_)
  refine lv_aload_n hx hb dX8_append_24 rfl (lv_at hl 1 rfl) ?_
  refine h_getr (C := RX8) (T := TX8) (N := 4) hx hb hts inX8 hown hK hT4 (hY.o rfl) rfl 0 rfl wF_X8_9 rfl dX8_append_25 ?_
  refine lv_aload_n hx hb dX8_append_28 rfl (lv_at hl 1 rfl) ?_
  refine h_geti (C := RX8) (T := TX8) (N := 4) hx hb hts inX8 hown hK hT4 (hY.o rfl) rfl 1 rfl wF_X8_15 rfl dX8_append_29 (fun p24 => ?_)
  refine h_top (v := 6) (h_pu hu4) ?_
  refine lv_iload_n hx hb dX8_append_32 rfl (lv_at hl 2 rfl) ?_
  refine lv_iload_n hx hb dX8_append_33 rfl (lv_at hl 0 rfl) ?_
  refine lv_ishr hx hb dX8_append_34 ?_
  refine lv_topi (fun x25 ex25 => ?_)
  refine lv_i2b hx hb dX8_append_35 rfl ?_
  refine lv_topi (fun x26 ex26 => ?_)
  refine h_bast hx hb hK hT4 (fun _ h => h) hS4 (hY.at 1 rfl) (h_inc (by decide)) trivial dX8_append_36 (fun H5 locs hT5 hS5 hu5 => ?_)
  refine lv_aload_n hx hb dX8_append_37 rfl (lv_at hl 1 rfl) ?_
  refine lv_dup hx hb dX8_append_38 rfl ?_
  refine h_geti (C := RX8) (T := TX8) (N := 4) hx hb hts inX8 hown hK hT5 (hY.o rfl) rfl 1 rfl wF_X8_15 rfl dX8_append_39 (fun p27 => ?_)
  refine h_top (v := 6) ((h_gi_same (hu5.2.1 _ (by omega))).trans (h_pu hu4)) ?_
  refine lv_iconst (v := 1) hx hb dX8_append_42 (by decide) ?_
  refine lv_iadd hx hb dX8_append_43 ?_
  refine h_top (v := 7) (by decide) ?_
  refine h_puti (C := RX8) (T := TX8) (N := 4) hx hb hts inX8 tyX8 tyX8_ok nmX8 hown hK hT5 (fun _ h => h) hS5 (hY.o rfl) rfl 1 rfl wF_X8_15 rfl rfl trivial rfl rfl dX8_append_44 (fun H6 locs hT6 hS6 hu6 => ?_)
  refine lv_iinc (v := 0) (lv' := [(2, .int 0), (0, .ref (o)), (1, .int u1)]) hx hb dX8_append_47 hl (k := 0) rfl (by decide) (by decide) rfl (fun ls hl => ?_)
  refine lv_goto (tgt := 3) hx hb dX8_append_50 (by decide) ?_
  refine lv_iload_n hx hb dX8_append_3 rfl (lv_at hl 0 rfl) ?_
  refine lv_if_lt (tgt := 53) hx hb dX8_append_4 (by decide) (fun h => absurd h (by decide)) (fun _ => ?_)
  refine lv_aload_n hx hb dX8_append_7 rfl (lv_at hl 1 rfl) ?_
  refine h_geti (C := RX8) (T := TX8) (N := 4) hx hb hts inX8 hown hK hT6 (hY.o rfl) rfl 1 rfl wF_X8_15 rfl dX8_append_8 (fun p29 => ?_)
  refine h_top (v := 7) (h_pu hu6) ?_
  refine lv_if_lt (tgt := 47) hx hb dX8_append_11 (by decide) (fun h => absurd h (by decide)) (fun _ => ?_)
  refine lv_aload_n hx hb dX8_append_14 rfl (lv_at hl 1 rfl) ?_
  refine h_geti (C := RX8) (T := TX8) (N := 4) hx hb hts inX8 hown hK hT6 (hY.o rfl) rfl 1 rfl wF_X8_15 rfl dX8_append_15 (fun p31 => ?_)
  refine h_top (v := 7) (h_pu hu6) ?_
  refine lv_sipush (v := 500) hx hb dX8_append_18 (by decide) ?_
  refine lv_icmp_ge (tgt := 47) hx hb dX8_append_21 (by decide) (fun h => absurd h (by decide)) (fun _ => ?_)
  refine lv_aload_n hx hb dX8_append_24 rfl (lv_at hl 1 rfl) ?_
  refine h_getr (C := RX8) (T := TX8) (N := 4) hx hb hts inX8 hown hK hT6 (hY.o rfl) rfl 0 rfl wF_X8_9 rfl dX8_append_25 ?_
  refine lv_aload_n hx hb dX8_append_28 rfl (lv_at hl 1 rfl) ?_
  refine h_geti (C := RX8) (T := TX8) (N := 4) hx hb hts inX8 hown hK hT6 (hY.o rfl) rfl 1 rfl wF_X8_15 rfl dX8_append_29 (fun p33 => ?_)
  refine h_top (v := 7) (h_pu hu6) ?_
  refine lv_iload_n hx hb dX8_append_32 rfl (lv_at hl 2 rfl) ?_
  refine lv_iload_n hx hb dX8_append_33 rfl (lv_at hl 0 rfl) ?_
  refine lv_ishr hx hb dX8_append_34 ?_
  refine lv_topi (fun x34 ex34 => ?_)
  refine lv_i2b hx hb dX8_append_35 rfl ?_
  refine lv_topi (fun x35 ex35 => ?_)
  refine h_bast hx hb hK hT6 (fun _ h => h) hS6 (hY.at 1 rfl) (h_inc (by decide)) trivial dX8_append_36 (fun H7 locs hT7 hS7 hu7 => ?_)
  refine lv_aload_n hx hb dX8_append_37 rfl (lv_at hl 1 rfl) ?_
  refine lv_dup hx hb dX8_append_38 rfl ?_
  refine h_geti (C := RX8) (T := TX8) (N := 4) hx hb hts inX8 hown hK hT7 (hY.o rfl) rfl 1 rfl wF_X8_15 rfl dX8_append_39 (fun p36 => ?_)
  refine h_top (v := 7) ((h_gi_same (hu7.2.1 _ (by omega))).trans (h_pu hu6)) ?_
  refine lv_iconst (v := 1) hx hb dX8_append_42 (by decide) ?_
  refine lv_iadd hx hb dX8_append_43 ?_
  refine h_top (v := 8) (by decide) ?_
  refine h_puti (C := RX8) (T := TX8) (N := 4) hx hb hts inX8 tyX8 tyX8_ok nmX8 hown hK hT7 (fun _ h => h) hS7 (hY.o rfl) rfl 1 rfl wF_X8_15 rfl rfl trivial rfl rfl dX8_append_44 (fun H8 locs hT8 hS8 hu8 => ?_)
  refine lv_iinc (v := (-8)) (lv' := [(2, .int (-8)), (0, .ref (o)), (1, .int u1)]) hx hb dX8_append_47 hl (k := 0) rfl (by decide) (by decide) rfl (fun ls hl => ?_)
  refine lv_goto (tgt := 3) hx hb dX8_append_50 (by decide) ?_
  refine lv_iload_n hx hb dX8_append_3 rfl (lv_at hl 0 rfl) ?_
  refine lv_if_lt (tgt := 53) hx hb dX8_append_4 (by decide) (fun _ => ?_) (fun h => absurd (by decide) h)
  exact hret _ _ _ _ hT8 hS8 (h_pu hu8) dX8_append_53
set_option maxHeartbeats 4000000 in
set_option maxRecDepth 100000 in
theorem c_append_8 (l : Launch) (G : hG) (Y : hW) (o : Nat) (hY : h_On Y o (taE tF o)) (u1 : Int32) : hMv l yX8_append cX8_append 3 none 0 0 G Y [.ref (o), .int u1] (fun H => h_gi G H 8 o 1 = 8) (fun H H1 => h_gi G H1 8 o 1 = 12) := by
  refine h_ofv (by decide +kernel) (Nat.le_of_ble_eq_true rfl) ?_
  intro p e s m args below meth c H0 ls Q hx hb hts hown hml hK hT0 hpr hS0 hl hret
  have hl : lv_has ls 3 [(0, .ref (o)), (1, .int u1)] := hl
  refine lv_bipush (v := 24) hx hb dX8_append_0 (by decide) ?_
  refine lv_istore_n (lv' := [(2, .int 24), (0, .ref (o)), (1, .int u1)]) hx hb dX8_append_2 rfl hl (by decide) rfl (fun ls hl => ?_)
  refine lv_iload_n hx hb dX8_append_3 rfl (lv_at hl 0 rfl) ?_
  refine lv_if_lt (tgt := 53) hx hb dX8_append_4 (by decide) (fun h => absurd h (by decide)) (fun _ => ?_)
  refine lv_aload_n hx hb dX8_append_7 rfl (lv_at hl 1 rfl) ?_
  refine h_geti (C := RX8) (T := TX8) (N := 4) hx hb hts inX8 hown hK hT0 (hY.o rfl) rfl 1 rfl wF_X8_15 rfl dX8_append_8 (fun p2 => ?_)
  refine h_top (v := 8) hpr ?_
  refine lv_if_lt (tgt := 47) hx hb dX8_append_11 (by decide) (fun h => absurd h (by decide)) (fun _ => ?_)
  refine lv_aload_n hx hb dX8_append_14 rfl (lv_at hl 1 rfl) ?_
  refine h_geti (C := RX8) (T := TX8) (N := 4) hx hb hts inX8 hown hK hT0 (hY.o rfl) rfl 1 rfl wF_X8_15 rfl dX8_append_15 (fun p4 => ?_)
  refine h_top (v := 8) hpr ?_
  refine lv_sipush (v := 500) hx hb dX8_append_18 (by decide) ?_
  refine lv_icmp_ge (tgt := 47) hx hb dX8_append_21 (by decide) (fun h => absurd h (by decide)) (fun _ => ?_)
  refine lv_aload_n hx hb dX8_append_24 rfl (lv_at hl 1 rfl) ?_
  refine h_getr (C := RX8) (T := TX8) (N := 4) hx hb hts inX8 hown hK hT0 (hY.o rfl) rfl 0 rfl wF_X8_9 rfl dX8_append_25 ?_
  refine lv_aload_n hx hb dX8_append_28 rfl (lv_at hl 1 rfl) ?_
  refine h_geti (C := RX8) (T := TX8) (N := 4) hx hb hts inX8 hown hK hT0 (hY.o rfl) rfl 1 rfl wF_X8_15 rfl dX8_append_29 (fun p6 => ?_)
  refine h_top (v := 8) hpr ?_
  refine lv_iload_n hx hb dX8_append_32 rfl (lv_at hl 2 rfl) ?_
  refine lv_iload_n hx hb dX8_append_33 rfl (lv_at hl 0 rfl) ?_
  refine lv_ishr hx hb dX8_append_34 ?_
  refine lv_topi (fun x7 ex7 => ?_)
  refine lv_i2b hx hb dX8_append_35 rfl ?_
  refine lv_topi (fun x8 ex8 => ?_)
  refine h_bast hx hb hK hT0 (fun _ h => h) hS0 (hY.at 1 rfl) (h_inc (by decide)) trivial dX8_append_36 (fun H1 locs hT1 hS1 hu1 => ?_)
  refine lv_aload_n hx hb dX8_append_37 rfl (lv_at hl 1 rfl) ?_
  refine lv_dup hx hb dX8_append_38 rfl ?_
  refine h_geti (C := RX8) (T := TX8) (N := 4) hx hb hts inX8 hown hK hT1 (hY.o rfl) rfl 1 rfl wF_X8_15 rfl dX8_append_39 (fun p9 => ?_)
  refine h_top (v := 8) ((h_gi_same (hu1.2.1 _ (by omega))).trans hpr) ?_
  refine lv_iconst (v := 1) hx hb dX8_append_42 (by decide) ?_
  refine lv_iadd hx hb dX8_append_43 ?_
  refine h_top (v := 9) (by decide) ?_
  refine h_puti (C := RX8) (T := TX8) (N := 4) hx hb hts inX8 tyX8 tyX8_ok nmX8 hown hK hT1 (fun _ h => h) hS1 (hY.o rfl) rfl 1 rfl wF_X8_15 rfl rfl trivial rfl rfl dX8_append_44 (fun H2 locs hT2 hS2 hu2 => ?_)
  refine lv_iinc (v := 16) (lv' := [(2, .int 16), (0, .ref (o)), (1, .int u1)]) hx hb dX8_append_47 hl (k := 0) rfl (by decide) (by decide) rfl (fun ls hl => ?_)
  refine lv_goto (tgt := 3) hx hb dX8_append_50 (by decide) ?_
  refine lv_iload_n hx hb dX8_append_3 rfl (lv_at hl 0 rfl) ?_
  refine lv_if_lt (tgt := 53) hx hb dX8_append_4 (by decide) (fun h => absurd h (by decide)) (fun _ => ?_)
  refine lv_aload_n hx hb dX8_append_7 rfl (lv_at hl 1 rfl) ?_
  refine h_geti (C := RX8) (T := TX8) (N := 4) hx hb hts inX8 hown hK hT2 (hY.o rfl) rfl 1 rfl wF_X8_15 rfl dX8_append_8 (fun p11 => ?_)
  refine h_top (v := 9) (h_pu hu2) ?_
  refine lv_if_lt (tgt := 47) hx hb dX8_append_11 (by decide) (fun h => absurd h (by decide)) (fun _ => ?_)
  refine lv_aload_n hx hb dX8_append_14 rfl (lv_at hl 1 rfl) ?_
  refine h_geti (C := RX8) (T := TX8) (N := 4) hx hb hts inX8 hown hK hT2 (hY.o rfl) rfl 1 rfl wF_X8_15 rfl dX8_append_15 (fun p13 => ?_)
  refine h_top (v := 9) (h_pu hu2) ?_
  refine lv_sipush (v := 500) hx hb dX8_append_18 (by decide) ?_
  refine lv_icmp_ge (tgt := 47) hx hb dX8_append_21 (by decide) (fun h => absurd h (by decide)) (fun _ => ?_)
  refine lv_aload_n hx hb dX8_append_24 rfl (lv_at hl 1 rfl) ?_
  refine h_getr (C := RX8) (T := TX8) (N := 4) hx hb hts inX8 hown hK hT2 (hY.o rfl) rfl 0 rfl wF_X8_9 rfl dX8_append_25 ?_
  refine lv_aload_n hx hb dX8_append_28 rfl (lv_at hl 1 rfl) ?_
  refine h_geti (C := RX8) (T := TX8) (N := 4) hx hb hts inX8 hown hK hT2 (hY.o rfl) rfl 1 rfl wF_X8_15 rfl dX8_append_29 (fun p15 => ?_)
  refine h_top (v := 9) (h_pu hu2) ?_
  refine lv_iload_n hx hb dX8_append_32 rfl (lv_at hl 2 rfl) ?_
  refine lv_iload_n hx hb dX8_append_33 rfl (lv_at hl 0 rfl) ?_
  refine lv_ishr hx hb dX8_append_34 ?_
  refine lv_topi (fun x16 ex16 => ?_)
  refine lv_i2b hx hb dX8_append_35 rfl ?_
  refine lv_topi (fun x17 ex17 => ?_)
  refine h_bast hx hb hK hT2 (fun _ h => h) hS2 (hY.at 1 rfl) (h_inc (by decide)) trivial dX8_append_36 (fun H3 locs hT3 hS3 hu3 => ?_)
  refine lv_aload_n hx hb dX8_append_37 rfl (lv_at hl 1 rfl) ?_
  refine lv_dup hx hb dX8_append_38 rfl ?_
  refine h_geti (C := RX8) (T := TX8) (N := 4) hx hb hts inX8 hown hK hT3 (hY.o rfl) rfl 1 rfl wF_X8_15 rfl dX8_append_39 (fun p18 => ?_)
  refine h_top (v := 9) ((h_gi_same (hu3.2.1 _ (by omega))).trans (h_pu hu2)) ?_
  refine lv_iconst (v := 1) hx hb dX8_append_42 (by decide) ?_
  refine lv_iadd hx hb dX8_append_43 ?_
  refine h_top (v := 10) (by decide) ?_
  refine h_puti (C := RX8) (T := TX8) (N := 4) hx hb hts inX8 tyX8 tyX8_ok nmX8 hown hK hT3 (fun _ h => h) hS3 (hY.o rfl) rfl 1 rfl wF_X8_15 rfl rfl trivial rfl rfl dX8_append_44 (fun H4 locs hT4 hS4 hu4 => ?_)
  refine lv_iinc (v := 8) (lv' := [(2, .int 8), (0, .ref (o)), (1, .int u1)]) hx hb dX8_append_47 hl (k := 0) rfl (by decide) (by decide) rfl (fun ls hl => ?_)
  refine lv_goto (tgt := 3) hx hb dX8_append_50 (by decide) ?_
  refine lv_iload_n hx hb dX8_append_3 rfl (lv_at hl 0 rfl) ?_
  refine lv_if_lt (tgt := 53) hx hb dX8_append_4 (by decide) (fun h => absurd h (by decide)) (fun _ => ?_)
  refine lv_aload_n hx hb dX8_append_7 rfl (lv_at hl 1 rfl) ?_
  refine h_geti (C := RX8) (T := TX8) (N := 4) hx hb hts inX8 hown hK hT4 (hY.o rfl) rfl 1 rfl wF_X8_15 rfl dX8_append_8 (fun p20 => ?_)
  refine h_top (v := 10) (h_pu hu4) ?_
  refine lv_if_lt (tgt := 47) hx hb dX8_append_11 (by decide) (fun h => absurd h (by decide)) (fun _ => ?_)
  refine lv_aload_n hx hb dX8_append_14 rfl (lv_at hl 1 rfl) ?_
  refine h_geti (C := RX8) (T := TX8) (N := 4) hx hb hts inX8 hown hK hT4 (hY.o rfl) rfl 1 rfl wF_X8_15 rfl dX8_append_15 (fun p22 => ?_)
  refine h_top (v := 10) (h_pu hu4) ?_
  refine lv_sipush (v := 500) hx hb dX8_append_18 (by decide) ?_
  refine lv_icmp_ge (tgt := 47) hx hb dX8_append_21 (by decide) (fun h => absurd h (by decide)) (fun _ => ?_)
  refine lv_aload_n hx hb dX8_append_24 rfl (lv_at hl 1 rfl) ?_
  refine h_getr (C := RX8) (T := TX8) (N := 4) hx hb hts inX8 hown hK hT4 (hY.o rfl) rfl 0 rfl wF_X8_9 rfl dX8_append_25 ?_
  refine lv_aload_n hx hb dX8_append_28 rfl (lv_at hl 1 rfl) ?_
  refine h_geti (C := RX8) (T := TX8) (N := 4) hx hb hts inX8 hown hK hT4 (hY.o rfl) rfl 1 rfl wF_X8_15 rfl dX8_append_29 (fun p24 => ?_)
  refine h_top (v := 10) (h_pu hu4) ?_
  refine lv_iload_n hx hb dX8_append_32 rfl (lv_at hl 2 rfl) ?_
  refine lv_iload_n hx hb dX8_append_33 rfl (lv_at hl 0 rfl) ?_
  refine lv_ishr hx hb dX8_append_34 ?_
  refine lv_topi (fun x25 ex25 => ?_)
  refine lv_i2b hx hb dX8_append_35 rfl ?_
  refine lv_topi (fun x26 ex26 => ?_)
  refine h_bast hx hb hK hT4 (fun _ h => h) hS4 (hY.at 1 rfl) (h_inc (by decide)) trivial dX8_append_36 (fun H5 locs hT5 hS5 hu5 => ?_)
  refine lv_aload_n hx hb dX8_append_37 rfl (lv_at hl 1 rfl) ?_
  refine lv_dup hx hb dX8_append_38 rfl ?_
  refine h_geti (C := RX8) (T := TX8) (N := 4) hx hb hts inX8 hown hK hT5 (hY.o rfl) rfl 1 rfl wF_X8_15 rfl dX8_append_39 (fun p27 => ?_)
  refine h_top (v := 10) ((h_gi_same (hu5.2.1 _ (by omega))).trans (h_pu hu4)) ?_
  refine lv_iconst (v := 1) hx hb dX8_append_42 (by decide) ?_
  refine lv_iadd hx hb dX8_append_43 ?_
  refine h_top (v := 11) (by decide) ?_
  refine h_puti (C := RX8) (T := TX8) (N := 4) hx hb hts inX8 tyX8 tyX8_ok nmX8 hown hK hT5 (fun _ h => h) hS5 (hY.o rfl) rfl 1 rfl wF_X8_15 rfl rfl trivial rfl rfl dX8_append_44 (fun H6 locs hT6 hS6 hu6 => ?_)
  refine lv_iinc (v := 0) (lv' := [(2, .int 0), (0, .ref (o)), (1, .int u1)]) hx hb dX8_append_47 hl (k := 0) rfl (by decide) (by decide) rfl (fun ls hl => ?_)
  refine lv_goto (tgt := 3) hx hb dX8_append_50 (by decide) ?_
  refine lv_iload_n hx hb dX8_append_3 rfl (lv_at hl 0 rfl) ?_
  refine lv_if_lt (tgt := 53) hx hb dX8_append_4 (by decide) (fun h => absurd h (by decide)) (fun _ => ?_)
  refine lv_aload_n hx hb dX8_append_7 rfl (lv_at hl 1 rfl) ?_
  refine h_geti (C := RX8) (T := TX8) (N := 4) hx hb hts inX8 hown hK hT6 (hY.o rfl) rfl 1 rfl wF_X8_15 rfl dX8_append_8 (fun p29 => ?_)
  refine h_top (v := 11) (h_pu hu6) ?_
  refine lv_if_lt (tgt := 47) hx hb dX8_append_11 (by decide) (fun h => absurd h (by decide)) (fun _ => ?_)
  refine lv_aload_n hx hb dX8_append_14 rfl (lv_at hl 1 rfl) ?_
  refine h_geti (C := RX8) (T := TX8) (N := 4) hx hb hts inX8 hown hK hT6 (hY.o rfl) rfl 1 rfl wF_X8_15 rfl dX8_append_15 (fun p31 => ?_)
  refine h_top (v := 11) (h_pu hu6) ?_
  refine lv_sipush (v := 500) hx hb dX8_append_18 (by decide) ?_
  refine lv_icmp_ge (tgt := 47) hx hb dX8_append_21 (by decide) (fun h => absurd h (by decide)) (fun _ => ?_)
  refine lv_aload_n hx hb dX8_append_24 rfl (lv_at hl 1 rfl) ?_
  refine h_getr (C := RX8) (T := TX8) (N := 4) hx hb hts inX8 hown hK hT6 (hY.o rfl) rfl 0 rfl wF_X8_9 rfl dX8_append_25 ?_
  refine lv_aload_n hx hb dX8_append_28 rfl (lv_at hl 1 rfl) ?_
  refine h_geti (C := RX8) (T := TX8) (N := 4) hx hb hts inX8 hown hK hT6 (hY.o rfl) rfl 1 rfl wF_X8_15 rfl dX8_append_29 (fun p33 => ?_)
  refine h_top (v := 11) (h_pu hu6) ?_
  refine lv_iload_n hx hb dX8_append_32 rfl (lv_at hl 2 rfl) ?_
  refine lv_iload_n hx hb dX8_append_33 rfl (lv_at hl 0 rfl) ?_
  refine lv_ishr hx hb dX8_append_34 ?_
  refine lv_topi (fun x34 ex34 => ?_)
  refine lv_i2b hx hb dX8_append_35 rfl ?_
  refine lv_topi (fun x35 ex35 => ?_)
  refine h_bast hx hb hK hT6 (fun _ h => h) hS6 (hY.at 1 rfl) (h_inc (by decide)) trivial dX8_append_36 (fun H7 locs hT7 hS7 hu7 => ?_)
  refine lv_aload_n hx hb dX8_append_37 rfl (lv_at hl 1 rfl) ?_
  refine lv_dup hx hb dX8_append_38 rfl ?_
  refine h_geti (C := RX8) (T := TX8) (N := 4) hx hb hts inX8 hown hK hT7 (hY.o rfl) rfl 1 rfl wF_X8_15 rfl dX8_append_39 (fun p36 => ?_)
  refine h_top (v := 11) ((h_gi_same (hu7.2.1 _ (by omega))).trans (h_pu hu6)) ?_
  refine lv_iconst (v := 1) hx hb dX8_append_42 (by decide) ?_
  refine lv_iadd hx hb dX8_append_43 ?_
  refine h_top (v := 12) (by decide) ?_
  refine h_puti (C := RX8) (T := TX8) (N := 4) hx hb hts inX8 tyX8 tyX8_ok nmX8 hown hK hT7 (fun _ h => h) hS7 (hY.o rfl) rfl 1 rfl wF_X8_15 rfl rfl trivial rfl rfl dX8_append_44 (fun H8 locs hT8 hS8 hu8 => ?_)
  refine lv_iinc (v := (-8)) (lv' := [(2, .int (-8)), (0, .ref (o)), (1, .int u1)]) hx hb dX8_append_47 hl (k := 0) rfl (by decide) (by decide) rfl (fun ls hl => ?_)
  refine lv_goto (tgt := 3) hx hb dX8_append_50 (by decide) ?_
  refine lv_iload_n hx hb dX8_append_3 rfl (lv_at hl 0 rfl) ?_
  refine lv_if_lt (tgt := 53) hx hb dX8_append_4 (by decide) (fun _ => ?_) (fun h => absurd (by decide) h)
  exact hret _ _ _ _ hT8 hS8 (h_pu hu8) dX8_append_53
set_option maxHeartbeats 4000000 in
set_option maxRecDepth 100000 in
theorem c_append_12 (l : Launch) (G : hG) (Y : hW) (o : Nat) (hY : h_On Y o (taE tF o)) (u1 : Int32) : hMv l yX8_append cX8_append 3 none 0 0 G Y [.ref (o), .int u1] (fun H => h_gi G H 8 o 1 = 12) (fun H H1 => h_gi G H1 8 o 1 = 16) := by
  refine h_ofv (by decide +kernel) (Nat.le_of_ble_eq_true rfl) ?_
  intro p e s m args below meth c H0 ls Q hx hb hts hown hml hK hT0 hpr hS0 hl hret
  have hl : lv_has ls 3 [(0, .ref (o)), (1, .int u1)] := hl
  refine lv_bipush (v := 24) hx hb dX8_append_0 (by decide) ?_
  refine lv_istore_n (lv' := [(2, .int 24), (0, .ref (o)), (1, .int u1)]) hx hb dX8_append_2 rfl hl (by decide) rfl (fun ls hl => ?_)
  refine lv_iload_n hx hb dX8_append_3 rfl (lv_at hl 0 rfl) ?_
  refine lv_if_lt (tgt := 53) hx hb dX8_append_4 (by decide) (fun h => absurd h (by decide)) (fun _ => ?_)
  refine lv_aload_n hx hb dX8_append_7 rfl (lv_at hl 1 rfl) ?_
  refine h_geti (C := RX8) (T := TX8) (N := 4) hx hb hts inX8 hown hK hT0 (hY.o rfl) rfl 1 rfl wF_X8_15 rfl dX8_append_8 (fun p2 => ?_)
  refine h_top (v := 12) hpr ?_
  refine lv_if_lt (tgt := 47) hx hb dX8_append_11 (by decide) (fun h => absurd h (by decide)) (fun _ => ?_)
  refine lv_aload_n hx hb dX8_append_14 rfl (lv_at hl 1 rfl) ?_
  refine h_geti (C := RX8) (T := TX8) (N := 4) hx hb hts inX8 hown hK hT0 (hY.o rfl) rfl 1 rfl wF_X8_15 rfl dX8_append_15 (fun p4 => ?_)
  refine h_top (v := 12) hpr ?_
  refine lv_sipush (v := 500) hx hb dX8_append_18 (by decide) ?_
  refine lv_icmp_ge (tgt := 47) hx hb dX8_append_21 (by decide) (fun h => absurd h (by decide)) (fun _ => ?_)
  refine lv_aload_n hx hb dX8_append_24 rfl (lv_at hl 1 rfl) ?_
  refine h_getr (C := RX8) (T := TX8) (N := 4) hx hb hts inX8 hown hK hT0 (hY.o rfl) rfl 0 rfl wF_X8_9 rfl dX8_append_25 ?_
  refine lv_aload_n hx hb dX8_append_28 rfl (lv_at hl 1 rfl) ?_
  refine h_geti (C := RX8) (T := TX8) (N := 4) hx hb hts inX8 hown hK hT0 (hY.o rfl) rfl 1 rfl wF_X8_15 rfl dX8_append_29 (fun p6 => ?_)
  refine h_top (v := 12) hpr ?_
  refine lv_iload_n hx hb dX8_append_32 rfl (lv_at hl 2 rfl) ?_
  refine lv_iload_n hx hb dX8_append_33 rfl (lv_at hl 0 rfl) ?_
  refine lv_ishr hx hb dX8_append_34 ?_
  refine lv_topi (fun x7 ex7 => ?_)
  refine lv_i2b hx hb dX8_append_35 rfl ?_
  refine lv_topi (fun x8 ex8 => ?_)
  refine h_bast hx hb hK hT0 (fun _ h => h) hS0 (hY.at 1 rfl) (h_inc (by decide)) trivial dX8_append_36 (fun H1 locs hT1 hS1 hu1 => ?_)
  refine lv_aload_n hx hb dX8_append_37 rfl (lv_at hl 1 rfl) ?_
  refine lv_dup hx hb dX8_append_38 rfl ?_
  refine h_geti (C := RX8) (T := TX8) (N := 4) hx hb hts inX8 hown hK hT1 (hY.o rfl) rfl 1 rfl wF_X8_15 rfl dX8_append_39 (fun p9 => ?_)
  refine h_top (v := 12) ((h_gi_same (hu1.2.1 _ (by omega))).trans hpr) ?_
  refine lv_iconst (v := 1) hx hb dX8_append_42 (by decide) ?_
  refine lv_iadd hx hb dX8_append_43 ?_
  refine h_top (v := 13) (by decide) ?_
  refine h_puti (C := RX8) (T := TX8) (N := 4) hx hb hts inX8 tyX8 tyX8_ok nmX8 hown hK hT1 (fun _ h => h) hS1 (hY.o rfl) rfl 1 rfl wF_X8_15 rfl rfl trivial rfl rfl dX8_append_44 (fun H2 locs hT2 hS2 hu2 => ?_)
  refine lv_iinc (v := 16) (lv' := [(2, .int 16), (0, .ref (o)), (1, .int u1)]) hx hb dX8_append_47 hl (k := 0) rfl (by decide) (by decide) rfl (fun ls hl => ?_)
  refine lv_goto (tgt := 3) hx hb dX8_append_50 (by decide) ?_
  refine lv_iload_n hx hb dX8_append_3 rfl (lv_at hl 0 rfl) ?_
  refine lv_if_lt (tgt := 53) hx hb dX8_append_4 (by decide) (fun h => absurd h (by decide)) (fun _ => ?_)
  refine lv_aload_n hx hb dX8_append_7 rfl (lv_at hl 1 rfl) ?_
  refine h_geti (C := RX8) (T := TX8) (N := 4) hx hb hts inX8 hown hK hT2 (hY.o rfl) rfl 1 rfl wF_X8_15 rfl dX8_append_8 (fun p11 => ?_)
  refine h_top (v := 13) (h_pu hu2) ?_
  refine lv_if_lt (tgt := 47) hx hb dX8_append_11 (by decide) (fun h => absurd h (by decide)) (fun _ => ?_)
  refine lv_aload_n hx hb dX8_append_14 rfl (lv_at hl 1 rfl) ?_
  refine h_geti (C := RX8) (T := TX8) (N := 4) hx hb hts inX8 hown hK hT2 (hY.o rfl) rfl 1 rfl wF_X8_15 rfl dX8_append_15 (fun p13 => ?_)
  refine h_top (v := 13) (h_pu hu2) ?_
  refine lv_sipush (v := 500) hx hb dX8_append_18 (by decide) ?_
  refine lv_icmp_ge (tgt := 47) hx hb dX8_append_21 (by decide) (fun h => absurd h (by decide)) (fun _ => ?_)
  refine lv_aload_n hx hb dX8_append_24 rfl (lv_at hl 1 rfl) ?_
  refine h_getr (C := RX8) (T := TX8) (N := 4) hx hb hts inX8 hown hK hT2 (hY.o rfl) rfl 0 rfl wF_X8_9 rfl dX8_append_25 ?_
  refine lv_aload_n hx hb dX8_append_28 rfl (lv_at hl 1 rfl) ?_
  refine h_geti (C := RX8) (T := TX8) (N := 4) hx hb hts inX8 hown hK hT2 (hY.o rfl) rfl 1 rfl wF_X8_15 rfl dX8_append_29 (fun p15 => ?_)
  refine h_top (v := 13) (h_pu hu2) ?_
  refine lv_iload_n hx hb dX8_append_32 rfl (lv_at hl 2 rfl) ?_
  refine lv_iload_n hx hb dX8_append_33 rfl (lv_at hl 0 rfl) ?_
  refine lv_ishr hx hb dX8_append_34 ?_
  refine lv_topi (fun x16 ex16 => ?_)
  refine lv_i2b hx hb dX8_append_35 rfl ?_
  refine lv_topi (fun x17 ex17 => ?_)
  refine h_bast hx hb hK hT2 (fun _ h => h) hS2 (hY.at 1 rfl) (h_inc (by decide)) trivial dX8_append_36 (fun H3 locs hT3 hS3 hu3 => ?_)
  refine lv_aload_n hx hb dX8_append_37 rfl (lv_at hl 1 rfl) ?_
  refine lv_dup hx hb dX8_append_38 rfl ?_
  refine h_geti (C := RX8) (T := TX8) (N := 4) hx hb hts inX8 hown hK hT3 (hY.o rfl) rfl 1 rfl wF_X8_15 rfl dX8_append_39 (fun p18 => ?_)
  refine h_top (v := 13) ((h_gi_same (hu3.2.1 _ (by omega))).trans (h_pu hu2)) ?_
  refine lv_iconst (v := 1) hx hb dX8_append_42 (by decide) ?_
  refine lv_iadd hx hb dX8_append_43 ?_
  refine h_top (v := 14) (by decide) ?_
  refine h_puti (C := RX8) (T := TX8) (N := 4) hx hb hts inX8 tyX8 tyX8_ok nmX8 hown hK hT3 (fun _ h => h) hS3 (hY.o rfl) rfl 1 rfl wF_X8_15 rfl rfl trivial rfl rfl dX8_append_44 (fun H4 locs hT4 hS4 hu4 => ?_)
  refine lv_iinc (v := 8) (lv' := [(2, .int 8), (0, .ref (o)), (1, .int u1)]) hx hb dX8_append_47 hl (k := 0) rfl (by decide) (by decide) rfl (fun ls hl => ?_)
  refine lv_goto (tgt := 3) hx hb dX8_append_50 (by decide) ?_
  refine lv_iload_n hx hb dX8_append_3 rfl (lv_at hl 0 rfl) ?_
  refine lv_if_lt (tgt := 53) hx hb dX8_append_4 (by decide) (fun h => absurd h (by decide)) (fun _ => ?_)
  refine lv_aload_n hx hb dX8_append_7 rfl (lv_at hl 1 rfl) ?_
  refine h_geti (C := RX8) (T := TX8) (N := 4) hx hb hts inX8 hown hK hT4 (hY.o rfl) rfl 1 rfl wF_X8_15 rfl dX8_append_8 (fun p20 => ?_)
  refine h_top (v := 14) (h_pu hu4) ?_
  refine lv_if_lt (tgt := 47) hx hb dX8_append_11 (by decide) (fun h => absurd h (by decide)) (fun _ => ?_)
  refine lv_aload_n hx hb dX8_append_14 rfl (lv_at hl 1 rfl) ?_
  refine h_geti (C := RX8) (T := TX8) (N := 4) hx hb hts inX8 hown hK hT4 (hY.o rfl) rfl 1 rfl wF_X8_15 rfl dX8_append_15 (fun p22 => ?_)
  refine h_top (v := 14) (h_pu hu4) ?_
  refine lv_sipush (v := 500) hx hb dX8_append_18 (by decide) ?_
  refine lv_icmp_ge (tgt := 47) hx hb dX8_append_21 (by decide) (fun h => absurd h (by decide)) (fun _ => ?_)
  refine lv_aload_n hx hb dX8_append_24 rfl (lv_at hl 1 rfl) ?_
  refine h_getr (C := RX8) (T := TX8) (N := 4) hx hb hts inX8 hown hK hT4 (hY.o rfl) rfl 0 rfl wF_X8_9 rfl dX8_append_25 ?_
  refine lv_aload_n hx hb dX8_append_28 rfl (lv_at hl 1 rfl) ?_
  refine h_geti (C := RX8) (T := TX8) (N := 4) hx hb hts inX8 hown hK hT4 (hY.o rfl) rfl 1 rfl wF_X8_15 rfl dX8_append_29 (fun p24 => ?_)
  refine h_top (v := 14) (h_pu hu4) ?_
  refine lv_iload_n hx hb dX8_append_32 rfl (lv_at hl 2 rfl) ?_
  refine lv_iload_n hx hb dX8_append_33 rfl (lv_at hl 0 rfl) ?_
  refine lv_ishr hx hb dX8_append_34 ?_
  refine lv_topi (fun x25 ex25 => ?_)
  refine lv_i2b hx hb dX8_append_35 rfl ?_
  refine lv_topi (fun x26 ex26 => ?_)
  refine h_bast hx hb hK hT4 (fun _ h => h) hS4 (hY.at 1 rfl) (h_inc (by decide)) trivial dX8_append_36 (fun H5 locs hT5 hS5 hu5 => ?_)
  refine lv_aload_n hx hb dX8_append_37 rfl (lv_at hl 1 rfl) ?_
  refine lv_dup hx hb dX8_append_38 rfl ?_
  refine h_geti (C := RX8) (T := TX8) (N := 4) hx hb hts inX8 hown hK hT5 (hY.o rfl) rfl 1 rfl wF_X8_15 rfl dX8_append_39 (fun p27 => ?_)
  refine h_top (v := 14) ((h_gi_same (hu5.2.1 _ (by omega))).trans (h_pu hu4)) ?_
  refine lv_iconst (v := 1) hx hb dX8_append_42 (by decide) ?_
  refine lv_iadd hx hb dX8_append_43 ?_
  refine h_top (v := 15) (by decide) ?_
  refine h_puti (C := RX8) (T := TX8) (N := 4) hx hb hts inX8 tyX8 tyX8_ok nmX8 hown hK hT5 (fun _ h => h) hS5 (hY.o rfl) rfl 1 rfl wF_X8_15 rfl rfl trivial rfl rfl dX8_append_44 (fun H6 locs hT6 hS6 hu6 => ?_)
  refine lv_iinc (v := 0) (lv' := [(2, .int 0), (0, .ref (o)), (1, .int u1)]) hx hb dX8_append_47 hl (k := 0) rfl (by decide) (by decide) rfl (fun ls hl => ?_)
  refine lv_goto (tgt := 3) hx hb dX8_append_50 (by decide) ?_
  refine lv_iload_n hx hb dX8_append_3 rfl (lv_at hl 0 rfl) ?_
  refine lv_if_lt (tgt := 53) hx hb dX8_append_4 (by decide) (fun h => absurd h (by decide)) (fun _ => ?_)
  refine lv_aload_n hx hb dX8_append_7 rfl (lv_at hl 1 rfl) ?_
  refine h_geti (C := RX8) (T := TX8) (N := 4) hx hb hts inX8 hown hK hT6 (hY.o rfl) rfl 1 rfl wF_X8_15 rfl dX8_append_8 (fun p29 => ?_)
  refine h_top (v := 15) (h_pu hu6) ?_
  refine lv_if_lt (tgt := 47) hx hb dX8_append_11 (by decide) (fun h => absurd h (by decide)) (fun _ => ?_)
  refine lv_aload_n hx hb dX8_append_14 rfl (lv_at hl 1 rfl) ?_
  refine h_geti (C := RX8) (T := TX8) (N := 4) hx hb hts inX8 hown hK hT6 (hY.o rfl) rfl 1 rfl wF_X8_15 rfl dX8_append_15 (fun p31 => ?_)
  refine h_top (v := 15) (h_pu hu6) ?_
  refine lv_sipush (v := 500) hx hb dX8_append_18 (by decide) ?_
  refine lv_icmp_ge (tgt := 47) hx hb dX8_append_21 (by decide) (fun h => absurd h (by decide)) (fun _ => ?_)
  refine lv_aload_n hx hb dX8_append_24 rfl (lv_at hl 1 rfl) ?_
  refine h_getr (C := RX8) (T := TX8) (N := 4) hx hb hts inX8 hown hK hT6 (hY.o rfl) rfl 0 rfl wF_X8_9 rfl dX8_append_25 ?_
  refine lv_aload_n hx hb dX8_append_28 rfl (lv_at hl 1 rfl) ?_
  refine h_geti (C := RX8) (T := TX8) (N := 4) hx hb hts inX8 hown hK hT6 (hY.o rfl) rfl 1 rfl wF_X8_15 rfl dX8_append_29 (fun p33 => ?_)
  refine h_top (v := 15) (h_pu hu6) ?_
  refine lv_iload_n hx hb dX8_append_32 rfl (lv_at hl 2 rfl) ?_
  refine lv_iload_n hx hb dX8_append_33 rfl (lv_at hl 0 rfl) ?_
  refine lv_ishr hx hb dX8_append_34 ?_
  refine lv_topi (fun x34 ex34 => ?_)
  refine lv_i2b hx hb dX8_append_35 rfl ?_
  refine lv_topi (fun x35 ex35 => ?_)
  refine h_bast hx hb hK hT6 (fun _ h => h) hS6 (hY.at 1 rfl) (h_inc (by decide)) trivial dX8_append_36 (fun H7 locs hT7 hS7 hu7 => ?_)
  refine lv_aload_n hx hb dX8_append_37 rfl (lv_at hl 1 rfl) ?_
  refine lv_dup hx hb dX8_append_38 rfl ?_
  refine h_geti (C := RX8) (T := TX8) (N := 4) hx hb hts inX8 hown hK hT7 (hY.o rfl) rfl 1 rfl wF_X8_15 rfl dX8_append_39 (fun p36 => ?_)
  refine h_top (v := 15) ((h_gi_same (hu7.2.1 _ (by omega))).trans (h_pu hu6)) ?_
  refine lv_iconst (v := 1) hx hb dX8_append_42 (by decide) ?_
  refine lv_iadd hx hb dX8_append_43 ?_
  refine h_top (v := 16) (by decide) ?_
  refine h_puti (C := RX8) (T := TX8) (N := 4) hx hb hts inX8 tyX8 tyX8_ok nmX8 hown hK hT7 (fun _ h => h) hS7 (hY.o rfl) rfl 1 rfl wF_X8_15 rfl rfl trivial rfl rfl dX8_append_44 (fun H8 locs hT8 hS8 hu8 => ?_)
  refine lv_iinc (v := (-8)) (lv' := [(2, .int (-8)), (0, .ref (o)), (1, .int u1)]) hx hb dX8_append_47 hl (k := 0) rfl (by decide) (by decide) rfl (fun ls hl => ?_)
  refine lv_goto (tgt := 3) hx hb dX8_append_50 (by decide) ?_
  refine lv_iload_n hx hb dX8_append_3 rfl (lv_at hl 0 rfl) ?_
  refine lv_if_lt (tgt := 53) hx hb dX8_append_4 (by decide) (fun _ => ?_) (fun h => absurd (by decide) h)
  exact hret _ _ _ _ hT8 hS8 (h_pu hu8) dX8_append_53
set_option maxHeartbeats 4000000 in
set_option maxRecDepth 100000 in
theorem c_append_16 (l : Launch) (G : hG) (Y : hW) (o : Nat) (hY : h_On Y o (taE tF o)) (u1 : Int32) : hMv l yX8_append cX8_append 3 none 0 0 G Y [.ref (o), .int u1] (fun H => h_gi G H 8 o 1 = 16) (fun H H1 => h_gi G H1 8 o 1 = 20) := by
  refine h_ofv (by decide +kernel) (Nat.le_of_ble_eq_true rfl) ?_
  intro p e s m args below meth c H0 ls Q hx hb hts hown hml hK hT0 hpr hS0 hl hret
  have hl : lv_has ls 3 [(0, .ref (o)), (1, .int u1)] := hl
  refine lv_bipush (v := 24) hx hb dX8_append_0 (by decide) ?_
  refine lv_istore_n (lv' := [(2, .int 24), (0, .ref (o)), (1, .int u1)]) hx hb dX8_append_2 rfl hl (by decide) rfl (fun ls hl => ?_)
  refine lv_iload_n hx hb dX8_append_3 rfl (lv_at hl 0 rfl) ?_
  refine lv_if_lt (tgt := 53) hx hb dX8_append_4 (by decide) (fun h => absurd h (by decide)) (fun _ => ?_)
  refine lv_aload_n hx hb dX8_append_7 rfl (lv_at hl 1 rfl) ?_
  refine h_geti (C := RX8) (T := TX8) (N := 4) hx hb hts inX8 hown hK hT0 (hY.o rfl) rfl 1 rfl wF_X8_15 rfl dX8_append_8 (fun p2 => ?_)
  refine h_top (v := 16) hpr ?_
  refine lv_if_lt (tgt := 47) hx hb dX8_append_11 (by decide) (fun h => absurd h (by decide)) (fun _ => ?_)
  refine lv_aload_n hx hb dX8_append_14 rfl (lv_at hl 1 rfl) ?_
  refine h_geti (C := RX8) (T := TX8) (N := 4) hx hb hts inX8 hown hK hT0 (hY.o rfl) rfl 1 rfl wF_X8_15 rfl dX8_append_15 (fun p4 => ?_)
  refine h_top (v := 16) hpr ?_
  refine lv_sipush (v := 500) hx hb dX8_append_18 (by decide) ?_
  refine lv_icmp_ge (tgt := 47) hx hb dX8_append_21 (by decide) (fun h => absurd h (by decide)) (fun _ => ?_)
  refine lv_aload_n hx hb dX8_append_24 rfl (lv_at hl 1 rfl) ?_
  refine h_getr (C := RX8) (T := TX8) (N := 4) hx hb hts inX8 hown hK hT0 (hY.o rfl) rfl 0 rfl wF_X8_9 rfl dX8_append_25 ?_
  refine lv_aload_n hx hb dX8_append_28 rfl (lv_at hl 1 rfl) ?_
  refine h_geti (C := RX8) (T := TX8) (N := 4) hx hb hts inX8 hown hK hT0 (hY.o rfl) rfl 1 rfl wF_X8_15 rfl dX8_append_29 (fun p6 => ?_)
  refine h_top (v := 16) hpr ?_
  refine lv_iload_n hx hb dX8_append_32 rfl (lv_at hl 2 rfl) ?_
  refine lv_iload_n hx hb dX8_append_33 rfl (lv_at hl 0 rfl) ?_
  refine lv_ishr hx hb dX8_append_34 ?_
  refine lv_topi (fun x7 ex7 => ?_)
  refine lv_i2b hx hb dX8_append_35 rfl ?_
  refine lv_topi (fun x8 ex8 => ?_)
  refine h_bast hx hb hK hT0 (fun _ h => h) hS0 (hY.at 1 rfl) (h_inc (by decide)) trivial dX8_append_36 (fun H1 locs hT1 hS1 hu1 => ?_)
  refine lv_aload_n hx hb dX8_append_37 rfl (lv_at hl 1 rfl) ?_
  refine lv_dup hx hb dX8_append_38 rfl ?_
  refine h_geti (C := RX8) (T := TX8) (N := 4) hx hb hts inX8 hown hK hT1 (hY.o rfl) rfl 1 rfl wF_X8_15 rfl dX8_append_39 (fun p9 => ?_)
  refine h_top (v := 16) ((h_gi_same (hu1.2.1 _ (by omega))).trans hpr) ?_
  refine lv_iconst (v := 1) hx hb dX8_append_42 (by decide) ?_
  refine lv_iadd hx hb dX8_append_43 ?_
  refine h_top (v := 17) (by decide) ?_
  refine h_puti (C := RX8) (T := TX8) (N := 4) hx hb hts inX8 tyX8 tyX8_ok nmX8 hown hK hT1 (fun _ h => h) hS1 (hY.o rfl) rfl 1 rfl wF_X8_15 rfl rfl trivial rfl rfl dX8_append_44 (fun H2 locs hT2 hS2 hu2 => ?_)
  refine lv_iinc (v := 16) (lv' := [(2, .int 16), (0, .ref (o)), (1, .int u1)]) hx hb dX8_append_47 hl (k := 0) rfl (by decide) (by decide) rfl (fun ls hl => ?_)
  refine lv_goto (tgt := 3) hx hb dX8_append_50 (by decide) ?_
  refine lv_iload_n hx hb dX8_append_3 rfl (lv_at hl 0 rfl) ?_
  refine lv_if_lt (tgt := 53) hx hb dX8_append_4 (by decide) (fun h => absurd h (by decide)) (fun _ => ?_)
  refine lv_aload_n hx hb dX8_append_7 rfl (lv_at hl 1 rfl) ?_
  refine h_geti (C := RX8) (T := TX8) (N := 4) hx hb hts inX8 hown hK hT2 (hY.o rfl) rfl 1 rfl wF_X8_15 rfl dX8_append_8 (fun p11 => ?_)
  refine h_top (v := 17) (h_pu hu2) ?_
  refine lv_if_lt (tgt := 47) hx hb dX8_append_11 (by decide) (fun h => absurd h (by decide)) (fun _ => ?_)
  refine lv_aload_n hx hb dX8_append_14 rfl (lv_at hl 1 rfl) ?_
  refine h_geti (C := RX8) (T := TX8) (N := 4) hx hb hts inX8 hown hK hT2 (hY.o rfl) rfl 1 rfl wF_X8_15 rfl dX8_append_15 (fun p13 => ?_)
  refine h_top (v := 17) (h_pu hu2) ?_
  refine lv_sipush (v := 500) hx hb dX8_append_18 (by decide) ?_
  refine lv_icmp_ge (tgt := 47) hx hb dX8_append_21 (by decide) (fun h => absurd h (by decide)) (fun _ => ?_)
  refine lv_aload_n hx hb dX8_append_24 rfl (lv_at hl 1 rfl) ?_
  refine h_getr (C := RX8) (T := TX8) (N := 4) hx hb hts inX8 hown hK hT2 (hY.o rfl) rfl 0 rfl wF_X8_9 rfl dX8_append_25 ?_
  refine lv_aload_n hx hb dX8_append_28 rfl (lv_at hl 1 rfl) ?_
  refine h_geti (C := RX8) (T := TX8) (N := 4) hx hb hts inX8 hown hK hT2 (hY.o rfl) rfl 1 rfl wF_X8_15 rfl dX8_append_29 (fun p15 => ?_)
  refine h_top (v := 17) (h_pu hu2) ?_
  refine lv_iload_n hx hb dX8_append_32 rfl (lv_at hl 2 rfl) ?_
  refine lv_iload_n hx hb dX8_append_33 rfl (lv_at hl 0 rfl) ?_
  refine lv_ishr hx hb dX8_append_34 ?_
  refine lv_topi (fun x16 ex16 => ?_)
  refine lv_i2b hx hb dX8_append_35 rfl ?_
  refine lv_topi (fun x17 ex17 => ?_)
  refine h_bast hx hb hK hT2 (fun _ h => h) hS2 (hY.at 1 rfl) (h_inc (by decide)) trivial dX8_append_36 (fun H3 locs hT3 hS3 hu3 => ?_)
  refine lv_aload_n hx hb dX8_append_37 rfl (lv_at hl 1 rfl) ?_
  refine lv_dup hx hb dX8_append_38 rfl ?_
  refine h_geti (C := RX8) (T := TX8) (N := 4) hx hb hts inX8 hown hK hT3 (hY.o rfl) rfl 1 rfl wF_X8_15 rfl dX8_append_39 (fun p18 => ?_)
  refine h_top (v := 17) ((h_gi_same (hu3.2.1 _ (by omega))).trans (h_pu hu2)) ?_
  refine lv_iconst (v := 1) hx hb dX8_append_42 (by decide) ?_
  refine lv_iadd hx hb dX8_append_43 ?_
  refine h_top (v := 18) (by decide) ?_
  refine h_puti (C := RX8) (T := TX8) (N := 4) hx hb hts inX8 tyX8 tyX8_ok nmX8 hown hK hT3 (fun _ h => h) hS3 (hY.o rfl) rfl 1 rfl wF_X8_15 rfl rfl trivial rfl rfl dX8_append_44 (fun H4 locs hT4 hS4 hu4 => ?_)
  refine lv_iinc (v := 8) (lv' := [(2, .int 8), (0, .ref (o)), (1, .int u1)]) hx hb dX8_append_47 hl (k := 0) rfl (by decide) (by decide) rfl (fun ls hl => ?_)
  refine lv_goto (tgt := 3) hx hb dX8_append_50 (by decide) ?_
  refine lv_iload_n hx hb dX8_append_3 rfl (lv_at hl 0 rfl) ?_
  refine lv_if_lt (tgt := 53) hx hb dX8_append_4 (by decide) (fun h => absurd h (by decide)) (fun _ => ?_)
  refine lv_aload_n hx hb dX8_append_7 rfl (lv_at hl 1 rfl) ?_
  refine h_geti (C := RX8) (T := TX8) (N := 4) hx hb hts inX8 hown hK hT4 (hY.o rfl) rfl 1 rfl wF_X8_15 rfl dX8_append_8 (fun p20 => ?_)
  refine h_top (v := 18) (h_pu hu4) ?_
  refine lv_if_lt (tgt := 47) hx hb dX8_append_11 (by decide) (fun h => absurd h (by decide)) (fun _ => ?_)
  refine lv_aload_n hx hb dX8_append_14 rfl (lv_at hl 1 rfl) ?_
  refine h_geti (C := RX8) (T := TX8) (N := 4) hx hb hts inX8 hown hK hT4 (hY.o rfl) rfl 1 rfl wF_X8_15 rfl dX8_append_15 (fun p22 => ?_)
  refine h_top (v := 18) (h_pu hu4) ?_
  refine lv_sipush (v := 500) hx hb dX8_append_18 (by decide) ?_
  refine lv_icmp_ge (tgt := 47) hx hb dX8_append_21 (by decide) (fun h => absurd h (by decide)) (fun _ => ?_)
  refine lv_aload_n hx hb dX8_append_24 rfl (lv_at hl 1 rfl) ?_
  refine h_getr (C := RX8) (T := TX8) (N := 4) hx hb hts inX8 hown hK hT4 (hY.o rfl) rfl 0 rfl wF_X8_9 rfl dX8_append_25 ?_
  refine lv_aload_n hx hb dX8_append_28 rfl (lv_at hl 1 rfl) ?_
  refine h_geti (C := RX8) (T := TX8) (N := 4) hx hb hts inX8 hown hK hT4 (hY.o rfl) rfl 1 rfl wF_X8_15 rfl dX8_append_29 (fun p24 => ?_)
  refine h_top (v := 18) (h_pu hu4) ?_
  refine lv_iload_n hx hb dX8_append_32 rfl (lv_at hl 2 rfl) ?_
  refine lv_iload_n hx hb dX8_append_33 rfl (lv_at hl 0 rfl) ?_
  refine lv_ishr hx hb dX8_append_34 ?_
  refine lv_topi (fun x25 ex25 => ?_)
  refine lv_i2b hx hb dX8_append_35 rfl ?_
  refine lv_topi (fun x26 ex26 => ?_)
  refine h_bast hx hb hK hT4 (fun _ h => h) hS4 (hY.at 1 rfl) (h_inc (by decide)) trivial dX8_append_36 (fun H5 locs hT5 hS5 hu5 => ?_)
  refine lv_aload_n hx hb dX8_append_37 rfl (lv_at hl 1 rfl) ?_
  refine lv_dup hx hb dX8_append_38 rfl ?_
  refine h_geti (C := RX8) (T := TX8) (N := 4) hx hb hts inX8 hown hK hT5 (hY.o rfl) rfl 1 rfl wF_X8_15 rfl dX8_append_39 (fun p27 => ?_)
  refine h_top (v := 18) ((h_gi_same (hu5.2.1 _ (by omega))).trans (h_pu hu4)) ?_
  refine lv_iconst (v := 1) hx hb dX8_append_42 (by decide) ?_
  refine lv_iadd hx hb dX8_append_43 ?_
  refine h_top (v := 19) (by decide) ?_
  refine h_puti (C := RX8) (T := TX8) (N := 4) hx hb hts inX8 tyX8 tyX8_ok nmX8 hown hK hT5 (fun _ h => h) hS5 (hY.o rfl) rfl 1 rfl wF_X8_15 rfl rfl trivial rfl rfl dX8_append_44 (fun H6 locs hT6 hS6 hu6 => ?_)
  refine lv_iinc (v := 0) (lv' := [(2, .int 0), (0, .ref (o)), (1, .int u1)]) hx hb dX8_append_47 hl (k := 0) rfl (by decide) (by decide) rfl (fun ls hl => ?_)
  refine lv_goto (tgt := 3) hx hb dX8_append_50 (by decide) ?_
  refine lv_iload_n hx hb dX8_append_3 rfl (lv_at hl 0 rfl) ?_
  refine lv_if_lt (tgt := 53) hx hb dX8_append_4 (by decide) (fun h => absurd h (by decide)) (fun _ => ?_)
  refine lv_aload_n hx hb dX8_append_7 rfl (lv_at hl 1 rfl) ?_
  refine h_geti (C := RX8) (T := TX8) (N := 4) hx hb hts inX8 hown hK hT6 (hY.o rfl) rfl 1 rfl wF_X8_15 rfl dX8_append_8 (fun p29 => ?_)
  refine h_top (v := 19) (h_pu hu6) ?_
  refine lv_if_lt (tgt := 47) hx hb dX8_append_11 (by decide) (fun h => absurd h (by decide)) (fun _ => ?_)
  refine lv_aload_n hx hb dX8_append_14 rfl (lv_at hl 1 rfl) ?_
  refine h_geti (C := RX8) (T := TX8) (N := 4) hx hb hts inX8 hown hK hT6 (hY.o rfl) rfl 1 rfl wF_X8_15 rfl dX8_append_15 (fun p31 => ?_)
  refine h_top (v := 19) (h_pu hu6) ?_
  refine lv_sipush (v := 500) hx hb dX8_append_18 (by decide) ?_
  refine lv_icmp_ge (tgt := 47) hx hb dX8_append_21 (by decide) (fun h => absurd h (by decide)) (fun _ => ?_)
  refine lv_aload_n hx hb dX8_append_24 rfl (lv_at hl 1 rfl) ?_
  refine h_getr (C := RX8) (T := TX8) (N := 4) hx hb hts inX8 hown hK hT6 (hY.o rfl) rfl 0 rfl wF_X8_9 rfl dX8_append_25 ?_
  refine lv_aload_n hx hb dX8_append_28 rfl (lv_at hl 1 rfl) ?_
  refine h_geti (C := RX8) (T := TX8) (N := 4) hx hb hts inX8 hown hK hT6 (hY.o rfl) rfl 1 rfl wF_X8_15 rfl dX8_append_29 (fun p33 => ?_)
  refine h_top (v := 19) (h_pu hu6) ?_
  refine lv_iload_n hx hb dX8_append_32 rfl (lv_at hl 2 rfl) ?_
  refine lv_iload_n hx hb dX8_append_33 rfl (lv_at hl 0 rfl) ?_
  refine lv_ishr hx hb dX8_append_34 ?_
  refine lv_topi (fun x34 ex34 => ?_)
  refine lv_i2b hx hb dX8_append_35 rfl ?_
  refine lv_topi (fun x35 ex35 => ?_)
  refine h_bast hx hb hK hT6 (fun _ h => h) hS6 (hY.at 1 rfl) (h_inc (by decide)) trivial dX8_append_36 (fun H7 locs hT7 hS7 hu7 => ?_)
  refine lv_aload_n hx hb dX8_append_37 rfl (lv_at hl 1 rfl) ?_
  refine lv_dup hx hb dX8_append_38 rfl ?_
  refine h_geti (C := RX8) (T := TX8) (N := 4) hx hb hts inX8 hown hK hT7 (hY.o rfl) rfl 1 rfl wF_X8_15 rfl dX8_append_39 (fun p36 => ?_)
  refine h_top (v := 19) ((h_gi_same (hu7.2.1 _ (by omega))).trans (h_pu hu6)) ?_
  refine lv_iconst (v := 1) hx hb dX8_append_42 (by decide) ?_
  refine lv_iadd hx hb dX8_append_43 ?_
  refine h_top (v := 20) (by decide) ?_
  refine h_puti (C := RX8) (T := TX8) (N := 4) hx hb hts inX8 tyX8 tyX8_ok nmX8 hown hK hT7 (fun _ h => h) hS7 (hY.o rfl) rfl 1 rfl wF_X8_15 rfl rfl trivial rfl rfl dX8_append_44 (fun H8 locs hT8 hS8 hu8 => ?_)
  refine lv_iinc (v := (-8)) (lv' := [(2, .int (-8)), (0, .ref (o)), (1, .int u1)]) hx hb dX8_append_47 hl (k := 0) rfl (by decide) (by decide) rfl (fun ls hl => ?_)
  refine lv_goto (tgt := 3) hx hb dX8_append_50 (by decide) ?_
  refine lv_iload_n hx hb dX8_append_3 rfl (lv_at hl 0 rfl) ?_
  refine lv_if_lt (tgt := 53) hx hb dX8_append_4 (by decide) (fun _ => ?_) (fun h => absurd (by decide) h)
  exact hret _ _ _ _ hT8 hS8 (h_pu hu8) dX8_append_53
set_option maxHeartbeats 4000000 in
set_option maxRecDepth 100000 in
theorem c_X4_skipBlanks (l : Launch) (G : hG) (Y : hW) (re tp o : Nat) (hE : h_On Y re (reE tF re tp o)) (hP : h_On Y tp (taE tF tp)) (hY : h_On Y o (ringE tF o)) : hMv l yX4_skipBlanks cX4_skipBlanks 1 none 0 0 G Y [.ref (re)] (fun H => h_gi G H 4 re 4 = 0 ∧ h_gi G H 4 re 5 = 0) (fun H H1 => h_gi G H1 4 re 4 = 0 ∧ h_gi G H1 4 re 5 = 0) := by
  refine h_ofv (by decide +kernel) (Nat.le_of_ble_eq_true rfl) ?_
  intro p e s m args below meth c H0 ls Q hx hb hts hown hml hK hT0 hpr hS0 hl hret
  have hl : lv_has ls 1 [(0, .ref (re))] := hl
  refine lv_aload_n hx hb dX4_skipBlanks_0 rfl (lv_at hl 0 rfl) ?_
  refine h_geti (C := RX4) (T := TX4) (N := 13) hx hb hts inX4 hown hK hT0 (hE.o rfl) rfl 5 rfl wF_X4_22 rfl dX4_skipBlanks_1 (fun p1 => ?_)
  refine h_top (v := 0) hpr.2 ?_
  refine lv_aload_n hx hb dX4_skipBlanks_4 rfl (lv_at hl 0 rfl) ?_
  refine h_geti (C := RX4) (T := TX4) (N := 13) hx hb hts inX4 hown hK hT0 (hE.o rfl) rfl 4 rfl wF_X4_18 rfl dX4_skipBlanks_5 (fun p2 => ?_)
  refine h_top (v := 0) hpr.1 ?_
  refine lv_icmp_ge (tgt := 56) hx hb dX4_skipBlanks_8 (by decide) (fun _ => ?_) (fun h => absurd (by decide) h)
  exact hret _ _ _ _ hT0 hS0 hpr dX4_skipBlanks_56
set_option maxHeartbeats 4000000 in
set_option maxRecDepth 100000 in
theorem c_X4_readToken (l : Launch) (G : hG) (Y : hW) (re tp o : Nat) (hE : h_On Y re (reE tF re tp o)) (hP : h_On Y tp (taE tF tp)) (hY : h_On Y o (ringE tF o)) : hMi l yX4_readToken cX4_readToken 2 (some .boolean) 1 20 G Y [.ref (re)] (fun H => h_gi G H 4 re 4 = 0 ∧ h_gi G H 4 re 5 = 0) (fun H r H1 => r = 1 ∧ h_gi G H1 4 re 6 = 0) := by
  refine h_ofz (by decide +kernel) (Nat.le_of_ble_eq_true rfl) ?_
  intro p e s m args below meth c H0 ls Q hx hb hts hown hml hK hT0 hpr hS0 hl hret
  have hl : lv_has ls 2 [(0, .ref (re))] := hl
  refine lv_aload_n hx hb dX4_readToken_0 rfl (lv_at hl 0 rfl) ?_
  refine h_callVv (T := TX4) (rest := []) (As := []) hx hb hml hown hts hK hT0 (fun _ h => h) hS0 (c_X4_skipBlanks l G Y (re) (tp) (o) hE hP hY) ⟨hpr.1, hpr.2⟩ wd_X4_skipBlanks wV_X4_skipBlanks wL_X4_160 (hE.o rfl) rfl rfl hl.1 rfl (Nat.le_of_ble_eq_true rfl) dX4_readToken_1 ⟨Nat.le_of_ble_eq_true rfl, Nat.le_of_ble_eq_true rfl⟩ ⟨Nat.zero_le _, Nat.zero_le _⟩ (fun H1 locs hp1 hT1 hS1 hk1 => ?_)
  refine lv_aload_n hx hb dX4_readToken_4 rfl (lv_at hl 0 rfl) ?_
  refine lv_aload_n hx hb dX4_readToken_5 rfl (lv_at hl 0 rfl) ?_
  refine h_geti (C := RX4) (T := TX4) (N := 13) hx hb hts inX4 hown hK hT1 (hE.o rfl) rfl 5 rfl wF_X4_22 rfl dX4_readToken_6 (fun p1 => ?_)
  refine h_top (v := 0) hp1.2 ?_
  refine h_puti (C := RX4) (T := TX4) (N := 13) hx hb hts inX4 tyX4 tyX4_ok nmX4 hown hK hT1 (fun _ h => h) hS1 (hE.o rfl) rfl 7 rfl wF_X4_28 rfl rfl trivial rfl rfl dX4_readToken_9 (fun H2 locs hT2 hS2 hu2 => ?_)
  refine lv_aload_n hx hb dX4_readToken_12 rfl (lv_at hl 0 rfl) ?_
  refine lv_iconst (v := 0) hx hb dX4_readToken_13 (by decide) ?_
  refine h_puti (C := RX4) (T := TX4) (N := 13) hx hb hts inX4 tyX4 tyX4_ok nmX4 hown hK hT2 (fun _ h => h) hS2 (hE.o rfl) rfl 8 rfl wF_X4_31 rfl rfl trivial rfl rfl dX4_readToken_14 (fun H3 locs hT3 hS3 hu3 => ?_)
  refine lv_aload_n hx hb dX4_readToken_17 rfl (lv_at hl 0 rfl) ?_
  refine h_geti (C := RX4) (T := TX4) (N := 13) hx hb hts inX4 hown hK hT3 (hE.o rfl) rfl 5 rfl wF_X4_22 rfl dX4_readToken_18 (fun p2 => ?_)
  refine h_top (v := 0) ((h_ps hu3 rfl (by decide) (by decide)).trans ((h_ps hu2 rfl (by decide) (by decide)).trans hp1.2)) ?_
  refine lv_aload_n hx hb dX4_readToken_21 rfl (lv_at hl 0 rfl) ?_
  refine h_geti (C := RX4) (T := TX4) (N := 13) hx hb hts inX4 hown hK hT3 (hE.o rfl) rfl 4 rfl wF_X4_18 rfl dX4_readToken_22 (fun p3 => ?_)
  refine h_top (v := 0) ((h_ps hu3 rfl (by decide) (by decide)).trans ((h_ps hu2 rfl (by decide) (by decide)).trans hp1.1)) ?_
  refine lv_icmp_lt (tgt := 35) hx hb dX4_readToken_25 (by decide) (fun h => absurd h (by decide)) (fun _ => ?_)
  refine lv_aload_n hx hb dX4_readToken_28 rfl (lv_at hl 0 rfl) ?_
  refine lv_iconst (v := 0) hx hb dX4_readToken_29 (by decide) ?_
  refine h_puti (C := RX4) (T := TX4) (N := 13) hx hb hts inX4 tyX4 tyX4_ok nmX4 hown hK hT3 (fun _ h => h) hS3 (hE.o rfl) rfl 6 rfl wF_X4_25 rfl rfl trivial rfl rfl dX4_readToken_30 (fun H4 locs hT4 hS4 hu4 => ?_)
  refine lv_iconst (v := 1) hx hb dX4_readToken_33 (by decide) ?_
  exact hret _ _ _ _ _ hT4 hS4 ⟨by decide, rfl, (h_pu hu4)⟩ dX4_readToken_34
set_option maxHeartbeats 4000000 in
set_option maxRecDepth 100000 in
theorem c_X4_readText (l : Launch) (G : hG) (Y : hW) (re tp o : Nat) (hE : h_On Y re (reE tF re tp o)) (hP : h_On Y tp (taE tF tp)) (hY : h_On Y o (ringE tF o)) : hMi l yX4_readText cX4_readText 3 (some .boolean) 3 63 G Y [.ref (re), .int 0] (fun H => True) (fun H r H1 => r = 1) := by
  refine h_ofz (by decide +kernel) (Nat.le_of_ble_eq_true rfl) ?_
  intro p e s m args below meth c H0 ls Q hx hb hts hown hml hK hT0 hpr hS0 hl hret
  have hl : lv_has ls 3 [(0, .ref (re)), (1, .int 0)] := hl
  refine lv_aload_n hx hb dX4_readText_0 rfl (lv_at hl 0 rfl) ?_
  refine h_getr (C := RX4) (T := TX4) (N := 13) hx hb hts inX4 hown hK hT0 (hE.o rfl) rfl 1 rfl wF_X4_50 rfl dX4_readText_1 ?_
  refine h_callVv (T := TX5) (rest := []) (As := []) hx hb hml hown hts hK hT0 (fun _ h => h) hS0 (c_X5_clear l G Y (o) hY) trivial wd_X5_clear wV_X5_clear wL_X4_54 (on_rg hY) rfl rfl hl.1 rfl (Nat.le_of_ble_eq_true rfl) dX4_readText_4 ⟨Nat.le_of_ble_eq_true rfl, Nat.le_of_ble_eq_true rfl⟩ ⟨Nat.zero_le _, Nat.zero_le _⟩ (fun H1 locs hp1 hT1 hS1 hk1 => ?_)
  refine lv_aload_n hx hb dX4_readText_7 rfl (lv_at hl 0 rfl) ?_
  refine lv_iload_n hx hb dX4_readText_8 rfl (lv_at hl 1 rfl) ?_
  refine h_puti (C := RX4) (T := TX4) (N := 13) hx hb hts inX4 tyX4 tyX4_ok nmX4 hown hK hT1 (fun _ h => h) hS1 (hE.o rfl) rfl 4 rfl wF_X4_18 rfl rfl trivial rfl rfl dX4_readText_9 (fun H2 locs hT2 hS2 hu2 => ?_)
  refine lv_aload_n hx hb dX4_readText_12 rfl (lv_at hl 0 rfl) ?_
  refine lv_iconst (v := 0) hx hb dX4_readText_13 (by decide) ?_
  refine h_puti (C := RX4) (T := TX4) (N := 13) hx hb hts inX4 tyX4 tyX4_ok nmX4 hown hK hT2 (fun _ h => h) hS2 (hE.o rfl) rfl 5 rfl wF_X4_22 rfl rfl trivial rfl rfl dX4_readText_14 (fun H3 locs hT3 hS3 hu3 => ?_)
  refine lv_aload_n hx hb dX4_readText_17 rfl (lv_at hl 0 rfl) ?_
  refine lv_iconst (v := 0) hx hb dX4_readText_18 (by decide) ?_
  refine h_puti (C := RX4) (T := TX4) (N := 13) hx hb hts inX4 tyX4 tyX4_ok nmX4 hown hK hT3 (fun _ h => h) hS3 (hE.o rfl) rfl 11 rfl wF_X4_40 rfl rfl trivial rfl rfl dX4_readText_19 (fun H4 locs hT4 hS4 hu4 => ?_)
  refine lv_aload_n hx hb dX4_readText_22 rfl (lv_at hl 0 rfl) ?_
  refine lv_iconst (v := (-1)) hx hb dX4_readText_23 (by decide) ?_
  refine h_puti (C := RX4) (T := TX4) (N := 13) hx hb hts inX4 tyX4 tyX4_ok nmX4 hown hK hT4 (fun _ h => h) hS4 (hE.o rfl) rfl 12 rfl wF_X4_43 rfl rfl trivial rfl rfl dX4_readText_24 (fun H5 locs hT5 hS5 hu5 => ?_)
  refine lv_iconst (v := 0) hx hb dX4_readText_27 (by decide) ?_
  refine lv_istore_n (lv' := [(2, .int 0), (0, .ref (re)), (1, .int 0)]) hx hb dX4_readText_28 rfl hl (by decide) rfl (fun ls hl => ?_)
  refine lv_iload_n hx hb dX4_readText_29 rfl (lv_at hl 0 rfl) ?_
  refine lv_sipush (v := 500) hx hb dX4_readText_30 (by decide) ?_
  refine lv_icmp_gt (tgt := 69) hx hb dX4_readText_33 (by decide) (fun h => absurd h (by decide)) (fun _ => ?_)
  refine lv_aload_n hx hb dX4_readText_36 rfl (lv_at hl 1 rfl) ?_
  refine h_callVi (T := TX4) (rest := []) (As := []) hx hb hml hown hts hK hT5 (fun _ h => h) hS5 (c_X4_readToken l G Y (re) (tp) (o) hE hP hY) ⟨((h_ps hu5 rfl (by decide) (by decide)).trans ((h_ps hu4 rfl (by decide) (by decide)).trans ((h_ps hu3 rfl (by decide) (by decide)).trans (h_pu hu2)))), ((h_ps hu5 rfl (by decide) (by decide)).trans ((h_ps hu4 rfl (by decide) (by decide)).trans (h_pu hu3)))⟩ wd_X4_readToken wV_X4_readToken wL_X4_59 (hE.o rfl) rfl rfl hl.1 rfl (Nat.le_of_ble_eq_true rfl) dX4_readText_37 ⟨Nat.le_of_ble_eq_true rfl, Nat.le_of_ble_eq_true rfl⟩ ⟨Nat.zero_le _, Nat.zero_le _⟩ (fun r2 H6 locs hp6 hT6 hS6 hk6 => ?_)
  obtain ⟨hq, hp6⟩ := hp6
  have hq : r2 = 1 := hq
  subst hq
  refine lv_if_ne (tgt := 45) hx hb dX4_readText_40 (by decide) (fun _ => ?_) (fun h => absurd h (by decide))
  refine lv_aload_n hx hb dX4_readText_45 rfl (lv_at hl 1 rfl) ?_
  refine h_geti (C := RX4) (T := TX4) (N := 13) hx hb hts inX4 hown hK hT6 (hE.o rfl) rfl 6 rfl wF_X4_25 rfl dX4_readText_46 (fun p4 => ?_)
  refine h_top (v := 0) hp6 ?_
  refine lv_if_ne (tgt := 54) hx hb dX4_readText_49 (by decide) (fun h => absurd (by decide) h) (fun _ => ?_)
  refine lv_iconst (v := 1) hx hb dX4_readText_52 (by decide) ?_
  exact hret _ _ _ _ _ hT6 hS6 ⟨by decide, rfl⟩ dX4_readText_53
