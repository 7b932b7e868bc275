set_option maxRecDepth 100000 in
theorem wldV_len (G : hG) (a : Nat) : (wldV G a).length = 169 := rfl
set_option maxHeartbeats 4000000 in
set_option maxRecDepth 100000 in
theorem law_out {p : Program} {l : Launch} {e : Env} {s : State} {m : MethodId} {below : List Frame} {meth : Method} {c : Code} {b x : Nat} {xs : Nat → Int32} {G : hG} {H0 : Heap} {locs : List Loc} {ls : Array Slot} (hx : p.tables.exec = Jvm.exec) (hb : c.code = code) (hr : meth.sig.returnType = ret) (hlocks : meth.locks = false) (hbx : s.heap.size = x) (hS : va_S (fun q => x ≤ q) s.heap H0 locs) : W p l e room_1 s m #[Value.ref b] below meth c H0 locs 600000 7302250 (lw_Z below #[Value.ref b] s) (F0 m 1279 ls []) := by
  refine lv_iconst (v := 1) hx hb dL_law_1279 (by decide) ?_
  refine va_forget (fun q hq => by rw [hbx]; exact hS.2.2 q hq) ?_
  exact lw_ret hx hb hr hlocks dL_law_1280
set_option maxHeartbeats 4000000 in
set_option maxRecDepth 100000 in
theorem law_tail {p : Program} {l : Launch} {e : Env} {s : State} {m : MethodId} {below : List Frame} {meth : Method} {c : Code} {b x : Nat} {xs : Nat → Int32} {G : hG}  (hx : p.tables.exec = Jvm.exec) (hb : c.code = code) (hts : ∀ w ∈ wsL_law, w.before #[Value.ref b] s = true) (hown : s.vm.findClass RL = some m.cls) (hml : c.maxLocals = 4) (hK : h_K G s) (hX : va_X b 6 xs s s.heap) (hbl : b < s.heap.size) (hbA : ¬ x ≤ b) (hr : meth.sig.returnType = ret) (hlocks : meth.locks = false) (hbx : s.heap.size = x) (H : Heap) (locs : List Loc) (ls : Array Slot) (hS : va_S (fun q => x ≤ q) s.heap H locs) (hl : lv_has ls 4 [(3, .int 0), (2, .ref (x + 169)), (1, .ref (x)), (0, .ref b)]) : W p l e room_1 s m #[Value.ref b] below meth c H locs 600000 7302250 (lw_Z below #[Value.ref b] s) (F0 m 1273 ls []) := by
  refine lv_iinc (v := 6) (lv' := [(3, .int 6), (2, .ref (x + 169)), (1, .ref (x)), (0, .ref b)]) hx hb dL_law_1273 hl (k := 0) rfl (by decide) (by decide) rfl (fun ls hl => ?_)
  refine lv_goto (tgt := 18) hx hb dL_law_1276 (by decide) ?_
  refine lv_iload_n hx hb dL_law_18 rfl (lv_at hl 0 rfl) ?_
  refine lv_aload_n hx hb dL_law_19 rfl (lv_at hl 3 rfl) ?_
  refine va_slen hx hb hX hbl hbA hS dL_law_20 ?_
  refine lv_bipush (v := 6) hx hb dL_law_21 (by decide) ?_
  refine lv_isub hx hb dL_law_23 ?_
  refine lv_icmp_gt (tgt := 1279) hx hb dL_law_24 (by decide) (fun _ => ?_) (fun h => absurd (by decide) h)
  exact law_out (x := x) (xs := xs) (G := G) hx hb hr hlocks hbx hS
set_option maxHeartbeats 4000000 in
set_option maxRecDepth 100000 in
theorem whole_start {p : Program} {e : Env} {s : State} {m : MethodId} {below : List Frame} {meth : Method} {c : Code} (l : Launch) (hflags : l.flags = flags0) {b L : Nat} {xs : Nat → Int32} (hL : L ≤ 6) (C0 : lw_At p s m meth c b L xs) : W p l e room_1 s m #[Value.ref b] below meth c s.heap [] 0 0 (lw_Z below #[Value.ref b] s) (entryFrame m ([Value.ref b] : List Value).toArray 4) := by
  obtain ⟨hx, hb, hr, hml, hown, hts0, hX, hbl, hlocks, hgv⟩ := id C0
  have hts := h_hts hts0
  have hown : s.vm.findClass RL = some m.cls := hown
  obtain ⟨c0, i0, hK0⟩ := u_known (C := RX0) (T := TX0) (N := 6) (n := 6) hts inX0 (hts _ wIn_X0)
  obtain ⟨c1, i1, hK1⟩ := u_known (C := RX1) (T := TX1) (N := 4) (n := 4) hts inX1 (hts _ wIn_X1)
  obtain ⟨c2, i2, hK2⟩ := u_known (C := RX2) (T := TX2) (N := 5) (n := 5) hts inX2 (hts _ wIn_X2)
  obtain ⟨c3, i3, hK3⟩ := u_known (C := RX3) (T := TX3) (N := 3) (n := 3) hts inX3 (hts _ wIn_X3)
  obtain ⟨c4, i4, hK4⟩ := u_known (C := RX4) (T := TX4) (N := 13) (n := 13) hts inX4 (hts _ wIn_X4)
  obtain ⟨c5, i5, hK5⟩ := u_known (C := RX5) (T := TX5) (N := 11) (n := 11) hts inX5 (hts _ wIn_X5)
  obtain ⟨c6, i6, hK6⟩ := u_known (C := RX6) (T := TX6) (N := 4) (n := 4) hts inX6 (hts _ wIn_X6)
  obtain ⟨c7, i7, hK7⟩ := u_known (C := RX7) (T := TX7) (N := 9) (n := 9) hts inX7 (hts _ wIn_X7)
  obtain ⟨c8, i8, hK8⟩ := u_known (C := RX8) (T := TX8) (N := 4) (n := 4) hts inX8 (hts _ wIn_X8)
  obtain ⟨c9, i9, hK9⟩ := u_known (C := RX9) (T := TX9) (N := 11) (n := 11) hts inX9 (hts _ wIn_X9)
  obtain ⟨c10, i10, hK10⟩ := u_known (C := RX10) (T := TX10) (N := 9) (n := 9) hts inX10 (hts _ wIn_X10)
  obtain ⟨c11, i11, hK11⟩ := u_known (C := RX11) (T := TX11) (N := 23) (n := 23) hts inX11 (hts _ wIn_X11)
  obtain ⟨dC, dI, hKc⟩ : ∃ (dC : Nat → ClassId) (dI : Nat → Nat → Nat), ∀ (k : Nat) (q : vw_C), vwCl[k]? = some q → u_Kn s q.1 q.2.1 q.2.2 (dC k) (dI k) := by
    refine ⟨fun k => if k = 0 then c0 else if k = 1 then c1 else if k = 2 then c2 else if k = 3 then c3 else if k = 4 then c4 else if k = 5 then c5 else if k = 6 then c6 else if k = 7 then c7 else if k = 8 then c8 else if k = 9 then c9 else if k = 10 then c10 else c11, fun k => if k = 0 then i0 else if k = 1 then i1 else if k = 2 then i2 else if k = 3 then i3 else if k = 4 then i4 else if k = 5 then i5 else if k = 6 then i6 else if k = 7 then i7 else if k = 8 then i8 else if k = 9 then i9 else if k = 10 then i10 else i11, ?_⟩
    intro k q hq
    match k, hq with
    | 0, hq => cases hq; exact hK0
    | 1, hq => cases hq; exact hK1
    | 2, hq => cases hq; exact hK2
    | 3, hq => cases hq; exact hK3
    | 4, hq => cases hq; exact hK4
    | 5, hq => cases hq; exact hK5
    | 6, hq => cases hq; exact hK6
    | 7, hq => cases hq; exact hK7
    | 8, hq => cases hq; exact hK8
    | 9, hq => cases hq; exact hK9
    | 10, hq => cases hq; exact hK10
    | 11, hq => cases hq; exact hK11
    | k + 12, hq => simp at hq
  obtain ⟨y0, hA0, hB0⟩ := h_Kt (ty := .int) (hts _ wArr_int)
  obtain ⟨y1, hA1, hB1⟩ := h_Kt (ty := .byte) (hts _ wArr_byte)
  obtain ⟨y2, hA2, hB2⟩ := h_Kt (ty := .boolean) (hts _ wArr_boolean)
  obtain ⟨y3, hA3, hB3⟩ := h_Kt (ty := .long) (hts _ wArr_long)
  have hN : c_N s := ⟨⟨va_Nw.of rfl (hts0 _ (List.mem_append_right _ (List.mem_of_getElem? (i := 31) (by decide +kernel)))), va_Nw.of rfl (hts0 _ (List.mem_append_right _ (List.mem_of_getElem? (i := 54) (by decide +kernel)))), va_Nw.of rfl (hts0 _ (List.mem_append_right _ (List.mem_of_getElem? (i := 60) (by decide +kernel)))), va_Nw.of rfl (hts0 _ (List.mem_append_right _ (List.mem_of_getElem? (i := 110) (by decide +kernel)))), va_Nw.of rfl (hts0 _ (List.mem_append_right _ (List.mem_of_getElem? (i := 132) (by decide +kernel)))), va_Nw.of rfl (hts0 _ (List.mem_append_right _ (List.mem_of_getElem? (i := 148) (by decide +kernel)))), va_Nw.of rfl (hts0 _ (List.mem_append_right _ (List.mem_of_getElem? (i := 205) (by decide +kernel)))), va_Nw.of rfl (hts0 _ (List.mem_append_right _ (List.mem_of_getElem? (i := 232) (by decide +kernel))))⟩, va_AO.of (hts0 _ (List.mem_append_right _ (List.mem_of_getElem? (i := 374) (by decide +kernel)))), va_AO.of (hts0 _ (List.mem_append_right _ (List.mem_of_getElem? (i := 375) (by decide +kernel))))⟩
  obtain ⟨y4, hA4, hB4⟩ := h_Ko hN.2.1
  obtain ⟨y5, hA5, hB5⟩ := h_Ko hN.2.2
  obtain ⟨G, hG1, hG2⟩ : ∃ G : hG, G.1 = (dC, dI) ∧ (G.2 0 = y0 ∧ G.2 1 = y1 ∧ G.2 2 = y2 ∧ G.2 3 = y3 ∧ G.2 4 = y4 ∧ G.2 5 = y5) := ⟨((dC, dI), fun t => if t = 0 then y0 else if t = 1 then y1 else if t = 2 then y2 else if t = 3 then y3 else if t = 4 then y4 else y5), rfl, rfl, rfl, rfl, rfl, rfl, rfl⟩
  have hK : h_K G s := by
    refine ⟨by rw [hG1]; exact hKc, fun t ht => ?_⟩
    match t, ht with
    | 0, _ => rw [hG2.1]; exact ⟨hA0, hB0⟩
    | 1, _ => rw [hG2.2.1]; exact ⟨hA1, hB1⟩
    | 2, _ => rw [hG2.2.2.1]; exact ⟨hA2, hB2⟩
    | 3, _ => rw [hG2.2.2.2.1]; exact ⟨hA3, hB3⟩
    | 4, _ => rw [hG2.2.2.2.2.1]; exact ⟨hA4, hB4⟩
    | 5, _ => rw [hG2.2.2.2.2.2]; exact ⟨hA5, hB5⟩
    | t + 6, ht => omega
  clear hG1 hG2 hKc hK0 hK1 hK2 hK3 hK4 hK5 hK6 hK7 hK8 hK9 hK10 hK11
  obtain ⟨x, hbx⟩ : ∃ x : Nat, s.heap.size = x := ⟨_, rfl⟩
  have hbA : ¬ x ≤ b := by omega
  have hS0 : va_S (fun q => x ≤ q) s.heap s.heap [] := va_S.rf
  have hl := lv_entry ([.ref b]) (n := 4) (Nat.le_of_ble_eq_true rfl)
  rw [lg_entry_eq]
  generalize (lg_sl ([.ref b]) ++ List.replicate (4 - (lg_sl ([.ref b])).length) Slot.unset).toArray = ls at hl ⊢
  have hl : lv_has ls 4 [(0, .ref b)] := hl
  refine c_new (ci := 10) (fs := [.null, .null, .null, .null, .null, .null, .null, .int 0, .int 0]) (C := RX10) (T := TX10) (N := 9) hx hb hts inX10 tyX10 tyX10_ok hown wK_L_7 wIn_X10 wIz_X10 hK hS0 rfl dv_X10 hbx (Nat.le_of_ble_eq_true rfl) (Nat.le_of_ble_eq_true rfl) dL_law_0 (fun H1 hz1 ho1 oq1 hS1 => ?_)
  refine lv_dup hx hb dL_law_3 rfl ?_
  refine c_callI (rest := [.ref (x)]) (As := []) hx hb hml hown hts hK hN (fun q h => h) hS1 (k_X10_init l G x) hz1 ho1 wd_X10_init rfl wM_X10_init wL_L_9 rfl hl.1 rfl (Nat.le_of_ble_eq_true rfl) dL_law_4 ⟨Nat.le_of_ble_eq_true rfl, Nat.le_of_ble_eq_true rfl⟩ ⟨Nat.le_of_ble_eq_true rfl, Nat.le_of_ble_eq_true rfl⟩ (fun H2 locs hz2 hcx oq2 hS2 => ?_)
  have hz2 : H2.size = x + 169 := by rw [hz2, wldV_len]
  refine lv_astore_n (lv' := [(1, .ref x), (0, .ref b)]) hx hb dL_law_7 rfl hl (by decide) rfl (fun ls hl => ?_)
  refine c_new (ci := 11) (fs := [.null, .int 0, .int 0, .int 0, .int 0, .int 0, .int 0, .null, .null, .null, .int 0, .int 0, .int 0, .int 0, .int 0, .int 0, .int 0, .int 0, .int 0, .int 0, .int 0, .null, .null]) (C := RX11) (T := TX11) (N := 23) hx hb hts inX11 tyX11 tyX11_ok hown wK_L_10 wIn_X11 wIz_X11 hK hS2 rfl dv_X11 hz2 (Nat.le_of_ble_eq_true rfl) (Nat.le_of_ble_eq_true rfl) dL_law_8 (fun H3 hz3 ho3 oq3 hS3 => ?_)
  replace hcx := hcx.old (n := 169) (wldV_len G x) oq3 (Nat.le_refl _)
  refine lv_dup hx hb dL_law_11 rfl ?_
  refine c_callJ (rest := [.ref (x + 169)]) (As := []) hx hb hml hown hts hK hN (fun q h => Nat.le_trans (Nat.le_add_right x 169) h) hS3 (k_X11_init l G (x + 169)) hz3 ho3 wd_X11_init rfl wM_X11_init wL_L_12 rfl hl.1 rfl (Nat.le_of_ble_eq_true rfl) dL_law_12 ⟨Nat.le_of_ble_eq_true rfl, Nat.le_of_ble_eq_true rfl⟩ ⟨Nat.le_of_ble_eq_true rfl, Nat.le_of_ble_eq_true rfl⟩ (fun H4 locs hB4 oq4 hS4 => ?_)
  replace hcx := hcx.old (n := 169) (wldV_len G x) oq4 (Nat.le_refl _)
  obtain ⟨F, hF, hcm⟩ := hB4
  refine lv_astore_n (lv' := [(2, .ref (x + 169)), (1, .ref x), (0, .ref b)]) hx hb dL_law_15 rfl hl (by decide) rfl (fun ls hl => ?_)
  refine lv_iconst (v := 0) hx hb dL_law_16 (by decide) ?_
  refine lv_istore_n (lv' := [(3, .int 0), (2, .ref (x + 169)), (1, .ref (x)), (0, .ref b)]) hx hb dL_law_17 rfl hl (by decide) rfl (fun ls hl => ?_)
  refine W.widen (k := 600000) (n := 7302250) (Nat.le_of_ble_eq_true rfl) (Nat.le_of_ble_eq_true rfl) ?_
  refine lv_iload_n hx hb dL_law_18 rfl (lv_at hl 0 rfl) ?_
  refine lv_aload_n hx hb dL_law_19 rfl (lv_at hl 3 rfl) ?_
  refine va_slen hx hb hX hbl hbA hS4 dL_law_20 ?_
  refine lv_bipush (v := 6) hx hb dL_law_21 (by decide) ?_
  refine lv_isub hx hb dL_law_23 ?_
  rcases Nat.lt_or_ge L 6 with hL6 | hL6
  · refine lv_icmp_gt (tgt := 1279) hx hb dL_law_24 (by decide) (fun _ => ?_) (fun h => absurd (pk_sneg (a := L) (b := 6) (by decide) hL6) h)
    exact law_out (x := x) (xs := xs) (G := G) hx hb hr hlocks hbx hS4
  obtain rfl : L = 6 := by omega
  refine lv_icmp_gt (tgt := 1279) hx hb dL_law_24 (by decide) (fun h => absurd h (by decide)) (fun _ => ?_)
  have htail := law_tail (l := l) (e := e) (below := below) (xs := xs) (G := G) hx hb hts hown hml hK hX hbl hbA hr hlocks hbx
  refine lv_aload_n hx hb dL_law_27 rfl (lv_at hl 3 rfl) ?_
  refine lv_iload_n hx hb dL_law_28 rfl (lv_at hl 0 rfl) ?_
  refine va_sld hx hb hX hbl hbA hS4 (h_inc (by decide)) dL_law_29 ?_
  refine lv_bipush (v := 63) hx hb dL_law_30 (by decide) ?_
  refine lv_iand hx hb dL_law_32 ?_
  refine lv_topi (fun v ev => ?_)
  rcases h_sw41 v with hv | hv | hv | hv | hv | hv | hv | hv | hv | hv | hv | hv | hv | hv | hv | hv | hv | hv | hv | hv | hv | hv | hv | hv | hv | hv | hv | hv | hv | hv | hv | hv | hv | hv | hv | hv | hv | hv | hv | hv | hv | hv
  · refine lv_tableOut (tgt := 1273) hx hb dL_law_33 hv (by decide) ?_
    exact htail _ _ _ hS4 hl
  · subst hv
    refine lv_tableIn (tgt := 212) hx hb dL_law_33 (by decide) (by decide) rfl (by decide) ?_
    exact law_case_0 hx hb hts hown hml hK hX hbl hbA htail F hF hcx hcm hS4 hl
  · subst hv
    refine lv_tableIn (tgt := 225) hx hb dL_law_33 (by decide) (by decide) rfl (by decide) ?_
    exact law_case_1 hx hb hts hown hml hK hX hbl hbA htail F hF hcx hcm hS4 hl
  · subst hv
    refine lv_tableIn (tgt := 288) hx hb dL_law_33 (by decide) (by decide) rfl (by decide) ?_
    exact law_case_2 hx hb hts hown hml hK hX hbl hbA htail F hF hcx hcm hS4 hl
  · subst hv
    refine lv_tableIn (tgt := 311) hx hb dL_law_33 (by decide) (by decide) rfl (by decide) ?_
    exact law_case_3 hx hb hts hown hml hK hX hbl hbA htail F hF hcx hcm hS4 hl
  · subst hv
    refine lv_tableIn (tgt := 334) hx hb dL_law_33 (by decide) (by decide) rfl (by decide) ?_
    exact law_case_4 hx hb hts hown hml hK hX hbl hbA htail F hF hcx hcm hS4 hl
  · subst hv
    refine lv_tableIn (tgt := 357) hx hb dL_law_33 (by decide) (by decide) rfl (by decide) ?_
    exact law_case_5 hx hb hts hown hml hK hX hbl hbA htail F hF hcx hcm hS4 hl
  · subst hv
    refine lv_tableIn (tgt := 390) hx hb dL_law_33 (by decide) (by decide) rfl (by decide) ?_
    exact law_case_6 hx hb hts hown hml hK hX hbl hbA htail F hF hcx hcm hS4 hl
  · subst hv
    refine lv_tableIn (tgt := 433) hx hb dL_law_33 (by decide) (by decide) rfl (by decide) ?_
    exact law_case_7 hx hb hts hown hml hK hX hbl hbA htail F hF hcx hcm hS4 hl
  · subst hv
    refine lv_tableIn (tgt := 456) hx hb dL_law_33 (by decide) (by decide) rfl (by decide) ?_
    exact law_case_8 hx hb hts hown hml hK hX hbl hbA htail F hF hcx hcm hS4 hl
  · subst hv
    refine lv_tableIn (tgt := 479) hx hb dL_law_33 (by decide) (by decide) rfl (by decide) ?_
    exact law_case_9 hx hb hts hown hml hK hX hbl hbA htail F hF hcx hcm hS4 hl
  · subst hv
    refine lv_tableIn (tgt := 502) hx hb dL_law_33 (by decide) (by decide) rfl (by decide) ?_
    exact law_case_10 hx hb hts hown hml hK hX hbl hbA htail F hF hcx hcm hS4 hl
  · subst hv
    refine lv_tableIn (tgt := 535) hx hb dL_law_33 (by decide) (by decide) rfl (by decide) ?_
    exact law_case_11 hx hb hts hown hml hK hX hbl hbA htail F hF hcx hcm hS4 hl
  · subst hv
    refine lv_tableIn (tgt := 578) hx hb dL_law_33 (by decide) (by decide) rfl (by decide) ?_
    exact law_case_12 hx hb hts hown hml hK hX hbl hbA htail F hF hcx hcm hS4 hl
  · subst hv
    refine lv_tableIn (tgt := 611) hx hb dL_law_33 (by decide) (by decide) rfl (by decide) ?_
    exact law_case_13 hx hb hts hown hml hK hX hbl hbA htail F hF hcx hcm hS4 hl
  · subst hv
    refine lv_tableIn (tgt := 644) hx hb dL_law_33 (by decide) (by decide) rfl (by decide) ?_
    exact law_case_14 hx hb hts hown hml hK hX hbl hbA htail F hF hcx hcm hS4 hl
  · subst hv
    refine lv_tableIn (tgt := 677) hx hb dL_law_33 (by decide) (by decide) rfl (by decide) ?_
    exact law_case_15 hx hb hts hown hml hK hX hbl hbA htail F hF hcx hcm hS4 hl
  · subst hv
    refine lv_tableIn (tgt := 690) hx hb dL_law_33 (by decide) (by decide) rfl (by decide) ?_
    exact law_case_16 hx hb hts hown hml hK hX hbl hbA htail F hF hcx hcm hS4 hl
  · subst hv
    refine lv_tableIn (tgt := 713) hx hb dL_law_33 (by decide) (by decide) rfl (by decide) ?_
    exact law_case_17 hx hb hts hown hml hK hX hbl hbA htail F hF hcx hcm hS4 hl
  · subst hv
    refine lv_tableIn (tgt := 756) hx hb dL_law_33 (by decide) (by decide) rfl (by decide) ?_
    exact law_case_18 hx hb hts hown hml hK hX hbl hbA htail F hF hcx hcm hS4 hl
  · subst hv
    refine lv_tableIn (tgt := 779) hx hb dL_law_33 (by decide) (by decide) rfl (by decide) ?_
    exact law_case_19 hx hb hts hown hml hK hX hbl hbA htail F hF hcx hcm hS4 hl
  · subst hv
    refine lv_tableIn (tgt := 812) hx hb dL_law_33 (by decide) (by decide) rfl (by decide) ?_
    exact law_case_20 hx hb hts hown hml hK hX hbl hbA htail F hF hcx hcm hS4 hl
  · subst hv
    refine lv_tableIn (tgt := 835) hx hb dL_law_33 (by decide) (by decide) rfl (by decide) ?_
    exact law_case_21 hx hb hts hown hml hK hX hbl hbA htail F hF hcx hcm hS4 hl
  · subst hv
    refine lv_tableIn (tgt := 858) hx hb dL_law_33 (by decide) (by decide) rfl (by decide) ?_
    exact law_case_22 hx hb hts hown hml hK hX hbl hbA htail F hF hcx hcm hS4 hl
  · subst hv
    refine lv_tableIn (tgt := 881) hx hb dL_law_33 (by decide) (by decide) rfl (by decide) ?_
    exact law_case_23 hx hb hts hown hml hK hX hbl hbA htail F hF hcx hcm hS4 hl
  · subst hv
    refine lv_tableIn (tgt := 894) hx hb dL_law_33 (by decide) (by decide) rfl (by decide) ?_
    exact law_case_24 hx hb hts hown hml hK hX hbl hbA htail F hF hcx hcm hS4 hl
  · subst hv
    refine lv_tableIn (tgt := 927) hx hb dL_law_33 (by decide) (by decide) rfl (by decide) ?_
    exact law_case_25 hx hb hts hown hml hK hX hbl hbA htail F hF hcx hcm hS4 hl
  · subst hv
    refine lv_tableIn (tgt := 940) hx hb dL_law_33 (by decide) (by decide) rfl (by decide) ?_
    exact law_case_26 hx hb hts hown hml hK hX hbl hbA htail F hF hcx hcm hS4 hl
  · subst hv
    refine lv_tableIn (tgt := 963) hx hb dL_law_33 (by decide) (by decide) rfl (by decide) ?_
    exact law_case_27 hx hb hts hown hml hK hX hbl hbA htail F hF hcx hcm hS4 hl
  · subst hv
    refine lv_tableIn (tgt := 1006) hx hb dL_law_33 (by decide) (by decide) rfl (by decide) ?_
    exact law_case_28 hx hb hts hown hml hK hX hbl hbA htail F hF hcx hcm hS4 hl
  · subst hv
    refine lv_tableIn (tgt := 1019) hx hb dL_law_33 (by decide) (by decide) rfl (by decide) ?_
    exact law_case_29 hx hb hts hown hml hK hX hbl hbA htail F hF hcx hcm hS4 hl
  · subst hv
    refine lv_tableIn (tgt := 1032) hx hb dL_law_33 (by decide) (by decide) rfl (by decide) ?_
    exact law_case_30 hx hb hts hown hml hK hX hbl hbA htail F hF hcx hcm hS4 hl
  · subst hv
    refine lv_tableIn (tgt := 1045) hx hb dL_law_33 (by decide) (by decide) rfl (by decide) ?_
    exact law_case_31 hx hb hts hown hml hK hX hbl hbA htail F hF hcx hcm hS4 hl
  · subst hv
    refine lv_tableIn (tgt := 1058) hx hb dL_law_33 (by decide) (by decide) rfl (by decide) ?_
    exact law_case_32 hx hb hts hown hml hK hX hbl hbA htail F hF hcx hcm hS4 hl
  · subst hv
    refine lv_tableIn (tgt := 1097) hx hb dL_law_33 (by decide) (by decide) rfl (by decide) ?_
    exact law_case_33 hx hb hts hown hml hK hX hbl hbA htail F hF hcx hcm hS4 hl
  · subst hv
    refine lv_tableIn (tgt := 1146) hx hb dL_law_33 (by decide) (by decide) rfl (by decide) ?_
    exact law_case_34 hx hb hts hown hml hK hX hbl hbA htail F hF hcx hcm hS4 hl
  · subst hv
    refine lv_tableIn (tgt := 1195) hx hb dL_law_33 (by decide) (by decide) rfl (by decide) ?_
    exact law_case_35 hx hb hts hown hml hK hX hbl hbA htail F hF hcx hcm hS4 hl
  · subst hv
    refine lv_tableIn (tgt := 1208) hx hb dL_law_33 (by decide) (by decide) rfl (by decide) ?_
    exact law_case_36 hx hb hts hown hml hK hX hbl hbA htail F hF hcx hcm hS4 hl
  · subst hv
    refine lv_tableIn (tgt := 1221) hx hb dL_law_33 (by decide) (by decide) rfl (by decide) ?_
    exact law_case_37 hx hb hts hown hml hK hX hbl hbA htail F hF hcx hcm hS4 hl
  · subst hv
    refine lv_tableIn (tgt := 1234) hx hb dL_law_33 (by decide) (by decide) rfl (by decide) ?_
    exact law_case_38 hx hb hts hown hml hK hX hbl hbA htail F hF hcx hcm hS4 hl
  · subst hv
    refine lv_tableIn (tgt := 1247) hx hb dL_law_33 (by decide) (by decide) rfl (by decide) ?_
    exact law_case_39 hx hb hts hown hml hK hX hbl hbA htail F hF hcx hcm hS4 hl
  · subst hv
    refine lv_tableIn (tgt := 1260) hx hb dL_law_33 (by decide) (by decide) rfl (by decide) ?_
    exact law_case_40 hx hb hts hown hml hK hX hbl hbA htail F hF hcx hcm hS4 hl
