def h_tm (i : Nat) : Term := match h_sl[i]? with
  | some r => Term.string r.1 r.2.1
  | none => Term.string "" 0
abbrev lw_flat : List Cond := flatC (Cond.and given_1 narrow_1)
theorem lw_s1 : ∀ i : Nat, i < 6 → Cond.exactly (h_tm i) "java/lang/String" ∈ lw_flat := by decide +kernel
theorem lw_s2 : ∀ i : Nat, i < 6 → Cond.eq (.field (h_tm i) "java/lang/String" "coder" "B") (.int 0) ∈ lw_flat := by decide +kernel
theorem lw_s3 : ∀ i : Nat, i < 6 → Cond.arrayOf (.field (h_tm i) "java/lang/String" "value" "[B") .byte ∈ lw_flat := by decide +kernel
theorem lw_s4 : ∀ i : Nat, i < 6 → Cond.eq (.length (.field (h_tm i) "java/lang/String" "value" "[B")) (.int (Int32.ofNat (h_len.getD i 0))) ∈ lw_flat := by decide +kernel
theorem lw_s5 : ∀ i : Nat, i < 6 → ∀ j : Nat, j < h_len.getD i 0 → Cond.eq (.elem (.field (h_tm i) "java/lang/String" "value" "[B") (.int (Int32.ofNat j))) (.int ((h_byt.getD i []).getD j 0)) ∈ lw_flat := by decide +kernel
theorem lw_s6 : ∀ i : Nat, i < 6 → ∀ j : Nat, j < 6 → i ≠ j → Cond.not (Cond.eq (h_tm i) (h_tm j)) ∈ lw_flat ∨ Cond.not (Cond.eq (h_tm j) (h_tm i)) ∈ lw_flat := by decide +kernel
theorem lw_s7 : Cond.eq (.static "java/lang/String" "COMPACT_STRINGS" "Z") (.int 1) ∈ lw_flat := by decide +kernel
theorem lw_s8 : Cond.isRef (.static "jdk/internal/util/Preconditions" "SIOOBE_FORMATTER" "Ljava/util/function/BiFunction;") ∈ lw_flat := by decide +kernel
theorem lw_s9 : ∀ i : Nat, i < 6 → h_len.getD i 0 < 2 ^ 31 := by decide +kernel
theorem lw_t {args : Array Value} {s : State} (hts0 : ∀ w ∈ lw_tbl, w.before args s = true) (i : Nat) {w : Cond} (h : tables_1[i]? = some w) : w.before args s = true := hts0 _ (List.mem_append_right _ (List.mem_of_getElem? h))
theorem lw_strs {args : Array Value} {s : State} (hgv : (Cond.and given_1 narrow_1).before args s = true) (hts0 : ∀ w ∈ lw_tbl, w.before args s = true) {x : Nat} (hx : s.heap.size = x) : ∃ adK adV : Nat → Nat, vk_S 6 h_len h_byt adK adV (fun q => x ≤ q) s s.heap ∧ (∀ (i : Nat) (r : String × Nat × String × List Int32), h_sl[i]? = some r → vk_R r.1 r.2.1 r.2.2.1 (adK i) s) ∧ va_Z "java/lang/String" "COMPACT_STRINGS" "Z" (.int 1) (fun q => x ≤ q) s s.heap ∧ va_Zq "jdk/internal/util/Preconditions" "SIOOBE_FORMATTER" "Ljava/util/function/BiFunction;" (fun q => x ≤ q) s s.heap := by
  have hf := flat_of_before _ hgv
  have hA : ∀ a : Nat, a < s.heap.size → ¬ x ≤ a := fun a ha => by omega
  obtain ⟨adK, adV, h1, h2⟩ := vk_Sof (tm := h_tm) (len := h_len) (byt := h_byt) (N := 6) (A := fun q => x ≤ q) lw_s9 (fun i hi => hf _ (lw_s1 i hi)) (fun i hi => hf _ (lw_s2 i hi)) (fun i hi => hf _ (lw_s3 i hi)) (fun i hi => hf _ (lw_s4 i hi)) (fun i hi j hj => hf _ (lw_s5 i hi j hj)) (fun i j hi hj hij => (lw_s6 i hi j hj hij).imp (fun h => hf _ h) (fun h => hf _ h)) hA
  refine ⟨adK, adV, h1, fun i r hi => ?_, va_Zof (lw_t hts0 515 (by decide +kernel)) (lw_t hts0 14 (by decide +kernel)) (va_eqi (hf _ lw_s7)) hA, va_Zqof (lw_t hts0 531 (by decide +kernel)) (lw_t hts0 16 (by decide +kernel)) (hf _ lw_s8) hA⟩
  match i, hi with
  | 0, hi => cases hi; exact vk_R.of (lw_t hts0 501 (by decide +kernel)) (h2 0 (by decide))
  | 1, hi => cases hi; exact vk_R.of (lw_t hts0 566 (by decide +kernel)) (h2 1 (by decide))
  | 2, hi => cases hi; exact vk_R.of (lw_t hts0 567 (by decide +kernel)) (h2 2 (by decide))
  | 3, hi => cases hi; exact vk_R.of (lw_t hts0 568 (by decide +kernel)) (h2 3 (by decide))
  | 4, hi => cases hi; exact vk_R.of (lw_t hts0 569 (by decide +kernel)) (h2 4 (by decide))
  | 5, hi => cases hi; exact vk_R.of (lw_t hts0 1349 (by decide +kernel)) (h2 5 (by decide))
  | i + 6, hi => simp [h_sl] at hi
set_option maxHeartbeats 4000000 in
set_option maxRecDepth 100000 in
theorem whole_start {p : Program} {e : Env} {s : State} {m : MethodId} {below : List Frame} {meth : Method} {c : Code} (l : Launch) (hflags : l.flags = flags0) {b L : Nat} {xs : Nat → Int32} (hL : L ≤ 3072) (C0 : lw_At p s m meth c b L xs) : W p l e room_1 s m #[Value.ref b] below meth c s.heap [] 0 0 (lw_Z below #[Value.ref b] s) (entryFrame m ([Value.ref b] : List Value).toArray 4) := by
  obtain ⟨hx, hb, hr, hml, hown, hts0, hX, hbl, hlocks, hgv⟩ := id C0
  have hts := h_hts hts0
  have hown : s.vm.findClass RL = some m.cls := hown
  obtain ⟨c0, i0, hK0⟩ := u_known (C := RX0) (T := TX0) (N := 6) (n := 6) hts inX0 (hts _ wIn_X0)
  obtain ⟨c1, i1, hK1⟩ := u_known (C := RX1) (T := TX1) (N := 4) (n := 4) hts inX1 (hts _ wIn_X1)
  obtain ⟨c2, i2, hK2⟩ := u_known (C := RX2) (T := TX2) (N := 5) (n := 5) hts inX2 (hts _ wIn_X2)
  obtain ⟨c3, i3, hK3⟩ := u_known (C := RX3) (T := TX3) (N := 3) (n := 3) hts inX3 (hts _ wIn_X3)
  obtain ⟨c4, i4, hK4⟩ := u_known (C := RX4) (T := TX4) (N := 13) (n := 13) hts inX4 (hts _ wIn_X4)
  obtain ⟨c5, i5, hK5⟩ := u_known (C := RX5) (T := TX5) (N := 11) (n := 11) hts inX5 (hts _ wIn_X5)
  obtain ⟨c6, i6, hK6⟩ := u_known (C := RX6) (T := TX6) (N := 4) (n := 4) hts inX6 (hts _ wIn_X6)
  obtain ⟨c7, i7, hK7⟩ := u_known (C := RX7) (T := TX7) (N := 9) (n := 9) hts inX7 (hts _ wIn_X7)
  obtain ⟨c8, i8, hK8⟩ := u_known (C := RX8) (T := TX8) (N := 4) (n := 4) hts inX8 (hts _ wIn_X8)
  obtain ⟨c9, i9, hK9⟩ := u_known (C := RX9) (T := TX9) (N := 11) (n := 11) hts inX9 (hts _ wIn_X9)
  obtain ⟨c10, i10, hK10⟩ := u_known (C := RX10) (T := TX10) (N := 9) (n := 9) hts inX10 (hts _ wIn_X10)
  obtain ⟨c11, i11, hK11⟩ := u_known (C := RX11) (T := TX11) (N := 23) (n := 23) hts inX11 (hts _ wIn_X11)
  obtain ⟨dC, dI, hKc⟩ : ∃ (dC : Nat → ClassId) (dI : Nat → Nat → Nat), ∀ (k : Nat) (q : vw_C), vwCl[k]? = some q → u_Kn s q.1 q.2.1 q.2.2 (dC k) (dI k) := by
    refine ⟨fun k => if k = 0 then c0 else if k = 1 then c1 else if k = 2 then c2 else if k = 3 then c3 else if k = 4 then c4 else if k = 5 then c5 else if k = 6 then c6 else if k = 7 then c7 else if k = 8 then c8 else if k = 9 then c9 else if k = 10 then c10 else c11, fun k => if k = 0 then i0 else if k = 1 then i1 else if k = 2 then i2 else if k = 3 then i3 else if k = 4 then i4 else if k = 5 then i5 else if k = 6 then i6 else if k = 7 then i7 else if k = 8 then i8 else if k = 9 then i9 else if k = 10 then i10 else i11, ?_⟩
    intro k q hq
    match k, hq with
    | 0, hq => cases hq; exact hK0
    | 1, hq => cases hq; exact hK1
    | 2, hq => cases hq; exact hK2
    | 3, hq => cases hq; exact hK3
    | 4, hq => cases hq; exact hK4
    | 5, hq => cases hq; exact hK5
    | 6, hq => cases hq; exact hK6
    | 7, hq => cases hq; exact hK7
    | 8, hq => cases hq; exact hK8
    | 9, hq => cases hq; exact hK9
    | 10, hq => cases hq; exact hK10
    | 11, hq => cases hq; exact hK11
    | k + 12, hq => simp at hq
  obtain ⟨y0, hA0, hB0⟩ := h_Kt (ty := .int) (hts _ wArr_int)
  obtain ⟨y1, hA1, hB1⟩ := h_Kt (ty := .byte) (hts _ wArr_byte)
  obtain ⟨y2, hA2, hB2⟩ := h_Kt (ty := .boolean) (hts _ wArr_boolean)
  obtain ⟨y3, hA3, hB3⟩ := h_Kt (ty := .long) (hts _ wArr_long)
  have hN : c_N s := ⟨⟨va_Nw.of rfl (hts0 _ (List.mem_append_right _ (List.mem_of_getElem? (i := 31) (by decide +kernel)))), va_Nw.of rfl (hts0 _ (List.mem_append_right _ (List.mem_of_getElem? (i := 54) (by decide +kernel)))), va_Nw.of rfl (hts0 _ (List.mem_append_right _ (List.mem_of_getElem? (i := 60) (by decide +kernel)))), va_Nw.of rfl (hts0 _ (List.mem_append_right _ (List.mem_of_getElem? (i := 110) (by decide +kernel)))), va_Nw.of rfl (hts0 _ (List.mem_append_right _ (List.mem_of_getElem? (i := 132) (by decide +kernel)))), va_Nw.of rfl (hts0 _ (List.mem_append_right _ (List.mem_of_getElem? (i := 148) (by decide +kernel)))), va_Nw.of rfl (hts0 _ (List.mem_append_right _ (List.mem_of_getElem? (i := 205) (by decide +kernel)))), va_Nw.of rfl (hts0 _ (List.mem_append_right _ (List.mem_of_getElem? (i := 232) (by decide +kernel))))⟩, va_AO.of (hts0 _ (List.mem_append_right _ (List.mem_of_getElem? (i := 374) (by decide +kernel)))), va_AO.of (hts0 _ (List.mem_append_right _ (List.mem_of_getElem? (i := 375) (by decide +kernel))))⟩
  obtain ⟨y4, hA4, hB4⟩ := h_Ko hN.2.1
  obtain ⟨y5, hA5, hB5⟩ := h_Ko hN.2.2
  obtain ⟨x, hbx⟩ : ∃ x : Nat, s.heap.size = x := ⟨_, rfl⟩
  obtain ⟨adK, adV, hZ1, hZ2, hZ3, hZ4⟩ := lw_strs hgv hts0 hbx
  obtain ⟨G, hG1, hG2, hG3, hG4⟩ : ∃ G : hG, G.1 = (dC, dI) ∧ (G.2.1 0 = y0 ∧ G.2.1 1 = y1 ∧ G.2.1 2 = y2 ∧ G.2.1 3 = y3 ∧ G.2.1 4 = y4 ∧ G.2.1 5 = y5) ∧ G.2.2.1 = adK ∧ G.2.2.2 = adV := ⟨((dC, dI), fun t => if t = 0 then y0 else if t = 1 then y1 else if t = 2 then y2 else if t = 3 then y3 else if t = 4 then y4 else y5, adK, adV), rfl, ⟨rfl, rfl, rfl, rfl, rfl, rfl⟩, rfl, rfl⟩
  have hK : h_K G s := by
    refine ⟨by rw [hG1]; exact hKc, fun t ht => ?_⟩
    match t, ht with
    | 0, _ => rw [hG2.1]; exact ⟨hA0, hB0⟩
    | 1, _ => rw [hG2.2.1]; exact ⟨hA1, hB1⟩
    | 2, _ => rw [hG2.2.2.1]; exact ⟨hA2, hB2⟩
    | 3, _ => rw [hG2.2.2.2.1]; exact ⟨hA3, hB3⟩
    | 4, _ => rw [hG2.2.2.2.2.1]; exact ⟨hA4, hB4⟩
    | 5, _ => rw [hG2.2.2.2.2.2]; exact ⟨hA5, hB5⟩
    | t + 6, ht => omega
  have hZ : h_Z G (fun q => x ≤ q) s := ⟨by rw [hG3, hG4]; exact hZ1, by rw [hG3]; exact hZ2, hZ3, hZ4⟩
  clear hG1 hG2 hG3 hG4 hKc hZ1 hZ2 hZ3 hZ4 hK0 hK1 hK2 hK3 hK4 hK5 hK6 hK7 hK8 hK9 hK10 hK11
  have hbA : ¬ x ≤ b := by omega
  have hS0 : va_S (fun q => x ≤ q) s.heap s.heap [] := va_S.rf
  have hl := lv_entry ([.ref b]) (n := 4) (Nat.le_of_ble_eq_true rfl)
  rw [lg_entry_eq]
  generalize (lg_sl ([.ref b]) ++ List.replicate (4 - (lg_sl ([.ref b])).length) Slot.unset).toArray = ls at hl ⊢
  have hl : lv_has ls 4 [(0, .ref b)] := hl
  refine c_new (ci := 10) (fs := [.null, .null, .null, .null, .null, .null, .null, .int 0, .int 0]) (C := RX10) (T := TX10) (N := 9) hx hb hts inX10 tyX10 tyX10_ok hown wK_L_7 wIn_X10 wIz_X10 hK hS0 rfl dv_X10 hbx (Nat.le_of_ble_eq_true rfl) (Nat.le_of_ble_eq_true rfl) dL_law_0 (fun H1 hz1 ho1 oq1 hS1 => ?_)
  refine lv_dup hx hb dL_law_3 rfl ?_
  refine c_callI (rest := [.ref (x)]) (As := []) hx hb hml hown hts hK hN (fun q h => h) hS1 (k_X10_init l G x) hz1 ho1 wd_X10_init rfl wM_X10_init wL_L_9 rfl hl.1 rfl (Nat.le_of_ble_eq_true rfl) dL_law_4 ⟨Nat.le_of_ble_eq_true rfl, Nat.le_of_ble_eq_true rfl⟩ ⟨Nat.le_of_ble_eq_true rfl, Nat.le_of_ble_eq_true rfl⟩ (fun H2 locs hz2 hcx oq2 hS2 => ?_)
  have hz2 : H2.size = x + 169 := by rw [hz2, wldV_len]
  refine lv_astore_n (lv' := [(1, .ref x), (0, .ref b)]) hx hb dL_law_7 rfl hl (by decide) rfl (fun ls hl => ?_)
  refine c_new (ci := 11) (fs := [.null, .int 0, .int 0, .int 0, .int 0, .int 0, .int 0, .null, .null, .null, .int 0, .int 0, .int 0, .int 0, .int 0, .int 0, .int 0, .int 0, .int 0, .int 0, .int 0, .null, .null]) (C := RX11) (T := TX11) (N := 23) hx hb hts inX11 tyX11 tyX11_ok hown wK_L_10 wIn_X11 wIz_X11 hK hS2 rfl dv_X11 hz2 (Nat.le_of_ble_eq_true rfl) (Nat.le_of_ble_eq_true rfl) dL_law_8 (fun H3 hz3 ho3 oq3 hS3 => ?_)
  replace hcx := hcx.old (n := 169) (wldV_len G x) oq3 (Nat.le_refl _)
  refine lv_dup hx hb dL_law_11 rfl ?_
  refine c_callJ (rest := [.ref (x + 169)]) (As := []) hx hb hml hown hts hK hN hZ (fun q h => Nat.le_trans (Nat.le_add_right x 169) h) hS3 (k_X11_init l G (x + 169)) hz3 ho3 wd_X11_init rfl wM_X11_init wL_L_12 rfl hl.1 rfl (Nat.le_of_ble_eq_true rfl) dL_law_12 ⟨Nat.le_of_ble_eq_true rfl, Nat.le_of_ble_eq_true rfl⟩ ⟨Nat.le_of_ble_eq_true rfl, Nat.le_of_ble_eq_true rfl⟩ (fun H4 locs hB4 oq4 hS4 => ?_)
  replace hcx := hcx.old (n := 169) (wldV_len G x) oq4 (Nat.le_refl _)
  obtain ⟨hTm, hRm⟩ := hB4
  have hI : lwI G x 0 H4 := ⟨by omega, w_Y_T (fC_W G x) hcx, hTm, hRm, fun i hi => absurd hi (by omega)⟩
  refine lv_astore_n (lv' := [(2, .ref (x + 169)), (1, .ref x), (0, .ref b)]) hx hb dL_law_15 rfl hl (by decide) rfl (fun ls hl => ?_)
  refine lv_iconst (v := 0) hx hb dL_law_16 (by decide) ?_
  refine lv_istore_n (lv' := [(3, .int 0), (2, .ref (x + 169)), (1, .ref (x)), (0, .ref b)]) hx hb dL_law_17 rfl hl (by decide) rfl (fun ls hl => ?_)
  refine W.widen (k := 600000) (n := 7302250) (Nat.le_of_ble_eq_true rfl) (Nat.le_of_ble_eq_true rfl) ?_
  exact law_loop hx hb hts hown hml hK hZ hX hbl hbA hr hlocks hbx hL L 0 0 H4 locs ls (by omega) (Nat.zero_le _) hI hS4 hl
