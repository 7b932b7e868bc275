set_option maxRecDepth 100000 in
theorem wldV_len (G : hG) (a : Nat) : (wldV G a).length = 169 := rfl
set_option maxHeartbeats 4000000 in
set_option maxRecDepth 100000 in
theorem law_out {p : Program} {l : Launch} {e : Env} {s : State} {m : MethodId} {below : List Frame} {meth : Method} {c : Code} {b x : Nat} {H0 : Heap} {locs : List Loc} {ls : Array Slot} (hx : p.tables.exec = Jvm.exec) (hb : c.code = code) (hr : meth.sig.returnType = ret) (hlocks : meth.locks = false) (hbx : s.heap.size = x) (hS : va_S (fun q => x ≤ q) s.heap H0 locs) : W p l e room_1 s m #[Value.ref b] below meth c H0 locs 600000 7302250 (lw_Z below #[Value.ref b] s) (F0 m 1279 ls []) := by
  refine lv_iconst (v := 1) hx hb dL_law_1279 (by decide) ?_
  refine va_forget (fun q hq => by rw [hbx]; exact hS.2.2 q hq) ?_
  exact lw_ret hx hb hr hlocks dL_law_1280
set_option maxHeartbeats 4000000 in
set_option maxRecDepth 100000 in
theorem law_loop {p : Program} {l : Launch} {e : Env} {s : State} {m : MethodId} {below : List Frame} {meth : Method} {c : Code} {b x L : Nat} {xs : Nat → Int32} {G : hG} (hx : p.tables.exec = Jvm.exec) (hb : c.code = code) (hts : ∀ w ∈ wsL_law, w.before #[Value.ref b] s = true) (hown : s.vm.findClass RL = some m.cls) (hml : c.maxLocals = 4) (hK : h_K G s) (hZ : h_Z G (fun q => x ≤ q) s) (hX : va_X b L xs s s.heap) (hbl : b < s.heap.size) (hbA : ¬ x ≤ b) (hr : meth.sig.returnType = ret) (hlocks : meth.locks = false) (hbx : s.heap.size = x) (hL : L ≤ 3072) : ∀ (n q k : Nat) (H : Heap) (locs : List Loc) (ls : Array Slot), L ≤ q + 6 * n → q ≤ L → lwI G x k H → va_S (fun q => x ≤ q) s.heap H locs → lv_has ls 4 [(3, .int (nI q)), (2, .ref (x + 169)), (1, .ref (x)), (0, .ref b)] → W p l e room_1 s m #[Value.ref b] below meth c H locs 600000 7302250 (lw_Z below #[Value.ref b] s) (F0 m 18 ls []) := by
  intro n
  induction n with
  | zero =>
    intro q k H locs ls hn hq hI hS hl
    refine lv_iload_n hx hb dL_law_18 rfl (lv_at hl 0 rfl) ?_
    refine lv_aload_n hx hb dL_law_19 rfl (lv_at hl 3 rfl) ?_
    refine va_slen hx hb hX hbl hbA hS dL_law_20 ?_
    refine lv_bipush (v := 6) hx hb dL_law_21 (by decide) ?_
    refine lv_isub hx hb dL_law_23 ?_
    refine lv_icmp_gt (tgt := 1279) hx hb dL_law_24 (by decide) (fun _ => ?_) (fun h => absurd ((lw_gt (by omega) (by omega)).mpr (by omega)) h)
    exact law_out hx hb hr hlocks hbx hS
  | succ n ih =>
    intro q k H locs ls hn hq hI hS hl
    refine lv_iload_n hx hb dL_law_18 rfl (lv_at hl 0 rfl) ?_
    refine lv_aload_n hx hb dL_law_19 rfl (lv_at hl 3 rfl) ?_
    refine va_slen hx hb hX hbl hbA hS dL_law_20 ?_
    refine lv_bipush (v := 6) hx hb dL_law_21 (by decide) ?_
    refine lv_isub hx hb dL_law_23 ?_
    refine lv_icmp_gt (tgt := 1279) hx hb dL_law_24 (by decide) (fun _ => ?_) (fun h => ?_)
    · exact law_out hx hb hr hlocks hbx hS
    have hq6 : q + 6 ≤ L := by have : ¬ L < q + 6 := fun z => h ((lw_gt (q := q) (L := L) (by omega) (by omega)).mpr z); omega
    have htail : ∀ (k : Nat) (H : Heap) (locs : List Loc) (ls : Array Slot), lwI G x k H → va_S (fun q => x ≤ q) s.heap H locs → lv_has ls 4 [(3, .int (nI q)), (2, .ref (x + 169)), (1, .ref (x)), (0, .ref b)] → W p l e room_1 s m #[Value.ref b] below meth c H locs 600000 7302250 (lw_Z below #[Value.ref b] s) (F0 m 1273 ls []) := by
      intro k H locs ls hI hS hl
      refine lv_iinc (v := nI (q + 6)) (lv' := [(3, .int (nI (q + 6))), (2, .ref (x + 169)), (1, .ref (x)), (0, .ref b)]) hx hb dL_law_1273 hl (k := 0) rfl (nI_add q 6) (by decide) rfl (fun ls hl => ?_)
      refine lv_goto (tgt := 18) hx hb dL_law_1276 (by decide) ?_
      exact ih (q + 6) k H locs ls (by omega) (by omega) hI hS hl
    refine lv_aload_n hx hb dL_law_27 rfl (lv_at hl 3 rfl) ?_
    refine lv_iload_n hx hb dL_law_28 rfl (lv_at hl 0 rfl) ?_
    refine va_sld hx hb hX hbl hbA hS (vp_in_nI (by omega) (by omega)) dL_law_29 ?_
    refine lv_bipush (v := 63) hx hb dL_law_30 (by decide) ?_
    refine lv_iand hx hb dL_law_32 ?_
    refine lv_topi (fun v ev => ?_)
    rcases h_sw41 v with hv | hv | hv | hv | hv | hv | hv | hv | hv | hv | hv | hv | hv | hv | hv | hv | hv | hv | hv | hv | hv | hv | hv | hv | hv | hv | hv | hv | hv | hv | hv | hv | hv | hv | hv | hv | hv | hv | hv | hv | hv | hv
    · refine lv_tableOut (tgt := 1273) hx hb dL_law_33 hv (by decide) ?_
      exact htail k _ _ _ hI hS hl
    · subst hv
      refine lv_tableIn (tgt := 212) hx hb dL_law_33 (by decide) (by decide) rfl (by decide) ?_
      exact law_case_0 hx hb hts hown hml hK hZ hX hbl hbA htail hq6 hL hI hS hl
    · subst hv
      refine lv_tableIn (tgt := 225) hx hb dL_law_33 (by decide) (by decide) rfl (by decide) ?_
      exact law_case_1 hx hb hts hown hml hK hZ hX hbl hbA htail hq6 hL hI hS hl
    · subst hv
      refine lv_tableIn (tgt := 288) hx hb dL_law_33 (by decide) (by decide) rfl (by decide) ?_
      exact law_case_2 hx hb hts hown hml hK hZ hX hbl hbA htail hq6 hL hI hS hl
    · subst hv
      refine lv_tableIn (tgt := 311) hx hb dL_law_33 (by decide) (by decide) rfl (by decide) ?_
      exact law_case_3 hx hb hts hown hml hK hZ hX hbl hbA htail hq6 hL hI hS hl
    · subst hv
      refine lv_tableIn (tgt := 334) hx hb dL_law_33 (by decide) (by decide) rfl (by decide) ?_
      exact law_case_4 hx hb hts hown hml hK hZ hX hbl hbA htail hq6 hL hI hS hl
    · subst hv
      refine lv_tableIn (tgt := 357) hx hb dL_law_33 (by decide) (by decide) rfl (by decide) ?_
      exact law_case_5 hx hb hts hown hml hK hZ hX hbl hbA htail hq6 hL hI hS hl
    · subst hv
      refine lv_tableIn (tgt := 390) hx hb dL_law_33 (by decide) (by decide) rfl (by decide) ?_
      exact law_case_6 hx hb hts hown hml hK hZ hX hbl hbA htail hq6 hL hI hS hl
    · subst hv
      refine lv_tableIn (tgt := 433) hx hb dL_law_33 (by decide) (by decide) rfl (by decide) ?_
      exact law_case_7 hx hb hts hown hml hK hZ hX hbl hbA htail hq6 hL hI hS hl
    · subst hv
      refine lv_tableIn (tgt := 456) hx hb dL_law_33 (by decide) (by decide) rfl (by decide) ?_
      exact law_case_8 hx hb hts hown hml hK hZ hX hbl hbA htail hq6 hL hI hS hl
    · subst hv
      refine lv_tableIn (tgt := 479) hx hb dL_law_33 (by decide) (by decide) rfl (by decide) ?_
      exact law_case_9 hx hb hts hown hml hK hZ hX hbl hbA htail hq6 hL hI hS hl
    · subst hv
      refine lv_tableIn (tgt := 502) hx hb dL_law_33 (by decide) (by decide) rfl (by decide) ?_
      exact law_case_10 hx hb hts hown hml hK hZ hX hbl hbA htail hq6 hL hI hS hl
    · subst hv
      refine lv_tableIn (tgt := 535) hx hb dL_law_33 (by decide) (by decide) rfl (by decide) ?_
      exact law_case_11 hx hb hts hown hml hK hZ hX hbl hbA htail hq6 hL hI hS hl
    · subst hv
      refine lv_tableIn (tgt := 578) hx hb dL_law_33 (by decide) (by decide) rfl (by decide) ?_
      exact law_case_12 hx hb hts hown hml hK hZ hX hbl hbA htail hq6 hL hI hS hl
    · subst hv
      refine lv_tableIn (tgt := 611) hx hb dL_law_33 (by decide) (by decide) rfl (by decide) ?_
      exact law_case_13 hx hb hts hown hml hK hZ hX hbl hbA htail hq6 hL hI hS hl
    · subst hv
      refine lv_tableIn (tgt := 644) hx hb dL_law_33 (by decide) (by decide) rfl (by decide) ?_
      exact law_case_14 hx hb hts hown hml hK hZ hX hbl hbA htail hq6 hL hI hS hl
    · subst hv
      refine lv_tableIn (tgt := 677) hx hb dL_law_33 (by decide) (by decide) rfl (by decide) ?_
      exact law_case_15 hx hb hts hown hml hK hZ hX hbl hbA htail hq6 hL hI hS hl
    · subst hv
      refine lv_tableIn (tgt := 690) hx hb dL_law_33 (by decide) (by decide) rfl (by decide) ?_
      exact law_case_16 hx hb hts hown hml hK hZ hX hbl hbA htail hq6 hL hI hS hl
    · subst hv
      refine lv_tableIn (tgt := 713) hx hb dL_law_33 (by decide) (by decide) rfl (by decide) ?_
      exact law_case_17 hx hb hts hown hml hK hZ hX hbl hbA htail hq6 hL hI hS hl
    · subst hv
      refine lv_tableIn (tgt := 756) hx hb dL_law_33 (by decide) (by decide) rfl (by decide) ?_
      exact law_case_18 hx hb hts hown hml hK hZ hX hbl hbA htail hq6 hL hI hS hl
    · subst hv
      refine lv_tableIn (tgt := 779) hx hb dL_law_33 (by decide) (by decide) rfl (by decide) ?_
      exact law_case_19 hx hb hts hown hml hK hZ hX hbl hbA htail hq6 hL hI hS hl
    · subst hv
      refine lv_tableIn (tgt := 812) hx hb dL_law_33 (by decide) (by decide) rfl (by decide) ?_
      exact law_case_20 hx hb hts hown hml hK hZ hX hbl hbA htail hq6 hL hI hS hl
    · subst hv
      refine lv_tableIn (tgt := 835) hx hb dL_law_33 (by decide) (by decide) rfl (by decide) ?_
      exact law_case_21 hx hb hts hown hml hK hZ hX hbl hbA htail hq6 hL hI hS hl
    · subst hv
      refine lv_tableIn (tgt := 858) hx hb dL_law_33 (by decide) (by decide) rfl (by decide) ?_
      exact law_case_22 hx hb hts hown hml hK hZ hX hbl hbA htail hq6 hL hI hS hl
    · subst hv
      refine lv_tableIn (tgt := 881) hx hb dL_law_33 (by decide) (by decide) rfl (by decide) ?_
      exact law_case_23 hx hb hts hown hml hK hZ hX hbl hbA htail hq6 hL hI hS hl
    · subst hv
      refine lv_tableIn (tgt := 894) hx hb dL_law_33 (by decide) (by decide) rfl (by decide) ?_
      exact law_case_24 hx hb hts hown hml hK hZ hX hbl hbA htail hq6 hL hI hS hl
    · subst hv
      refine lv_tableIn (tgt := 927) hx hb dL_law_33 (by decide) (by decide) rfl (by decide) ?_
      exact law_case_25 hx hb hts hown hml hK hZ hX hbl hbA htail hq6 hL hI hS hl
    · subst hv
      refine lv_tableIn (tgt := 940) hx hb dL_law_33 (by decide) (by decide) rfl (by decide) ?_
      exact law_case_26 hx hb hts hown hml hK hZ hX hbl hbA htail hq6 hL hI hS hl
    · subst hv
      refine lv_tableIn (tgt := 963) hx hb dL_law_33 (by decide) (by decide) rfl (by decide) ?_
      exact law_case_27 hx hb hts hown hml hK hZ hX hbl hbA htail hq6 hL hI hS hl
    · subst hv
      refine lv_tableIn (tgt := 1006) hx hb dL_law_33 (by decide) (by decide) rfl (by decide) ?_
      exact law_case_28 hx hb hts hown hml hK hZ hX hbl hbA htail hq6 hL hI hS hl
    · subst hv
      refine lv_tableIn (tgt := 1019) hx hb dL_law_33 (by decide) (by decide) rfl (by decide) ?_
      exact law_case_29 hx hb hts hown hml hK hZ hX hbl hbA htail hq6 hL hI hS hl
    · subst hv
      refine lv_tableIn (tgt := 1032) hx hb dL_law_33 (by decide) (by decide) rfl (by decide) ?_
      rcases (show k = 0 ∨ k = 1 ∨ k = 2 ∨ k = 3 ∨ k = 4 from by have := hI.1; omega) with rfl | rfl | rfl | rfl | rfl
      · exact law_case_30_0 (k := 0) hx hb hts hown hml hK hZ hX hbl hbA htail hq6 hL hI hS hl
      · exact law_case_30_1 (k := 0) hx hb hts hown hml hK hZ hX hbl hbA htail hq6 hL hI hS hl
      · exact law_case_30_2 (k := 0) hx hb hts hown hml hK hZ hX hbl hbA htail hq6 hL hI hS hl
      · exact law_case_30_3 (k := 0) hx hb hts hown hml hK hZ hX hbl hbA htail hq6 hL hI hS hl
      · exact law_case_30_4 (k := 0) hx hb hts hown hml hK hZ hX hbl hbA htail hq6 hL hI hS hl
    · subst hv
      refine lv_tableIn (tgt := 1045) hx hb dL_law_33 (by decide) (by decide) rfl (by decide) ?_
      rcases (show k = 0 ∨ k = 1 ∨ k = 2 ∨ k = 3 ∨ k = 4 from by have := hI.1; omega) with rfl | rfl | rfl | rfl | rfl
      · exact law_case_31_0 (k := 0) hx hb hts hown hml hK hZ hX hbl hbA htail hq6 hL hI hS hl
      · exact law_case_31_1 (k := 0) hx hb hts hown hml hK hZ hX hbl hbA htail hq6 hL hI hS hl
      · exact law_case_31_2 (k := 0) hx hb hts hown hml hK hZ hX hbl hbA htail hq6 hL hI hS hl
      · exact law_case_31_3 (k := 0) hx hb hts hown hml hK hZ hX hbl hbA htail hq6 hL hI hS hl
      · exact law_case_31_4 (k := 0) hx hb hts hown hml hK hZ hX hbl hbA htail hq6 hL hI hS hl
    · subst hv
      refine lv_tableIn (tgt := 1058) hx hb dL_law_33 (by decide) (by decide) rfl (by decide) ?_
      exact law_case_32 hx hb hts hown hml hK hZ hX hbl hbA htail hq6 hL hI hS hl
    · subst hv
      refine lv_tableIn (tgt := 1097) hx hb dL_law_33 (by decide) (by decide) rfl (by decide) ?_
      exact law_case_33 hx hb hts hown hml hK hZ hX hbl hbA htail hq6 hL hI hS hl
    · subst hv
      refine lv_tableIn (tgt := 1146) hx hb dL_law_33 (by decide) (by decide) rfl (by decide) ?_
      exact law_case_34 hx hb hts hown hml hK hZ hX hbl hbA htail hq6 hL hI hS hl
    · subst hv
      refine lv_tableIn (tgt := 1195) hx hb dL_law_33 (by decide) (by decide) rfl (by decide) ?_
      exact law_case_35 hx hb hts hown hml hK hZ hX hbl hbA htail hq6 hL hI hS hl
    · subst hv
      refine lv_tableIn (tgt := 1208) hx hb dL_law_33 (by decide) (by decide) rfl (by decide) ?_
      exact law_case_36 hx hb hts hown hml hK hZ hX hbl hbA htail hq6 hL hI hS hl
    · subst hv
      refine lv_tableIn (tgt := 1221) hx hb dL_law_33 (by decide) (by decide) rfl (by decide) ?_
      exact law_case_37 hx hb hts hown hml hK hZ hX hbl hbA htail hq6 hL hI hS hl
    · subst hv
      refine lv_tableIn (tgt := 1234) hx hb dL_law_33 (by decide) (by decide) rfl (by decide) ?_
      exact law_case_38 hx hb hts hown hml hK hZ hX hbl hbA htail hq6 hL hI hS hl
    · subst hv
      refine lv_tableIn (tgt := 1247) hx hb dL_law_33 (by decide) (by decide) rfl (by decide) ?_
      exact law_case_39 hx hb hts hown hml hK hZ hX hbl hbA htail hq6 hL hI hS hl
    · subst hv
      refine lv_tableIn (tgt := 1260) hx hb dL_law_33 (by decide) (by decide) rfl (by decide) ?_
      exact law_case_40 hx hb hts hown hml hK hZ hX hbl hbA htail hq6 hL hI hS hl
