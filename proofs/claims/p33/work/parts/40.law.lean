set_option maxHeartbeats 4000000 in
set_option maxRecDepth 100000 in
theorem law_case_0 {p : Program} {l : Launch} {e : Env} {s : State} {m : MethodId} {below : List Frame} {meth : Method} {c : Code} {b x L q k : Nat} {xs : Nat → Int32} {G : hG} {H0 : Heap} {locs : List Loc} {ls : Array Slot} (hx : p.tables.exec = Jvm.exec) (hb : c.code = code) (hts : ∀ w ∈ wsL_law, w.before #[Value.ref b] s = true) (hown : s.vm.findClass RL = some m.cls) (hml : c.maxLocals = 4) (hK : h_K G s) (hZ : h_Z G (fun q => x ≤ q) s) (hX : va_X b L xs s s.heap) (hbl : b < s.heap.size) (hbA : ¬ x ≤ b) (htail : ∀ (k : Nat) (H : Heap) (locs : List Loc) (ls : Array Slot), lwI G x k H → va_S (fun q => x ≤ q) s.heap H locs → lv_has ls 4 [(3, .int (nI q)), (2, .ref (x + 169)), (1, .ref (x)), (0, .ref b)] → W p l e room_1 s m #[Value.ref b] below meth c H locs 600000 7302250 (lw_Z below #[Value.ref b] s) (F0 m 1273 ls [])) (hq : q + 6 ≤ L) (hL : L ≤ 3072) (hI : lwI G x k H0) (hS0 : va_S (fun q => x ≤ q) s.heap H0 locs) (hl : lv_has ls 4 [(3, .int (nI q)), (2, .ref (x + 169)), (1, .ref (x)), (0, .ref b)]) : W p l e room_1 s m #[Value.ref b] below meth c H0 locs 600000 7302250 (lw_Z below #[Value.ref b] s) (F0 m 212 ls []) := by
  obtain ⟨y1, hy1⟩ : ∃ y, xs (q + 1) = y := ⟨_, rfl⟩
  obtain ⟨y2, hy2⟩ : ∃ y, xs (q + 2) = y := ⟨_, rfl⟩
  obtain ⟨y3, hy3⟩ : ∃ y, xs (q + 3) = y := ⟨_, rfl⟩
  obtain ⟨y4, hy4⟩ : ∃ y, xs (q + 4) = y := ⟨_, rfl⟩
  obtain ⟨y5, hy5⟩ : ∃ y, xs (q + 5) = y := ⟨_, rfl⟩
  refine lv_aload_n hx hb dL_law_212 rfl (lv_at hl 2 rfl) ?_
  have hT0 : hT G (w_Y (tC (fun v => v = nI k)) x) H0 := hI.2.1
  refine h_callVi (T := TX10) (rest := []) (As := []) hx hb hml hown hts hK hT0 hZ (fun q hq => (w_Y_A q hq).1) hS0 (c_X10_status l G (w_Y (tC (fun v => v = nI k)) x) (fun v => v = nI k) (x) (w_Y_w (t := tC (fun v => v = nI k)) (x := x))) trivial wd_X10_status wV_X10_status wL_L_13 (on_w0 (w_Y_w (t := tC (fun v => v = nI k)) (x := x))) rfl rfl hl.1 rfl (Nat.le_of_ble_eq_true rfl) dL_law_213 ⟨Nat.le_of_ble_eq_true rfl, Nat.le_of_ble_eq_true rfl⟩ ⟨Nat.le_refl _, Nat.le_refl _⟩ (fun r1 H1 locs hp1 hT1 hS1 hk1 => ?_)
  replace hI := hI.C hT1 hk1
  refine lv_pop hx hb dL_law_216 rfl ?_
  refine lv_aload_n hx hb dL_law_217 rfl (lv_at hl 1 rfl) ?_
  have hT1 : hT G (m_Y (tM (fun v => v = nI k)) (x + 169)) H1 := hI.2.2.1
  refine h_callVi (T := TX11) (rest := []) (As := []) hx hb hml hown hts hK hT1 hZ (fun q hq => Nat.le_trans (Nat.le_add_right x 169) (m_Y_A q hq)) hS1 (c_X11_status l G (m_Y (tM (fun v => v = nI k)) (x + 169)) (fun v => v = nI k) (x + 169) (m_Y_m (t := tM (fun v => v = nI k)) (m := x + 169))) hI.2.2.2.1 wd_X11_status wV_X11_status wL_L_17 ((m_Y_m (t := tM (fun v => v = nI k)) (m := x + 169)).o rfl) rfl rfl hl.1 rfl (Nat.le_of_ble_eq_true rfl) dL_law_218 ⟨Nat.le_of_ble_eq_true rfl, Nat.le_of_ble_eq_true rfl⟩ ⟨Nat.le_refl _, Nat.le_refl _⟩ (fun r2 H2 locs hp2 hT2 hS2 hk2 => ?_)
  obtain ⟨hp2, hB2⟩ := hp2
  replace hI := hI.M hT2 hB2.1 hB2.2 hk2
  refine lv_pop hx hb dL_law_221 rfl ?_
  refine lv_goto (tgt := 1273) hx hb dL_law_222 (by decide) ?_
  exact htail _ _ _ _ hI hS2 (lv_sub hl [0, 1, 2, 3] rfl)
set_option maxHeartbeats 4000000 in
set_option maxRecDepth 100000 in
theorem law_case_1 {p : Program} {l : Launch} {e : Env} {s : State} {m : MethodId} {below : List Frame} {meth : Method} {c : Code} {b x L q k : Nat} {xs : Nat → Int32} {G : hG} {H0 : Heap} {locs : List Loc} {ls : Array Slot} (hx : p.tables.exec = Jvm.exec) (hb : c.code = code) (hts : ∀ w ∈ wsL_law, w.before #[Value.ref b] s = true) (hown : s.vm.findClass RL = some m.cls) (hml : c.maxLocals = 4) (hK : h_K G s) (hZ : h_Z G (fun q => x ≤ q) s) (hX : va_X b L xs s s.heap) (hbl : b < s.heap.size) (hbA : ¬ x ≤ b) (htail : ∀ (k : Nat) (H : Heap) (locs : List Loc) (ls : Array Slot), lwI G x k H → va_S (fun q => x ≤ q) s.heap H locs → lv_has ls 4 [(3, .int (nI q)), (2, .ref (x + 169)), (1, .ref (x)), (0, .ref b)] → W p l e room_1 s m #[Value.ref b] below meth c H locs 600000 7302250 (lw_Z below #[Value.ref b] s) (F0 m 1273 ls [])) (hq : q + 6 ≤ L) (hL : L ≤ 3072) (hI : lwI G x k H0) (hS0 : va_S (fun q => x ≤ q) s.heap H0 locs) (hl : lv_has ls 4 [(3, .int (nI q)), (2, .ref (x + 169)), (1, .ref (x)), (0, .ref b)]) : W p l e room_1 s m #[Value.ref b] below meth c H0 locs 600000 7302250 (lw_Z below #[Value.ref b] s) (F0 m 225 ls []) := by
  obtain ⟨y1, hy1⟩ : ∃ y, xs (q + 1) = y := ⟨_, rfl⟩
  obtain ⟨y2, hy2⟩ : ∃ y, xs (q + 2) = y := ⟨_, rfl⟩
  obtain ⟨y3, hy3⟩ : ∃ y, xs (q + 3) = y := ⟨_, rfl⟩
  obtain ⟨y4, hy4⟩ : ∃ y, xs (q + 4) = y := ⟨_, rfl⟩
  obtain ⟨y5, hy5⟩ : ∃ y, xs (q + 5) = y := ⟨_, rfl⟩
  refine lv_aload_n hx hb dL_law_225 rfl (lv_at hl 2 rfl) ?_
  refine lv_aload_n hx hb dL_law_226 rfl (lv_at hl 3 rfl) ?_
  refine lv_iload_n hx hb dL_law_227 rfl (lv_at hl 0 rfl) ?_
  refine lv_iconst (v := 1) hx hb dL_law_228 (by decide) ?_
  refine lv_iadd hx hb dL_law_229 ?_
  refine h_top (v := (nI (q + 1))) (nI_add q 1) ?_
  refine va_sld hx hb hX hbl hbA hS0 (vp_in_nI (by omega) (by omega)) dL_law_230 ?_
  refine h_top (v := y1) (by rw [nI_clamp (by omega)]; exact hy1) ?_
  refine lv_aload_n hx hb dL_law_231 rfl (lv_at hl 3 rfl) ?_
  refine lv_iload_n hx hb dL_law_232 rfl (lv_at hl 0 rfl) ?_
  refine lv_iconst (v := 2) hx hb dL_law_233 (by decide) ?_
  refine lv_iadd hx hb dL_law_234 ?_
  refine h_top (v := (nI (q + 2))) (nI_add q 2) ?_
  refine va_sld hx hb hX hbl hbA hS0 (vp_in_nI (by omega) (by omega)) dL_law_235 ?_
  refine h_top (v := y2) (by rw [nI_clamp (by omega)]; exact hy2) ?_
  refine lv_aload_n hx hb dL_law_236 rfl (lv_at hl 3 rfl) ?_
  refine lv_iload_n hx hb dL_law_237 rfl (lv_at hl 0 rfl) ?_
  refine lv_iconst (v := 3) hx hb dL_law_238 (by decide) ?_
  refine lv_iadd hx hb dL_law_239 ?_
  refine h_top (v := (nI (q + 3))) (nI_add q 3) ?_
  refine va_sld hx hb hX hbl hbA hS0 (vp_in_nI (by omega) (by omega)) dL_law_240 ?_
  refine h_top (v := y3) (by rw [nI_clamp (by omega)]; exact hy3) ?_
  refine lv_aload_n hx hb dL_law_241 rfl (lv_at hl 3 rfl) ?_
  refine lv_iload_n hx hb dL_law_242 rfl (lv_at hl 0 rfl) ?_
  refine lv_iconst (v := 4) hx hb dL_law_243 (by decide) ?_
  refine lv_iadd hx hb dL_law_244 ?_
  refine h_top (v := (nI (q + 4))) (nI_add q 4) ?_
  refine va_sld hx hb hX hbl hbA hS0 (vp_in_nI (by omega) (by omega)) dL_law_245 ?_
  refine h_top (v := y4) (by rw [nI_clamp (by omega)]; exact hy4) ?_
  refine lv_aload_n hx hb dL_law_246 rfl (lv_at hl 3 rfl) ?_
  refine lv_iload_n hx hb dL_law_247 rfl (lv_at hl 0 rfl) ?_
  refine lv_iconst (v := 5) hx hb dL_law_248 (by decide) ?_
  refine lv_iadd hx hb dL_law_249 ?_
  refine h_top (v := (nI (q + 5))) (nI_add q 5) ?_
  refine va_sld hx hb hX hbl hbA hS0 (vp_in_nI (by omega) (by omega)) dL_law_250 ?_
  refine h_top (v := y5) (by rw [nI_clamp (by omega)]; exact hy5) ?_
  have hT0 : hT G (w_Y (tC (fun v => v = nI k)) x) H0 := hI.2.1
  refine h_callVi (T := TX10) (rest := []) (As := [.int y1, .int y2, .int y3, .int y4, .int y5]) hx hb hml hown hts hK hT0 hZ (fun q hq => (w_Y_A q hq).1) hS0 (c_X10_feed l G (w_Y (tC (fun v => v = nI k)) x) (fun v => v = nI k) (x) (w_Y_w (t := tC (fun v => v = nI k)) (x := x)) y1 y2 y3 y4 y5) trivial wd_X10_feed wV_X10_feed wL_L_18 (on_w0 (w_Y_w (t := tC (fun v => v = nI k)) (x := x))) rfl rfl hl.1 rfl (Nat.le_of_ble_eq_true rfl) dL_law_251 ⟨Nat.le_of_ble_eq_true rfl, Nat.le_of_ble_eq_true rfl⟩ ⟨Nat.le_refl _, Nat.le_refl _⟩ (fun r1 H1 locs hp1 hT1 hS1 hk1 => ?_)
  replace hI := hI.C hT1 hk1
  refine lv_pop hx hb dL_law_254 rfl ?_
  refine lv_aload_n hx hb dL_law_255 rfl (lv_at hl 1 rfl) ?_
  refine lv_aload_n hx hb dL_law_256 rfl (lv_at hl 3 rfl) ?_
  refine lv_iload_n hx hb dL_law_257 rfl (lv_at hl 0 rfl) ?_
  refine lv_iconst (v := 1) hx hb dL_law_258 (by decide) ?_
  refine lv_iadd hx hb dL_law_259 ?_
  refine h_top (v := (nI (q + 1))) (nI_add q 1) ?_
  refine va_sld hx hb hX hbl hbA hS1 (vp_in_nI (by omega) (by omega)) dL_law_260 ?_
  refine h_top (v := y1) (by rw [nI_clamp (by omega)]; exact hy1) ?_
  refine lv_aload_n hx hb dL_law_261 rfl (lv_at hl 3 rfl) ?_
  refine lv_iload_n hx hb dL_law_262 rfl (lv_at hl 0 rfl) ?_
  refine lv_iconst (v := 2) hx hb dL_law_263 (by decide) ?_
  refine lv_iadd hx hb dL_law_264 ?_
  refine h_top (v := (nI (q + 2))) (nI_add q 2) ?_
  refine va_sld hx hb hX hbl hbA hS1 (vp_in_nI (by omega) (by omega)) dL_law_265 ?_
  refine h_top (v := y2) (by rw [nI_clamp (by omega)]; exact hy2) ?_
  refine lv_aload_n hx hb dL_law_266 rfl (lv_at hl 3 rfl) ?_
  refine lv_iload_n hx hb dL_law_267 rfl (lv_at hl 0 rfl) ?_
  refine lv_iconst (v := 3) hx hb dL_law_268 (by decide) ?_
  refine lv_iadd hx hb dL_law_269 ?_
  refine h_top (v := (nI (q + 3))) (nI_add q 3) ?_
  refine va_sld hx hb hX hbl hbA hS1 (vp_in_nI (by omega) (by omega)) dL_law_270 ?_
  refine h_top (v := y3) (by rw [nI_clamp (by omega)]; exact hy3) ?_
  refine lv_aload_n hx hb dL_law_271 rfl (lv_at hl 3 rfl) ?_
  refine lv_iload_n hx hb dL_law_272 rfl (lv_at hl 0 rfl) ?_
  refine lv_iconst (v := 4) hx hb dL_law_273 (by decide) ?_
  refine lv_iadd hx hb dL_law_274 ?_
  refine h_top (v := (nI (q + 4))) (nI_add q 4) ?_
  refine va_sld hx hb hX hbl hbA hS1 (vp_in_nI (by omega) (by omega)) dL_law_275 ?_
  refine h_top (v := y4) (by rw [nI_clamp (by omega)]; exact hy4) ?_
  refine lv_aload_n hx hb dL_law_276 rfl (lv_at hl 3 rfl) ?_
  refine lv_iload_n hx hb dL_law_277 rfl (lv_at hl 0 rfl) ?_
  refine lv_iconst (v := 5) hx hb dL_law_278 (by decide) ?_
  refine lv_iadd hx hb dL_law_279 ?_
  refine h_top (v := (nI (q + 5))) (nI_add q 5) ?_
  refine va_sld hx hb hX hbl hbA hS1 (vp_in_nI (by omega) (by omega)) dL_law_280 ?_
  refine h_top (v := y5) (by rw [nI_clamp (by omega)]; exact hy5) ?_
  have hT1 : hT G (m_Y (tM (fun v => v = nI k)) (x + 169)) H1 := hI.2.2.1
  refine h_callVi (T := TX11) (rest := []) (As := [.int y1, .int y2, .int y3, .int y4, .int y5]) hx hb hml hown hts hK hT1 hZ (fun q hq => Nat.le_trans (Nat.le_add_right x 169) (m_Y_A q hq)) hS1 (c_X11_feed l G (m_Y (tM (fun v => v = nI k)) (x + 169)) (fun v => v = nI k) (x + 169) (m_Y_m (t := tM (fun v => v = nI k)) (m := x + 169)) y1 y2 y3 y4 y5) hI.2.2.2.1 wd_X11_feed wV_X11_feed wL_L_22 ((m_Y_m (t := tM (fun v => v = nI k)) (m := x + 169)).o rfl) rfl rfl hl.1 rfl (Nat.le_of_ble_eq_true rfl) dL_law_281 ⟨Nat.le_of_ble_eq_true rfl, Nat.le_of_ble_eq_true rfl⟩ ⟨Nat.le_refl _, Nat.le_refl _⟩ (fun r2 H2 locs hp2 hT2 hS2 hk2 => ?_)
  obtain ⟨hp2, hB2⟩ := hp2
  replace hI := hI.M hT2 hB2.1 hB2.2 hk2
  refine lv_pop hx hb dL_law_284 rfl ?_
  refine lv_goto (tgt := 1273) hx hb dL_law_285 (by decide) ?_
  exact htail _ _ _ _ hI hS2 (lv_sub hl [0, 1, 2, 3] rfl)
set_option maxHeartbeats 4000000 in
set_option maxRecDepth 100000 in
theorem law_case_2 {p : Program} {l : Launch} {e : Env} {s : State} {m : MethodId} {below : List Frame} {meth : Method} {c : Code} {b x L q k : Nat} {xs : Nat → Int32} {G : hG} {H0 : Heap} {locs : List Loc} {ls : Array Slot} (hx : p.tables.exec = Jvm.exec) (hb : c.code = code) (hts : ∀ w ∈ wsL_law, w.before #[Value.ref b] s = true) (hown : s.vm.findClass RL = some m.cls) (hml : c.maxLocals = 4) (hK : h_K G s) (hZ : h_Z G (fun q => x ≤ q) s) (hX : va_X b L xs s s.heap) (hbl : b < s.heap.size) (hbA : ¬ x ≤ b) (htail : ∀ (k : Nat) (H : Heap) (locs : List Loc) (ls : Array Slot), lwI G x k H → va_S (fun q => x ≤ q) s.heap H locs → lv_has ls 4 [(3, .int (nI q)), (2, .ref (x + 169)), (1, .ref (x)), (0, .ref b)] → W p l e room_1 s m #[Value.ref b] below meth c H locs 600000 7302250 (lw_Z below #[Value.ref b] s) (F0 m 1273 ls [])) (hq : q + 6 ≤ L) (hL : L ≤ 3072) (hI : lwI G x k H0) (hS0 : va_S (fun q => x ≤ q) s.heap H0 locs) (hl : lv_has ls 4 [(3, .int (nI q)), (2, .ref (x + 169)), (1, .ref (x)), (0, .ref b)]) : W p l e room_1 s m #[Value.ref b] below meth c H0 locs 600000 7302250 (lw_Z below #[Value.ref b] s) (F0 m 288 ls []) := by
  obtain ⟨y1, hy1⟩ : ∃ y, xs (q + 1) = y := ⟨_, rfl⟩
  obtain ⟨y2, hy2⟩ : ∃ y, xs (q + 2) = y := ⟨_, rfl⟩
  obtain ⟨y3, hy3⟩ : ∃ y, xs (q + 3) = y := ⟨_, rfl⟩
  obtain ⟨y4, hy4⟩ : ∃ y, xs (q + 4) = y := ⟨_, rfl⟩
  obtain ⟨y5, hy5⟩ : ∃ y, xs (q + 5) = y := ⟨_, rfl⟩
  refine lv_aload_n hx hb dL_law_288 rfl (lv_at hl 2 rfl) ?_
  refine lv_aload_n hx hb dL_law_289 rfl (lv_at hl 3 rfl) ?_
  refine lv_iload_n hx hb dL_law_290 rfl (lv_at hl 0 rfl) ?_
  refine lv_iconst (v := 1) hx hb dL_law_291 (by decide) ?_
  refine lv_iadd hx hb dL_law_292 ?_
  refine h_top (v := (nI (q + 1))) (nI_add q 1) ?_
  refine va_sld hx hb hX hbl hbA hS0 (vp_in_nI (by omega) (by omega)) dL_law_293 ?_
  refine h_top (v := y1) (by rw [nI_clamp (by omega)]; exact hy1) ?_
  have hT0 : hT G (w_Y (tC (fun v => v = nI k)) x) H0 := hI.2.1
  refine h_callVi (T := TX10) (rest := []) (As := [.int y1]) hx hb hml hown hts hK hT0 hZ (fun q hq => (w_Y_A q hq).1) hS0 (c_X10_load l G (w_Y (tC (fun v => v = nI k)) x) (fun v => v = nI k) (x) (w_Y_w (t := tC (fun v => v = nI k)) (x := x)) y1) trivial wd_X10_load wV_X10_load wL_L_23 (on_w0 (w_Y_w (t := tC (fun v => v = nI k)) (x := x))) rfl rfl hl.1 rfl (Nat.le_of_ble_eq_true rfl) dL_law_294 ⟨Nat.le_of_ble_eq_true rfl, Nat.le_of_ble_eq_true rfl⟩ ⟨Nat.le_refl _, Nat.le_refl _⟩ (fun r1 H1 locs hp1 hT1 hS1 hk1 => ?_)
  replace hI := hI.C hT1 hk1
  refine lv_pop hx hb dL_law_297 rfl ?_
  refine lv_aload_n hx hb dL_law_298 rfl (lv_at hl 1 rfl) ?_
  refine lv_aload_n hx hb dL_law_299 rfl (lv_at hl 3 rfl) ?_
  refine lv_iload_n hx hb dL_law_300 rfl (lv_at hl 0 rfl) ?_
  refine lv_iconst (v := 1) hx hb dL_law_301 (by decide) ?_
  refine lv_iadd hx hb dL_law_302 ?_
  refine h_top (v := (nI (q + 1))) (nI_add q 1) ?_
  refine va_sld hx hb hX hbl hbA hS1 (vp_in_nI (by omega) (by omega)) dL_law_303 ?_
  refine h_top (v := y1) (by rw [nI_clamp (by omega)]; exact hy1) ?_
  have hT1 : hT G (m_Y (tM (fun v => v = nI k)) (x + 169)) H1 := hI.2.2.1
  refine h_callVi (T := TX11) (rest := []) (As := [.int y1]) hx hb hml hown hts hK hT1 hZ (fun q hq => Nat.le_trans (Nat.le_add_right x 169) (m_Y_A q hq)) hS1 (c_X11_load l G (m_Y (tM (fun v => v = nI k)) (x + 169)) (fun v => v = nI k) (x + 169) (m_Y_m (t := tM (fun v => v = nI k)) (m := x + 169)) y1) hI.2.2.2.1 wd_X11_load wV_X11_load wL_L_27 ((m_Y_m (t := tM (fun v => v = nI k)) (m := x + 169)).o rfl) rfl rfl hl.1 rfl (Nat.le_of_ble_eq_true rfl) dL_law_304 ⟨Nat.le_of_ble_eq_true rfl, Nat.le_of_ble_eq_true rfl⟩ ⟨Nat.le_refl _, Nat.le_refl _⟩ (fun r2 H2 locs hp2 hT2 hS2 hk2 => ?_)
  obtain ⟨hp2, hB2⟩ := hp2
  replace hI := hI.M hT2 hB2.1 hB2.2 hk2
  refine lv_pop hx hb dL_law_307 rfl ?_
  refine lv_goto (tgt := 1273) hx hb dL_law_308 (by decide) ?_
  exact htail _ _ _ _ hI hS2 (lv_sub hl [0, 1, 2, 3] rfl)
set_option maxHeartbeats 4000000 in
set_option maxRecDepth 100000 in
theorem law_case_3 {p : Program} {l : Launch} {e : Env} {s : State} {m : MethodId} {below : List Frame} {meth : Method} {c : Code} {b x L q k : Nat} {xs : Nat → Int32} {G : hG} {H0 : Heap} {locs : List Loc} {ls : Array Slot} (hx : p.tables.exec = Jvm.exec) (hb : c.code = code) (hts : ∀ w ∈ wsL_law, w.before #[Value.ref b] s = true) (hown : s.vm.findClass RL = some m.cls) (hml : c.maxLocals = 4) (hK : h_K G s) (hZ : h_Z G (fun q => x ≤ q) s) (hX : va_X b L xs s s.heap) (hbl : b < s.heap.size) (hbA : ¬ x ≤ b) (htail : ∀ (k : Nat) (H : Heap) (locs : List Loc) (ls : Array Slot), lwI G x k H → va_S (fun q => x ≤ q) s.heap H locs → lv_has ls 4 [(3, .int (nI q)), (2, .ref (x + 169)), (1, .ref (x)), (0, .ref b)] → W p l e room_1 s m #[Value.ref b] below meth c H locs 600000 7302250 (lw_Z below #[Value.ref b] s) (F0 m 1273 ls [])) (hq : q + 6 ≤ L) (hL : L ≤ 3072) (hI : lwI G x k H0) (hS0 : va_S (fun q => x ≤ q) s.heap H0 locs) (hl : lv_has ls 4 [(3, .int (nI q)), (2, .ref (x + 169)), (1, .ref (x)), (0, .ref b)]) : W p l e room_1 s m #[Value.ref b] below meth c H0 locs 600000 7302250 (lw_Z below #[Value.ref b] s) (F0 m 311 ls []) := by
  obtain ⟨y1, hy1⟩ : ∃ y, xs (q + 1) = y := ⟨_, rfl⟩
  obtain ⟨y2, hy2⟩ : ∃ y, xs (q + 2) = y := ⟨_, rfl⟩
  obtain ⟨y3, hy3⟩ : ∃ y, xs (q + 3) = y := ⟨_, rfl⟩
  obtain ⟨y4, hy4⟩ : ∃ y, xs (q + 4) = y := ⟨_, rfl⟩
  obtain ⟨y5, hy5⟩ : ∃ y, xs (q + 5) = y := ⟨_, rfl⟩
  refine lv_aload_n hx hb dL_law_311 rfl (lv_at hl 2 rfl) ?_
  refine lv_aload_n hx hb dL_law_312 rfl (lv_at hl 3 rfl) ?_
  refine lv_iload_n hx hb dL_law_313 rfl (lv_at hl 0 rfl) ?_
  refine lv_iconst (v := 1) hx hb dL_law_314 (by decide) ?_
  refine lv_iadd hx hb dL_law_315 ?_
  refine h_top (v := (nI (q + 1))) (nI_add q 1) ?_
  refine va_sld hx hb hX hbl hbA hS0 (vp_in_nI (by omega) (by omega)) dL_law_316 ?_
  refine h_top (v := y1) (by rw [nI_clamp (by omega)]; exact hy1) ?_
  have hT0 : hT G (w_Y (tC (fun v => v = nI k)) x) H0 := hI.2.1
  refine h_callVi (T := TX10) (rest := []) (As := [.int y1]) hx hb hml hown hts hK hT0 hZ (fun q hq => (w_Y_A q hq).1) hS0 (c_X10_fault l G (w_Y (tC (fun v => v = nI k)) x) (fun v => v = nI k) (x) (w_Y_w (t := tC (fun v => v = nI k)) (x := x)) y1) trivial wd_X10_fault wV_X10_fault wL_L_28 (on_w0 (w_Y_w (t := tC (fun v => v = nI k)) (x := x))) rfl rfl hl.1 rfl (Nat.le_of_ble_eq_true rfl) dL_law_317 ⟨Nat.le_of_ble_eq_true rfl, Nat.le_of_ble_eq_true rfl⟩ ⟨Nat.le_refl _, Nat.le_refl _⟩ (fun r1 H1 locs hp1 hT1 hS1 hk1 => ?_)
  replace hI := hI.C hT1 hk1
  refine lv_pop hx hb dL_law_320 rfl ?_
  refine lv_aload_n hx hb dL_law_321 rfl (lv_at hl 1 rfl) ?_
  refine lv_aload_n hx hb dL_law_322 rfl (lv_at hl 3 rfl) ?_
  refine lv_iload_n hx hb dL_law_323 rfl (lv_at hl 0 rfl) ?_
  refine lv_iconst (v := 1) hx hb dL_law_324 (by decide) ?_
  refine lv_iadd hx hb dL_law_325 ?_
  refine h_top (v := (nI (q + 1))) (nI_add q 1) ?_
  refine va_sld hx hb hX hbl hbA hS1 (vp_in_nI (by omega) (by omega)) dL_law_326 ?_
  refine h_top (v := y1) (by rw [nI_clamp (by omega)]; exact hy1) ?_
  have hT1 : hT G (m_Y (tM (fun v => v = nI k)) (x + 169)) H1 := hI.2.2.1
  refine h_callVi (T := TX11) (rest := []) (As := [.int y1]) hx hb hml hown hts hK hT1 hZ (fun q hq => Nat.le_trans (Nat.le_add_right x 169) (m_Y_A q hq)) hS1 (c_X11_fault l G (m_Y (tM (fun v => v = nI k)) (x + 169)) (fun v => v = nI k) (x + 169) (m_Y_m (t := tM (fun v => v = nI k)) (m := x + 169)) y1) hI.2.2.2.1 wd_X11_fault wV_X11_fault wL_L_31 ((m_Y_m (t := tM (fun v => v = nI k)) (m := x + 169)).o rfl) rfl rfl hl.1 rfl (Nat.le_of_ble_eq_true rfl) dL_law_327 ⟨Nat.le_of_ble_eq_true rfl, Nat.le_of_ble_eq_true rfl⟩ ⟨Nat.le_refl _, Nat.le_refl _⟩ (fun r2 H2 locs hp2 hT2 hS2 hk2 => ?_)
  obtain ⟨hp2, hB2⟩ := hp2
  replace hI := hI.M hT2 hB2.1 hB2.2 hk2
  refine lv_pop hx hb dL_law_330 rfl ?_
  refine lv_goto (tgt := 1273) hx hb dL_law_331 (by decide) ?_
  exact htail _ _ _ _ hI hS2 (lv_sub hl [0, 1, 2, 3] rfl)
set_option maxHeartbeats 4000000 in
set_option maxRecDepth 100000 in
theorem law_case_4 {p : Program} {l : Launch} {e : Env} {s : State} {m : MethodId} {below : List Frame} {meth : Method} {c : Code} {b x L q k : Nat} {xs : Nat → Int32} {G : hG} {H0 : Heap} {locs : List Loc} {ls : Array Slot} (hx : p.tables.exec = Jvm.exec) (hb : c.code = code) (hts : ∀ w ∈ wsL_law, w.before #[Value.ref b] s = true) (hown : s.vm.findClass RL = some m.cls) (hml : c.maxLocals = 4) (hK : h_K G s) (hZ : h_Z G (fun q => x ≤ q) s) (hX : va_X b L xs s s.heap) (hbl : b < s.heap.size) (hbA : ¬ x ≤ b) (htail : ∀ (k : Nat) (H : Heap) (locs : List Loc) (ls : Array Slot), lwI G x k H → va_S (fun q => x ≤ q) s.heap H locs → lv_has ls 4 [(3, .int (nI q)), (2, .ref (x + 169)), (1, .ref (x)), (0, .ref b)] → W p l e room_1 s m #[Value.ref b] below meth c H locs 600000 7302250 (lw_Z below #[Value.ref b] s) (F0 m 1273 ls [])) (hq : q + 6 ≤ L) (hL : L ≤ 3072) (hI : lwI G x k H0) (hS0 : va_S (fun q => x ≤ q) s.heap H0 locs) (hl : lv_has ls 4 [(3, .int (nI q)), (2, .ref (x + 169)), (1, .ref (x)), (0, .ref b)]) : W p l e room_1 s m #[Value.ref b] below meth c H0 locs 600000 7302250 (lw_Z below #[Value.ref b] s) (F0 m 334 ls []) := by
  obtain ⟨y1, hy1⟩ : ∃ y, xs (q + 1) = y := ⟨_, rfl⟩
  obtain ⟨y2, hy2⟩ : ∃ y, xs (q + 2) = y := ⟨_, rfl⟩
  obtain ⟨y3, hy3⟩ : ∃ y, xs (q + 3) = y := ⟨_, rfl⟩
  obtain ⟨y4, hy4⟩ : ∃ y, xs (q + 4) = y := ⟨_, rfl⟩
  obtain ⟨y5, hy5⟩ : ∃ y, xs (q + 5) = y := ⟨_, rfl⟩
  refine lv_aload_n hx hb dL_law_334 rfl (lv_at hl 2 rfl) ?_
  refine lv_aload_n hx hb dL_law_335 rfl (lv_at hl 3 rfl) ?_
  refine lv_iload_n hx hb dL_law_336 rfl (lv_at hl 0 rfl) ?_
  refine lv_iconst (v := 1) hx hb dL_law_337 (by decide) ?_
  refine lv_iadd hx hb dL_law_338 ?_
  refine h_top (v := (nI (q + 1))) (nI_add q 1) ?_
  refine va_sld hx hb hX hbl hbA hS0 (vp_in_nI (by omega) (by omega)) dL_law_339 ?_
  refine h_top (v := y1) (by rw [nI_clamp (by omega)]; exact hy1) ?_
  have hT0 : hT G (w_Y (tC (fun v => v = nI k)) x) H0 := hI.2.1
  refine h_callVi (T := TX10) (rest := []) (As := [.int y1]) hx hb hml hown hts hK hT0 hZ (fun q hq => (w_Y_A q hq).1) hS0 (c_X10_many l G (w_Y (tC (fun v => v = nI k)) x) (fun v => v = nI k) (x) (w_Y_w (t := tC (fun v => v = nI k)) (x := x)) y1) trivial wd_X10_many wV_X10_many wL_L_32 (on_w0 (w_Y_w (t := tC (fun v => v = nI k)) (x := x))) rfl rfl hl.1 rfl (Nat.le_of_ble_eq_true rfl) dL_law_340 ⟨Nat.le_of_ble_eq_true rfl, Nat.le_of_ble_eq_true rfl⟩ ⟨Nat.le_refl _, Nat.le_refl _⟩ (fun r1 H1 locs hp1 hT1 hS1 hk1 => ?_)
  replace hI := hI.C hT1 hk1
  refine lv_pop hx hb dL_law_343 rfl ?_
  refine lv_aload_n hx hb dL_law_344 rfl (lv_at hl 1 rfl) ?_
  refine lv_aload_n hx hb dL_law_345 rfl (lv_at hl 3 rfl) ?_
  refine lv_iload_n hx hb dL_law_346 rfl (lv_at hl 0 rfl) ?_
  refine lv_iconst (v := 1) hx hb dL_law_347 (by decide) ?_
  refine lv_iadd hx hb dL_law_348 ?_
  refine h_top (v := (nI (q + 1))) (nI_add q 1) ?_
  refine va_sld hx hb hX hbl hbA hS1 (vp_in_nI (by omega) (by omega)) dL_law_349 ?_
  refine h_top (v := y1) (by rw [nI_clamp (by omega)]; exact hy1) ?_
  have hT1 : hT G (m_Y (tM (fun v => v = nI k)) (x + 169)) H1 := hI.2.2.1
  refine h_callVi (T := TX11) (rest := []) (As := [.int y1]) hx hb hml hown hts hK hT1 hZ (fun q hq => Nat.le_trans (Nat.le_add_right x 169) (m_Y_A q hq)) hS1 (c_X11_many l G (m_Y (tM (fun v => v = nI k)) (x + 169)) (fun v => v = nI k) (x + 169) (m_Y_m (t := tM (fun v => v = nI k)) (m := x + 169)) y1) hI.2.2.2.1 wd_X11_many wV_X11_many wL_L_35 ((m_Y_m (t := tM (fun v => v = nI k)) (m := x + 169)).o rfl) rfl rfl hl.1 rfl (Nat.le_of_ble_eq_true rfl) dL_law_350 ⟨Nat.le_of_ble_eq_true rfl, Nat.le_of_ble_eq_true rfl⟩ ⟨Nat.le_refl _, Nat.le_refl _⟩ (fun r2 H2 locs hp2 hT2 hS2 hk2 => ?_)
  obtain ⟨hp2, hB2⟩ := hp2
  replace hI := hI.M hT2 hB2.1 hB2.2 hk2
  refine lv_pop hx hb dL_law_353 rfl ?_
  refine lv_goto (tgt := 1273) hx hb dL_law_354 (by decide) ?_
  exact htail _ _ _ _ hI hS2 (lv_sub hl [0, 1, 2, 3] rfl)
set_option maxHeartbeats 4000000 in
set_option maxRecDepth 100000 in
theorem law_case_5 {p : Program} {l : Launch} {e : Env} {s : State} {m : MethodId} {below : List Frame} {meth : Method} {c : Code} {b x L q k : Nat} {xs : Nat → Int32} {G : hG} {H0 : Heap} {locs : List Loc} {ls : Array Slot} (hx : p.tables.exec = Jvm.exec) (hb : c.code = code) (hts : ∀ w ∈ wsL_law, w.before #[Value.ref b] s = true) (hown : s.vm.findClass RL = some m.cls) (hml : c.maxLocals = 4) (hK : h_K G s) (hZ : h_Z G (fun q => x ≤ q) s) (hX : va_X b L xs s s.heap) (hbl : b < s.heap.size) (hbA : ¬ x ≤ b) (htail : ∀ (k : Nat) (H : Heap) (locs : List Loc) (ls : Array Slot), lwI G x k H → va_S (fun q => x ≤ q) s.heap H locs → lv_has ls 4 [(3, .int (nI q)), (2, .ref (x + 169)), (1, .ref (x)), (0, .ref b)] → W p l e room_1 s m #[Value.ref b] below meth c H locs 600000 7302250 (lw_Z below #[Value.ref b] s) (F0 m 1273 ls [])) (hq : q + 6 ≤ L) (hL : L ≤ 3072) (hI : lwI G x k H0) (hS0 : va_S (fun q => x ≤ q) s.heap H0 locs) (hl : lv_has ls 4 [(3, .int (nI q)), (2, .ref (x + 169)), (1, .ref (x)), (0, .ref b)]) : W p l e room_1 s m #[Value.ref b] below meth c H0 locs 600000 7302250 (lw_Z below #[Value.ref b] s) (F0 m 357 ls []) := by
  obtain ⟨y1, hy1⟩ : ∃ y, xs (q + 1) = y := ⟨_, rfl⟩
  obtain ⟨y2, hy2⟩ : ∃ y, xs (q + 2) = y := ⟨_, rfl⟩
  obtain ⟨y3, hy3⟩ : ∃ y, xs (q + 3) = y := ⟨_, rfl⟩
  obtain ⟨y4, hy4⟩ : ∃ y, xs (q + 4) = y := ⟨_, rfl⟩
  obtain ⟨y5, hy5⟩ : ∃ y, xs (q + 5) = y := ⟨_, rfl⟩
  refine lv_aload_n hx hb dL_law_357 rfl (lv_at hl 2 rfl) ?_
  refine lv_aload_n hx hb dL_law_358 rfl (lv_at hl 3 rfl) ?_
  refine lv_iload_n hx hb dL_law_359 rfl (lv_at hl 0 rfl) ?_
  refine lv_iconst (v := 1) hx hb dL_law_360 (by decide) ?_
  refine lv_iadd hx hb dL_law_361 ?_
  refine h_top (v := (nI (q + 1))) (nI_add q 1) ?_
  refine va_sld hx hb hX hbl hbA hS0 (vp_in_nI (by omega) (by omega)) dL_law_362 ?_
  refine h_top (v := y1) (by rw [nI_clamp (by omega)]; exact hy1) ?_
  refine lv_aload_n hx hb dL_law_363 rfl (lv_at hl 3 rfl) ?_
  refine lv_iload_n hx hb dL_law_364 rfl (lv_at hl 0 rfl) ?_
  refine lv_iconst (v := 2) hx hb dL_law_365 (by decide) ?_
  refine lv_iadd hx hb dL_law_366 ?_
  refine h_top (v := (nI (q + 2))) (nI_add q 2) ?_
  refine va_sld hx hb hX hbl hbA hS0 (vp_in_nI (by omega) (by omega)) dL_law_367 ?_
  refine h_top (v := y2) (by rw [nI_clamp (by omega)]; exact hy2) ?_
  have hT0 : hT G (w_Y (tC (fun v => v = nI k)) x) H0 := hI.2.1
  refine h_callVi (T := TX10) (rest := []) (As := [.int y1, .int y2]) hx hb hml hown hts hK hT0 hZ (fun q hq => (w_Y_A q hq).1) hS0 (c_X10_station l G (w_Y (tC (fun v => v = nI k)) x) (fun v => v = nI k) (x) (w_Y_w (t := tC (fun v => v = nI k)) (x := x)) y1 y2) trivial wd_X10_station wV_X10_station wL_L_36 (on_w0 (w_Y_w (t := tC (fun v => v = nI k)) (x := x))) rfl rfl hl.1 rfl (Nat.le_of_ble_eq_true rfl) dL_law_368 ⟨Nat.le_of_ble_eq_true rfl, Nat.le_of_ble_eq_true rfl⟩ ⟨Nat.le_refl _, Nat.le_refl _⟩ (fun r1 H1 locs hp1 hT1 hS1 hk1 => ?_)
  replace hI := hI.C hT1 hk1
  refine lv_pop hx hb dL_law_371 rfl ?_
  refine lv_aload_n hx hb dL_law_372 rfl (lv_at hl 1 rfl) ?_
  refine lv_aload_n hx hb dL_law_373 rfl (lv_at hl 3 rfl) ?_
  refine lv_iload_n hx hb dL_law_374 rfl (lv_at hl 0 rfl) ?_
  refine lv_iconst (v := 1) hx hb dL_law_375 (by decide) ?_
  refine lv_iadd hx hb dL_law_376 ?_
  refine h_top (v := (nI (q + 1))) (nI_add q 1) ?_
  refine va_sld hx hb hX hbl hbA hS1 (vp_in_nI (by omega) (by omega)) dL_law_377 ?_
  refine h_top (v := y1) (by rw [nI_clamp (by omega)]; exact hy1) ?_
  refine lv_aload_n hx hb dL_law_378 rfl (lv_at hl 3 rfl) ?_
  refine lv_iload_n hx hb dL_law_379 rfl (lv_at hl 0 rfl) ?_
  refine lv_iconst (v := 2) hx hb dL_law_380 (by decide) ?_
  refine lv_iadd hx hb dL_law_381 ?_
  refine h_top (v := (nI (q + 2))) (nI_add q 2) ?_
  refine va_sld hx hb hX hbl hbA hS1 (vp_in_nI (by omega) (by omega)) dL_law_382 ?_
  refine h_top (v := y2) (by rw [nI_clamp (by omega)]; exact hy2) ?_
  have hT1 : hT G (m_Y (tM (fun v => v = nI k)) (x + 169)) H1 := hI.2.2.1
  refine h_callVi (T := TX11) (rest := []) (As := [.int y1, .int y2]) hx hb hml hown hts hK hT1 hZ (fun q hq => Nat.le_trans (Nat.le_add_right x 169) (m_Y_A q hq)) hS1 (c_X11_station l G (m_Y (tM (fun v => v = nI k)) (x + 169)) (fun v => v = nI k) (x + 169) (m_Y_m (t := tM (fun v => v = nI k)) (m := x + 169)) y1 y2) hI.2.2.2.1 wd_X11_station wV_X11_station wL_L_40 ((m_Y_m (t := tM (fun v => v = nI k)) (m := x + 169)).o rfl) rfl rfl hl.1 rfl (Nat.le_of_ble_eq_true rfl) dL_law_383 ⟨Nat.le_of_ble_eq_true rfl, Nat.le_of_ble_eq_true rfl⟩ ⟨Nat.le_refl _, Nat.le_refl _⟩ (fun r2 H2 locs hp2 hT2 hS2 hk2 => ?_)
  obtain ⟨hp2, hB2⟩ := hp2
  replace hI := hI.M hT2 hB2.1 hB2.2 hk2
  refine lv_pop hx hb dL_law_386 rfl ?_
  refine lv_goto (tgt := 1273) hx hb dL_law_387 (by decide) ?_
  exact htail _ _ _ _ hI hS2 (lv_sub hl [0, 1, 2, 3] rfl)
set_option maxHeartbeats 4000000 in
set_option maxRecDepth 100000 in
theorem law_case_6 {p : Program} {l : Launch} {e : Env} {s : State} {m : MethodId} {below : List Frame} {meth : Method} {c : Code} {b x L q k : Nat} {xs : Nat → Int32} {G : hG} {H0 : Heap} {locs : List Loc} {ls : Array Slot} (hx : p.tables.exec = Jvm.exec) (hb : c.code = code) (hts : ∀ w ∈ wsL_law, w.before #[Value.ref b] s = true) (hown : s.vm.findClass RL = some m.cls) (hml : c.maxLocals = 4) (hK : h_K G s) (hZ : h_Z G (fun q => x ≤ q) s) (hX : va_X b L xs s s.heap) (hbl : b < s.heap.size) (hbA : ¬ x ≤ b) (htail : ∀ (k : Nat) (H : Heap) (locs : List Loc) (ls : Array Slot), lwI G x k H → va_S (fun q => x ≤ q) s.heap H locs → lv_has ls 4 [(3, .int (nI q)), (2, .ref (x + 169)), (1, .ref (x)), (0, .ref b)] → W p l e room_1 s m #[Value.ref b] below meth c H locs 600000 7302250 (lw_Z below #[Value.ref b] s) (F0 m 1273 ls [])) (hq : q + 6 ≤ L) (hL : L ≤ 3072) (hI : lwI G x k H0) (hS0 : va_S (fun q => x ≤ q) s.heap H0 locs) (hl : lv_has ls 4 [(3, .int (nI q)), (2, .ref (x + 169)), (1, .ref (x)), (0, .ref b)]) : W p l e room_1 s m #[Value.ref b] below meth c H0 locs 600000 7302250 (lw_Z below #[Value.ref b] s) (F0 m 390 ls []) := by
  obtain ⟨y1, hy1⟩ : ∃ y, xs (q + 1) = y := ⟨_, rfl⟩
  obtain ⟨y2, hy2⟩ : ∃ y, xs (q + 2) = y := ⟨_, rfl⟩
  obtain ⟨y3, hy3⟩ : ∃ y, xs (q + 3) = y := ⟨_, rfl⟩
  obtain ⟨y4, hy4⟩ : ∃ y, xs (q + 4) = y := ⟨_, rfl⟩
  obtain ⟨y5, hy5⟩ : ∃ y, xs (q + 5) = y := ⟨_, rfl⟩
  refine lv_aload_n hx hb dL_law_390 rfl (lv_at hl 2 rfl) ?_
  refine lv_aload_n hx hb dL_law_391 rfl (lv_at hl 3 rfl) ?_
  refine lv_iload_n hx hb dL_law_392 rfl (lv_at hl 0 rfl) ?_
  refine lv_iconst (v := 1) hx hb dL_law_393 (by decide) ?_
  refine lv_iadd hx hb dL_law_394 ?_
  refine h_top (v := (nI (q + 1))) (nI_add q 1) ?_
  refine va_sld hx hb hX hbl hbA hS0 (vp_in_nI (by omega) (by omega)) dL_law_395 ?_
  refine h_top (v := y1) (by rw [nI_clamp (by omega)]; exact hy1) ?_
  refine lv_aload_n hx hb dL_law_396 rfl (lv_at hl 3 rfl) ?_
  refine lv_iload_n hx hb dL_law_397 rfl (lv_at hl 0 rfl) ?_
  refine lv_iconst (v := 2) hx hb dL_law_398 (by decide) ?_
  refine lv_iadd hx hb dL_law_399 ?_
  refine h_top (v := (nI (q + 2))) (nI_add q 2) ?_
  refine va_sld hx hb hX hbl hbA hS0 (vp_in_nI (by omega) (by omega)) dL_law_400 ?_
  refine h_top (v := y2) (by rw [nI_clamp (by omega)]; exact hy2) ?_
  refine lv_aload_n hx hb dL_law_401 rfl (lv_at hl 3 rfl) ?_
  refine lv_iload_n hx hb dL_law_402 rfl (lv_at hl 0 rfl) ?_
  refine lv_iconst (v := 3) hx hb dL_law_403 (by decide) ?_
  refine lv_iadd hx hb dL_law_404 ?_
  refine h_top (v := (nI (q + 3))) (nI_add q 3) ?_
  refine va_sld hx hb hX hbl hbA hS0 (vp_in_nI (by omega) (by omega)) dL_law_405 ?_
  refine h_top (v := y3) (by rw [nI_clamp (by omega)]; exact hy3) ?_
  have hT0 : hT G (w_Y (tC (fun v => v = nI k)) x) H0 := hI.2.1
  refine h_callVi (T := TX10) (rest := []) (As := [.int y1, .int y2, .int y3]) hx hb hml hown hts hK hT0 hZ (fun q hq => (w_Y_A q hq).1) hS0 (c_X10_waits l G (w_Y (tC (fun v => v = nI k)) x) (fun v => v = nI k) (x) (w_Y_w (t := tC (fun v => v = nI k)) (x := x)) y1 y2 y3) trivial wd_X10_waits wV_X10_waits wL_L_41 (on_w0 (w_Y_w (t := tC (fun v => v = nI k)) (x := x))) rfl rfl hl.1 rfl (Nat.le_of_ble_eq_true rfl) dL_law_406 ⟨Nat.le_of_ble_eq_true rfl, Nat.le_of_ble_eq_true rfl⟩ ⟨Nat.le_refl _, Nat.le_refl _⟩ (fun r1 H1 locs hp1 hT1 hS1 hk1 => ?_)
  replace hI := hI.C hT1 hk1
  refine lv_pop hx hb dL_law_409 rfl ?_
  refine lv_aload_n hx hb dL_law_410 rfl (lv_at hl 1 rfl) ?_
  refine lv_aload_n hx hb dL_law_411 rfl (lv_at hl 3 rfl) ?_
  refine lv_iload_n hx hb dL_law_412 rfl (lv_at hl 0 rfl) ?_
  refine lv_iconst (v := 1) hx hb dL_law_413 (by decide) ?_
  refine lv_iadd hx hb dL_law_414 ?_
  refine h_top (v := (nI (q + 1))) (nI_add q 1) ?_
  refine va_sld hx hb hX hbl hbA hS1 (vp_in_nI (by omega) (by omega)) dL_law_415 ?_
  refine h_top (v := y1) (by rw [nI_clamp (by omega)]; exact hy1) ?_
  refine lv_aload_n hx hb dL_law_416 rfl (lv_at hl 3 rfl) ?_
  refine lv_iload_n hx hb dL_law_417 rfl (lv_at hl 0 rfl) ?_
  refine lv_iconst (v := 2) hx hb dL_law_418 (by decide) ?_
  refine lv_iadd hx hb dL_law_419 ?_
  refine h_top (v := (nI (q + 2))) (nI_add q 2) ?_
  refine va_sld hx hb hX hbl hbA hS1 (vp_in_nI (by omega) (by omega)) dL_law_420 ?_
  refine h_top (v := y2) (by rw [nI_clamp (by omega)]; exact hy2) ?_
  refine lv_aload_n hx hb dL_law_421 rfl (lv_at hl 3 rfl) ?_
  refine lv_iload_n hx hb dL_law_422 rfl (lv_at hl 0 rfl) ?_
  refine lv_iconst (v := 3) hx hb dL_law_423 (by decide) ?_
  refine lv_iadd hx hb dL_law_424 ?_
  refine h_top (v := (nI (q + 3))) (nI_add q 3) ?_
  refine va_sld hx hb hX hbl hbA hS1 (vp_in_nI (by omega) (by omega)) dL_law_425 ?_
  refine h_top (v := y3) (by rw [nI_clamp (by omega)]; exact hy3) ?_
  have hT1 : hT G (m_Y (tM (fun v => v = nI k)) (x + 169)) H1 := hI.2.2.1
  refine h_callVi (T := TX11) (rest := []) (As := [.int y1, .int y2, .int y3]) hx hb hml hown hts hK hT1 hZ (fun q hq => Nat.le_trans (Nat.le_add_right x 169) (m_Y_A q hq)) hS1 (c_X11_waits l G (m_Y (tM (fun v => v = nI k)) (x + 169)) (fun v => v = nI k) (x + 169) (m_Y_m (t := tM (fun v => v = nI k)) (m := x + 169)) y1 y2 y3) hI.2.2.2.1 wd_X11_waits wV_X11_waits wL_L_45 ((m_Y_m (t := tM (fun v => v = nI k)) (m := x + 169)).o rfl) rfl rfl hl.1 rfl (Nat.le_of_ble_eq_true rfl) dL_law_426 ⟨Nat.le_of_ble_eq_true rfl, Nat.le_of_ble_eq_true rfl⟩ ⟨Nat.le_refl _, Nat.le_refl _⟩ (fun r2 H2 locs hp2 hT2 hS2 hk2 => ?_)
  obtain ⟨hp2, hB2⟩ := hp2
  replace hI := hI.M hT2 hB2.1 hB2.2 hk2
  refine lv_pop hx hb dL_law_429 rfl ?_
  refine lv_goto (tgt := 1273) hx hb dL_law_430 (by decide) ?_
  exact htail _ _ _ _ hI hS2 (lv_sub hl [0, 1, 2, 3] rfl)
set_option maxHeartbeats 4000000 in
set_option maxRecDepth 100000 in
theorem law_case_7 {p : Program} {l : Launch} {e : Env} {s : State} {m : MethodId} {below : List Frame} {meth : Method} {c : Code} {b x L q k : Nat} {xs : Nat → Int32} {G : hG} {H0 : Heap} {locs : List Loc} {ls : Array Slot} (hx : p.tables.exec = Jvm.exec) (hb : c.code = code) (hts : ∀ w ∈ wsL_law, w.before #[Value.ref b] s = true) (hown : s.vm.findClass RL = some m.cls) (hml : c.maxLocals = 4) (hK : h_K G s) (hZ : h_Z G (fun q => x ≤ q) s) (hX : va_X b L xs s s.heap) (hbl : b < s.heap.size) (hbA : ¬ x ≤ b) (htail : ∀ (k : Nat) (H : Heap) (locs : List Loc) (ls : Array Slot), lwI G x k H → va_S (fun q => x ≤ q) s.heap H locs → lv_has ls 4 [(3, .int (nI q)), (2, .ref (x + 169)), (1, .ref (x)), (0, .ref b)] → W p l e room_1 s m #[Value.ref b] below meth c H locs 600000 7302250 (lw_Z below #[Value.ref b] s) (F0 m 1273 ls [])) (hq : q + 6 ≤ L) (hL : L ≤ 3072) (hI : lwI G x k H0) (hS0 : va_S (fun q => x ≤ q) s.heap H0 locs) (hl : lv_has ls 4 [(3, .int (nI q)), (2, .ref (x + 169)), (1, .ref (x)), (0, .ref b)]) : W p l e room_1 s m #[Value.ref b] below meth c H0 locs 600000 7302250 (lw_Z below #[Value.ref b] s) (F0 m 433 ls []) := by
  obtain ⟨y1, hy1⟩ : ∃ y, xs (q + 1) = y := ⟨_, rfl⟩
  obtain ⟨y2, hy2⟩ : ∃ y, xs (q + 2) = y := ⟨_, rfl⟩
  obtain ⟨y3, hy3⟩ : ∃ y, xs (q + 3) = y := ⟨_, rfl⟩
  obtain ⟨y4, hy4⟩ : ∃ y, xs (q + 4) = y := ⟨_, rfl⟩
  obtain ⟨y5, hy5⟩ : ∃ y, xs (q + 5) = y := ⟨_, rfl⟩
  refine lv_aload_n hx hb dL_law_433 rfl (lv_at hl 2 rfl) ?_
  refine lv_aload_n hx hb dL_law_434 rfl (lv_at hl 3 rfl) ?_
  refine lv_iload_n hx hb dL_law_435 rfl (lv_at hl 0 rfl) ?_
  refine lv_iconst (v := 1) hx hb dL_law_436 (by decide) ?_
  refine lv_iadd hx hb dL_law_437 ?_
  refine h_top (v := (nI (q + 1))) (nI_add q 1) ?_
  refine va_sld hx hb hX hbl hbA hS0 (vp_in_nI (by omega) (by omega)) dL_law_438 ?_
  refine h_top (v := y1) (by rw [nI_clamp (by omega)]; exact hy1) ?_
  have hT0 : hT G (w_Y (tC (fun v => v = nI k)) x) H0 := hI.2.1
  refine h_callVi (T := TX10) (rest := []) (As := [.int y1]) hx hb hml hown hts hK hT0 hZ (fun q hq => (w_Y_A q hq).1) hS0 (c_X10_way l G (w_Y (tC (fun v => v = nI k)) x) (fun v => v = nI k) (x) (w_Y_w (t := tC (fun v => v = nI k)) (x := x)) y1) trivial wd_X10_way wV_X10_way wL_L_46 (on_w0 (w_Y_w (t := tC (fun v => v = nI k)) (x := x))) rfl rfl hl.1 rfl (Nat.le_of_ble_eq_true rfl) dL_law_439 ⟨Nat.le_of_ble_eq_true rfl, Nat.le_of_ble_eq_true rfl⟩ ⟨Nat.le_refl _, Nat.le_refl _⟩ (fun r1 H1 locs hp1 hT1 hS1 hk1 => ?_)
  replace hI := hI.C hT1 hk1
  refine lv_pop hx hb dL_law_442 rfl ?_
  refine lv_aload_n hx hb dL_law_443 rfl (lv_at hl 1 rfl) ?_
  refine lv_aload_n hx hb dL_law_444 rfl (lv_at hl 3 rfl) ?_
  refine lv_iload_n hx hb dL_law_445 rfl (lv_at hl 0 rfl) ?_
  refine lv_iconst (v := 1) hx hb dL_law_446 (by decide) ?_
  refine lv_iadd hx hb dL_law_447 ?_
  refine h_top (v := (nI (q + 1))) (nI_add q 1) ?_
  refine va_sld hx hb hX hbl hbA hS1 (vp_in_nI (by omega) (by omega)) dL_law_448 ?_
  refine h_top (v := y1) (by rw [nI_clamp (by omega)]; exact hy1) ?_
  have hT1 : hT G (m_Y (tM (fun v => v = nI k)) (x + 169)) H1 := hI.2.2.1
  refine h_callVi (T := TX11) (rest := []) (As := [.int y1]) hx hb hml hown hts hK hT1 hZ (fun q hq => Nat.le_trans (Nat.le_add_right x 169) (m_Y_A q hq)) hS1 (c_X11_way l G (m_Y (tM (fun v => v = nI k)) (x + 169)) (fun v => v = nI k) (x + 169) (m_Y_m (t := tM (fun v => v = nI k)) (m := x + 169)) y1) hI.2.2.2.1 wd_X11_way wV_X11_way wL_L_49 ((m_Y_m (t := tM (fun v => v = nI k)) (m := x + 169)).o rfl) rfl rfl hl.1 rfl (Nat.le_of_ble_eq_true rfl) dL_law_449 ⟨Nat.le_of_ble_eq_true rfl, Nat.le_of_ble_eq_true rfl⟩ ⟨Nat.le_refl _, Nat.le_refl _⟩ (fun r2 H2 locs hp2 hT2 hS2 hk2 => ?_)
  obtain ⟨hp2, hB2⟩ := hp2
  replace hI := hI.M hT2 hB2.1 hB2.2 hk2
  refine lv_pop hx hb dL_law_452 rfl ?_
  refine lv_goto (tgt := 1273) hx hb dL_law_453 (by decide) ?_
  exact htail _ _ _ _ hI hS2 (lv_sub hl [0, 1, 2, 3] rfl)
set_option maxHeartbeats 4000000 in
set_option maxRecDepth 100000 in
theorem law_case_8 {p : Program} {l : Launch} {e : Env} {s : State} {m : MethodId} {below : List Frame} {meth : Method} {c : Code} {b x L q k : Nat} {xs : Nat → Int32} {G : hG} {H0 : Heap} {locs : List Loc} {ls : Array Slot} (hx : p.tables.exec = Jvm.exec) (hb : c.code = code) (hts : ∀ w ∈ wsL_law, w.before #[Value.ref b] s = true) (hown : s.vm.findClass RL = some m.cls) (hml : c.maxLocals = 4) (hK : h_K G s) (hZ : h_Z G (fun q => x ≤ q) s) (hX : va_X b L xs s s.heap) (hbl : b < s.heap.size) (hbA : ¬ x ≤ b) (htail : ∀ (k : Nat) (H : Heap) (locs : List Loc) (ls : Array Slot), lwI G x k H → va_S (fun q => x ≤ q) s.heap H locs → lv_has ls 4 [(3, .int (nI q)), (2, .ref (x + 169)), (1, .ref (x)), (0, .ref b)] → W p l e room_1 s m #[Value.ref b] below meth c H locs 600000 7302250 (lw_Z below #[Value.ref b] s) (F0 m 1273 ls [])) (hq : q + 6 ≤ L) (hL : L ≤ 3072) (hI : lwI G x k H0) (hS0 : va_S (fun q => x ≤ q) s.heap H0 locs) (hl : lv_has ls 4 [(3, .int (nI q)), (2, .ref (x + 169)), (1, .ref (x)), (0, .ref b)]) : W p l e room_1 s m #[Value.ref b] below meth c H0 locs 600000 7302250 (lw_Z below #[Value.ref b] s) (F0 m 456 ls []) := by
  obtain ⟨y1, hy1⟩ : ∃ y, xs (q + 1) = y := ⟨_, rfl⟩
  obtain ⟨y2, hy2⟩ : ∃ y, xs (q + 2) = y := ⟨_, rfl⟩
  obtain ⟨y3, hy3⟩ : ∃ y, xs (q + 3) = y := ⟨_, rfl⟩
  obtain ⟨y4, hy4⟩ : ∃ y, xs (q + 4) = y := ⟨_, rfl⟩
  obtain ⟨y5, hy5⟩ : ∃ y, xs (q + 5) = y := ⟨_, rfl⟩
  refine lv_aload_n hx hb dL_law_456 rfl (lv_at hl 2 rfl) ?_
  refine lv_aload_n hx hb dL_law_457 rfl (lv_at hl 3 rfl) ?_
  refine lv_iload_n hx hb dL_law_458 rfl (lv_at hl 0 rfl) ?_
  refine lv_iconst (v := 1) hx hb dL_law_459 (by decide) ?_
  refine lv_iadd hx hb dL_law_460 ?_
  refine h_top (v := (nI (q + 1))) (nI_add q 1) ?_
  refine va_sld hx hb hX hbl hbA hS0 (vp_in_nI (by omega) (by omega)) dL_law_461 ?_
  refine h_top (v := y1) (by rw [nI_clamp (by omega)]; exact hy1) ?_
  have hT0 : hT G (w_Y (tC (fun v => v = nI k)) x) H0 := hI.2.1
  refine h_callVi (T := TX10) (rest := []) (As := [.int y1]) hx hb hml hown hts hK hT0 hZ (fun q hq => (w_Y_A q hq).1) hS0 (c_X10_beacon l G (w_Y (tC (fun v => v = nI k)) x) (fun v => v = nI k) (x) (w_Y_w (t := tC (fun v => v = nI k)) (x := x)) y1) trivial wd_X10_beacon wV_X10_beacon wL_L_50 (on_w0 (w_Y_w (t := tC (fun v => v = nI k)) (x := x))) rfl rfl hl.1 rfl (Nat.le_of_ble_eq_true rfl) dL_law_462 ⟨Nat.le_of_ble_eq_true rfl, Nat.le_of_ble_eq_true rfl⟩ ⟨Nat.le_refl _, Nat.le_refl _⟩ (fun r1 H1 locs hp1 hT1 hS1 hk1 => ?_)
  replace hI := hI.C hT1 hk1
  refine lv_pop hx hb dL_law_465 rfl ?_
  refine lv_aload_n hx hb dL_law_466 rfl (lv_at hl 1 rfl) ?_
  refine lv_aload_n hx hb dL_law_467 rfl (lv_at hl 3 rfl) ?_
  refine lv_iload_n hx hb dL_law_468 rfl (lv_at hl 0 rfl) ?_
  refine lv_iconst (v := 1) hx hb dL_law_469 (by decide) ?_
  refine lv_iadd hx hb dL_law_470 ?_
  refine h_top (v := (nI (q + 1))) (nI_add q 1) ?_
  refine va_sld hx hb hX hbl hbA hS1 (vp_in_nI (by omega) (by omega)) dL_law_471 ?_
  refine h_top (v := y1) (by rw [nI_clamp (by omega)]; exact hy1) ?_
  have hT1 : hT G (m_Y (tM (fun v => v = nI k)) (x + 169)) H1 := hI.2.2.1
  refine h_callVi (T := TX11) (rest := []) (As := [.int y1]) hx hb hml hown hts hK hT1 hZ (fun q hq => Nat.le_trans (Nat.le_add_right x 169) (m_Y_A q hq)) hS1 (c_X11_beacon l G (m_Y (tM (fun v => v = nI k)) (x + 169)) (fun v => v = nI k) (x + 169) (m_Y_m (t := tM (fun v => v = nI k)) (m := x + 169)) y1) hI.2.2.2.1 wd_X11_beacon wV_X11_beacon wL_L_53 ((m_Y_m (t := tM (fun v => v = nI k)) (m := x + 169)).o rfl) rfl rfl hl.1 rfl (Nat.le_of_ble_eq_true rfl) dL_law_472 ⟨Nat.le_of_ble_eq_true rfl, Nat.le_of_ble_eq_true rfl⟩ ⟨Nat.le_refl _, Nat.le_refl _⟩ (fun r2 H2 locs hp2 hT2 hS2 hk2 => ?_)
  obtain ⟨hp2, hB2⟩ := hp2
  replace hI := hI.M hT2 hB2.1 hB2.2 hk2
  refine lv_pop hx hb dL_law_475 rfl ?_
  refine lv_goto (tgt := 1273) hx hb dL_law_476 (by decide) ?_
  exact htail _ _ _ _ hI hS2 (lv_sub hl [0, 1, 2, 3] rfl)
set_option maxHeartbeats 4000000 in
set_option maxRecDepth 100000 in
theorem law_case_9 {p : Program} {l : Launch} {e : Env} {s : State} {m : MethodId} {below : List Frame} {meth : Method} {c : Code} {b x L q k : Nat} {xs : Nat → Int32} {G : hG} {H0 : Heap} {locs : List Loc} {ls : Array Slot} (hx : p.tables.exec = Jvm.exec) (hb : c.code = code) (hts : ∀ w ∈ wsL_law, w.before #[Value.ref b] s = true) (hown : s.vm.findClass RL = some m.cls) (hml : c.maxLocals = 4) (hK : h_K G s) (hZ : h_Z G (fun q => x ≤ q) s) (hX : va_X b L xs s s.heap) (hbl : b < s.heap.size) (hbA : ¬ x ≤ b) (htail : ∀ (k : Nat) (H : Heap) (locs : List Loc) (ls : Array Slot), lwI G x k H → va_S (fun q => x ≤ q) s.heap H locs → lv_has ls 4 [(3, .int (nI q)), (2, .ref (x + 169)), (1, .ref (x)), (0, .ref b)] → W p l e room_1 s m #[Value.ref b] below meth c H locs 600000 7302250 (lw_Z below #[Value.ref b] s) (F0 m 1273 ls [])) (hq : q + 6 ≤ L) (hL : L ≤ 3072) (hI : lwI G x k H0) (hS0 : va_S (fun q => x ≤ q) s.heap H0 locs) (hl : lv_has ls 4 [(3, .int (nI q)), (2, .ref (x + 169)), (1, .ref (x)), (0, .ref b)]) : W p l e room_1 s m #[Value.ref b] below meth c H0 locs 600000 7302250 (lw_Z below #[Value.ref b] s) (F0 m 479 ls []) := by
  obtain ⟨y1, hy1⟩ : ∃ y, xs (q + 1) = y := ⟨_, rfl⟩
  obtain ⟨y2, hy2⟩ : ∃ y, xs (q + 2) = y := ⟨_, rfl⟩
  obtain ⟨y3, hy3⟩ : ∃ y, xs (q + 3) = y := ⟨_, rfl⟩
  obtain ⟨y4, hy4⟩ : ∃ y, xs (q + 4) = y := ⟨_, rfl⟩
  obtain ⟨y5, hy5⟩ : ∃ y, xs (q + 5) = y := ⟨_, rfl⟩
  refine lv_aload_n hx hb dL_law_479 rfl (lv_at hl 2 rfl) ?_
  refine lv_aload_n hx hb dL_law_480 rfl (lv_at hl 3 rfl) ?_
  refine lv_iload_n hx hb dL_law_481 rfl (lv_at hl 0 rfl) ?_
  refine lv_iconst (v := 1) hx hb dL_law_482 (by decide) ?_
  refine lv_iadd hx hb dL_law_483 ?_
  refine h_top (v := (nI (q + 1))) (nI_add q 1) ?_
  refine va_sld hx hb hX hbl hbA hS0 (vp_in_nI (by omega) (by omega)) dL_law_484 ?_
  refine h_top (v := y1) (by rw [nI_clamp (by omega)]; exact hy1) ?_
  have hT0 : hT G (w_Y (tC (fun v => v = nI k)) x) H0 := hI.2.1
  refine h_callVi (T := TX10) (rest := []) (As := [.int y1]) hx hb hml hown hts hK hT0 hZ (fun q hq => (w_Y_A q hq).1) hS0 (c_X10_been l G (w_Y (tC (fun v => v = nI k)) x) (fun v => v = nI k) (x) (w_Y_w (t := tC (fun v => v = nI k)) (x := x)) y1) trivial wd_X10_been wV_X10_been wL_L_54 (on_w0 (w_Y_w (t := tC (fun v => v = nI k)) (x := x))) rfl rfl hl.1 rfl (Nat.le_of_ble_eq_true rfl) dL_law_485 ⟨Nat.le_of_ble_eq_true rfl, Nat.le_of_ble_eq_true rfl⟩ ⟨Nat.le_refl _, Nat.le_refl _⟩ (fun r1 H1 locs hp1 hT1 hS1 hk1 => ?_)
  replace hI := hI.C hT1 hk1
  refine lv_pop hx hb dL_law_488 rfl ?_
  refine lv_aload_n hx hb dL_law_489 rfl (lv_at hl 1 rfl) ?_
  refine lv_aload_n hx hb dL_law_490 rfl (lv_at hl 3 rfl) ?_
  refine lv_iload_n hx hb dL_law_491 rfl (lv_at hl 0 rfl) ?_
  refine lv_iconst (v := 1) hx hb dL_law_492 (by decide) ?_
  refine lv_iadd hx hb dL_law_493 ?_
  refine h_top (v := (nI (q + 1))) (nI_add q 1) ?_
  refine va_sld hx hb hX hbl hbA hS1 (vp_in_nI (by omega) (by omega)) dL_law_494 ?_
  refine h_top (v := y1) (by rw [nI_clamp (by omega)]; exact hy1) ?_
  have hT1 : hT G (m_Y (tM (fun v => v = nI k)) (x + 169)) H1 := hI.2.2.1
  refine h_callVi (T := TX11) (rest := []) (As := [.int y1]) hx hb hml hown hts hK hT1 hZ (fun q hq => Nat.le_trans (Nat.le_add_right x 169) (m_Y_A q hq)) hS1 (c_X11_been l G (m_Y (tM (fun v => v = nI k)) (x + 169)) (fun v => v = nI k) (x + 169) (m_Y_m (t := tM (fun v => v = nI k)) (m := x + 169)) y1) hI.2.2.2.1 wd_X11_been wV_X11_been wL_L_57 ((m_Y_m (t := tM (fun v => v = nI k)) (m := x + 169)).o rfl) rfl rfl hl.1 rfl (Nat.le_of_ble_eq_true rfl) dL_law_495 ⟨Nat.le_of_ble_eq_true rfl, Nat.le_of_ble_eq_true rfl⟩ ⟨Nat.le_refl _, Nat.le_refl _⟩ (fun r2 H2 locs hp2 hT2 hS2 hk2 => ?_)
  obtain ⟨hp2, hB2⟩ := hp2
  replace hI := hI.M hT2 hB2.1 hB2.2 hk2
  refine lv_pop hx hb dL_law_498 rfl ?_
  refine lv_goto (tgt := 1273) hx hb dL_law_499 (by decide) ?_
  exact htail _ _ _ _ hI hS2 (lv_sub hl [0, 1, 2, 3] rfl)
set_option maxHeartbeats 4000000 in
set_option maxRecDepth 100000 in
theorem law_case_10 {p : Program} {l : Launch} {e : Env} {s : State} {m : MethodId} {below : List Frame} {meth : Method} {c : Code} {b x L q k : Nat} {xs : Nat → Int32} {G : hG} {H0 : Heap} {locs : List Loc} {ls : Array Slot} (hx : p.tables.exec = Jvm.exec) (hb : c.code = code) (hts : ∀ w ∈ wsL_law, w.before #[Value.ref b] s = true) (hown : s.vm.findClass RL = some m.cls) (hml : c.maxLocals = 4) (hK : h_K G s) (hZ : h_Z G (fun q => x ≤ q) s) (hX : va_X b L xs s s.heap) (hbl : b < s.heap.size) (hbA : ¬ x ≤ b) (htail : ∀ (k : Nat) (H : Heap) (locs : List Loc) (ls : Array Slot), lwI G x k H → va_S (fun q => x ≤ q) s.heap H locs → lv_has ls 4 [(3, .int (nI q)), (2, .ref (x + 169)), (1, .ref (x)), (0, .ref b)] → W p l e room_1 s m #[Value.ref b] below meth c H locs 600000 7302250 (lw_Z below #[Value.ref b] s) (F0 m 1273 ls [])) (hq : q + 6 ≤ L) (hL : L ≤ 3072) (hI : lwI G x k H0) (hS0 : va_S (fun q => x ≤ q) s.heap H0 locs) (hl : lv_has ls 4 [(3, .int (nI q)), (2, .ref (x + 169)), (1, .ref (x)), (0, .ref b)]) : W p l e room_1 s m #[Value.ref b] below meth c H0 locs 600000 7302250 (lw_Z below #[Value.ref b] s) (F0 m 502 ls []) := by
  obtain ⟨y1, hy1⟩ : ∃ y, xs (q + 1) = y := ⟨_, rfl⟩
  obtain ⟨y2, hy2⟩ : ∃ y, xs (q + 2) = y := ⟨_, rfl⟩
  obtain ⟨y3, hy3⟩ : ∃ y, xs (q + 3) = y := ⟨_, rfl⟩
  obtain ⟨y4, hy4⟩ : ∃ y, xs (q + 4) = y := ⟨_, rfl⟩
  obtain ⟨y5, hy5⟩ : ∃ y, xs (q + 5) = y := ⟨_, rfl⟩
  refine lv_aload_n hx hb dL_law_502 rfl (lv_at hl 2 rfl) ?_
  refine lv_aload_n hx hb dL_law_503 rfl (lv_at hl 3 rfl) ?_
  refine lv_iload_n hx hb dL_law_504 rfl (lv_at hl 0 rfl) ?_
  refine lv_iconst (v := 1) hx hb dL_law_505 (by decide) ?_
  refine lv_iadd hx hb dL_law_506 ?_
  refine h_top (v := (nI (q + 1))) (nI_add q 1) ?_
  refine va_sld hx hb hX hbl hbA hS0 (vp_in_nI (by omega) (by omega)) dL_law_507 ?_
  refine h_top (v := y1) (by rw [nI_clamp (by omega)]; exact hy1) ?_
  refine lv_aload_n hx hb dL_law_508 rfl (lv_at hl 3 rfl) ?_
  refine lv_iload_n hx hb dL_law_509 rfl (lv_at hl 0 rfl) ?_
  refine lv_iconst (v := 2) hx hb dL_law_510 (by decide) ?_
  refine lv_iadd hx hb dL_law_511 ?_
  refine h_top (v := (nI (q + 2))) (nI_add q 2) ?_
  refine va_sld hx hb hX hbl hbA hS0 (vp_in_nI (by omega) (by omega)) dL_law_512 ?_
  refine h_top (v := y2) (by rw [nI_clamp (by omega)]; exact hy2) ?_
  have hT0 : hT G (w_Y (tC (fun v => v = nI k)) x) H0 := hI.2.1
  refine h_callVi (T := TX10) (rest := []) (As := [.int y1, .int y2]) hx hb hml hown hts hK hT0 hZ (fun q hq => (w_Y_A q hq).1) hS0 (c_X10_got l G (w_Y (tC (fun v => v = nI k)) x) (fun v => v = nI k) (x) (w_Y_w (t := tC (fun v => v = nI k)) (x := x)) y1 y2) trivial wd_X10_got wV_X10_got wL_L_58 (on_w0 (w_Y_w (t := tC (fun v => v = nI k)) (x := x))) rfl rfl hl.1 rfl (Nat.le_of_ble_eq_true rfl) dL_law_513 ⟨Nat.le_of_ble_eq_true rfl, Nat.le_of_ble_eq_true rfl⟩ ⟨Nat.le_refl _, Nat.le_refl _⟩ (fun r1 H1 locs hp1 hT1 hS1 hk1 => ?_)
  replace hI := hI.C hT1 hk1
  refine lv_pop hx hb dL_law_516 rfl ?_
  refine lv_aload_n hx hb dL_law_517 rfl (lv_at hl 1 rfl) ?_
  refine lv_aload_n hx hb dL_law_518 rfl (lv_at hl 3 rfl) ?_
  refine lv_iload_n hx hb dL_law_519 rfl (lv_at hl 0 rfl) ?_
  refine lv_iconst (v := 1) hx hb dL_law_520 (by decide) ?_
  refine lv_iadd hx hb dL_law_521 ?_
  refine h_top (v := (nI (q + 1))) (nI_add q 1) ?_
  refine va_sld hx hb hX hbl hbA hS1 (vp_in_nI (by omega) (by omega)) dL_law_522 ?_
  refine h_top (v := y1) (by rw [nI_clamp (by omega)]; exact hy1) ?_
  refine lv_aload_n hx hb dL_law_523 rfl (lv_at hl 3 rfl) ?_
  refine lv_iload_n hx hb dL_law_524 rfl (lv_at hl 0 rfl) ?_
  refine lv_iconst (v := 2) hx hb dL_law_525 (by decide) ?_
  refine lv_iadd hx hb dL_law_526 ?_
  refine h_top (v := (nI (q + 2))) (nI_add q 2) ?_
  refine va_sld hx hb hX hbl hbA hS1 (vp_in_nI (by omega) (by omega)) dL_law_527 ?_
  refine h_top (v := y2) (by rw [nI_clamp (by omega)]; exact hy2) ?_
  have hT1 : hT G (m_Y (tM (fun v => v = nI k)) (x + 169)) H1 := hI.2.2.1
  refine h_callVi (T := TX11) (rest := []) (As := [.int y1, .int y2]) hx hb hml hown hts hK hT1 hZ (fun q hq => Nat.le_trans (Nat.le_add_right x 169) (m_Y_A q hq)) hS1 (c_X11_got l G (m_Y (tM (fun v => v = nI k)) (x + 169)) (fun v => v = nI k) (x + 169) (m_Y_m (t := tM (fun v => v = nI k)) (m := x + 169)) y1 y2) hI.2.2.2.1 wd_X11_got wV_X11_got wL_L_61 ((m_Y_m (t := tM (fun v => v = nI k)) (m := x + 169)).o rfl) rfl rfl hl.1 rfl (Nat.le_of_ble_eq_true rfl) dL_law_528 ⟨Nat.le_of_ble_eq_true rfl, Nat.le_of_ble_eq_true rfl⟩ ⟨Nat.le_refl _, Nat.le_refl _⟩ (fun r2 H2 locs hp2 hT2 hS2 hk2 => ?_)
  obtain ⟨hp2, hB2⟩ := hp2
  replace hI := hI.M hT2 hB2.1 hB2.2 hk2
  refine lv_pop hx hb dL_law_531 rfl ?_
  refine lv_goto (tgt := 1273) hx hb dL_law_532 (by decide) ?_
  exact htail _ _ _ _ hI hS2 (lv_sub hl [0, 1, 2, 3] rfl)
set_option maxHeartbeats 4000000 in
set_option maxRecDepth 100000 in
theorem law_case_11 {p : Program} {l : Launch} {e : Env} {s : State} {m : MethodId} {below : List Frame} {meth : Method} {c : Code} {b x L q k : Nat} {xs : Nat → Int32} {G : hG} {H0 : Heap} {locs : List Loc} {ls : Array Slot} (hx : p.tables.exec = Jvm.exec) (hb : c.code = code) (hts : ∀ w ∈ wsL_law, w.before #[Value.ref b] s = true) (hown : s.vm.findClass RL = some m.cls) (hml : c.maxLocals = 4) (hK : h_K G s) (hZ : h_Z G (fun q => x ≤ q) s) (hX : va_X b L xs s s.heap) (hbl : b < s.heap.size) (hbA : ¬ x ≤ b) (htail : ∀ (k : Nat) (H : Heap) (locs : List Loc) (ls : Array Slot), lwI G x k H → va_S (fun q => x ≤ q) s.heap H locs → lv_has ls 4 [(3, .int (nI q)), (2, .ref (x + 169)), (1, .ref (x)), (0, .ref b)] → W p l e room_1 s m #[Value.ref b] below meth c H locs 600000 7302250 (lw_Z below #[Value.ref b] s) (F0 m 1273 ls [])) (hq : q + 6 ≤ L) (hL : L ≤ 3072) (hI : lwI G x k H0) (hS0 : va_S (fun q => x ≤ q) s.heap H0 locs) (hl : lv_has ls 4 [(3, .int (nI q)), (2, .ref (x + 169)), (1, .ref (x)), (0, .ref b)]) : W p l e room_1 s m #[Value.ref b] below meth c H0 locs 600000 7302250 (lw_Z below #[Value.ref b] s) (F0 m 535 ls []) := by
  obtain ⟨y1, hy1⟩ : ∃ y, xs (q + 1) = y := ⟨_, rfl⟩
  obtain ⟨y2, hy2⟩ : ∃ y, xs (q + 2) = y := ⟨_, rfl⟩
  obtain ⟨y3, hy3⟩ : ∃ y, xs (q + 3) = y := ⟨_, rfl⟩
  obtain ⟨y4, hy4⟩ : ∃ y, xs (q + 4) = y := ⟨_, rfl⟩
  obtain ⟨y5, hy5⟩ : ∃ y, xs (q + 5) = y := ⟨_, rfl⟩
  refine lv_aload_n hx hb dL_law_535 rfl (lv_at hl 2 rfl) ?_
  refine lv_aload_n hx hb dL_law_536 rfl (lv_at hl 3 rfl) ?_
  refine lv_iload_n hx hb dL_law_537 rfl (lv_at hl 0 rfl) ?_
  refine lv_iconst (v := 1) hx hb dL_law_538 (by decide) ?_
  refine lv_iadd hx hb dL_law_539 ?_
  refine h_top (v := (nI (q + 1))) (nI_add q 1) ?_
  refine va_sld hx hb hX hbl hbA hS0 (vp_in_nI (by omega) (by omega)) dL_law_540 ?_
  refine h_top (v := y1) (by rw [nI_clamp (by omega)]; exact hy1) ?_
  refine lv_aload_n hx hb dL_law_541 rfl (lv_at hl 3 rfl) ?_
  refine lv_iload_n hx hb dL_law_542 rfl (lv_at hl 0 rfl) ?_
  refine lv_iconst (v := 2) hx hb dL_law_543 (by decide) ?_
  refine lv_iadd hx hb dL_law_544 ?_
  refine h_top (v := (nI (q + 2))) (nI_add q 2) ?_
  refine va_sld hx hb hX hbl hbA hS0 (vp_in_nI (by omega) (by omega)) dL_law_545 ?_
  refine h_top (v := y2) (by rw [nI_clamp (by omega)]; exact hy2) ?_
  refine lv_aload_n hx hb dL_law_546 rfl (lv_at hl 3 rfl) ?_
  refine lv_iload_n hx hb dL_law_547 rfl (lv_at hl 0 rfl) ?_
  refine lv_iconst (v := 3) hx hb dL_law_548 (by decide) ?_
  refine lv_iadd hx hb dL_law_549 ?_
  refine h_top (v := (nI (q + 3))) (nI_add q 3) ?_
  refine va_sld hx hb hX hbl hbA hS0 (vp_in_nI (by omega) (by omega)) dL_law_550 ?_
  refine h_top (v := y3) (by rw [nI_clamp (by omega)]; exact hy3) ?_
  have hT0 : hT G (w_Y (tC (fun v => v = nI k)) x) H0 := hI.2.1
  refine h_callVi (T := TX10) (rest := []) (As := [.int y1, .int y2, .int y3]) hx hb hml hown hts hK hT0 hZ (fun q hq => (w_Y_A q hq).1) hS0 (c_X10_raise l G (w_Y (tC (fun v => v = nI k)) x) (fun v => v = nI k) (x) (w_Y_w (t := tC (fun v => v = nI k)) (x := x)) y1 y2 y3) trivial wd_X10_raise wV_X10_raise wL_L_62 (on_w0 (w_Y_w (t := tC (fun v => v = nI k)) (x := x))) rfl rfl hl.1 rfl (Nat.le_of_ble_eq_true rfl) dL_law_551 ⟨Nat.le_of_ble_eq_true rfl, Nat.le_of_ble_eq_true rfl⟩ ⟨Nat.le_refl _, Nat.le_refl _⟩ (fun r1 H1 locs hp1 hT1 hS1 hk1 => ?_)
  replace hI := hI.C hT1 hk1
  refine lv_pop hx hb dL_law_554 rfl ?_
  refine lv_aload_n hx hb dL_law_555 rfl (lv_at hl 1 rfl) ?_
  refine lv_aload_n hx hb dL_law_556 rfl (lv_at hl 3 rfl) ?_
  refine lv_iload_n hx hb dL_law_557 rfl (lv_at hl 0 rfl) ?_
  refine lv_iconst (v := 1) hx hb dL_law_558 (by decide) ?_
  refine lv_iadd hx hb dL_law_559 ?_
  refine h_top (v := (nI (q + 1))) (nI_add q 1) ?_
  refine va_sld hx hb hX hbl hbA hS1 (vp_in_nI (by omega) (by omega)) dL_law_560 ?_
  refine h_top (v := y1) (by rw [nI_clamp (by omega)]; exact hy1) ?_
  refine lv_aload_n hx hb dL_law_561 rfl (lv_at hl 3 rfl) ?_
  refine lv_iload_n hx hb dL_law_562 rfl (lv_at hl 0 rfl) ?_
  refine lv_iconst (v := 2) hx hb dL_law_563 (by decide) ?_
  refine lv_iadd hx hb dL_law_564 ?_
  refine h_top (v := (nI (q + 2))) (nI_add q 2) ?_
  refine va_sld hx hb hX hbl hbA hS1 (vp_in_nI (by omega) (by omega)) dL_law_565 ?_
  refine h_top (v := y2) (by rw [nI_clamp (by omega)]; exact hy2) ?_
  refine lv_aload_n hx hb dL_law_566 rfl (lv_at hl 3 rfl) ?_
  refine lv_iload_n hx hb dL_law_567 rfl (lv_at hl 0 rfl) ?_
  refine lv_iconst (v := 3) hx hb dL_law_568 (by decide) ?_
  refine lv_iadd hx hb dL_law_569 ?_
  refine h_top (v := (nI (q + 3))) (nI_add q 3) ?_
  refine va_sld hx hb hX hbl hbA hS1 (vp_in_nI (by omega) (by omega)) dL_law_570 ?_
  refine h_top (v := y3) (by rw [nI_clamp (by omega)]; exact hy3) ?_
  have hT1 : hT G (m_Y (tM (fun v => v = nI k)) (x + 169)) H1 := hI.2.2.1
  refine h_callVi (T := TX11) (rest := []) (As := [.int y1, .int y2, .int y3]) hx hb hml hown hts hK hT1 hZ (fun q hq => Nat.le_trans (Nat.le_add_right x 169) (m_Y_A q hq)) hS1 (c_X11_raise l G (m_Y (tM (fun v => v = nI k)) (x + 169)) (fun v => v = nI k) (x + 169) (m_Y_m (t := tM (fun v => v = nI k)) (m := x + 169)) y1 y2 y3) hI.2.2.2.1 wd_X11_raise wV_X11_raise wL_L_65 ((m_Y_m (t := tM (fun v => v = nI k)) (m := x + 169)).o rfl) rfl rfl hl.1 rfl (Nat.le_of_ble_eq_true rfl) dL_law_571 ⟨Nat.le_of_ble_eq_true rfl, Nat.le_of_ble_eq_true rfl⟩ ⟨Nat.le_refl _, Nat.le_refl _⟩ (fun r2 H2 locs hp2 hT2 hS2 hk2 => ?_)
  obtain ⟨hp2, hB2⟩ := hp2
  replace hI := hI.M hT2 hB2.1 hB2.2 hk2
  refine lv_pop hx hb dL_law_574 rfl ?_
  refine lv_goto (tgt := 1273) hx hb dL_law_575 (by decide) ?_
  exact htail _ _ _ _ hI hS2 (lv_sub hl [0, 1, 2, 3] rfl)
set_option maxHeartbeats 4000000 in
set_option maxRecDepth 100000 in
theorem law_case_12 {p : Program} {l : Launch} {e : Env} {s : State} {m : MethodId} {below : List Frame} {meth : Method} {c : Code} {b x L q k : Nat} {xs : Nat → Int32} {G : hG} {H0 : Heap} {locs : List Loc} {ls : Array Slot} (hx : p.tables.exec = Jvm.exec) (hb : c.code = code) (hts : ∀ w ∈ wsL_law, w.before #[Value.ref b] s = true) (hown : s.vm.findClass RL = some m.cls) (hml : c.maxLocals = 4) (hK : h_K G s) (hZ : h_Z G (fun q => x ≤ q) s) (hX : va_X b L xs s s.heap) (hbl : b < s.heap.size) (hbA : ¬ x ≤ b) (htail : ∀ (k : Nat) (H : Heap) (locs : List Loc) (ls : Array Slot), lwI G x k H → va_S (fun q => x ≤ q) s.heap H locs → lv_has ls 4 [(3, .int (nI q)), (2, .ref (x + 169)), (1, .ref (x)), (0, .ref b)] → W p l e room_1 s m #[Value.ref b] below meth c H locs 600000 7302250 (lw_Z below #[Value.ref b] s) (F0 m 1273 ls [])) (hq : q + 6 ≤ L) (hL : L ≤ 3072) (hI : lwI G x k H0) (hS0 : va_S (fun q => x ≤ q) s.heap H0 locs) (hl : lv_has ls 4 [(3, .int (nI q)), (2, .ref (x + 169)), (1, .ref (x)), (0, .ref b)]) : W p l e room_1 s m #[Value.ref b] below meth c H0 locs 600000 7302250 (lw_Z below #[Value.ref b] s) (F0 m 578 ls []) := by
  obtain ⟨y1, hy1⟩ : ∃ y, xs (q + 1) = y := ⟨_, rfl⟩
  obtain ⟨y2, hy2⟩ : ∃ y, xs (q + 2) = y := ⟨_, rfl⟩
  obtain ⟨y3, hy3⟩ : ∃ y, xs (q + 3) = y := ⟨_, rfl⟩
  obtain ⟨y4, hy4⟩ : ∃ y, xs (q + 4) = y := ⟨_, rfl⟩
  obtain ⟨y5, hy5⟩ : ∃ y, xs (q + 5) = y := ⟨_, rfl⟩
  refine lv_aload_n hx hb dL_law_578 rfl (lv_at hl 2 rfl) ?_
  refine lv_aload_n hx hb dL_law_579 rfl (lv_at hl 3 rfl) ?_
  refine lv_iload_n hx hb dL_law_580 rfl (lv_at hl 0 rfl) ?_
  refine lv_iconst (v := 1) hx hb dL_law_581 (by decide) ?_
  refine lv_iadd hx hb dL_law_582 ?_
  refine h_top (v := (nI (q + 1))) (nI_add q 1) ?_
  refine va_sld hx hb hX hbl hbA hS0 (vp_in_nI (by omega) (by omega)) dL_law_583 ?_
  refine h_top (v := y1) (by rw [nI_clamp (by omega)]; exact hy1) ?_
  refine lv_aload_n hx hb dL_law_584 rfl (lv_at hl 3 rfl) ?_
  refine lv_iload_n hx hb dL_law_585 rfl (lv_at hl 0 rfl) ?_
  refine lv_iconst (v := 2) hx hb dL_law_586 (by decide) ?_
  refine lv_iadd hx hb dL_law_587 ?_
  refine h_top (v := (nI (q + 2))) (nI_add q 2) ?_
  refine va_sld hx hb hX hbl hbA hS0 (vp_in_nI (by omega) (by omega)) dL_law_588 ?_
  refine h_top (v := y2) (by rw [nI_clamp (by omega)]; exact hy2) ?_
  have hT0 : hT G (w_Y (tC (fun v => v = nI k)) x) H0 := hI.2.1
  refine h_callVi (T := TX10) (rest := []) (As := [.int y1, .int y2]) hx hb hml hown hts hK hT0 hZ (fun q hq => (w_Y_A q hq).1) hS0 (c_X10_event l G (w_Y (tC (fun v => v = nI k)) x) (fun v => v = nI k) (x) (w_Y_w (t := tC (fun v => v = nI k)) (x := x)) y1 y2) trivial wd_X10_event wV_X10_event wL_L_66 (on_w0 (w_Y_w (t := tC (fun v => v = nI k)) (x := x))) rfl rfl hl.1 rfl (Nat.le_of_ble_eq_true rfl) dL_law_589 ⟨Nat.le_of_ble_eq_true rfl, Nat.le_of_ble_eq_true rfl⟩ ⟨Nat.le_refl _, Nat.le_refl _⟩ (fun r1 H1 locs hp1 hT1 hS1 hk1 => ?_)
  replace hI := hI.C hT1 hk1
  refine lv_pop hx hb dL_law_592 rfl ?_
  refine lv_aload_n hx hb dL_law_593 rfl (lv_at hl 1 rfl) ?_
  refine lv_aload_n hx hb dL_law_594 rfl (lv_at hl 3 rfl) ?_
  refine lv_iload_n hx hb dL_law_595 rfl (lv_at hl 0 rfl) ?_
  refine lv_iconst (v := 1) hx hb dL_law_596 (by decide) ?_
  refine lv_iadd hx hb dL_law_597 ?_
  refine h_top (v := (nI (q + 1))) (nI_add q 1) ?_
  refine va_sld hx hb hX hbl hbA hS1 (vp_in_nI (by omega) (by omega)) dL_law_598 ?_
  refine h_top (v := y1) (by rw [nI_clamp (by omega)]; exact hy1) ?_
  refine lv_aload_n hx hb dL_law_599 rfl (lv_at hl 3 rfl) ?_
  refine lv_iload_n hx hb dL_law_600 rfl (lv_at hl 0 rfl) ?_
  refine lv_iconst (v := 2) hx hb dL_law_601 (by decide) ?_
  refine lv_iadd hx hb dL_law_602 ?_
  refine h_top (v := (nI (q + 2))) (nI_add q 2) ?_
  refine va_sld hx hb hX hbl hbA hS1 (vp_in_nI (by omega) (by omega)) dL_law_603 ?_
  refine h_top (v := y2) (by rw [nI_clamp (by omega)]; exact hy2) ?_
  have hT1 : hT G (m_Y (tM (fun v => v = nI k)) (x + 169)) H1 := hI.2.2.1
  refine h_callVi (T := TX11) (rest := []) (As := [.int y1, .int y2]) hx hb hml hown hts hK hT1 hZ (fun q hq => Nat.le_trans (Nat.le_add_right x 169) (m_Y_A q hq)) hS1 (c_X11_event l G (m_Y (tM (fun v => v = nI k)) (x + 169)) (fun v => v = nI k) (x + 169) (m_Y_m (t := tM (fun v => v = nI k)) (m := x + 169)) y1 y2) hI.2.2.2.1 wd_X11_event wV_X11_event wL_L_69 ((m_Y_m (t := tM (fun v => v = nI k)) (m := x + 169)).o rfl) rfl rfl hl.1 rfl (Nat.le_of_ble_eq_true rfl) dL_law_604 ⟨Nat.le_of_ble_eq_true rfl, Nat.le_of_ble_eq_true rfl⟩ ⟨Nat.le_refl _, Nat.le_refl _⟩ (fun r2 H2 locs hp2 hT2 hS2 hk2 => ?_)
  obtain ⟨hp2, hB2⟩ := hp2
  replace hI := hI.M hT2 hB2.1 hB2.2 hk2
  refine lv_pop hx hb dL_law_607 rfl ?_
  refine lv_goto (tgt := 1273) hx hb dL_law_608 (by decide) ?_
  exact htail _ _ _ _ hI hS2 (lv_sub hl [0, 1, 2, 3] rfl)
set_option maxHeartbeats 4000000 in
set_option maxRecDepth 100000 in
theorem law_case_13 {p : Program} {l : Launch} {e : Env} {s : State} {m : MethodId} {below : List Frame} {meth : Method} {c : Code} {b x L q k : Nat} {xs : Nat → Int32} {G : hG} {H0 : Heap} {locs : List Loc} {ls : Array Slot} (hx : p.tables.exec = Jvm.exec) (hb : c.code = code) (hts : ∀ w ∈ wsL_law, w.before #[Value.ref b] s = true) (hown : s.vm.findClass RL = some m.cls) (hml : c.maxLocals = 4) (hK : h_K G s) (hZ : h_Z G (fun q => x ≤ q) s) (hX : va_X b L xs s s.heap) (hbl : b < s.heap.size) (hbA : ¬ x ≤ b) (htail : ∀ (k : Nat) (H : Heap) (locs : List Loc) (ls : Array Slot), lwI G x k H → va_S (fun q => x ≤ q) s.heap H locs → lv_has ls 4 [(3, .int (nI q)), (2, .ref (x + 169)), (1, .ref (x)), (0, .ref b)] → W p l e room_1 s m #[Value.ref b] below meth c H locs 600000 7302250 (lw_Z below #[Value.ref b] s) (F0 m 1273 ls [])) (hq : q + 6 ≤ L) (hL : L ≤ 3072) (hI : lwI G x k H0) (hS0 : va_S (fun q => x ≤ q) s.heap H0 locs) (hl : lv_has ls 4 [(3, .int (nI q)), (2, .ref (x + 169)), (1, .ref (x)), (0, .ref b)]) : W p l e room_1 s m #[Value.ref b] below meth c H0 locs 600000 7302250 (lw_Z below #[Value.ref b] s) (F0 m 611 ls []) := by
  obtain ⟨y1, hy1⟩ : ∃ y, xs (q + 1) = y := ⟨_, rfl⟩
  obtain ⟨y2, hy2⟩ : ∃ y, xs (q + 2) = y := ⟨_, rfl⟩
  obtain ⟨y3, hy3⟩ : ∃ y, xs (q + 3) = y := ⟨_, rfl⟩
  obtain ⟨y4, hy4⟩ : ∃ y, xs (q + 4) = y := ⟨_, rfl⟩
  obtain ⟨y5, hy5⟩ : ∃ y, xs (q + 5) = y := ⟨_, rfl⟩
  refine lv_aload_n hx hb dL_law_611 rfl (lv_at hl 2 rfl) ?_
  refine lv_aload_n hx hb dL_law_612 rfl (lv_at hl 3 rfl) ?_
  refine lv_iload_n hx hb dL_law_613 rfl (lv_at hl 0 rfl) ?_
  refine lv_iconst (v := 1) hx hb dL_law_614 (by decide) ?_
  refine lv_iadd hx hb dL_law_615 ?_
  refine h_top (v := (nI (q + 1))) (nI_add q 1) ?_
  refine va_sld hx hb hX hbl hbA hS0 (vp_in_nI (by omega) (by omega)) dL_law_616 ?_
  refine h_top (v := y1) (by rw [nI_clamp (by omega)]; exact hy1) ?_
  refine lv_aload_n hx hb dL_law_617 rfl (lv_at hl 3 rfl) ?_
  refine lv_iload_n hx hb dL_law_618 rfl (lv_at hl 0 rfl) ?_
  refine lv_iconst (v := 2) hx hb dL_law_619 (by decide) ?_
  refine lv_iadd hx hb dL_law_620 ?_
  refine h_top (v := (nI (q + 2))) (nI_add q 2) ?_
  refine va_sld hx hb hX hbl hbA hS0 (vp_in_nI (by omega) (by omega)) dL_law_621 ?_
  refine h_top (v := y2) (by rw [nI_clamp (by omega)]; exact hy2) ?_
  have hT0 : hT G (w_Y (tC (fun v => v = nI k)) x) H0 := hI.2.1
  refine h_callVi (T := TX10) (rest := []) (As := [.int y1, .int y2]) hx hb hml hown hts hK hT0 hZ (fun q hq => (w_Y_A q hq).1) hS0 (c_X10_ranks l G (w_Y (tC (fun v => v = nI k)) x) (fun v => v = nI k) (x) (w_Y_w (t := tC (fun v => v = nI k)) (x := x)) y1 y2) trivial wd_X10_ranks wV_X10_ranks wL_L_70 (on_w0 (w_Y_w (t := tC (fun v => v = nI k)) (x := x))) rfl rfl hl.1 rfl (Nat.le_of_ble_eq_true rfl) dL_law_622 ⟨Nat.le_of_ble_eq_true rfl, Nat.le_of_ble_eq_true rfl⟩ ⟨Nat.le_refl _, Nat.le_refl _⟩ (fun r1 H1 locs hp1 hT1 hS1 hk1 => ?_)
  replace hI := hI.C hT1 hk1
  refine lv_pop hx hb dL_law_625 rfl ?_
  refine lv_aload_n hx hb dL_law_626 rfl (lv_at hl 1 rfl) ?_
  refine lv_aload_n hx hb dL_law_627 rfl (lv_at hl 3 rfl) ?_
  refine lv_iload_n hx hb dL_law_628 rfl (lv_at hl 0 rfl) ?_
  refine lv_iconst (v := 1) hx hb dL_law_629 (by decide) ?_
  refine lv_iadd hx hb dL_law_630 ?_
  refine h_top (v := (nI (q + 1))) (nI_add q 1) ?_
  refine va_sld hx hb hX hbl hbA hS1 (vp_in_nI (by omega) (by omega)) dL_law_631 ?_
  refine h_top (v := y1) (by rw [nI_clamp (by omega)]; exact hy1) ?_
  refine lv_aload_n hx hb dL_law_632 rfl (lv_at hl 3 rfl) ?_
  refine lv_iload_n hx hb dL_law_633 rfl (lv_at hl 0 rfl) ?_
  refine lv_iconst (v := 2) hx hb dL_law_634 (by decide) ?_
  refine lv_iadd hx hb dL_law_635 ?_
  refine h_top (v := (nI (q + 2))) (nI_add q 2) ?_
  refine va_sld hx hb hX hbl hbA hS1 (vp_in_nI (by omega) (by omega)) dL_law_636 ?_
  refine h_top (v := y2) (by rw [nI_clamp (by omega)]; exact hy2) ?_
  have hT1 : hT G (m_Y (tM (fun v => v = nI k)) (x + 169)) H1 := hI.2.2.1
  refine h_callVi (T := TX11) (rest := []) (As := [.int y1, .int y2]) hx hb hml hown hts hK hT1 hZ (fun q hq => Nat.le_trans (Nat.le_add_right x 169) (m_Y_A q hq)) hS1 (c_X11_ranks l G (m_Y (tM (fun v => v = nI k)) (x + 169)) (fun v => v = nI k) (x + 169) (m_Y_m (t := tM (fun v => v = nI k)) (m := x + 169)) y1 y2) hI.2.2.2.1 wd_X11_ranks wV_X11_ranks wL_L_73 ((m_Y_m (t := tM (fun v => v = nI k)) (m := x + 169)).o rfl) rfl rfl hl.1 rfl (Nat.le_of_ble_eq_true rfl) dL_law_637 ⟨Nat.le_of_ble_eq_true rfl, Nat.le_of_ble_eq_true rfl⟩ ⟨Nat.le_refl _, Nat.le_refl _⟩ (fun r2 H2 locs hp2 hT2 hS2 hk2 => ?_)
  obtain ⟨hp2, hB2⟩ := hp2
  replace hI := hI.M hT2 hB2.1 hB2.2 hk2
  refine lv_pop hx hb dL_law_640 rfl ?_
  refine lv_goto (tgt := 1273) hx hb dL_law_641 (by decide) ?_
  exact htail _ _ _ _ hI hS2 (lv_sub hl [0, 1, 2, 3] rfl)
set_option maxHeartbeats 4000000 in
set_option maxRecDepth 100000 in
theorem law_case_14 {p : Program} {l : Launch} {e : Env} {s : State} {m : MethodId} {below : List Frame} {meth : Method} {c : Code} {b x L q k : Nat} {xs : Nat → Int32} {G : hG} {H0 : Heap} {locs : List Loc} {ls : Array Slot} (hx : p.tables.exec = Jvm.exec) (hb : c.code = code) (hts : ∀ w ∈ wsL_law, w.before #[Value.ref b] s = true) (hown : s.vm.findClass RL = some m.cls) (hml : c.maxLocals = 4) (hK : h_K G s) (hZ : h_Z G (fun q => x ≤ q) s) (hX : va_X b L xs s s.heap) (hbl : b < s.heap.size) (hbA : ¬ x ≤ b) (htail : ∀ (k : Nat) (H : Heap) (locs : List Loc) (ls : Array Slot), lwI G x k H → va_S (fun q => x ≤ q) s.heap H locs → lv_has ls 4 [(3, .int (nI q)), (2, .ref (x + 169)), (1, .ref (x)), (0, .ref b)] → W p l e room_1 s m #[Value.ref b] below meth c H locs 600000 7302250 (lw_Z below #[Value.ref b] s) (F0 m 1273 ls [])) (hq : q + 6 ≤ L) (hL : L ≤ 3072) (hI : lwI G x k H0) (hS0 : va_S (fun q => x ≤ q) s.heap H0 locs) (hl : lv_has ls 4 [(3, .int (nI q)), (2, .ref (x + 169)), (1, .ref (x)), (0, .ref b)]) : W p l e room_1 s m #[Value.ref b] below meth c H0 locs 600000 7302250 (lw_Z below #[Value.ref b] s) (F0 m 644 ls []) := by
  obtain ⟨y1, hy1⟩ : ∃ y, xs (q + 1) = y := ⟨_, rfl⟩
  obtain ⟨y2, hy2⟩ : ∃ y, xs (q + 2) = y := ⟨_, rfl⟩
  obtain ⟨y3, hy3⟩ : ∃ y, xs (q + 3) = y := ⟨_, rfl⟩
  obtain ⟨y4, hy4⟩ : ∃ y, xs (q + 4) = y := ⟨_, rfl⟩
  obtain ⟨y5, hy5⟩ : ∃ y, xs (q + 5) = y := ⟨_, rfl⟩
  refine lv_aload_n hx hb dL_law_644 rfl (lv_at hl 2 rfl) ?_
  refine lv_aload_n hx hb dL_law_645 rfl (lv_at hl 3 rfl) ?_
  refine lv_iload_n hx hb dL_law_646 rfl (lv_at hl 0 rfl) ?_
  refine lv_iconst (v := 1) hx hb dL_law_647 (by decide) ?_
  refine lv_iadd hx hb dL_law_648 ?_
  refine h_top (v := (nI (q + 1))) (nI_add q 1) ?_
  refine va_sld hx hb hX hbl hbA hS0 (vp_in_nI (by omega) (by omega)) dL_law_649 ?_
  refine h_top (v := y1) (by rw [nI_clamp (by omega)]; exact hy1) ?_
  refine lv_aload_n hx hb dL_law_650 rfl (lv_at hl 3 rfl) ?_
  refine lv_iload_n hx hb dL_law_651 rfl (lv_at hl 0 rfl) ?_
  refine lv_iconst (v := 2) hx hb dL_law_652 (by decide) ?_
  refine lv_iadd hx hb dL_law_653 ?_
  refine h_top (v := (nI (q + 2))) (nI_add q 2) ?_
  refine va_sld hx hb hX hbl hbA hS0 (vp_in_nI (by omega) (by omega)) dL_law_654 ?_
  refine h_top (v := y2) (by rw [nI_clamp (by omega)]; exact hy2) ?_
  have hT0 : hT G (w_Y (tC (fun v => v = nI k)) x) H0 := hI.2.1
  refine h_callVi (T := TX10) (rest := []) (As := [.int y1, .int y2]) hx hb hml hown hts hK hT0 hZ (fun q hq => (w_Y_A q hq).1) hS0 (c_X10_hops l G (w_Y (tC (fun v => v = nI k)) x) (fun v => v = nI k) (x) (w_Y_w (t := tC (fun v => v = nI k)) (x := x)) y1 y2) trivial wd_X10_hops wV_X10_hops wL_L_74 (on_w0 (w_Y_w (t := tC (fun v => v = nI k)) (x := x))) rfl rfl hl.1 rfl (Nat.le_of_ble_eq_true rfl) dL_law_655 ⟨Nat.le_of_ble_eq_true rfl, Nat.le_of_ble_eq_true rfl⟩ ⟨Nat.le_refl _, Nat.le_refl _⟩ (fun r1 H1 locs hp1 hT1 hS1 hk1 => ?_)
  replace hI := hI.C hT1 hk1
  refine lv_pop hx hb dL_law_658 rfl ?_
  refine lv_aload_n hx hb dL_law_659 rfl (lv_at hl 1 rfl) ?_
  refine lv_aload_n hx hb dL_law_660 rfl (lv_at hl 3 rfl) ?_
  refine lv_iload_n hx hb dL_law_661 rfl (lv_at hl 0 rfl) ?_
  refine lv_iconst (v := 1) hx hb dL_law_662 (by decide) ?_
  refine lv_iadd hx hb dL_law_663 ?_
  refine h_top (v := (nI (q + 1))) (nI_add q 1) ?_
  refine va_sld hx hb hX hbl hbA hS1 (vp_in_nI (by omega) (by omega)) dL_law_664 ?_
  refine h_top (v := y1) (by rw [nI_clamp (by omega)]; exact hy1) ?_
  refine lv_aload_n hx hb dL_law_665 rfl (lv_at hl 3 rfl) ?_
  refine lv_iload_n hx hb dL_law_666 rfl (lv_at hl 0 rfl) ?_
  refine lv_iconst (v := 2) hx hb dL_law_667 (by decide) ?_
  refine lv_iadd hx hb dL_law_668 ?_
  refine h_top (v := (nI (q + 2))) (nI_add q 2) ?_
  refine va_sld hx hb hX hbl hbA hS1 (vp_in_nI (by omega) (by omega)) dL_law_669 ?_
  refine h_top (v := y2) (by rw [nI_clamp (by omega)]; exact hy2) ?_
  have hT1 : hT G (m_Y (tM (fun v => v = nI k)) (x + 169)) H1 := hI.2.2.1
  refine h_callVi (T := TX11) (rest := []) (As := [.int y1, .int y2]) hx hb hml hown hts hK hT1 hZ (fun q hq => Nat.le_trans (Nat.le_add_right x 169) (m_Y_A q hq)) hS1 (c_X11_hops l G (m_Y (tM (fun v => v = nI k)) (x + 169)) (fun v => v = nI k) (x + 169) (m_Y_m (t := tM (fun v => v = nI k)) (m := x + 169)) y1 y2) hI.2.2.2.1 wd_X11_hops wV_X11_hops wL_L_77 ((m_Y_m (t := tM (fun v => v = nI k)) (m := x + 169)).o rfl) rfl rfl hl.1 rfl (Nat.le_of_ble_eq_true rfl) dL_law_670 ⟨Nat.le_of_ble_eq_true rfl, Nat.le_of_ble_eq_true rfl⟩ ⟨Nat.le_refl _, Nat.le_refl _⟩ (fun r2 H2 locs hp2 hT2 hS2 hk2 => ?_)
  obtain ⟨hp2, hB2⟩ := hp2
  replace hI := hI.M hT2 hB2.1 hB2.2 hk2
  refine lv_pop hx hb dL_law_673 rfl ?_
  refine lv_goto (tgt := 1273) hx hb dL_law_674 (by decide) ?_
  exact htail _ _ _ _ hI hS2 (lv_sub hl [0, 1, 2, 3] rfl)
set_option maxHeartbeats 4000000 in
set_option maxRecDepth 100000 in
theorem law_case_15 {p : Program} {l : Launch} {e : Env} {s : State} {m : MethodId} {below : List Frame} {meth : Method} {c : Code} {b x L q k : Nat} {xs : Nat → Int32} {G : hG} {H0 : Heap} {locs : List Loc} {ls : Array Slot} (hx : p.tables.exec = Jvm.exec) (hb : c.code = code) (hts : ∀ w ∈ wsL_law, w.before #[Value.ref b] s = true) (hown : s.vm.findClass RL = some m.cls) (hml : c.maxLocals = 4) (hK : h_K G s) (hZ : h_Z G (fun q => x ≤ q) s) (hX : va_X b L xs s s.heap) (hbl : b < s.heap.size) (hbA : ¬ x ≤ b) (htail : ∀ (k : Nat) (H : Heap) (locs : List Loc) (ls : Array Slot), lwI G x k H → va_S (fun q => x ≤ q) s.heap H locs → lv_has ls 4 [(3, .int (nI q)), (2, .ref (x + 169)), (1, .ref (x)), (0, .ref b)] → W p l e room_1 s m #[Value.ref b] below meth c H locs 600000 7302250 (lw_Z below #[Value.ref b] s) (F0 m 1273 ls [])) (hq : q + 6 ≤ L) (hL : L ≤ 3072) (hI : lwI G x k H0) (hS0 : va_S (fun q => x ≤ q) s.heap H0 locs) (hl : lv_has ls 4 [(3, .int (nI q)), (2, .ref (x + 169)), (1, .ref (x)), (0, .ref b)]) : W p l e room_1 s m #[Value.ref b] below meth c H0 locs 600000 7302250 (lw_Z below #[Value.ref b] s) (F0 m 677 ls []) := by
  obtain ⟨y1, hy1⟩ : ∃ y, xs (q + 1) = y := ⟨_, rfl⟩
  obtain ⟨y2, hy2⟩ : ∃ y, xs (q + 2) = y := ⟨_, rfl⟩
  obtain ⟨y3, hy3⟩ : ∃ y, xs (q + 3) = y := ⟨_, rfl⟩
  obtain ⟨y4, hy4⟩ : ∃ y, xs (q + 4) = y := ⟨_, rfl⟩
  obtain ⟨y5, hy5⟩ : ∃ y, xs (q + 5) = y := ⟨_, rfl⟩
  refine lv_aload_n hx hb dL_law_677 rfl (lv_at hl 2 rfl) ?_
  have hT0 : hT G (w_Y (tC (fun v => v = nI k)) x) H0 := hI.2.1
  refine h_callVi (T := TX10) (rest := []) (As := []) hx hb hml hown hts hK hT0 hZ (fun q hq => (w_Y_A q hq).1) hS0 (c_X10_heir l G (w_Y (tC (fun v => v = nI k)) x) (fun v => v = nI k) (x) (w_Y_w (t := tC (fun v => v = nI k)) (x := x))) trivial wd_X10_heir wV_X10_heir wL_L_78 (on_w0 (w_Y_w (t := tC (fun v => v = nI k)) (x := x))) rfl rfl hl.1 rfl (Nat.le_of_ble_eq_true rfl) dL_law_678 ⟨Nat.le_of_ble_eq_true rfl, Nat.le_of_ble_eq_true rfl⟩ ⟨Nat.le_refl _, Nat.le_refl _⟩ (fun r1 H1 locs hp1 hT1 hS1 hk1 => ?_)
  replace hI := hI.C hT1 hk1
  refine lv_pop hx hb dL_law_681 rfl ?_
  refine lv_aload_n hx hb dL_law_682 rfl (lv_at hl 1 rfl) ?_
  have hT1 : hT G (m_Y (tM (fun v => v = nI k)) (x + 169)) H1 := hI.2.2.1
  refine h_callVi (T := TX11) (rest := []) (As := []) hx hb hml hown hts hK hT1 hZ (fun q hq => Nat.le_trans (Nat.le_add_right x 169) (m_Y_A q hq)) hS1 (c_X11_heir l G (m_Y (tM (fun v => v = nI k)) (x + 169)) (fun v => v = nI k) (x + 169) (m_Y_m (t := tM (fun v => v = nI k)) (m := x + 169))) hI.2.2.2.1 wd_X11_heir wV_X11_heir wL_L_81 ((m_Y_m (t := tM (fun v => v = nI k)) (m := x + 169)).o rfl) rfl rfl hl.1 rfl (Nat.le_of_ble_eq_true rfl) dL_law_683 ⟨Nat.le_of_ble_eq_true rfl, Nat.le_of_ble_eq_true rfl⟩ ⟨Nat.le_refl _, Nat.le_refl _⟩ (fun r2 H2 locs hp2 hT2 hS2 hk2 => ?_)
  obtain ⟨hp2, hB2⟩ := hp2
  replace hI := hI.M hT2 hB2.1 hB2.2 hk2
  refine lv_pop hx hb dL_law_686 rfl ?_
  refine lv_goto (tgt := 1273) hx hb dL_law_687 (by decide) ?_
  exact htail _ _ _ _ hI hS2 (lv_sub hl [0, 1, 2, 3] rfl)
set_option maxHeartbeats 4000000 in
set_option maxRecDepth 100000 in
theorem law_case_16 {p : Program} {l : Launch} {e : Env} {s : State} {m : MethodId} {below : List Frame} {meth : Method} {c : Code} {b x L q k : Nat} {xs : Nat → Int32} {G : hG} {H0 : Heap} {locs : List Loc} {ls : Array Slot} (hx : p.tables.exec = Jvm.exec) (hb : c.code = code) (hts : ∀ w ∈ wsL_law, w.before #[Value.ref b] s = true) (hown : s.vm.findClass RL = some m.cls) (hml : c.maxLocals = 4) (hK : h_K G s) (hZ : h_Z G (fun q => x ≤ q) s) (hX : va_X b L xs s s.heap) (hbl : b < s.heap.size) (hbA : ¬ x ≤ b) (htail : ∀ (k : Nat) (H : Heap) (locs : List Loc) (ls : Array Slot), lwI G x k H → va_S (fun q => x ≤ q) s.heap H locs → lv_has ls 4 [(3, .int (nI q)), (2, .ref (x + 169)), (1, .ref (x)), (0, .ref b)] → W p l e room_1 s m #[Value.ref b] below meth c H locs 600000 7302250 (lw_Z below #[Value.ref b] s) (F0 m 1273 ls [])) (hq : q + 6 ≤ L) (hL : L ≤ 3072) (hI : lwI G x k H0) (hS0 : va_S (fun q => x ≤ q) s.heap H0 locs) (hl : lv_has ls 4 [(3, .int (nI q)), (2, .ref (x + 169)), (1, .ref (x)), (0, .ref b)]) : W p l e room_1 s m #[Value.ref b] below meth c H0 locs 600000 7302250 (lw_Z below #[Value.ref b] s) (F0 m 690 ls []) := by
  obtain ⟨y1, hy1⟩ : ∃ y, xs (q + 1) = y := ⟨_, rfl⟩
  obtain ⟨y2, hy2⟩ : ∃ y, xs (q + 2) = y := ⟨_, rfl⟩
  obtain ⟨y3, hy3⟩ : ∃ y, xs (q + 3) = y := ⟨_, rfl⟩
  obtain ⟨y4, hy4⟩ : ∃ y, xs (q + 4) = y := ⟨_, rfl⟩
  obtain ⟨y5, hy5⟩ : ∃ y, xs (q + 5) = y := ⟨_, rfl⟩
  refine lv_aload_n hx hb dL_law_690 rfl (lv_at hl 2 rfl) ?_
  refine lv_aload_n hx hb dL_law_691 rfl (lv_at hl 3 rfl) ?_
  refine lv_iload_n hx hb dL_law_692 rfl (lv_at hl 0 rfl) ?_
  refine lv_iconst (v := 1) hx hb dL_law_693 (by decide) ?_
  refine lv_iadd hx hb dL_law_694 ?_
  refine h_top (v := (nI (q + 1))) (nI_add q 1) ?_
  refine va_sld hx hb hX hbl hbA hS0 (vp_in_nI (by omega) (by omega)) dL_law_695 ?_
  refine h_top (v := y1) (by rw [nI_clamp (by omega)]; exact hy1) ?_
  have hT0 : hT G (w_Y (tC (fun v => v = nI k)) x) H0 := hI.2.1
  refine h_callVi (T := TX10) (rest := []) (As := [.int y1]) hx hb hml hown hts hK hT0 hZ (fun q hq => (w_Y_A q hq).1) hS0 (c_X10_add l G (w_Y (tC (fun v => v = nI k)) x) (fun v => v = nI k) (x) (w_Y_w (t := tC (fun v => v = nI k)) (x := x)) y1) trivial wd_X10_add wV_X10_add wL_L_82 (on_w0 (w_Y_w (t := tC (fun v => v = nI k)) (x := x))) rfl rfl hl.1 rfl (Nat.le_of_ble_eq_true rfl) dL_law_696 ⟨Nat.le_of_ble_eq_true rfl, Nat.le_of_ble_eq_true rfl⟩ ⟨Nat.le_refl _, Nat.le_refl _⟩ (fun r1 H1 locs hp1 hT1 hS1 hk1 => ?_)
  replace hI := hI.C hT1 hk1
  refine lv_pop hx hb dL_law_699 rfl ?_
  refine lv_aload_n hx hb dL_law_700 rfl (lv_at hl 1 rfl) ?_
  refine lv_aload_n hx hb dL_law_701 rfl (lv_at hl 3 rfl) ?_
  refine lv_iload_n hx hb dL_law_702 rfl (lv_at hl 0 rfl) ?_
  refine lv_iconst (v := 1) hx hb dL_law_703 (by decide) ?_
  refine lv_iadd hx hb dL_law_704 ?_
  refine h_top (v := (nI (q + 1))) (nI_add q 1) ?_
  refine va_sld hx hb hX hbl hbA hS1 (vp_in_nI (by omega) (by omega)) dL_law_705 ?_
  refine h_top (v := y1) (by rw [nI_clamp (by omega)]; exact hy1) ?_
  have hT1 : hT G (m_Y (tM (fun v => v = nI k)) (x + 169)) H1 := hI.2.2.1
  refine h_callVi (T := TX11) (rest := []) (As := [.int y1]) hx hb hml hown hts hK hT1 hZ (fun q hq => Nat.le_trans (Nat.le_add_right x 169) (m_Y_A q hq)) hS1 (c_X11_add l G (m_Y (tM (fun v => v = nI k)) (x + 169)) (fun v => v = nI k) (x + 169) (m_Y_m (t := tM (fun v => v = nI k)) (m := x + 169)) y1) hI.2.2.2.1 wd_X11_add wV_X11_add wL_L_85 ((m_Y_m (t := tM (fun v => v = nI k)) (m := x + 169)).o rfl) rfl rfl hl.1 rfl (Nat.le_of_ble_eq_true rfl) dL_law_706 ⟨Nat.le_of_ble_eq_true rfl, Nat.le_of_ble_eq_true rfl⟩ ⟨Nat.le_refl _, Nat.le_refl _⟩ (fun r2 H2 locs hp2 hT2 hS2 hk2 => ?_)
  obtain ⟨hp2, hB2⟩ := hp2
  replace hI := hI.M hT2 hB2.1 hB2.2 hk2
  refine lv_pop hx hb dL_law_709 rfl ?_
  refine lv_goto (tgt := 1273) hx hb dL_law_710 (by decide) ?_
  exact htail _ _ _ _ hI hS2 (lv_sub hl [0, 1, 2, 3] rfl)
set_option maxHeartbeats 4000000 in
set_option maxRecDepth 100000 in
theorem law_case_17 {p : Program} {l : Launch} {e : Env} {s : State} {m : MethodId} {below : List Frame} {meth : Method} {c : Code} {b x L q k : Nat} {xs : Nat → Int32} {G : hG} {H0 : Heap} {locs : List Loc} {ls : Array Slot} (hx : p.tables.exec = Jvm.exec) (hb : c.code = code) (hts : ∀ w ∈ wsL_law, w.before #[Value.ref b] s = true) (hown : s.vm.findClass RL = some m.cls) (hml : c.maxLocals = 4) (hK : h_K G s) (hZ : h_Z G (fun q => x ≤ q) s) (hX : va_X b L xs s s.heap) (hbl : b < s.heap.size) (hbA : ¬ x ≤ b) (htail : ∀ (k : Nat) (H : Heap) (locs : List Loc) (ls : Array Slot), lwI G x k H → va_S (fun q => x ≤ q) s.heap H locs → lv_has ls 4 [(3, .int (nI q)), (2, .ref (x + 169)), (1, .ref (x)), (0, .ref b)] → W p l e room_1 s m #[Value.ref b] below meth c H locs 600000 7302250 (lw_Z below #[Value.ref b] s) (F0 m 1273 ls [])) (hq : q + 6 ≤ L) (hL : L ≤ 3072) (hI : lwI G x k H0) (hS0 : va_S (fun q => x ≤ q) s.heap H0 locs) (hl : lv_has ls 4 [(3, .int (nI q)), (2, .ref (x + 169)), (1, .ref (x)), (0, .ref b)]) : W p l e room_1 s m #[Value.ref b] below meth c H0 locs 600000 7302250 (lw_Z below #[Value.ref b] s) (F0 m 713 ls []) := by
  obtain ⟨y1, hy1⟩ : ∃ y, xs (q + 1) = y := ⟨_, rfl⟩
  obtain ⟨y2, hy2⟩ : ∃ y, xs (q + 2) = y := ⟨_, rfl⟩
  obtain ⟨y3, hy3⟩ : ∃ y, xs (q + 3) = y := ⟨_, rfl⟩
  obtain ⟨y4, hy4⟩ : ∃ y, xs (q + 4) = y := ⟨_, rfl⟩
  obtain ⟨y5, hy5⟩ : ∃ y, xs (q + 5) = y := ⟨_, rfl⟩
  refine lv_aload_n hx hb dL_law_713 rfl (lv_at hl 2 rfl) ?_
  refine lv_aload_n hx hb dL_law_714 rfl (lv_at hl 3 rfl) ?_
  refine lv_iload_n hx hb dL_law_715 rfl (lv_at hl 0 rfl) ?_
  refine lv_iconst (v := 1) hx hb dL_law_716 (by decide) ?_
  refine lv_iadd hx hb dL_law_717 ?_
  refine h_top (v := (nI (q + 1))) (nI_add q 1) ?_
  refine va_sld hx hb hX hbl hbA hS0 (vp_in_nI (by omega) (by omega)) dL_law_718 ?_
  refine h_top (v := y1) (by rw [nI_clamp (by omega)]; exact hy1) ?_
  refine lv_aload_n hx hb dL_law_719 rfl (lv_at hl 3 rfl) ?_
  refine lv_iload_n hx hb dL_law_720 rfl (lv_at hl 0 rfl) ?_
  refine lv_iconst (v := 2) hx hb dL_law_721 (by decide) ?_
  refine lv_iadd hx hb dL_law_722 ?_
  refine h_top (v := (nI (q + 2))) (nI_add q 2) ?_
  refine va_sld hx hb hX hbl hbA hS0 (vp_in_nI (by omega) (by omega)) dL_law_723 ?_
  refine h_top (v := y2) (by rw [nI_clamp (by omega)]; exact hy2) ?_
  refine lv_aload_n hx hb dL_law_724 rfl (lv_at hl 3 rfl) ?_
  refine lv_iload_n hx hb dL_law_725 rfl (lv_at hl 0 rfl) ?_
  refine lv_iconst (v := 3) hx hb dL_law_726 (by decide) ?_
  refine lv_iadd hx hb dL_law_727 ?_
  refine h_top (v := (nI (q + 3))) (nI_add q 3) ?_
  refine va_sld hx hb hX hbl hbA hS0 (vp_in_nI (by omega) (by omega)) dL_law_728 ?_
  refine h_top (v := y3) (by rw [nI_clamp (by omega)]; exact hy3) ?_
  have hT0 : hT G (w_Y (tC (fun v => v = nI k)) x) H0 := hI.2.1
  refine h_callVi (T := TX10) (rest := []) (As := [.int y1, .int y2, .int y3]) hx hb hml hown hts hK hT0 hZ (fun q hq => (w_Y_A q hq).1) hS0 (c_X10_send l G (w_Y (tC (fun v => v = nI k)) x) (fun v => v = nI k) (x) (w_Y_w (t := tC (fun v => v = nI k)) (x := x)) y1 y2 y3) trivial wd_X10_send wV_X10_send wL_L_86 (on_w0 (w_Y_w (t := tC (fun v => v = nI k)) (x := x))) rfl rfl hl.1 rfl (Nat.le_of_ble_eq_true rfl) dL_law_729 ⟨Nat.le_of_ble_eq_true rfl, Nat.le_of_ble_eq_true rfl⟩ ⟨Nat.le_refl _, Nat.le_refl _⟩ (fun r1 H1 locs hp1 hT1 hS1 hk1 => ?_)
  replace hI := hI.C hT1 hk1
  refine lv_pop hx hb dL_law_732 rfl ?_
  refine lv_aload_n hx hb dL_law_733 rfl (lv_at hl 1 rfl) ?_
  refine lv_aload_n hx hb dL_law_734 rfl (lv_at hl 3 rfl) ?_
  refine lv_iload_n hx hb dL_law_735 rfl (lv_at hl 0 rfl) ?_
  refine lv_iconst (v := 1) hx hb dL_law_736 (by decide) ?_
  refine lv_iadd hx hb dL_law_737 ?_
  refine h_top (v := (nI (q + 1))) (nI_add q 1) ?_
  refine va_sld hx hb hX hbl hbA hS1 (vp_in_nI (by omega) (by omega)) dL_law_738 ?_
  refine h_top (v := y1) (by rw [nI_clamp (by omega)]; exact hy1) ?_
  refine lv_aload_n hx hb dL_law_739 rfl (lv_at hl 3 rfl) ?_
  refine lv_iload_n hx hb dL_law_740 rfl (lv_at hl 0 rfl) ?_
  refine lv_iconst (v := 2) hx hb dL_law_741 (by decide) ?_
  refine lv_iadd hx hb dL_law_742 ?_
  refine h_top (v := (nI (q + 2))) (nI_add q 2) ?_
  refine va_sld hx hb hX hbl hbA hS1 (vp_in_nI (by omega) (by omega)) dL_law_743 ?_
  refine h_top (v := y2) (by rw [nI_clamp (by omega)]; exact hy2) ?_
  refine lv_aload_n hx hb dL_law_744 rfl (lv_at hl 3 rfl) ?_
  refine lv_iload_n hx hb dL_law_745 rfl (lv_at hl 0 rfl) ?_
  refine lv_iconst (v := 3) hx hb dL_law_746 (by decide) ?_
  refine lv_iadd hx hb dL_law_747 ?_
  refine h_top (v := (nI (q + 3))) (nI_add q 3) ?_
  refine va_sld hx hb hX hbl hbA hS1 (vp_in_nI (by omega) (by omega)) dL_law_748 ?_
  refine h_top (v := y3) (by rw [nI_clamp (by omega)]; exact hy3) ?_
  have hT1 : hT G (m_Y (tM (fun v => v = nI k)) (x + 169)) H1 := hI.2.2.1
  refine h_callVi (T := TX11) (rest := []) (As := [.int y1, .int y2, .int y3]) hx hb hml hown hts hK hT1 hZ (fun q hq => Nat.le_trans (Nat.le_add_right x 169) (m_Y_A q hq)) hS1 (c_X11_send l G (m_Y (tM (fun v => v = nI k)) (x + 169)) (fun v => v = nI k) (x + 169) (m_Y_m (t := tM (fun v => v = nI k)) (m := x + 169)) y1 y2 y3) hI.2.2.2.1 wd_X11_send wV_X11_send wL_L_89 ((m_Y_m (t := tM (fun v => v = nI k)) (m := x + 169)).o rfl) rfl rfl hl.1 rfl (Nat.le_of_ble_eq_true rfl) dL_law_749 ⟨Nat.le_of_ble_eq_true rfl, Nat.le_of_ble_eq_true rfl⟩ ⟨Nat.le_refl _, Nat.le_refl _⟩ (fun r2 H2 locs hp2 hT2 hS2 hk2 => ?_)
  obtain ⟨hp2, hB2⟩ := hp2
  replace hI := hI.M hT2 hB2.1 hB2.2 hk2
  refine lv_pop hx hb dL_law_752 rfl ?_
  refine lv_goto (tgt := 1273) hx hb dL_law_753 (by decide) ?_
  exact htail _ _ _ _ hI hS2 (lv_sub hl [0, 1, 2, 3] rfl)
set_option maxHeartbeats 4000000 in
set_option maxRecDepth 100000 in
theorem law_case_18 {p : Program} {l : Launch} {e : Env} {s : State} {m : MethodId} {below : List Frame} {meth : Method} {c : Code} {b x L q k : Nat} {xs : Nat → Int32} {G : hG} {H0 : Heap} {locs : List Loc} {ls : Array Slot} (hx : p.tables.exec = Jvm.exec) (hb : c.code = code) (hts : ∀ w ∈ wsL_law, w.before #[Value.ref b] s = true) (hown : s.vm.findClass RL = some m.cls) (hml : c.maxLocals = 4) (hK : h_K G s) (hZ : h_Z G (fun q => x ≤ q) s) (hX : va_X b L xs s s.heap) (hbl : b < s.heap.size) (hbA : ¬ x ≤ b) (htail : ∀ (k : Nat) (H : Heap) (locs : List Loc) (ls : Array Slot), lwI G x k H → va_S (fun q => x ≤ q) s.heap H locs → lv_has ls 4 [(3, .int (nI q)), (2, .ref (x + 169)), (1, .ref (x)), (0, .ref b)] → W p l e room_1 s m #[Value.ref b] below meth c H locs 600000 7302250 (lw_Z below #[Value.ref b] s) (F0 m 1273 ls [])) (hq : q + 6 ≤ L) (hL : L ≤ 3072) (hI : lwI G x k H0) (hS0 : va_S (fun q => x ≤ q) s.heap H0 locs) (hl : lv_has ls 4 [(3, .int (nI q)), (2, .ref (x + 169)), (1, .ref (x)), (0, .ref b)]) : W p l e room_1 s m #[Value.ref b] below meth c H0 locs 600000 7302250 (lw_Z below #[Value.ref b] s) (F0 m 756 ls []) := by
  obtain ⟨y1, hy1⟩ : ∃ y, xs (q + 1) = y := ⟨_, rfl⟩
  obtain ⟨y2, hy2⟩ : ∃ y, xs (q + 2) = y := ⟨_, rfl⟩
  obtain ⟨y3, hy3⟩ : ∃ y, xs (q + 3) = y := ⟨_, rfl⟩
  obtain ⟨y4, hy4⟩ : ∃ y, xs (q + 4) = y := ⟨_, rfl⟩
  obtain ⟨y5, hy5⟩ : ∃ y, xs (q + 5) = y := ⟨_, rfl⟩
  refine lv_aload_n hx hb dL_law_756 rfl (lv_at hl 2 rfl) ?_
  refine lv_aload_n hx hb dL_law_757 rfl (lv_at hl 3 rfl) ?_
  refine lv_iload_n hx hb dL_law_758 rfl (lv_at hl 0 rfl) ?_
  refine lv_iconst (v := 1) hx hb dL_law_759 (by decide) ?_
  refine lv_iadd hx hb dL_law_760 ?_
  refine h_top (v := (nI (q + 1))) (nI_add q 1) ?_
  refine va_sld hx hb hX hbl hbA hS0 (vp_in_nI (by omega) (by omega)) dL_law_761 ?_
  refine h_top (v := y1) (by rw [nI_clamp (by omega)]; exact hy1) ?_
  have hT0 : hT G (w_Y (tC (fun v => v = nI k)) x) H0 := hI.2.1
  refine h_callVi (T := TX10) (rest := []) (As := [.int y1]) hx hb hml hown hts hK hT0 hZ (fun q hq => (w_Y_A q hq).1) hS0 (c_X10_take l G (w_Y (tC (fun v => v = nI k)) x) (fun v => v = nI k) (x) (w_Y_w (t := tC (fun v => v = nI k)) (x := x)) y1) trivial wd_X10_take wV_X10_take wL_L_90 (on_w0 (w_Y_w (t := tC (fun v => v = nI k)) (x := x))) rfl rfl hl.1 rfl (Nat.le_of_ble_eq_true rfl) dL_law_762 ⟨Nat.le_of_ble_eq_true rfl, Nat.le_of_ble_eq_true rfl⟩ ⟨Nat.le_refl _, Nat.le_refl _⟩ (fun r1 H1 locs hp1 hT1 hS1 hk1 => ?_)
  replace hI := hI.C hT1 hk1
  refine lv_pop hx hb dL_law_765 rfl ?_
  refine lv_aload_n hx hb dL_law_766 rfl (lv_at hl 1 rfl) ?_
  refine lv_aload_n hx hb dL_law_767 rfl (lv_at hl 3 rfl) ?_
  refine lv_iload_n hx hb dL_law_768 rfl (lv_at hl 0 rfl) ?_
  refine lv_iconst (v := 1) hx hb dL_law_769 (by decide) ?_
  refine lv_iadd hx hb dL_law_770 ?_
  refine h_top (v := (nI (q + 1))) (nI_add q 1) ?_
  refine va_sld hx hb hX hbl hbA hS1 (vp_in_nI (by omega) (by omega)) dL_law_771 ?_
  refine h_top (v := y1) (by rw [nI_clamp (by omega)]; exact hy1) ?_
  have hT1 : hT G (m_Y (tM (fun v => v = nI k)) (x + 169)) H1 := hI.2.2.1
  refine h_callVi (T := TX11) (rest := []) (As := [.int y1]) hx hb hml hown hts hK hT1 hZ (fun q hq => Nat.le_trans (Nat.le_add_right x 169) (m_Y_A q hq)) hS1 (c_X11_take l G (m_Y (tM (fun v => v = nI k)) (x + 169)) (fun v => v = nI k) (x + 169) (m_Y_m (t := tM (fun v => v = nI k)) (m := x + 169)) y1) hI.2.2.2.1 wd_X11_take wV_X11_take wL_L_93 ((m_Y_m (t := tM (fun v => v = nI k)) (m := x + 169)).o rfl) rfl rfl hl.1 rfl (Nat.le_of_ble_eq_true rfl) dL_law_772 ⟨Nat.le_of_ble_eq_true rfl, Nat.le_of_ble_eq_true rfl⟩ ⟨Nat.le_refl _, Nat.le_refl _⟩ (fun r2 H2 locs hp2 hT2 hS2 hk2 => ?_)
  obtain ⟨hp2, hB2⟩ := hp2
  replace hI := hI.M hT2 hB2.1 hB2.2 hk2
  refine lv_pop hx hb dL_law_775 rfl ?_
  refine lv_goto (tgt := 1273) hx hb dL_law_776 (by decide) ?_
  exact htail _ _ _ _ hI hS2 (lv_sub hl [0, 1, 2, 3] rfl)
set_option maxHeartbeats 4000000 in
set_option maxRecDepth 100000 in
theorem law_case_19 {p : Program} {l : Launch} {e : Env} {s : State} {m : MethodId} {below : List Frame} {meth : Method} {c : Code} {b x L q k : Nat} {xs : Nat → Int32} {G : hG} {H0 : Heap} {locs : List Loc} {ls : Array Slot} (hx : p.tables.exec = Jvm.exec) (hb : c.code = code) (hts : ∀ w ∈ wsL_law, w.before #[Value.ref b] s = true) (hown : s.vm.findClass RL = some m.cls) (hml : c.maxLocals = 4) (hK : h_K G s) (hZ : h_Z G (fun q => x ≤ q) s) (hX : va_X b L xs s s.heap) (hbl : b < s.heap.size) (hbA : ¬ x ≤ b) (htail : ∀ (k : Nat) (H : Heap) (locs : List Loc) (ls : Array Slot), lwI G x k H → va_S (fun q => x ≤ q) s.heap H locs → lv_has ls 4 [(3, .int (nI q)), (2, .ref (x + 169)), (1, .ref (x)), (0, .ref b)] → W p l e room_1 s m #[Value.ref b] below meth c H locs 600000 7302250 (lw_Z below #[Value.ref b] s) (F0 m 1273 ls [])) (hq : q + 6 ≤ L) (hL : L ≤ 3072) (hI : lwI G x k H0) (hS0 : va_S (fun q => x ≤ q) s.heap H0 locs) (hl : lv_has ls 4 [(3, .int (nI q)), (2, .ref (x + 169)), (1, .ref (x)), (0, .ref b)]) : W p l e room_1 s m #[Value.ref b] below meth c H0 locs 600000 7302250 (lw_Z below #[Value.ref b] s) (F0 m 779 ls []) := by
  obtain ⟨y1, hy1⟩ : ∃ y, xs (q + 1) = y := ⟨_, rfl⟩
  obtain ⟨y2, hy2⟩ : ∃ y, xs (q + 2) = y := ⟨_, rfl⟩
  obtain ⟨y3, hy3⟩ : ∃ y, xs (q + 3) = y := ⟨_, rfl⟩
  obtain ⟨y4, hy4⟩ : ∃ y, xs (q + 4) = y := ⟨_, rfl⟩
  obtain ⟨y5, hy5⟩ : ∃ y, xs (q + 5) = y := ⟨_, rfl⟩
  refine lv_aload_n hx hb dL_law_779 rfl (lv_at hl 2 rfl) ?_
  refine lv_aload_n hx hb dL_law_780 rfl (lv_at hl 3 rfl) ?_
  refine lv_iload_n hx hb dL_law_781 rfl (lv_at hl 0 rfl) ?_
  refine lv_iconst (v := 1) hx hb dL_law_782 (by decide) ?_
  refine lv_iadd hx hb dL_law_783 ?_
  refine h_top (v := (nI (q + 1))) (nI_add q 1) ?_
  refine va_sld hx hb hX hbl hbA hS0 (vp_in_nI (by omega) (by omega)) dL_law_784 ?_
  refine h_top (v := y1) (by rw [nI_clamp (by omega)]; exact hy1) ?_
  refine lv_aload_n hx hb dL_law_785 rfl (lv_at hl 3 rfl) ?_
  refine lv_iload_n hx hb dL_law_786 rfl (lv_at hl 0 rfl) ?_
  refine lv_iconst (v := 2) hx hb dL_law_787 (by decide) ?_
  refine lv_iadd hx hb dL_law_788 ?_
  refine h_top (v := (nI (q + 2))) (nI_add q 2) ?_
  refine va_sld hx hb hX hbl hbA hS0 (vp_in_nI (by omega) (by omega)) dL_law_789 ?_
  refine h_top (v := y2) (by rw [nI_clamp (by omega)]; exact hy2) ?_
  have hT0 : hT G (w_Y (tC (fun v => v = nI k)) x) H0 := hI.2.1
  refine h_callVi (T := TX10) (rest := []) (As := [.int y1, .int y2]) hx hb hml hown hts hK hT0 hZ (fun q hq => (w_Y_A q hq).1) hS0 (c_X10_shed l G (w_Y (tC (fun v => v = nI k)) x) (fun v => v = nI k) (x) (w_Y_w (t := tC (fun v => v = nI k)) (x := x)) y1 y2) trivial wd_X10_shed wV_X10_shed wL_L_94 (on_w0 (w_Y_w (t := tC (fun v => v = nI k)) (x := x))) rfl rfl hl.1 rfl (Nat.le_of_ble_eq_true rfl) dL_law_790 ⟨Nat.le_of_ble_eq_true rfl, Nat.le_of_ble_eq_true rfl⟩ ⟨Nat.le_refl _, Nat.le_refl _⟩ (fun r1 H1 locs hp1 hT1 hS1 hk1 => ?_)
  replace hI := hI.C hT1 hk1
  refine lv_pop hx hb dL_law_793 rfl ?_
  refine lv_aload_n hx hb dL_law_794 rfl (lv_at hl 1 rfl) ?_
  refine lv_aload_n hx hb dL_law_795 rfl (lv_at hl 3 rfl) ?_
  refine lv_iload_n hx hb dL_law_796 rfl (lv_at hl 0 rfl) ?_
  refine lv_iconst (v := 1) hx hb dL_law_797 (by decide) ?_
  refine lv_iadd hx hb dL_law_798 ?_
  refine h_top (v := (nI (q + 1))) (nI_add q 1) ?_
  refine va_sld hx hb hX hbl hbA hS1 (vp_in_nI (by omega) (by omega)) dL_law_799 ?_
  refine h_top (v := y1) (by rw [nI_clamp (by omega)]; exact hy1) ?_
  refine lv_aload_n hx hb dL_law_800 rfl (lv_at hl 3 rfl) ?_
  refine lv_iload_n hx hb dL_law_801 rfl (lv_at hl 0 rfl) ?_
  refine lv_iconst (v := 2) hx hb dL_law_802 (by decide) ?_
  refine lv_iadd hx hb dL_law_803 ?_
  refine h_top (v := (nI (q + 2))) (nI_add q 2) ?_
  refine va_sld hx hb hX hbl hbA hS1 (vp_in_nI (by omega) (by omega)) dL_law_804 ?_
  refine h_top (v := y2) (by rw [nI_clamp (by omega)]; exact hy2) ?_
  have hT1 : hT G (m_Y (tM (fun v => v = nI k)) (x + 169)) H1 := hI.2.2.1
  refine h_callVi (T := TX11) (rest := []) (As := [.int y1, .int y2]) hx hb hml hown hts hK hT1 hZ (fun q hq => Nat.le_trans (Nat.le_add_right x 169) (m_Y_A q hq)) hS1 (c_X11_shed l G (m_Y (tM (fun v => v = nI k)) (x + 169)) (fun v => v = nI k) (x + 169) (m_Y_m (t := tM (fun v => v = nI k)) (m := x + 169)) y1 y2) hI.2.2.2.1 wd_X11_shed wV_X11_shed wL_L_97 ((m_Y_m (t := tM (fun v => v = nI k)) (m := x + 169)).o rfl) rfl rfl hl.1 rfl (Nat.le_of_ble_eq_true rfl) dL_law_805 ⟨Nat.le_of_ble_eq_true rfl, Nat.le_of_ble_eq_true rfl⟩ ⟨Nat.le_refl _, Nat.le_refl _⟩ (fun r2 H2 locs hp2 hT2 hS2 hk2 => ?_)
  obtain ⟨hp2, hB2⟩ := hp2
  replace hI := hI.M hT2 hB2.1 hB2.2 hk2
  refine lv_pop hx hb dL_law_808 rfl ?_
  refine lv_goto (tgt := 1273) hx hb dL_law_809 (by decide) ?_
  exact htail _ _ _ _ hI hS2 (lv_sub hl [0, 1, 2, 3] rfl)
set_option maxHeartbeats 4000000 in
set_option maxRecDepth 100000 in
theorem law_case_20 {p : Program} {l : Launch} {e : Env} {s : State} {m : MethodId} {below : List Frame} {meth : Method} {c : Code} {b x L q k : Nat} {xs : Nat → Int32} {G : hG} {H0 : Heap} {locs : List Loc} {ls : Array Slot} (hx : p.tables.exec = Jvm.exec) (hb : c.code = code) (hts : ∀ w ∈ wsL_law, w.before #[Value.ref b] s = true) (hown : s.vm.findClass RL = some m.cls) (hml : c.maxLocals = 4) (hK : h_K G s) (hZ : h_Z G (fun q => x ≤ q) s) (hX : va_X b L xs s s.heap) (hbl : b < s.heap.size) (hbA : ¬ x ≤ b) (htail : ∀ (k : Nat) (H : Heap) (locs : List Loc) (ls : Array Slot), lwI G x k H → va_S (fun q => x ≤ q) s.heap H locs → lv_has ls 4 [(3, .int (nI q)), (2, .ref (x + 169)), (1, .ref (x)), (0, .ref b)] → W p l e room_1 s m #[Value.ref b] below meth c H locs 600000 7302250 (lw_Z below #[Value.ref b] s) (F0 m 1273 ls [])) (hq : q + 6 ≤ L) (hL : L ≤ 3072) (hI : lwI G x k H0) (hS0 : va_S (fun q => x ≤ q) s.heap H0 locs) (hl : lv_has ls 4 [(3, .int (nI q)), (2, .ref (x + 169)), (1, .ref (x)), (0, .ref b)]) : W p l e room_1 s m #[Value.ref b] below meth c H0 locs 600000 7302250 (lw_Z below #[Value.ref b] s) (F0 m 812 ls []) := by
  obtain ⟨y1, hy1⟩ : ∃ y, xs (q + 1) = y := ⟨_, rfl⟩
  obtain ⟨y2, hy2⟩ : ∃ y, xs (q + 2) = y := ⟨_, rfl⟩
  obtain ⟨y3, hy3⟩ : ∃ y, xs (q + 3) = y := ⟨_, rfl⟩
  obtain ⟨y4, hy4⟩ : ∃ y, xs (q + 4) = y := ⟨_, rfl⟩
  obtain ⟨y5, hy5⟩ : ∃ y, xs (q + 5) = y := ⟨_, rfl⟩
  refine lv_aload_n hx hb dL_law_812 rfl (lv_at hl 2 rfl) ?_
  refine lv_aload_n hx hb dL_law_813 rfl (lv_at hl 3 rfl) ?_
  refine lv_iload_n hx hb dL_law_814 rfl (lv_at hl 0 rfl) ?_
  refine lv_iconst (v := 1) hx hb dL_law_815 (by decide) ?_
  refine lv_iadd hx hb dL_law_816 ?_
  refine h_top (v := (nI (q + 1))) (nI_add q 1) ?_
  refine va_sld hx hb hX hbl hbA hS0 (vp_in_nI (by omega) (by omega)) dL_law_817 ?_
  refine h_top (v := y1) (by rw [nI_clamp (by omega)]; exact hy1) ?_
  have hT0 : hT G (w_Y (tC (fun v => v = nI k)) x) H0 := hI.2.1
  refine h_callVi (T := TX10) (rest := []) (As := [.int y1]) hx hb hml hown hts hK hT0 hZ (fun q hq => (w_Y_A q hq).1) hS0 (c_X10_off l G (w_Y (tC (fun v => v = nI k)) x) (fun v => v = nI k) (x) (w_Y_w (t := tC (fun v => v = nI k)) (x := x)) y1) trivial wd_X10_off wV_X10_off wL_L_98 (on_w0 (w_Y_w (t := tC (fun v => v = nI k)) (x := x))) rfl rfl hl.1 rfl (Nat.le_of_ble_eq_true rfl) dL_law_818 ⟨Nat.le_of_ble_eq_true rfl, Nat.le_of_ble_eq_true rfl⟩ ⟨Nat.le_refl _, Nat.le_refl _⟩ (fun r1 H1 locs hp1 hT1 hS1 hk1 => ?_)
  replace hI := hI.C hT1 hk1
  refine lv_pop hx hb dL_law_821 rfl ?_
  refine lv_aload_n hx hb dL_law_822 rfl (lv_at hl 1 rfl) ?_
  refine lv_aload_n hx hb dL_law_823 rfl (lv_at hl 3 rfl) ?_
  refine lv_iload_n hx hb dL_law_824 rfl (lv_at hl 0 rfl) ?_
  refine lv_iconst (v := 1) hx hb dL_law_825 (by decide) ?_
  refine lv_iadd hx hb dL_law_826 ?_
  refine h_top (v := (nI (q + 1))) (nI_add q 1) ?_
  refine va_sld hx hb hX hbl hbA hS1 (vp_in_nI (by omega) (by omega)) dL_law_827 ?_
  refine h_top (v := y1) (by rw [nI_clamp (by omega)]; exact hy1) ?_
  have hT1 : hT G (m_Y (tM (fun v => v = nI k)) (x + 169)) H1 := hI.2.2.1
  refine h_callVi (T := TX11) (rest := []) (As := [.int y1]) hx hb hml hown hts hK hT1 hZ (fun q hq => Nat.le_trans (Nat.le_add_right x 169) (m_Y_A q hq)) hS1 (c_X11_off l G (m_Y (tM (fun v => v = nI k)) (x + 169)) (fun v => v = nI k) (x + 169) (m_Y_m (t := tM (fun v => v = nI k)) (m := x + 169)) y1) hI.2.2.2.1 wd_X11_off wV_X11_off wL_L_102 ((m_Y_m (t := tM (fun v => v = nI k)) (m := x + 169)).o rfl) rfl rfl hl.1 rfl (Nat.le_of_ble_eq_true rfl) dL_law_828 ⟨Nat.le_of_ble_eq_true rfl, Nat.le_of_ble_eq_true rfl⟩ ⟨Nat.le_refl _, Nat.le_refl _⟩ (fun r2 H2 locs hp2 hT2 hS2 hk2 => ?_)
  obtain ⟨hp2, hB2⟩ := hp2
  replace hI := hI.M hT2 hB2.1 hB2.2 hk2
  refine lv_pop hx hb dL_law_831 rfl ?_
  refine lv_goto (tgt := 1273) hx hb dL_law_832 (by decide) ?_
  exact htail _ _ _ _ hI hS2 (lv_sub hl [0, 1, 2, 3] rfl)
set_option maxHeartbeats 4000000 in
set_option maxRecDepth 100000 in
theorem law_case_21 {p : Program} {l : Launch} {e : Env} {s : State} {m : MethodId} {below : List Frame} {meth : Method} {c : Code} {b x L q k : Nat} {xs : Nat → Int32} {G : hG} {H0 : Heap} {locs : List Loc} {ls : Array Slot} (hx : p.tables.exec = Jvm.exec) (hb : c.code = code) (hts : ∀ w ∈ wsL_law, w.before #[Value.ref b] s = true) (hown : s.vm.findClass RL = some m.cls) (hml : c.maxLocals = 4) (hK : h_K G s) (hZ : h_Z G (fun q => x ≤ q) s) (hX : va_X b L xs s s.heap) (hbl : b < s.heap.size) (hbA : ¬ x ≤ b) (htail : ∀ (k : Nat) (H : Heap) (locs : List Loc) (ls : Array Slot), lwI G x k H → va_S (fun q => x ≤ q) s.heap H locs → lv_has ls 4 [(3, .int (nI q)), (2, .ref (x + 169)), (1, .ref (x)), (0, .ref b)] → W p l e room_1 s m #[Value.ref b] below meth c H locs 600000 7302250 (lw_Z below #[Value.ref b] s) (F0 m 1273 ls [])) (hq : q + 6 ≤ L) (hL : L ≤ 3072) (hI : lwI G x k H0) (hS0 : va_S (fun q => x ≤ q) s.heap H0 locs) (hl : lv_has ls 4 [(3, .int (nI q)), (2, .ref (x + 169)), (1, .ref (x)), (0, .ref b)]) : W p l e room_1 s m #[Value.ref b] below meth c H0 locs 600000 7302250 (lw_Z below #[Value.ref b] s) (F0 m 835 ls []) := by
  obtain ⟨y1, hy1⟩ : ∃ y, xs (q + 1) = y := ⟨_, rfl⟩
  obtain ⟨y2, hy2⟩ : ∃ y, xs (q + 2) = y := ⟨_, rfl⟩
  obtain ⟨y3, hy3⟩ : ∃ y, xs (q + 3) = y := ⟨_, rfl⟩
  obtain ⟨y4, hy4⟩ : ∃ y, xs (q + 4) = y := ⟨_, rfl⟩
  obtain ⟨y5, hy5⟩ : ∃ y, xs (q + 5) = y := ⟨_, rfl⟩
  refine lv_aload_n hx hb dL_law_835 rfl (lv_at hl 2 rfl) ?_
  refine lv_aload_n hx hb dL_law_836 rfl (lv_at hl 3 rfl) ?_
  refine lv_iload_n hx hb dL_law_837 rfl (lv_at hl 0 rfl) ?_
  refine lv_iconst (v := 1) hx hb dL_law_838 (by decide) ?_
  refine lv_iadd hx hb dL_law_839 ?_
  refine h_top (v := (nI (q + 1))) (nI_add q 1) ?_
  refine va_sld hx hb hX hbl hbA hS0 (vp_in_nI (by omega) (by omega)) dL_law_840 ?_
  refine h_top (v := y1) (by rw [nI_clamp (by omega)]; exact hy1) ?_
  have hT0 : hT G (w_Y (tC (fun v => v = nI k)) x) H0 := hI.2.1
  refine h_callVi (T := TX10) (rest := []) (As := [.int y1]) hx hb hml hown hts hK hT0 hZ (fun q hq => (w_Y_A q hq).1) hS0 (c_X10_on l G (w_Y (tC (fun v => v = nI k)) x) (fun v => v = nI k) (x) (w_Y_w (t := tC (fun v => v = nI k)) (x := x)) y1) trivial wd_X10_on wV_X10_on wL_L_103 (on_w0 (w_Y_w (t := tC (fun v => v = nI k)) (x := x))) rfl rfl hl.1 rfl (Nat.le_of_ble_eq_true rfl) dL_law_841 ⟨Nat.le_of_ble_eq_true rfl, Nat.le_of_ble_eq_true rfl⟩ ⟨Nat.le_refl _, Nat.le_refl _⟩ (fun r1 H1 locs hp1 hT1 hS1 hk1 => ?_)
  replace hI := hI.C hT1 hk1
  refine lv_pop hx hb dL_law_844 rfl ?_
  refine lv_aload_n hx hb dL_law_845 rfl (lv_at hl 1 rfl) ?_
  refine lv_aload_n hx hb dL_law_846 rfl (lv_at hl 3 rfl) ?_
  refine lv_iload_n hx hb dL_law_847 rfl (lv_at hl 0 rfl) ?_
  refine lv_iconst (v := 1) hx hb dL_law_848 (by decide) ?_
  refine lv_iadd hx hb dL_law_849 ?_
  refine h_top (v := (nI (q + 1))) (nI_add q 1) ?_
  refine va_sld hx hb hX hbl hbA hS1 (vp_in_nI (by omega) (by omega)) dL_law_850 ?_
  refine h_top (v := y1) (by rw [nI_clamp (by omega)]; exact hy1) ?_
  have hT1 : hT G (m_Y (tM (fun v => v = nI k)) (x + 169)) H1 := hI.2.2.1
  refine h_callVi (T := TX11) (rest := []) (As := [.int y1]) hx hb hml hown hts hK hT1 hZ (fun q hq => Nat.le_trans (Nat.le_add_right x 169) (m_Y_A q hq)) hS1 (c_X11_on l G (m_Y (tM (fun v => v = nI k)) (x + 169)) (fun v => v = nI k) (x + 169) (m_Y_m (t := tM (fun v => v = nI k)) (m := x + 169)) y1) hI.2.2.2.1 wd_X11_on wV_X11_on wL_L_106 ((m_Y_m (t := tM (fun v => v = nI k)) (m := x + 169)).o rfl) rfl rfl hl.1 rfl (Nat.le_of_ble_eq_true rfl) dL_law_851 ⟨Nat.le_of_ble_eq_true rfl, Nat.le_of_ble_eq_true rfl⟩ ⟨Nat.le_refl _, Nat.le_refl _⟩ (fun r2 H2 locs hp2 hT2 hS2 hk2 => ?_)
  obtain ⟨hp2, hB2⟩ := hp2
  replace hI := hI.M hT2 hB2.1 hB2.2 hk2
  refine lv_pop hx hb dL_law_854 rfl ?_
  refine lv_goto (tgt := 1273) hx hb dL_law_855 (by decide) ?_
  exact htail _ _ _ _ hI hS2 (lv_sub hl [0, 1, 2, 3] rfl)
set_option maxHeartbeats 4000000 in
set_option maxRecDepth 100000 in
theorem law_case_22 {p : Program} {l : Launch} {e : Env} {s : State} {m : MethodId} {below : List Frame} {meth : Method} {c : Code} {b x L q k : Nat} {xs : Nat → Int32} {G : hG} {H0 : Heap} {locs : List Loc} {ls : Array Slot} (hx : p.tables.exec = Jvm.exec) (hb : c.code = code) (hts : ∀ w ∈ wsL_law, w.before #[Value.ref b] s = true) (hown : s.vm.findClass RL = some m.cls) (hml : c.maxLocals = 4) (hK : h_K G s) (hZ : h_Z G (fun q => x ≤ q) s) (hX : va_X b L xs s s.heap) (hbl : b < s.heap.size) (hbA : ¬ x ≤ b) (htail : ∀ (k : Nat) (H : Heap) (locs : List Loc) (ls : Array Slot), lwI G x k H → va_S (fun q => x ≤ q) s.heap H locs → lv_has ls 4 [(3, .int (nI q)), (2, .ref (x + 169)), (1, .ref (x)), (0, .ref b)] → W p l e room_1 s m #[Value.ref b] below meth c H locs 600000 7302250 (lw_Z below #[Value.ref b] s) (F0 m 1273 ls [])) (hq : q + 6 ≤ L) (hL : L ≤ 3072) (hI : lwI G x k H0) (hS0 : va_S (fun q => x ≤ q) s.heap H0 locs) (hl : lv_has ls 4 [(3, .int (nI q)), (2, .ref (x + 169)), (1, .ref (x)), (0, .ref b)]) : W p l e room_1 s m #[Value.ref b] below meth c H0 locs 600000 7302250 (lw_Z below #[Value.ref b] s) (F0 m 858 ls []) := by
  obtain ⟨y1, hy1⟩ : ∃ y, xs (q + 1) = y := ⟨_, rfl⟩
  obtain ⟨y2, hy2⟩ : ∃ y, xs (q + 2) = y := ⟨_, rfl⟩
  obtain ⟨y3, hy3⟩ : ∃ y, xs (q + 3) = y := ⟨_, rfl⟩
  obtain ⟨y4, hy4⟩ : ∃ y, xs (q + 4) = y := ⟨_, rfl⟩
  obtain ⟨y5, hy5⟩ : ∃ y, xs (q + 5) = y := ⟨_, rfl⟩
  refine lv_aload_n hx hb dL_law_858 rfl (lv_at hl 2 rfl) ?_
  refine lv_aload_n hx hb dL_law_859 rfl (lv_at hl 3 rfl) ?_
  refine lv_iload_n hx hb dL_law_860 rfl (lv_at hl 0 rfl) ?_
  refine lv_iconst (v := 1) hx hb dL_law_861 (by decide) ?_
  refine lv_iadd hx hb dL_law_862 ?_
  refine h_top (v := (nI (q + 1))) (nI_add q 1) ?_
  refine va_sld hx hb hX hbl hbA hS0 (vp_in_nI (by omega) (by omega)) dL_law_863 ?_
  refine h_top (v := y1) (by rw [nI_clamp (by omega)]; exact hy1) ?_
  have hT0 : hT G (w_Y (tC (fun v => v = nI k)) x) H0 := hI.2.1
  refine h_callVi (T := TX10) (rest := []) (As := [.int y1]) hx hb hml hown hts hK hT0 hZ (fun q hq => (w_Y_A q hq).1) hS0 (c_X10_monitor l G (w_Y (tC (fun v => v = nI k)) x) (fun v => v = nI k) (x) (w_Y_w (t := tC (fun v => v = nI k)) (x := x)) y1) trivial wd_X10_monitor wV_X10_monitor wL_L_107 (on_w0 (w_Y_w (t := tC (fun v => v = nI k)) (x := x))) rfl rfl hl.1 rfl (Nat.le_of_ble_eq_true rfl) dL_law_864 ⟨Nat.le_of_ble_eq_true rfl, Nat.le_of_ble_eq_true rfl⟩ ⟨Nat.le_refl _, Nat.le_refl _⟩ (fun r1 H1 locs hp1 hT1 hS1 hk1 => ?_)
  replace hI := hI.C hT1 hk1
  refine lv_pop hx hb dL_law_867 rfl ?_
  refine lv_aload_n hx hb dL_law_868 rfl (lv_at hl 1 rfl) ?_
  refine lv_aload_n hx hb dL_law_869 rfl (lv_at hl 3 rfl) ?_
  refine lv_iload_n hx hb dL_law_870 rfl (lv_at hl 0 rfl) ?_
  refine lv_iconst (v := 1) hx hb dL_law_871 (by decide) ?_
  refine lv_iadd hx hb dL_law_872 ?_
  refine h_top (v := (nI (q + 1))) (nI_add q 1) ?_
  refine va_sld hx hb hX hbl hbA hS1 (vp_in_nI (by omega) (by omega)) dL_law_873 ?_
  refine h_top (v := y1) (by rw [nI_clamp (by omega)]; exact hy1) ?_
  have hT1 : hT G (m_Y (tM (fun v => v = nI k)) (x + 169)) H1 := hI.2.2.1
  refine h_callVi (T := TX11) (rest := []) (As := [.int y1]) hx hb hml hown hts hK hT1 hZ (fun q hq => Nat.le_trans (Nat.le_add_right x 169) (m_Y_A q hq)) hS1 (c_X11_monitor l G (m_Y (tM (fun v => v = nI k)) (x + 169)) (fun v => v = nI k) (x + 169) (m_Y_m (t := tM (fun v => v = nI k)) (m := x + 169)) y1) hI.2.2.2.1 wd_X11_monitor wV_X11_monitor wL_L_110 ((m_Y_m (t := tM (fun v => v = nI k)) (m := x + 169)).o rfl) rfl rfl hl.1 rfl (Nat.le_of_ble_eq_true rfl) dL_law_874 ⟨Nat.le_of_ble_eq_true rfl, Nat.le_of_ble_eq_true rfl⟩ ⟨Nat.le_refl _, Nat.le_refl _⟩ (fun r2 H2 locs hp2 hT2 hS2 hk2 => ?_)
  obtain ⟨hp2, hB2⟩ := hp2
  replace hI := hI.M hT2 hB2.1 hB2.2 hk2
  refine lv_pop hx hb dL_law_877 rfl ?_
  refine lv_goto (tgt := 1273) hx hb dL_law_878 (by decide) ?_
  exact htail _ _ _ _ hI hS2 (lv_sub hl [0, 1, 2, 3] rfl)
set_option maxHeartbeats 4000000 in
set_option maxRecDepth 100000 in
theorem law_case_23 {p : Program} {l : Launch} {e : Env} {s : State} {m : MethodId} {below : List Frame} {meth : Method} {c : Code} {b x L q k : Nat} {xs : Nat → Int32} {G : hG} {H0 : Heap} {locs : List Loc} {ls : Array Slot} (hx : p.tables.exec = Jvm.exec) (hb : c.code = code) (hts : ∀ w ∈ wsL_law, w.before #[Value.ref b] s = true) (hown : s.vm.findClass RL = some m.cls) (hml : c.maxLocals = 4) (hK : h_K G s) (hZ : h_Z G (fun q => x ≤ q) s) (hX : va_X b L xs s s.heap) (hbl : b < s.heap.size) (hbA : ¬ x ≤ b) (htail : ∀ (k : Nat) (H : Heap) (locs : List Loc) (ls : Array Slot), lwI G x k H → va_S (fun q => x ≤ q) s.heap H locs → lv_has ls 4 [(3, .int (nI q)), (2, .ref (x + 169)), (1, .ref (x)), (0, .ref b)] → W p l e room_1 s m #[Value.ref b] below meth c H locs 600000 7302250 (lw_Z below #[Value.ref b] s) (F0 m 1273 ls [])) (hq : q + 6 ≤ L) (hL : L ≤ 3072) (hI : lwI G x k H0) (hS0 : va_S (fun q => x ≤ q) s.heap H0 locs) (hl : lv_has ls 4 [(3, .int (nI q)), (2, .ref (x + 169)), (1, .ref (x)), (0, .ref b)]) : W p l e room_1 s m #[Value.ref b] below meth c H0 locs 600000 7302250 (lw_Z below #[Value.ref b] s) (F0 m 881 ls []) := by
  obtain ⟨y1, hy1⟩ : ∃ y, xs (q + 1) = y := ⟨_, rfl⟩
  obtain ⟨y2, hy2⟩ : ∃ y, xs (q + 2) = y := ⟨_, rfl⟩
  obtain ⟨y3, hy3⟩ : ∃ y, xs (q + 3) = y := ⟨_, rfl⟩
  obtain ⟨y4, hy4⟩ : ∃ y, xs (q + 4) = y := ⟨_, rfl⟩
  obtain ⟨y5, hy5⟩ : ∃ y, xs (q + 5) = y := ⟨_, rfl⟩
  refine lv_aload_n hx hb dL_law_881 rfl (lv_at hl 2 rfl) ?_
  have hT0 : hT G (w_Y (tC (fun v => v = nI k)) x) H0 := hI.2.1
  refine h_callVi (T := TX10) (rest := []) (As := []) hx hb hml hown hts hK hT0 hZ (fun q hq => (w_Y_A q hq).1) hS0 (c_X10_lose l G (w_Y (tC (fun v => v = nI k)) x) (fun v => v = nI k) (x) (w_Y_w (t := tC (fun v => v = nI k)) (x := x))) trivial wd_X10_lose wV_X10_lose wL_L_111 (on_w0 (w_Y_w (t := tC (fun v => v = nI k)) (x := x))) rfl rfl hl.1 rfl (Nat.le_of_ble_eq_true rfl) dL_law_882 ⟨Nat.le_of_ble_eq_true rfl, Nat.le_of_ble_eq_true rfl⟩ ⟨Nat.le_refl _, Nat.le_refl _⟩ (fun r1 H1 locs hp1 hT1 hS1 hk1 => ?_)
  replace hI := hI.C hT1 hk1
  refine lv_pop hx hb dL_law_885 rfl ?_
  refine lv_aload_n hx hb dL_law_886 rfl (lv_at hl 1 rfl) ?_
  have hT1 : hT G (m_Y (tM (fun v => v = nI k)) (x + 169)) H1 := hI.2.2.1
  refine h_callVi (T := TX11) (rest := []) (As := []) hx hb hml hown hts hK hT1 hZ (fun q hq => Nat.le_trans (Nat.le_add_right x 169) (m_Y_A q hq)) hS1 (c_X11_lose l G (m_Y (tM (fun v => v = nI k)) (x + 169)) (fun v => v = nI k) (x + 169) (m_Y_m (t := tM (fun v => v = nI k)) (m := x + 169))) hI.2.2.2.1 wd_X11_lose wV_X11_lose wL_L_115 ((m_Y_m (t := tM (fun v => v = nI k)) (m := x + 169)).o rfl) rfl rfl hl.1 rfl (Nat.le_of_ble_eq_true rfl) dL_law_887 ⟨Nat.le_of_ble_eq_true rfl, Nat.le_of_ble_eq_true rfl⟩ ⟨Nat.le_refl _, Nat.le_refl _⟩ (fun r2 H2 locs hp2 hT2 hS2 hk2 => ?_)
  obtain ⟨hp2, hB2⟩ := hp2
  replace hI := hI.M hT2 hB2.1 hB2.2 hk2
  refine lv_pop hx hb dL_law_890 rfl ?_
  refine lv_goto (tgt := 1273) hx hb dL_law_891 (by decide) ?_
  exact htail _ _ _ _ hI hS2 (lv_sub hl [0, 1, 2, 3] rfl)
set_option maxHeartbeats 4000000 in
set_option maxRecDepth 100000 in
theorem law_case_24 {p : Program} {l : Launch} {e : Env} {s : State} {m : MethodId} {below : List Frame} {meth : Method} {c : Code} {b x L q k : Nat} {xs : Nat → Int32} {G : hG} {H0 : Heap} {locs : List Loc} {ls : Array Slot} (hx : p.tables.exec = Jvm.exec) (hb : c.code = code) (hts : ∀ w ∈ wsL_law, w.before #[Value.ref b] s = true) (hown : s.vm.findClass RL = some m.cls) (hml : c.maxLocals = 4) (hK : h_K G s) (hZ : h_Z G (fun q => x ≤ q) s) (hX : va_X b L xs s s.heap) (hbl : b < s.heap.size) (hbA : ¬ x ≤ b) (htail : ∀ (k : Nat) (H : Heap) (locs : List Loc) (ls : Array Slot), lwI G x k H → va_S (fun q => x ≤ q) s.heap H locs → lv_has ls 4 [(3, .int (nI q)), (2, .ref (x + 169)), (1, .ref (x)), (0, .ref b)] → W p l e room_1 s m #[Value.ref b] below meth c H locs 600000 7302250 (lw_Z below #[Value.ref b] s) (F0 m 1273 ls [])) (hq : q + 6 ≤ L) (hL : L ≤ 3072) (hI : lwI G x k H0) (hS0 : va_S (fun q => x ≤ q) s.heap H0 locs) (hl : lv_has ls 4 [(3, .int (nI q)), (2, .ref (x + 169)), (1, .ref (x)), (0, .ref b)]) : W p l e room_1 s m #[Value.ref b] below meth c H0 locs 600000 7302250 (lw_Z below #[Value.ref b] s) (F0 m 894 ls []) := by
  obtain ⟨y1, hy1⟩ : ∃ y, xs (q + 1) = y := ⟨_, rfl⟩
  obtain ⟨y2, hy2⟩ : ∃ y, xs (q + 2) = y := ⟨_, rfl⟩
  obtain ⟨y3, hy3⟩ : ∃ y, xs (q + 3) = y := ⟨_, rfl⟩
  obtain ⟨y4, hy4⟩ : ∃ y, xs (q + 4) = y := ⟨_, rfl⟩
  obtain ⟨y5, hy5⟩ : ∃ y, xs (q + 5) = y := ⟨_, rfl⟩
  refine lv_aload_n hx hb dL_law_894 rfl (lv_at hl 2 rfl) ?_
  refine lv_aload_n hx hb dL_law_895 rfl (lv_at hl 3 rfl) ?_
  refine lv_iload_n hx hb dL_law_896 rfl (lv_at hl 0 rfl) ?_
  refine lv_iconst (v := 1) hx hb dL_law_897 (by decide) ?_
  refine lv_iadd hx hb dL_law_898 ?_
  refine h_top (v := (nI (q + 1))) (nI_add q 1) ?_
  refine va_sld hx hb hX hbl hbA hS0 (vp_in_nI (by omega) (by omega)) dL_law_899 ?_
  refine h_top (v := y1) (by rw [nI_clamp (by omega)]; exact hy1) ?_
  refine lv_aload_n hx hb dL_law_900 rfl (lv_at hl 3 rfl) ?_
  refine lv_iload_n hx hb dL_law_901 rfl (lv_at hl 0 rfl) ?_
  refine lv_iconst (v := 2) hx hb dL_law_902 (by decide) ?_
  refine lv_iadd hx hb dL_law_903 ?_
  refine h_top (v := (nI (q + 2))) (nI_add q 2) ?_
  refine va_sld hx hb hX hbl hbA hS0 (vp_in_nI (by omega) (by omega)) dL_law_904 ?_
  refine h_top (v := y2) (by rw [nI_clamp (by omega)]; exact hy2) ?_
  have hT0 : hT G (w_Y (tC (fun v => v = nI k)) x) H0 := hI.2.1
  refine h_callVi (T := TX10) (rest := []) (As := [.int y1, .int y2]) hx hb hml hown hts hK hT0 hZ (fun q hq => (w_Y_A q hq).1) hS0 (c_X10_snap l G (w_Y (tC (fun v => v = nI k)) x) (fun v => v = nI k) (x) (w_Y_w (t := tC (fun v => v = nI k)) (x := x)) y1 y2) trivial wd_X10_snap wV_X10_snap wL_L_116 (on_w0 (w_Y_w (t := tC (fun v => v = nI k)) (x := x))) rfl rfl hl.1 rfl (Nat.le_of_ble_eq_true rfl) dL_law_905 ⟨Nat.le_of_ble_eq_true rfl, Nat.le_of_ble_eq_true rfl⟩ ⟨Nat.le_refl _, Nat.le_refl _⟩ (fun r1 H1 locs hp1 hT1 hS1 hk1 => ?_)
  replace hI := hI.C hT1 hk1
  refine lv_pop hx hb dL_law_908 rfl ?_
  refine lv_aload_n hx hb dL_law_909 rfl (lv_at hl 1 rfl) ?_
  refine lv_aload_n hx hb dL_law_910 rfl (lv_at hl 3 rfl) ?_
  refine lv_iload_n hx hb dL_law_911 rfl (lv_at hl 0 rfl) ?_
  refine lv_iconst (v := 1) hx hb dL_law_912 (by decide) ?_
  refine lv_iadd hx hb dL_law_913 ?_
  refine h_top (v := (nI (q + 1))) (nI_add q 1) ?_
  refine va_sld hx hb hX hbl hbA hS1 (vp_in_nI (by omega) (by omega)) dL_law_914 ?_
  refine h_top (v := y1) (by rw [nI_clamp (by omega)]; exact hy1) ?_
  refine lv_aload_n hx hb dL_law_915 rfl (lv_at hl 3 rfl) ?_
  refine lv_iload_n hx hb dL_law_916 rfl (lv_at hl 0 rfl) ?_
  refine lv_iconst (v := 2) hx hb dL_law_917 (by decide) ?_
  refine lv_iadd hx hb dL_law_918 ?_
  refine h_top (v := (nI (q + 2))) (nI_add q 2) ?_
  refine va_sld hx hb hX hbl hbA hS1 (vp_in_nI (by omega) (by omega)) dL_law_919 ?_
  refine h_top (v := y2) (by rw [nI_clamp (by omega)]; exact hy2) ?_
  have hT1 : hT G (m_Y (tM (fun v => v = nI k)) (x + 169)) H1 := hI.2.2.1
  refine h_callVi (T := TX11) (rest := []) (As := [.int y1, .int y2]) hx hb hml hown hts hK hT1 hZ (fun q hq => Nat.le_trans (Nat.le_add_right x 169) (m_Y_A q hq)) hS1 (c_X11_snap l G (m_Y (tM (fun v => v = nI k)) (x + 169)) (fun v => v = nI k) (x + 169) (m_Y_m (t := tM (fun v => v = nI k)) (m := x + 169)) y1 y2) hI.2.2.2.1 wd_X11_snap wV_X11_snap wL_L_120 ((m_Y_m (t := tM (fun v => v = nI k)) (m := x + 169)).o rfl) rfl rfl hl.1 rfl (Nat.le_of_ble_eq_true rfl) dL_law_920 ⟨Nat.le_of_ble_eq_true rfl, Nat.le_of_ble_eq_true rfl⟩ ⟨Nat.le_refl _, Nat.le_refl _⟩ (fun r2 H2 locs hp2 hT2 hS2 hk2 => ?_)
  obtain ⟨hp2, hB2⟩ := hp2
  replace hI := hI.M hT2 hB2.1 hB2.2 hk2
  refine lv_pop hx hb dL_law_923 rfl ?_
  refine lv_goto (tgt := 1273) hx hb dL_law_924 (by decide) ?_
  exact htail _ _ _ _ hI hS2 (lv_sub hl [0, 1, 2, 3] rfl)
set_option maxHeartbeats 4000000 in
set_option maxRecDepth 100000 in
theorem law_case_25 {p : Program} {l : Launch} {e : Env} {s : State} {m : MethodId} {below : List Frame} {meth : Method} {c : Code} {b x L q k : Nat} {xs : Nat → Int32} {G : hG} {H0 : Heap} {locs : List Loc} {ls : Array Slot} (hx : p.tables.exec = Jvm.exec) (hb : c.code = code) (hts : ∀ w ∈ wsL_law, w.before #[Value.ref b] s = true) (hown : s.vm.findClass RL = some m.cls) (hml : c.maxLocals = 4) (hK : h_K G s) (hZ : h_Z G (fun q => x ≤ q) s) (hX : va_X b L xs s s.heap) (hbl : b < s.heap.size) (hbA : ¬ x ≤ b) (htail : ∀ (k : Nat) (H : Heap) (locs : List Loc) (ls : Array Slot), lwI G x k H → va_S (fun q => x ≤ q) s.heap H locs → lv_has ls 4 [(3, .int (nI q)), (2, .ref (x + 169)), (1, .ref (x)), (0, .ref b)] → W p l e room_1 s m #[Value.ref b] below meth c H locs 600000 7302250 (lw_Z below #[Value.ref b] s) (F0 m 1273 ls [])) (hq : q + 6 ≤ L) (hL : L ≤ 3072) (hI : lwI G x k H0) (hS0 : va_S (fun q => x ≤ q) s.heap H0 locs) (hl : lv_has ls 4 [(3, .int (nI q)), (2, .ref (x + 169)), (1, .ref (x)), (0, .ref b)]) : W p l e room_1 s m #[Value.ref b] below meth c H0 locs 600000 7302250 (lw_Z below #[Value.ref b] s) (F0 m 927 ls []) := by
  obtain ⟨y1, hy1⟩ : ∃ y, xs (q + 1) = y := ⟨_, rfl⟩
  obtain ⟨y2, hy2⟩ : ∃ y, xs (q + 2) = y := ⟨_, rfl⟩
  obtain ⟨y3, hy3⟩ : ∃ y, xs (q + 3) = y := ⟨_, rfl⟩
  obtain ⟨y4, hy4⟩ : ∃ y, xs (q + 4) = y := ⟨_, rfl⟩
  obtain ⟨y5, hy5⟩ : ∃ y, xs (q + 5) = y := ⟨_, rfl⟩
  refine lv_aload_n hx hb dL_law_927 rfl (lv_at hl 2 rfl) ?_
  have hT0 : hT G (w_Y (tC (fun v => v = nI k)) x) H0 := hI.2.1
  refine h_callVi (T := TX10) (rest := []) (As := []) hx hb hml hown hts hK hT0 hZ (fun q hq => (w_Y_A q hq).1) hS0 (c_X10_mend l G (w_Y (tC (fun v => v = nI k)) x) (fun v => v = nI k) (x) (w_Y_w (t := tC (fun v => v = nI k)) (x := x))) trivial wd_X10_mend wV_X10_mend wL_L_121 (on_w0 (w_Y_w (t := tC (fun v => v = nI k)) (x := x))) rfl rfl hl.1 rfl (Nat.le_of_ble_eq_true rfl) dL_law_928 ⟨Nat.le_of_ble_eq_true rfl, Nat.le_of_ble_eq_true rfl⟩ ⟨Nat.le_refl _, Nat.le_refl _⟩ (fun r1 H1 locs hp1 hT1 hS1 hk1 => ?_)
  replace hI := hI.C hT1 hk1
  refine lv_pop hx hb dL_law_931 rfl ?_
  refine lv_aload_n hx hb dL_law_932 rfl (lv_at hl 1 rfl) ?_
  have hT1 : hT G (m_Y (tM (fun v => v = nI k)) (x + 169)) H1 := hI.2.2.1
  refine h_callVi (T := TX11) (rest := []) (As := []) hx hb hml hown hts hK hT1 hZ (fun q hq => Nat.le_trans (Nat.le_add_right x 169) (m_Y_A q hq)) hS1 (c_X11_mend l G (m_Y (tM (fun v => v = nI k)) (x + 169)) (fun v => v = nI k) (x + 169) (m_Y_m (t := tM (fun v => v = nI k)) (m := x + 169))) hI.2.2.2.1 wd_X11_mend wV_X11_mend wL_L_124 ((m_Y_m (t := tM (fun v => v = nI k)) (m := x + 169)).o rfl) rfl rfl hl.1 rfl (Nat.le_of_ble_eq_true rfl) dL_law_933 ⟨Nat.le_of_ble_eq_true rfl, Nat.le_of_ble_eq_true rfl⟩ ⟨Nat.le_refl _, Nat.le_refl _⟩ (fun r2 H2 locs hp2 hT2 hS2 hk2 => ?_)
  obtain ⟨hp2, hB2⟩ := hp2
  replace hI := hI.M hT2 hB2.1 hB2.2 hk2
  refine lv_pop hx hb dL_law_936 rfl ?_
  refine lv_goto (tgt := 1273) hx hb dL_law_937 (by decide) ?_
  exact htail _ _ _ _ hI hS2 (lv_sub hl [0, 1, 2, 3] rfl)
set_option maxHeartbeats 4000000 in
set_option maxRecDepth 100000 in
theorem law_case_26 {p : Program} {l : Launch} {e : Env} {s : State} {m : MethodId} {below : List Frame} {meth : Method} {c : Code} {b x L q k : Nat} {xs : Nat → Int32} {G : hG} {H0 : Heap} {locs : List Loc} {ls : Array Slot} (hx : p.tables.exec = Jvm.exec) (hb : c.code = code) (hts : ∀ w ∈ wsL_law, w.before #[Value.ref b] s = true) (hown : s.vm.findClass RL = some m.cls) (hml : c.maxLocals = 4) (hK : h_K G s) (hZ : h_Z G (fun q => x ≤ q) s) (hX : va_X b L xs s s.heap) (hbl : b < s.heap.size) (hbA : ¬ x ≤ b) (htail : ∀ (k : Nat) (H : Heap) (locs : List Loc) (ls : Array Slot), lwI G x k H → va_S (fun q => x ≤ q) s.heap H locs → lv_has ls 4 [(3, .int (nI q)), (2, .ref (x + 169)), (1, .ref (x)), (0, .ref b)] → W p l e room_1 s m #[Value.ref b] below meth c H locs 600000 7302250 (lw_Z below #[Value.ref b] s) (F0 m 1273 ls [])) (hq : q + 6 ≤ L) (hL : L ≤ 3072) (hI : lwI G x k H0) (hS0 : va_S (fun q => x ≤ q) s.heap H0 locs) (hl : lv_has ls 4 [(3, .int (nI q)), (2, .ref (x + 169)), (1, .ref (x)), (0, .ref b)]) : W p l e room_1 s m #[Value.ref b] below meth c H0 locs 600000 7302250 (lw_Z below #[Value.ref b] s) (F0 m 940 ls []) := by
  obtain ⟨y1, hy1⟩ : ∃ y, xs (q + 1) = y := ⟨_, rfl⟩
  obtain ⟨y2, hy2⟩ : ∃ y, xs (q + 2) = y := ⟨_, rfl⟩
  obtain ⟨y3, hy3⟩ : ∃ y, xs (q + 3) = y := ⟨_, rfl⟩
  obtain ⟨y4, hy4⟩ : ∃ y, xs (q + 4) = y := ⟨_, rfl⟩
  obtain ⟨y5, hy5⟩ : ∃ y, xs (q + 5) = y := ⟨_, rfl⟩
  refine lv_aload_n hx hb dL_law_940 rfl (lv_at hl 2 rfl) ?_
  refine lv_aload_n hx hb dL_law_941 rfl (lv_at hl 3 rfl) ?_
  refine lv_iload_n hx hb dL_law_942 rfl (lv_at hl 0 rfl) ?_
  refine lv_iconst (v := 1) hx hb dL_law_943 (by decide) ?_
  refine lv_iadd hx hb dL_law_944 ?_
  refine h_top (v := (nI (q + 1))) (nI_add q 1) ?_
  refine va_sld hx hb hX hbl hbA hS0 (vp_in_nI (by omega) (by omega)) dL_law_945 ?_
  refine h_top (v := y1) (by rw [nI_clamp (by omega)]; exact hy1) ?_
  have hT0 : hT G (w_Y (tC (fun v => v = nI k)) x) H0 := hI.2.1
  refine h_callVi (T := TX10) (rest := []) (As := [.int y1]) hx hb hml hown hts hK hT0 hZ (fun q hq => (w_Y_A q hq).1) hS0 (c_X10_tick l G (w_Y (tC (fun v => v = nI k)) x) (fun v => v = nI k) (x) (w_Y_w (t := tC (fun v => v = nI k)) (x := x)) y1) trivial wd_X10_tick wV_X10_tick wL_L_125 (on_w0 (w_Y_w (t := tC (fun v => v = nI k)) (x := x))) rfl rfl hl.1 rfl (Nat.le_of_ble_eq_true rfl) dL_law_946 ⟨Nat.le_of_ble_eq_true rfl, Nat.le_of_ble_eq_true rfl⟩ ⟨Nat.le_refl _, Nat.le_refl _⟩ (fun r1 H1 locs hp1 hT1 hS1 hk1 => ?_)
  replace hI := hI.C hT1 hk1
  refine lv_pop hx hb dL_law_949 rfl ?_
  refine lv_aload_n hx hb dL_law_950 rfl (lv_at hl 1 rfl) ?_
  refine lv_aload_n hx hb dL_law_951 rfl (lv_at hl 3 rfl) ?_
  refine lv_iload_n hx hb dL_law_952 rfl (lv_at hl 0 rfl) ?_
  refine lv_iconst (v := 1) hx hb dL_law_953 (by decide) ?_
  refine lv_iadd hx hb dL_law_954 ?_
  refine h_top (v := (nI (q + 1))) (nI_add q 1) ?_
  refine va_sld hx hb hX hbl hbA hS1 (vp_in_nI (by omega) (by omega)) dL_law_955 ?_
  refine h_top (v := y1) (by rw [nI_clamp (by omega)]; exact hy1) ?_
  have hT1 : hT G (m_Y (tM (fun v => v = nI k)) (x + 169)) H1 := hI.2.2.1
  refine h_callVi (T := TX11) (rest := []) (As := [.int y1]) hx hb hml hown hts hK hT1 hZ (fun q hq => Nat.le_trans (Nat.le_add_right x 169) (m_Y_A q hq)) hS1 (c_X11_tick l G (m_Y (tM (fun v => v = nI k)) (x + 169)) (fun v => v = nI k) (x + 169) (m_Y_m (t := tM (fun v => v = nI k)) (m := x + 169)) y1) hI.2.2.2.1 wd_X11_tick wV_X11_tick wL_L_128 ((m_Y_m (t := tM (fun v => v = nI k)) (m := x + 169)).o rfl) rfl rfl hl.1 rfl (Nat.le_of_ble_eq_true rfl) dL_law_956 ⟨Nat.le_of_ble_eq_true rfl, Nat.le_of_ble_eq_true rfl⟩ ⟨Nat.le_refl _, Nat.le_refl _⟩ (fun r2 H2 locs hp2 hT2 hS2 hk2 => ?_)
  obtain ⟨hp2, hB2⟩ := hp2
  replace hI := hI.M hT2 hB2.1 hB2.2 hk2
  refine lv_pop hx hb dL_law_959 rfl ?_
  refine lv_goto (tgt := 1273) hx hb dL_law_960 (by decide) ?_
  exact htail _ _ _ _ hI hS2 (lv_sub hl [0, 1, 2, 3] rfl)
set_option maxHeartbeats 4000000 in
set_option maxRecDepth 100000 in
theorem law_case_27 {p : Program} {l : Launch} {e : Env} {s : State} {m : MethodId} {below : List Frame} {meth : Method} {c : Code} {b x L q k : Nat} {xs : Nat → Int32} {G : hG} {H0 : Heap} {locs : List Loc} {ls : Array Slot} (hx : p.tables.exec = Jvm.exec) (hb : c.code = code) (hts : ∀ w ∈ wsL_law, w.before #[Value.ref b] s = true) (hown : s.vm.findClass RL = some m.cls) (hml : c.maxLocals = 4) (hK : h_K G s) (hZ : h_Z G (fun q => x ≤ q) s) (hX : va_X b L xs s s.heap) (hbl : b < s.heap.size) (hbA : ¬ x ≤ b) (htail : ∀ (k : Nat) (H : Heap) (locs : List Loc) (ls : Array Slot), lwI G x k H → va_S (fun q => x ≤ q) s.heap H locs → lv_has ls 4 [(3, .int (nI q)), (2, .ref (x + 169)), (1, .ref (x)), (0, .ref b)] → W p l e room_1 s m #[Value.ref b] below meth c H locs 600000 7302250 (lw_Z below #[Value.ref b] s) (F0 m 1273 ls [])) (hq : q + 6 ≤ L) (hL : L ≤ 3072) (hI : lwI G x k H0) (hS0 : va_S (fun q => x ≤ q) s.heap H0 locs) (hl : lv_has ls 4 [(3, .int (nI q)), (2, .ref (x + 169)), (1, .ref (x)), (0, .ref b)]) : W p l e room_1 s m #[Value.ref b] below meth c H0 locs 600000 7302250 (lw_Z below #[Value.ref b] s) (F0 m 963 ls []) := by
  obtain ⟨y1, hy1⟩ : ∃ y, xs (q + 1) = y := ⟨_, rfl⟩
  obtain ⟨y2, hy2⟩ : ∃ y, xs (q + 2) = y := ⟨_, rfl⟩
  obtain ⟨y3, hy3⟩ : ∃ y, xs (q + 3) = y := ⟨_, rfl⟩
  obtain ⟨y4, hy4⟩ : ∃ y, xs (q + 4) = y := ⟨_, rfl⟩
  obtain ⟨y5, hy5⟩ : ∃ y, xs (q + 5) = y := ⟨_, rfl⟩
  refine lv_aload_n hx hb dL_law_963 rfl (lv_at hl 2 rfl) ?_
  refine lv_aload_n hx hb dL_law_964 rfl (lv_at hl 3 rfl) ?_
  refine lv_iload_n hx hb dL_law_965 rfl (lv_at hl 0 rfl) ?_
  refine lv_iconst (v := 1) hx hb dL_law_966 (by decide) ?_
  refine lv_iadd hx hb dL_law_967 ?_
  refine h_top (v := (nI (q + 1))) (nI_add q 1) ?_
  refine va_sld hx hb hX hbl hbA hS0 (vp_in_nI (by omega) (by omega)) dL_law_968 ?_
  refine h_top (v := y1) (by rw [nI_clamp (by omega)]; exact hy1) ?_
  refine lv_aload_n hx hb dL_law_969 rfl (lv_at hl 3 rfl) ?_
  refine lv_iload_n hx hb dL_law_970 rfl (lv_at hl 0 rfl) ?_
  refine lv_iconst (v := 2) hx hb dL_law_971 (by decide) ?_
  refine lv_iadd hx hb dL_law_972 ?_
  refine h_top (v := (nI (q + 2))) (nI_add q 2) ?_
  refine va_sld hx hb hX hbl hbA hS0 (vp_in_nI (by omega) (by omega)) dL_law_973 ?_
  refine h_top (v := y2) (by rw [nI_clamp (by omega)]; exact hy2) ?_
  refine lv_aload_n hx hb dL_law_974 rfl (lv_at hl 3 rfl) ?_
  refine lv_iload_n hx hb dL_law_975 rfl (lv_at hl 0 rfl) ?_
  refine lv_iconst (v := 3) hx hb dL_law_976 (by decide) ?_
  refine lv_iadd hx hb dL_law_977 ?_
  refine h_top (v := (nI (q + 3))) (nI_add q 3) ?_
  refine va_sld hx hb hX hbl hbA hS0 (vp_in_nI (by omega) (by omega)) dL_law_978 ?_
  refine h_top (v := y3) (by rw [nI_clamp (by omega)]; exact hy3) ?_
  have hT0 : hT G (w_Y (tC (fun v => v = nI k)) x) H0 := hI.2.1
  refine h_callVi (T := TX10) (rest := []) (As := [.int y1, .int y2, .int y3]) hx hb hml hown hts hK hT0 hZ (fun q hq => (w_Y_A q hq).1) hS0 (c_X10_run l G (w_Y (tC (fun v => v = nI k)) x) (fun v => v = nI k) (x) (w_Y_w (t := tC (fun v => v = nI k)) (x := x)) y1 y2 y3) trivial wd_X10_run wV_X10_run wL_L_129 (on_w0 (w_Y_w (t := tC (fun v => v = nI k)) (x := x))) rfl rfl hl.1 rfl (Nat.le_of_ble_eq_true rfl) dL_law_979 ⟨Nat.le_of_ble_eq_true rfl, Nat.le_of_ble_eq_true rfl⟩ ⟨Nat.le_refl _, Nat.le_refl _⟩ (fun r1 H1 locs hp1 hT1 hS1 hk1 => ?_)
  replace hI := hI.C hT1 hk1
  refine lv_pop hx hb dL_law_982 rfl ?_
  refine lv_aload_n hx hb dL_law_983 rfl (lv_at hl 1 rfl) ?_
  refine lv_aload_n hx hb dL_law_984 rfl (lv_at hl 3 rfl) ?_
  refine lv_iload_n hx hb dL_law_985 rfl (lv_at hl 0 rfl) ?_
  refine lv_iconst (v := 1) hx hb dL_law_986 (by decide) ?_
  refine lv_iadd hx hb dL_law_987 ?_
  refine h_top (v := (nI (q + 1))) (nI_add q 1) ?_
  refine va_sld hx hb hX hbl hbA hS1 (vp_in_nI (by omega) (by omega)) dL_law_988 ?_
  refine h_top (v := y1) (by rw [nI_clamp (by omega)]; exact hy1) ?_
  refine lv_aload_n hx hb dL_law_989 rfl (lv_at hl 3 rfl) ?_
  refine lv_iload_n hx hb dL_law_990 rfl (lv_at hl 0 rfl) ?_
  refine lv_iconst (v := 2) hx hb dL_law_991 (by decide) ?_
  refine lv_iadd hx hb dL_law_992 ?_
  refine h_top (v := (nI (q + 2))) (nI_add q 2) ?_
  refine va_sld hx hb hX hbl hbA hS1 (vp_in_nI (by omega) (by omega)) dL_law_993 ?_
  refine h_top (v := y2) (by rw [nI_clamp (by omega)]; exact hy2) ?_
  refine lv_aload_n hx hb dL_law_994 rfl (lv_at hl 3 rfl) ?_
  refine lv_iload_n hx hb dL_law_995 rfl (lv_at hl 0 rfl) ?_
  refine lv_iconst (v := 3) hx hb dL_law_996 (by decide) ?_
  refine lv_iadd hx hb dL_law_997 ?_
  refine h_top (v := (nI (q + 3))) (nI_add q 3) ?_
  refine va_sld hx hb hX hbl hbA hS1 (vp_in_nI (by omega) (by omega)) dL_law_998 ?_
  refine h_top (v := y3) (by rw [nI_clamp (by omega)]; exact hy3) ?_
  have hT1 : hT G (m_Y (tM (fun v => v = nI k)) (x + 169)) H1 := hI.2.2.1
  refine h_callVi (T := TX11) (rest := []) (As := [.int y1, .int y2, .int y3]) hx hb hml hown hts hK hT1 hZ (fun q hq => Nat.le_trans (Nat.le_add_right x 169) (m_Y_A q hq)) hS1 (c_X11_run l G (m_Y (tM (fun v => v = nI k)) (x + 169)) (fun v => v = nI k) (x + 169) (m_Y_m (t := tM (fun v => v = nI k)) (m := x + 169)) y1 y2 y3) hI.2.2.2.1 wd_X11_run wV_X11_run wL_L_132 ((m_Y_m (t := tM (fun v => v = nI k)) (m := x + 169)).o rfl) rfl rfl hl.1 rfl (Nat.le_of_ble_eq_true rfl) dL_law_999 ⟨Nat.le_of_ble_eq_true rfl, Nat.le_of_ble_eq_true rfl⟩ ⟨Nat.le_refl _, Nat.le_refl _⟩ (fun r2 H2 locs hp2 hT2 hS2 hk2 => ?_)
  obtain ⟨hp2, hB2⟩ := hp2
  replace hI := hI.M hT2 hB2.1 hB2.2 hk2
  refine lv_pop hx hb dL_law_1002 rfl ?_
  refine lv_goto (tgt := 1273) hx hb dL_law_1003 (by decide) ?_
  exact htail _ _ _ _ hI hS2 (lv_sub hl [0, 1, 2, 3] rfl)
set_option maxHeartbeats 4000000 in
set_option maxRecDepth 100000 in
theorem law_case_28 {p : Program} {l : Launch} {e : Env} {s : State} {m : MethodId} {below : List Frame} {meth : Method} {c : Code} {b x L q k : Nat} {xs : Nat → Int32} {G : hG} {H0 : Heap} {locs : List Loc} {ls : Array Slot} (hx : p.tables.exec = Jvm.exec) (hb : c.code = code) (hts : ∀ w ∈ wsL_law, w.before #[Value.ref b] s = true) (hown : s.vm.findClass RL = some m.cls) (hml : c.maxLocals = 4) (hK : h_K G s) (hZ : h_Z G (fun q => x ≤ q) s) (hX : va_X b L xs s s.heap) (hbl : b < s.heap.size) (hbA : ¬ x ≤ b) (htail : ∀ (k : Nat) (H : Heap) (locs : List Loc) (ls : Array Slot), lwI G x k H → va_S (fun q => x ≤ q) s.heap H locs → lv_has ls 4 [(3, .int (nI q)), (2, .ref (x + 169)), (1, .ref (x)), (0, .ref b)] → W p l e room_1 s m #[Value.ref b] below meth c H locs 600000 7302250 (lw_Z below #[Value.ref b] s) (F0 m 1273 ls [])) (hq : q + 6 ≤ L) (hL : L ≤ 3072) (hI : lwI G x k H0) (hS0 : va_S (fun q => x ≤ q) s.heap H0 locs) (hl : lv_has ls 4 [(3, .int (nI q)), (2, .ref (x + 169)), (1, .ref (x)), (0, .ref b)]) : W p l e room_1 s m #[Value.ref b] below meth c H0 locs 600000 7302250 (lw_Z below #[Value.ref b] s) (F0 m 1006 ls []) := by
  obtain ⟨y1, hy1⟩ : ∃ y, xs (q + 1) = y := ⟨_, rfl⟩
  obtain ⟨y2, hy2⟩ : ∃ y, xs (q + 2) = y := ⟨_, rfl⟩
  obtain ⟨y3, hy3⟩ : ∃ y, xs (q + 3) = y := ⟨_, rfl⟩
  obtain ⟨y4, hy4⟩ : ∃ y, xs (q + 4) = y := ⟨_, rfl⟩
  obtain ⟨y5, hy5⟩ : ∃ y, xs (q + 5) = y := ⟨_, rfl⟩
  refine lv_aload_n hx hb dL_law_1006 rfl (lv_at hl 2 rfl) ?_
  have hT0 : hT G (w_Y (tC (fun v => v = nI k)) x) H0 := hI.2.1
  refine h_callVi (T := TX10) (rest := []) (As := []) hx hb hml hown hts hK hT0 hZ (fun q hq => (w_Y_A q hq).1) hS0 (c_X10_notice l G (w_Y (tC (fun v => v = nI k)) x) (fun v => v = nI k) (x) (w_Y_w (t := tC (fun v => v = nI k)) (x := x))) trivial wd_X10_notice wV_X10_notice wL_L_133 (on_w0 (w_Y_w (t := tC (fun v => v = nI k)) (x := x))) rfl rfl hl.1 rfl (Nat.le_of_ble_eq_true rfl) dL_law_1007 ⟨Nat.le_of_ble_eq_true rfl, Nat.le_of_ble_eq_true rfl⟩ ⟨Nat.le_refl _, Nat.le_refl _⟩ (fun r1 H1 locs hp1 hT1 hS1 hk1 => ?_)
  replace hI := hI.C hT1 hk1
  refine lv_pop hx hb dL_law_1010 rfl ?_
  refine lv_aload_n hx hb dL_law_1011 rfl (lv_at hl 1 rfl) ?_
  have hT1 : hT G (m_Y (tM (fun v => v = nI k)) (x + 169)) H1 := hI.2.2.1
  refine h_callVi (T := TX11) (rest := []) (As := []) hx hb hml hown hts hK hT1 hZ (fun q hq => Nat.le_trans (Nat.le_add_right x 169) (m_Y_A q hq)) hS1 (c_X11_notice l G (m_Y (tM (fun v => v = nI k)) (x + 169)) (fun v => v = nI k) (x + 169) (m_Y_m (t := tM (fun v => v = nI k)) (m := x + 169))) hI.2.2.2.1 wd_X11_notice wV_X11_notice wL_L_136 ((m_Y_m (t := tM (fun v => v = nI k)) (m := x + 169)).o rfl) rfl rfl hl.1 rfl (Nat.le_of_ble_eq_true rfl) dL_law_1012 ⟨Nat.le_of_ble_eq_true rfl, Nat.le_of_ble_eq_true rfl⟩ ⟨Nat.le_refl _, Nat.le_refl _⟩ (fun r2 H2 locs hp2 hT2 hS2 hk2 => ?_)
  obtain ⟨hp2, hB2⟩ := hp2
  replace hI := hI.M hT2 hB2.1 hB2.2 hk2
  refine lv_pop hx hb dL_law_1015 rfl ?_
  refine lv_goto (tgt := 1273) hx hb dL_law_1016 (by decide) ?_
  exact htail _ _ _ _ hI hS2 (lv_sub hl [0, 1, 2, 3] rfl)
set_option maxHeartbeats 4000000 in
set_option maxRecDepth 100000 in
theorem law_case_29 {p : Program} {l : Launch} {e : Env} {s : State} {m : MethodId} {below : List Frame} {meth : Method} {c : Code} {b x L q k : Nat} {xs : Nat → Int32} {G : hG} {H0 : Heap} {locs : List Loc} {ls : Array Slot} (hx : p.tables.exec = Jvm.exec) (hb : c.code = code) (hts : ∀ w ∈ wsL_law, w.before #[Value.ref b] s = true) (hown : s.vm.findClass RL = some m.cls) (hml : c.maxLocals = 4) (hK : h_K G s) (hZ : h_Z G (fun q => x ≤ q) s) (hX : va_X b L xs s s.heap) (hbl : b < s.heap.size) (hbA : ¬ x ≤ b) (htail : ∀ (k : Nat) (H : Heap) (locs : List Loc) (ls : Array Slot), lwI G x k H → va_S (fun q => x ≤ q) s.heap H locs → lv_has ls 4 [(3, .int (nI q)), (2, .ref (x + 169)), (1, .ref (x)), (0, .ref b)] → W p l e room_1 s m #[Value.ref b] below meth c H locs 600000 7302250 (lw_Z below #[Value.ref b] s) (F0 m 1273 ls [])) (hq : q + 6 ≤ L) (hL : L ≤ 3072) (hI : lwI G x k H0) (hS0 : va_S (fun q => x ≤ q) s.heap H0 locs) (hl : lv_has ls 4 [(3, .int (nI q)), (2, .ref (x + 169)), (1, .ref (x)), (0, .ref b)]) : W p l e room_1 s m #[Value.ref b] below meth c H0 locs 600000 7302250 (lw_Z below #[Value.ref b] s) (F0 m 1019 ls []) := by
  obtain ⟨y1, hy1⟩ : ∃ y, xs (q + 1) = y := ⟨_, rfl⟩
  obtain ⟨y2, hy2⟩ : ∃ y, xs (q + 2) = y := ⟨_, rfl⟩
  obtain ⟨y3, hy3⟩ : ∃ y, xs (q + 3) = y := ⟨_, rfl⟩
  obtain ⟨y4, hy4⟩ : ∃ y, xs (q + 4) = y := ⟨_, rfl⟩
  obtain ⟨y5, hy5⟩ : ∃ y, xs (q + 5) = y := ⟨_, rfl⟩
  refine lv_aload_n hx hb dL_law_1019 rfl (lv_at hl 2 rfl) ?_
  have hT0 : hT G (w_Y (tC (fun v => v = nI k)) x) H0 := hI.2.1
  refine h_callVi (T := TX10) (rest := []) (As := []) hx hb hml hown hts hK hT0 hZ (fun q hq => (w_Y_A q hq).1) hS0 (c_X10_stale l G (w_Y (tC (fun v => v = nI k)) x) (fun v => v = nI k) (x) (w_Y_w (t := tC (fun v => v = nI k)) (x := x))) trivial wd_X10_stale wV_X10_stale wL_L_137 (on_w0 (w_Y_w (t := tC (fun v => v = nI k)) (x := x))) rfl rfl hl.1 rfl (Nat.le_of_ble_eq_true rfl) dL_law_1020 ⟨Nat.le_of_ble_eq_true rfl, Nat.le_of_ble_eq_true rfl⟩ ⟨Nat.le_refl _, Nat.le_refl _⟩ (fun r1 H1 locs hp1 hT1 hS1 hk1 => ?_)
  replace hI := hI.C hT1 hk1
  refine lv_pop hx hb dL_law_1023 rfl ?_
  refine lv_aload_n hx hb dL_law_1024 rfl (lv_at hl 1 rfl) ?_
  have hT1 : hT G (m_Y (tM (fun v => v = nI k)) (x + 169)) H1 := hI.2.2.1
  refine h_callVi (T := TX11) (rest := []) (As := []) hx hb hml hown hts hK hT1 hZ (fun q hq => Nat.le_trans (Nat.le_add_right x 169) (m_Y_A q hq)) hS1 (c_X11_stale l G (m_Y (tM (fun v => v = nI k)) (x + 169)) (fun v => v = nI k) (x + 169) (m_Y_m (t := tM (fun v => v = nI k)) (m := x + 169))) hI.2.2.2.1 wd_X11_stale wV_X11_stale wL_L_140 ((m_Y_m (t := tM (fun v => v = nI k)) (m := x + 169)).o rfl) rfl rfl hl.1 rfl (Nat.le_of_ble_eq_true rfl) dL_law_1025 ⟨Nat.le_of_ble_eq_true rfl, Nat.le_of_ble_eq_true rfl⟩ ⟨Nat.le_refl _, Nat.le_refl _⟩ (fun r2 H2 locs hp2 hT2 hS2 hk2 => ?_)
  obtain ⟨hp2, hB2⟩ := hp2
  replace hI := hI.M hT2 hB2.1 hB2.2 hk2
  refine lv_pop hx hb dL_law_1028 rfl ?_
  refine lv_goto (tgt := 1273) hx hb dL_law_1029 (by decide) ?_
  exact htail _ _ _ _ hI hS2 (lv_sub hl [0, 1, 2, 3] rfl)
set_option maxHeartbeats 4000000 in
set_option maxRecDepth 100000 in
theorem law_case_30_0 {p : Program} {l : Launch} {e : Env} {s : State} {m : MethodId} {below : List Frame} {meth : Method} {c : Code} {b x L q k : Nat} {xs : Nat → Int32} {G : hG} {H0 : Heap} {locs : List Loc} {ls : Array Slot} (hx : p.tables.exec = Jvm.exec) (hb : c.code = code) (hts : ∀ w ∈ wsL_law, w.before #[Value.ref b] s = true) (hown : s.vm.findClass RL = some m.cls) (hml : c.maxLocals = 4) (hK : h_K G s) (hZ : h_Z G (fun q => x ≤ q) s) (hX : va_X b L xs s s.heap) (hbl : b < s.heap.size) (hbA : ¬ x ≤ b) (htail : ∀ (k : Nat) (H : Heap) (locs : List Loc) (ls : Array Slot), lwI G x k H → va_S (fun q => x ≤ q) s.heap H locs → lv_has ls 4 [(3, .int (nI q)), (2, .ref (x + 169)), (1, .ref (x)), (0, .ref b)] → W p l e room_1 s m #[Value.ref b] below meth c H locs 600000 7302250 (lw_Z below #[Value.ref b] s) (F0 m 1273 ls [])) (hq : q + 6 ≤ L) (hL : L ≤ 3072) (hI : lwI G x 0 H0) (hS0 : va_S (fun q => x ≤ q) s.heap H0 locs) (hl : lv_has ls 4 [(3, .int (nI q)), (2, .ref (x + 169)), (1, .ref (x)), (0, .ref b)]) : W p l e room_1 s m #[Value.ref b] below meth c H0 locs 600000 7302250 (lw_Z below #[Value.ref b] s) (F0 m 1032 ls []) := by
  obtain ⟨y1, hy1⟩ : ∃ y, xs (q + 1) = y := ⟨_, rfl⟩
  obtain ⟨y2, hy2⟩ : ∃ y, xs (q + 2) = y := ⟨_, rfl⟩
  obtain ⟨y3, hy3⟩ : ∃ y, xs (q + 3) = y := ⟨_, rfl⟩
  obtain ⟨y4, hy4⟩ : ∃ y, xs (q + 4) = y := ⟨_, rfl⟩
  obtain ⟨y5, hy5⟩ : ∃ y, xs (q + 5) = y := ⟨_, rfl⟩
  refine lv_aload_n hx hb dL_law_1032 rfl (lv_at hl 2 rfl) ?_
  have hT0 : hT G (w_Y (tC (fun _ => True)) x) H0 := hI.wT
  refine h_callVi (T := TX10) (rest := []) (As := []) hx hb hml hown hts hK hT0 hZ (fun q hq => (w_Y_A q hq).1) hS0 (c_mark0 l G (w_Y (tC (fun _ => True)) x) (fun _ => True) (fun _ => trivial) (x) (w_Y_w (t := tC (fun _ => True)) (x := x))) (show h_gi G H0 10 x 7 = 0 from hI.cntC) wd_X10_mark wV_X10_mark wL_L_141 (on_w0 (w_Y_w (t := tC (fun _ => True)) (x := x))) rfl rfl hl.1 rfl (Nat.le_of_ble_eq_true rfl) dL_law_1033 ⟨Nat.le_of_ble_eq_true rfl, Nat.le_of_ble_eq_true rfl⟩ ⟨Nat.le_refl _, Nat.le_refl _⟩ (fun r1 H1 locs hp1 hT1 hS1 hk1 => ?_)
  have hI0 := hI
  have hTw := hT1
  have hsd := hI0.side hk1
  have er1 : r1 = 1 := hp1.1
  subst er1
  refine lv_pop hx hb dL_law_1036 rfl ?_
  refine lv_aload_n hx hb dL_law_1037 rfl (lv_at hl 1 rfl) ?_
  have hT1 : hT G (m_Y (tM (fun _ => True)) (x + 169)) H1 := hI0.mT hsd
  refine h_callVi (T := TX11) (rest := []) (As := []) hx hb hml hown hts hK hT1 hZ (fun q hq => Nat.le_trans (Nat.le_add_right x 169) (m_Y_A q hq)) hS1 (c_mmark0 l G (m_Y (tM (fun _ => True)) (x + 169)) (fun _ => True) (x + 169) (m_Y_m (t := tM (fun _ => True)) (m := x + 169)) (fun _ => trivial)) ⟨hI0.mR1 hsd, (show h_gi G H1 11 (x + 169) 2 = 0 from hI0.mC hsd)⟩ wd_X11_mark wV_X11_mark wL_L_144 ((m_Y_m (t := tM (fun _ => True)) (m := x + 169)).o rfl) rfl rfl hl.1 rfl (Nat.le_of_ble_eq_true rfl) dL_law_1038 ⟨Nat.le_of_ble_eq_true rfl, Nat.le_of_ble_eq_true rfl⟩ ⟨Nat.le_refl _, Nat.le_refl _⟩ (fun r2 H2 locs hp2 hT2 hS2 hk2 => ?_)
  obtain ⟨hp2, hB2⟩ := hp2
  have er2 : r2 = 1 := Int32.toInt_inj.mp (hp2.1.trans (by decide))
  subst er2
  have hI : lwI G x 1 H2 := lwI.mark (k := 0) hI0 (by decide) hk1 hTw hp1.2 hk2 hT2 hp2.2 hB2.1 hB2.2.1 hB2.2.2
  refine lv_pop hx hb dL_law_1041 rfl ?_
  refine lv_goto (tgt := 1273) hx hb dL_law_1042 (by decide) ?_
  exact htail 1 _ _ _ hI hS2 (lv_sub hl [0, 1, 2, 3] rfl)
set_option maxHeartbeats 4000000 in
set_option maxRecDepth 100000 in
theorem law_case_30_1 {p : Program} {l : Launch} {e : Env} {s : State} {m : MethodId} {below : List Frame} {meth : Method} {c : Code} {b x L q k : Nat} {xs : Nat → Int32} {G : hG} {H0 : Heap} {locs : List Loc} {ls : Array Slot} (hx : p.tables.exec = Jvm.exec) (hb : c.code = code) (hts : ∀ w ∈ wsL_law, w.before #[Value.ref b] s = true) (hown : s.vm.findClass RL = some m.cls) (hml : c.maxLocals = 4) (hK : h_K G s) (hZ : h_Z G (fun q => x ≤ q) s) (hX : va_X b L xs s s.heap) (hbl : b < s.heap.size) (hbA : ¬ x ≤ b) (htail : ∀ (k : Nat) (H : Heap) (locs : List Loc) (ls : Array Slot), lwI G x k H → va_S (fun q => x ≤ q) s.heap H locs → lv_has ls 4 [(3, .int (nI q)), (2, .ref (x + 169)), (1, .ref (x)), (0, .ref b)] → W p l e room_1 s m #[Value.ref b] below meth c H locs 600000 7302250 (lw_Z below #[Value.ref b] s) (F0 m 1273 ls [])) (hq : q + 6 ≤ L) (hL : L ≤ 3072) (hI : lwI G x 1 H0) (hS0 : va_S (fun q => x ≤ q) s.heap H0 locs) (hl : lv_has ls 4 [(3, .int (nI q)), (2, .ref (x + 169)), (1, .ref (x)), (0, .ref b)]) : W p l e room_1 s m #[Value.ref b] below meth c H0 locs 600000 7302250 (lw_Z below #[Value.ref b] s) (F0 m 1032 ls []) := by
  obtain ⟨y1, hy1⟩ : ∃ y, xs (q + 1) = y := ⟨_, rfl⟩
  obtain ⟨y2, hy2⟩ : ∃ y, xs (q + 2) = y := ⟨_, rfl⟩
  obtain ⟨y3, hy3⟩ : ∃ y, xs (q + 3) = y := ⟨_, rfl⟩
  obtain ⟨y4, hy4⟩ : ∃ y, xs (q + 4) = y := ⟨_, rfl⟩
  obtain ⟨y5, hy5⟩ : ∃ y, xs (q + 5) = y := ⟨_, rfl⟩
  refine lv_aload_n hx hb dL_law_1032 rfl (lv_at hl 2 rfl) ?_
  have hT0 : hT G (w_Y (tC (fun _ => True)) x) H0 := hI.wT
  refine h_callVi (T := TX10) (rest := []) (As := []) hx hb hml hown hts hK hT0 hZ (fun q hq => (w_Y_A q hq).1) hS0 (c_mark1 l G (w_Y (tC (fun _ => True)) x) (fun _ => True) (fun _ => trivial) (x) (w_Y_w (t := tC (fun _ => True)) (x := x))) (show h_gi G H0 10 x 7 = 1 from hI.cntC) wd_X10_mark wV_X10_mark wL_L_141 (on_w0 (w_Y_w (t := tC (fun _ => True)) (x := x))) rfl rfl hl.1 rfl (Nat.le_of_ble_eq_true rfl) dL_law_1033 ⟨Nat.le_of_ble_eq_true rfl, Nat.le_of_ble_eq_true rfl⟩ ⟨Nat.le_refl _, Nat.le_refl _⟩ (fun r1 H1 locs hp1 hT1 hS1 hk1 => ?_)
  have hI0 := hI
  have hTw := hT1
  have hsd := hI0.side hk1
  have er1 : r1 = 2 := hp1.1
  subst er1
  refine lv_pop hx hb dL_law_1036 rfl ?_
  refine lv_aload_n hx hb dL_law_1037 rfl (lv_at hl 1 rfl) ?_
  have hT1 : hT G (m_Y (tM (fun _ => True)) (x + 169)) H1 := hI0.mT hsd
  refine h_callVi (T := TX11) (rest := []) (As := []) hx hb hml hown hts hK hT1 hZ (fun q hq => Nat.le_trans (Nat.le_add_right x 169) (m_Y_A q hq)) hS1 (c_mmark1 l G (m_Y (tM (fun _ => True)) (x + 169)) (fun _ => True) (x + 169) (m_Y_m (t := tM (fun _ => True)) (m := x + 169)) (fun _ => trivial)) ⟨hI0.mR1 hsd, (show h_gi G H1 11 (x + 169) 2 = 1 from hI0.mC hsd)⟩ wd_X11_mark wV_X11_mark wL_L_144 ((m_Y_m (t := tM (fun _ => True)) (m := x + 169)).o rfl) rfl rfl hl.1 rfl (Nat.le_of_ble_eq_true rfl) dL_law_1038 ⟨Nat.le_of_ble_eq_true rfl, Nat.le_of_ble_eq_true rfl⟩ ⟨Nat.le_refl _, Nat.le_refl _⟩ (fun r2 H2 locs hp2 hT2 hS2 hk2 => ?_)
  obtain ⟨hp2, hB2⟩ := hp2
  have er2 : r2 = 2 := Int32.toInt_inj.mp (hp2.1.trans (by decide))
  subst er2
  have hI : lwI G x 2 H2 := lwI.mark (k := 1) hI0 (by decide) hk1 hTw hp1.2 hk2 hT2 hp2.2 hB2.1 hB2.2.1 hB2.2.2
  refine lv_pop hx hb dL_law_1041 rfl ?_
  refine lv_goto (tgt := 1273) hx hb dL_law_1042 (by decide) ?_
  exact htail 2 _ _ _ hI hS2 (lv_sub hl [0, 1, 2, 3] rfl)
set_option maxHeartbeats 4000000 in
set_option maxRecDepth 100000 in
theorem law_case_30_2 {p : Program} {l : Launch} {e : Env} {s : State} {m : MethodId} {below : List Frame} {meth : Method} {c : Code} {b x L q k : Nat} {xs : Nat → Int32} {G : hG} {H0 : Heap} {locs : List Loc} {ls : Array Slot} (hx : p.tables.exec = Jvm.exec) (hb : c.code = code) (hts : ∀ w ∈ wsL_law, w.before #[Value.ref b] s = true) (hown : s.vm.findClass RL = some m.cls) (hml : c.maxLocals = 4) (hK : h_K G s) (hZ : h_Z G (fun q => x ≤ q) s) (hX : va_X b L xs s s.heap) (hbl : b < s.heap.size) (hbA : ¬ x ≤ b) (htail : ∀ (k : Nat) (H : Heap) (locs : List Loc) (ls : Array Slot), lwI G x k H → va_S (fun q => x ≤ q) s.heap H locs → lv_has ls 4 [(3, .int (nI q)), (2, .ref (x + 169)), (1, .ref (x)), (0, .ref b)] → W p l e room_1 s m #[Value.ref b] below meth c H locs 600000 7302250 (lw_Z below #[Value.ref b] s) (F0 m 1273 ls [])) (hq : q + 6 ≤ L) (hL : L ≤ 3072) (hI : lwI G x 2 H0) (hS0 : va_S (fun q => x ≤ q) s.heap H0 locs) (hl : lv_has ls 4 [(3, .int (nI q)), (2, .ref (x + 169)), (1, .ref (x)), (0, .ref b)]) : W p l e room_1 s m #[Value.ref b] below meth c H0 locs 600000 7302250 (lw_Z below #[Value.ref b] s) (F0 m 1032 ls []) := by
  obtain ⟨y1, hy1⟩ : ∃ y, xs (q + 1) = y := ⟨_, rfl⟩
  obtain ⟨y2, hy2⟩ : ∃ y, xs (q + 2) = y := ⟨_, rfl⟩
  obtain ⟨y3, hy3⟩ : ∃ y, xs (q + 3) = y := ⟨_, rfl⟩
  obtain ⟨y4, hy4⟩ : ∃ y, xs (q + 4) = y := ⟨_, rfl⟩
  obtain ⟨y5, hy5⟩ : ∃ y, xs (q + 5) = y := ⟨_, rfl⟩
  refine lv_aload_n hx hb dL_law_1032 rfl (lv_at hl 2 rfl) ?_
  have hT0 : hT G (w_Y (tC (fun _ => True)) x) H0 := hI.wT
  refine h_callVi (T := TX10) (rest := []) (As := []) hx hb hml hown hts hK hT0 hZ (fun q hq => (w_Y_A q hq).1) hS0 (c_mark2 l G (w_Y (tC (fun _ => True)) x) (fun _ => True) (fun _ => trivial) (x) (w_Y_w (t := tC (fun _ => True)) (x := x))) (show h_gi G H0 10 x 7 = 2 from hI.cntC) wd_X10_mark wV_X10_mark wL_L_141 (on_w0 (w_Y_w (t := tC (fun _ => True)) (x := x))) rfl rfl hl.1 rfl (Nat.le_of_ble_eq_true rfl) dL_law_1033 ⟨Nat.le_of_ble_eq_true rfl, Nat.le_of_ble_eq_true rfl⟩ ⟨Nat.le_refl _, Nat.le_refl _⟩ (fun r1 H1 locs hp1 hT1 hS1 hk1 => ?_)
  have hI0 := hI
  have hTw := hT1
  have hsd := hI0.side hk1
  have er1 : r1 = 3 := hp1.1
  subst er1
  refine lv_pop hx hb dL_law_1036 rfl ?_
  refine lv_aload_n hx hb dL_law_1037 rfl (lv_at hl 1 rfl) ?_
  have hT1 : hT G (m_Y (tM (fun _ => True)) (x + 169)) H1 := hI0.mT hsd
  refine h_callVi (T := TX11) (rest := []) (As := []) hx hb hml hown hts hK hT1 hZ (fun q hq => Nat.le_trans (Nat.le_add_right x 169) (m_Y_A q hq)) hS1 (c_mmark2 l G (m_Y (tM (fun _ => True)) (x + 169)) (fun _ => True) (x + 169) (m_Y_m (t := tM (fun _ => True)) (m := x + 169)) (fun _ => trivial)) ⟨hI0.mR1 hsd, (show h_gi G H1 11 (x + 169) 2 = 2 from hI0.mC hsd)⟩ wd_X11_mark wV_X11_mark wL_L_144 ((m_Y_m (t := tM (fun _ => True)) (m := x + 169)).o rfl) rfl rfl hl.1 rfl (Nat.le_of_ble_eq_true rfl) dL_law_1038 ⟨Nat.le_of_ble_eq_true rfl, Nat.le_of_ble_eq_true rfl⟩ ⟨Nat.le_refl _, Nat.le_refl _⟩ (fun r2 H2 locs hp2 hT2 hS2 hk2 => ?_)
  obtain ⟨hp2, hB2⟩ := hp2
  have er2 : r2 = 3 := Int32.toInt_inj.mp (hp2.1.trans (by decide))
  subst er2
  have hI : lwI G x 3 H2 := lwI.mark (k := 2) hI0 (by decide) hk1 hTw hp1.2 hk2 hT2 hp2.2 hB2.1 hB2.2.1 hB2.2.2
  refine lv_pop hx hb dL_law_1041 rfl ?_
  refine lv_goto (tgt := 1273) hx hb dL_law_1042 (by decide) ?_
  exact htail 3 _ _ _ hI hS2 (lv_sub hl [0, 1, 2, 3] rfl)
set_option maxHeartbeats 4000000 in
set_option maxRecDepth 100000 in
theorem law_case_30_3 {p : Program} {l : Launch} {e : Env} {s : State} {m : MethodId} {below : List Frame} {meth : Method} {c : Code} {b x L q k : Nat} {xs : Nat → Int32} {G : hG} {H0 : Heap} {locs : List Loc} {ls : Array Slot} (hx : p.tables.exec = Jvm.exec) (hb : c.code = code) (hts : ∀ w ∈ wsL_law, w.before #[Value.ref b] s = true) (hown : s.vm.findClass RL = some m.cls) (hml : c.maxLocals = 4) (hK : h_K G s) (hZ : h_Z G (fun q => x ≤ q) s) (hX : va_X b L xs s s.heap) (hbl : b < s.heap.size) (hbA : ¬ x ≤ b) (htail : ∀ (k : Nat) (H : Heap) (locs : List Loc) (ls : Array Slot), lwI G x k H → va_S (fun q => x ≤ q) s.heap H locs → lv_has ls 4 [(3, .int (nI q)), (2, .ref (x + 169)), (1, .ref (x)), (0, .ref b)] → W p l e room_1 s m #[Value.ref b] below meth c H locs 600000 7302250 (lw_Z below #[Value.ref b] s) (F0 m 1273 ls [])) (hq : q + 6 ≤ L) (hL : L ≤ 3072) (hI : lwI G x 3 H0) (hS0 : va_S (fun q => x ≤ q) s.heap H0 locs) (hl : lv_has ls 4 [(3, .int (nI q)), (2, .ref (x + 169)), (1, .ref (x)), (0, .ref b)]) : W p l e room_1 s m #[Value.ref b] below meth c H0 locs 600000 7302250 (lw_Z below #[Value.ref b] s) (F0 m 1032 ls []) := by
  obtain ⟨y1, hy1⟩ : ∃ y, xs (q + 1) = y := ⟨_, rfl⟩
  obtain ⟨y2, hy2⟩ : ∃ y, xs (q + 2) = y := ⟨_, rfl⟩
  obtain ⟨y3, hy3⟩ : ∃ y, xs (q + 3) = y := ⟨_, rfl⟩
  obtain ⟨y4, hy4⟩ : ∃ y, xs (q + 4) = y := ⟨_, rfl⟩
  obtain ⟨y5, hy5⟩ : ∃ y, xs (q + 5) = y := ⟨_, rfl⟩
  refine lv_aload_n hx hb dL_law_1032 rfl (lv_at hl 2 rfl) ?_
  have hT0 : hT G (w_Y (tC (fun _ => True)) x) H0 := hI.wT
  refine h_callVi (T := TX10) (rest := []) (As := []) hx hb hml hown hts hK hT0 hZ (fun q hq => (w_Y_A q hq).1) hS0 (c_mark3 l G (w_Y (tC (fun _ => True)) x) (fun _ => True) (fun _ => trivial) (x) (w_Y_w (t := tC (fun _ => True)) (x := x))) (show h_gi G H0 10 x 7 = 3 from hI.cntC) wd_X10_mark wV_X10_mark wL_L_141 (on_w0 (w_Y_w (t := tC (fun _ => True)) (x := x))) rfl rfl hl.1 rfl (Nat.le_of_ble_eq_true rfl) dL_law_1033 ⟨Nat.le_of_ble_eq_true rfl, Nat.le_of_ble_eq_true rfl⟩ ⟨Nat.le_refl _, Nat.le_refl _⟩ (fun r1 H1 locs hp1 hT1 hS1 hk1 => ?_)
  have hI0 := hI
  have hTw := hT1
  have hsd := hI0.side hk1
  have er1 : r1 = 4 := hp1.1
  subst er1
  refine lv_pop hx hb dL_law_1036 rfl ?_
  refine lv_aload_n hx hb dL_law_1037 rfl (lv_at hl 1 rfl) ?_
  have hT1 : hT G (m_Y (tM (fun _ => True)) (x + 169)) H1 := hI0.mT hsd
  refine h_callVi (T := TX11) (rest := []) (As := []) hx hb hml hown hts hK hT1 hZ (fun q hq => Nat.le_trans (Nat.le_add_right x 169) (m_Y_A q hq)) hS1 (c_mmark3 l G (m_Y (tM (fun _ => True)) (x + 169)) (fun _ => True) (x + 169) (m_Y_m (t := tM (fun _ => True)) (m := x + 169)) (fun _ => trivial)) ⟨hI0.mR1 hsd, (show h_gi G H1 11 (x + 169) 2 = 3 from hI0.mC hsd)⟩ wd_X11_mark wV_X11_mark wL_L_144 ((m_Y_m (t := tM (fun _ => True)) (m := x + 169)).o rfl) rfl rfl hl.1 rfl (Nat.le_of_ble_eq_true rfl) dL_law_1038 ⟨Nat.le_of_ble_eq_true rfl, Nat.le_of_ble_eq_true rfl⟩ ⟨Nat.le_refl _, Nat.le_refl _⟩ (fun r2 H2 locs hp2 hT2 hS2 hk2 => ?_)
  obtain ⟨hp2, hB2⟩ := hp2
  have er2 : r2 = 4 := Int32.toInt_inj.mp (hp2.1.trans (by decide))
  subst er2
  have hI : lwI G x 4 H2 := lwI.mark (k := 3) hI0 (by decide) hk1 hTw hp1.2 hk2 hT2 hp2.2 hB2.1 hB2.2.1 hB2.2.2
  refine lv_pop hx hb dL_law_1041 rfl ?_
  refine lv_goto (tgt := 1273) hx hb dL_law_1042 (by decide) ?_
  exact htail 4 _ _ _ hI hS2 (lv_sub hl [0, 1, 2, 3] rfl)
set_option maxHeartbeats 4000000 in
set_option maxRecDepth 100000 in
theorem law_case_30_4 {p : Program} {l : Launch} {e : Env} {s : State} {m : MethodId} {below : List Frame} {meth : Method} {c : Code} {b x L q k : Nat} {xs : Nat → Int32} {G : hG} {H0 : Heap} {locs : List Loc} {ls : Array Slot} (hx : p.tables.exec = Jvm.exec) (hb : c.code = code) (hts : ∀ w ∈ wsL_law, w.before #[Value.ref b] s = true) (hown : s.vm.findClass RL = some m.cls) (hml : c.maxLocals = 4) (hK : h_K G s) (hZ : h_Z G (fun q => x ≤ q) s) (hX : va_X b L xs s s.heap) (hbl : b < s.heap.size) (hbA : ¬ x ≤ b) (htail : ∀ (k : Nat) (H : Heap) (locs : List Loc) (ls : Array Slot), lwI G x k H → va_S (fun q => x ≤ q) s.heap H locs → lv_has ls 4 [(3, .int (nI q)), (2, .ref (x + 169)), (1, .ref (x)), (0, .ref b)] → W p l e room_1 s m #[Value.ref b] below meth c H locs 600000 7302250 (lw_Z below #[Value.ref b] s) (F0 m 1273 ls [])) (hq : q + 6 ≤ L) (hL : L ≤ 3072) (hI : lwI G x 4 H0) (hS0 : va_S (fun q => x ≤ q) s.heap H0 locs) (hl : lv_has ls 4 [(3, .int (nI q)), (2, .ref (x + 169)), (1, .ref (x)), (0, .ref b)]) : W p l e room_1 s m #[Value.ref b] below meth c H0 locs 600000 7302250 (lw_Z below #[Value.ref b] s) (F0 m 1032 ls []) := by
  obtain ⟨y1, hy1⟩ : ∃ y, xs (q + 1) = y := ⟨_, rfl⟩
  obtain ⟨y2, hy2⟩ : ∃ y, xs (q + 2) = y := ⟨_, rfl⟩
  obtain ⟨y3, hy3⟩ : ∃ y, xs (q + 3) = y := ⟨_, rfl⟩
  obtain ⟨y4, hy4⟩ : ∃ y, xs (q + 4) = y := ⟨_, rfl⟩
  obtain ⟨y5, hy5⟩ : ∃ y, xs (q + 5) = y := ⟨_, rfl⟩
  refine lv_aload_n hx hb dL_law_1032 rfl (lv_at hl 2 rfl) ?_
  have hT0 : hT G (w_Y (tC (fun _ => True)) x) H0 := hI.wT
  refine h_callVi (T := TX10) (rest := []) (As := []) hx hb hml hown hts hK hT0 hZ (fun q hq => (w_Y_A q hq).1) hS0 (c_mark4 l G (w_Y (tC (fun _ => True)) x) (fun _ => True) (fun _ => trivial) (x) (w_Y_w (t := tC (fun _ => True)) (x := x))) (show h_gi G H0 10 x 7 = 4 from hI.cntC) wd_X10_mark wV_X10_mark wL_L_141 (on_w0 (w_Y_w (t := tC (fun _ => True)) (x := x))) rfl rfl hl.1 rfl (Nat.le_of_ble_eq_true rfl) dL_law_1033 ⟨Nat.le_of_ble_eq_true rfl, Nat.le_of_ble_eq_true rfl⟩ ⟨Nat.le_refl _, Nat.le_refl _⟩ (fun r1 H1 locs hp1 hT1 hS1 hk1 => ?_)
  have hI0 := hI
  have hTw := hT1
  have hsd := hI0.side hk1
  have er1 : r1 = (-1) := hp1.1
  subst er1
  refine lv_pop hx hb dL_law_1036 rfl ?_
  refine lv_aload_n hx hb dL_law_1037 rfl (lv_at hl 1 rfl) ?_
  have hT1 : hT G (m_Y (tM (fun _ => True)) (x + 169)) H1 := hI0.mT hsd
  refine h_callVi (T := TX11) (rest := []) (As := []) hx hb hml hown hts hK hT1 hZ (fun q hq => Nat.le_trans (Nat.le_add_right x 169) (m_Y_A q hq)) hS1 (c_mmark4 l G (m_Y (tM (fun _ => True)) (x + 169)) (fun _ => True) (x + 169) (m_Y_m (t := tM (fun _ => True)) (m := x + 169)) (fun _ => trivial)) ⟨hI0.mR1 hsd, (show h_gi G H1 11 (x + 169) 2 = 4 from hI0.mC hsd)⟩ wd_X11_mark wV_X11_mark wL_L_144 ((m_Y_m (t := tM (fun _ => True)) (m := x + 169)).o rfl) rfl rfl hl.1 rfl (Nat.le_of_ble_eq_true rfl) dL_law_1038 ⟨Nat.le_of_ble_eq_true rfl, Nat.le_of_ble_eq_true rfl⟩ ⟨Nat.le_refl _, Nat.le_refl _⟩ (fun r2 H2 locs hp2 hT2 hS2 hk2 => ?_)
  obtain ⟨hp2, hB2⟩ := hp2
  have er2 : r2 = (-1) := Int32.toInt_inj.mp (hp2.1.trans (by decide))
  subst er2
  have hI : lwI G x 4 H2 := lwI.back (k := 4) hI0 4 (by decide) hk1 hTw hp1.2 hk2 hT2 hp2.2 hB2.1 hB2.2
  refine lv_pop hx hb dL_law_1041 rfl ?_
  refine lv_goto (tgt := 1273) hx hb dL_law_1042 (by decide) ?_
  exact htail 4 _ _ _ hI hS2 (lv_sub hl [0, 1, 2, 3] rfl)
set_option maxHeartbeats 4000000 in
set_option maxRecDepth 100000 in
theorem law_case_31_0 {p : Program} {l : Launch} {e : Env} {s : State} {m : MethodId} {below : List Frame} {meth : Method} {c : Code} {b x L q k : Nat} {xs : Nat → Int32} {G : hG} {H0 : Heap} {locs : List Loc} {ls : Array Slot} (hx : p.tables.exec = Jvm.exec) (hb : c.code = code) (hts : ∀ w ∈ wsL_law, w.before #[Value.ref b] s = true) (hown : s.vm.findClass RL = some m.cls) (hml : c.maxLocals = 4) (hK : h_K G s) (hZ : h_Z G (fun q => x ≤ q) s) (hX : va_X b L xs s s.heap) (hbl : b < s.heap.size) (hbA : ¬ x ≤ b) (htail : ∀ (k : Nat) (H : Heap) (locs : List Loc) (ls : Array Slot), lwI G x k H → va_S (fun q => x ≤ q) s.heap H locs → lv_has ls 4 [(3, .int (nI q)), (2, .ref (x + 169)), (1, .ref (x)), (0, .ref b)] → W p l e room_1 s m #[Value.ref b] below meth c H locs 600000 7302250 (lw_Z below #[Value.ref b] s) (F0 m 1273 ls [])) (hq : q + 6 ≤ L) (hL : L ≤ 3072) (hI : lwI G x 0 H0) (hS0 : va_S (fun q => x ≤ q) s.heap H0 locs) (hl : lv_has ls 4 [(3, .int (nI q)), (2, .ref (x + 169)), (1, .ref (x)), (0, .ref b)]) : W p l e room_1 s m #[Value.ref b] below meth c H0 locs 600000 7302250 (lw_Z below #[Value.ref b] s) (F0 m 1045 ls []) := by
  obtain ⟨y1, hy1⟩ : ∃ y, xs (q + 1) = y := ⟨_, rfl⟩
  obtain ⟨y2, hy2⟩ : ∃ y, xs (q + 2) = y := ⟨_, rfl⟩
  obtain ⟨y3, hy3⟩ : ∃ y, xs (q + 3) = y := ⟨_, rfl⟩
  obtain ⟨y4, hy4⟩ : ∃ y, xs (q + 4) = y := ⟨_, rfl⟩
  obtain ⟨y5, hy5⟩ : ∃ y, xs (q + 5) = y := ⟨_, rfl⟩
  refine lv_aload_n hx hb dL_law_1045 rfl (lv_at hl 2 rfl) ?_
  have hT0 : hT G (w_Y (tC (fun _ => True)) x) H0 := hI.wT
  refine h_callVi (T := TX10) (rest := []) (As := []) hx hb hml hown hts hK hT0 hZ (fun q hq => (w_Y_A q hq).1) hS0 (c_back0 l G (w_Y (tC (fun _ => True)) x) (fun _ => True) (fun _ => trivial) (x) (w_Y_w (t := tC (fun _ => True)) (x := x))) (show h_gi G H0 10 x 7 = 0 from hI.cntC) wd_X10_back wV_X10_back wL_L_145 (on_w0 (w_Y_w (t := tC (fun _ => True)) (x := x))) rfl rfl hl.1 rfl (Nat.le_of_ble_eq_true rfl) dL_law_1046 ⟨Nat.le_of_ble_eq_true rfl, Nat.le_of_ble_eq_true rfl⟩ ⟨Nat.le_refl _, Nat.le_refl _⟩ (fun r1 H1 locs hp1 hT1 hS1 hk1 => ?_)
  have hI0 := hI
  have hTw := hT1
  have hsd := hI0.side hk1
  have er1 : r1 = (-1) := hp1.1
  subst er1
  refine lv_aload_n hx hb dL_law_1049 rfl (lv_at hl 1 rfl) ?_
  have hT1 : hT G (m_Y (tM (fun _ => True)) (x + 169)) H1 := hI0.mT hsd
  refine h_callVi (T := TX11) (rest := [.int (-1)]) (As := []) hx hb hml hown hts hK hT1 hZ (fun q hq => Nat.le_trans (Nat.le_add_right x 169) (m_Y_A q hq)) hS1 (c_mback0 l G (m_Y (tM (fun _ => True)) (x + 169)) (fun _ => True) (x + 169) (m_Y_m (t := tM (fun _ => True)) (m := x + 169)) (fun _ => trivial)) ⟨hI0.mR1 hsd, (show h_gi G H1 11 (x + 169) 2 = 0 from hI0.mC hsd)⟩ wd_X11_back wV_X11_back wL_L_148 ((m_Y_m (t := tM (fun _ => True)) (m := x + 169)).o rfl) rfl rfl hl.1 rfl (Nat.le_of_ble_eq_true rfl) dL_law_1050 ⟨Nat.le_of_ble_eq_true rfl, Nat.le_of_ble_eq_true rfl⟩ ⟨Nat.le_refl _, Nat.le_refl _⟩ (fun r2 H2 locs hp2 hT2 hS2 hk2 => ?_)
  obtain ⟨hp2, hB2⟩ := hp2
  have er2 : r2 = (-1) := Int32.toInt_inj.mp (hp2.1.trans (by decide))
  subst er2
  have hI : lwI G x 0 H2 := lwI.back (k := 0) hI0 0 (by decide) hk1 hTw hp1.2 hk2 hT2 hp2.2 hB2.1 hB2.2
  refine lv_icmp_eq (tgt := 1273) hx hb dL_law_1053 (by decide) (fun _ => ?_) (fun h => absurd (by decide) h)
  exact htail 0 _ _ _ hI hS2 (lv_sub hl [0, 1, 2, 3] rfl)
set_option maxHeartbeats 4000000 in
set_option maxRecDepth 100000 in
theorem law_case_31_1 {p : Program} {l : Launch} {e : Env} {s : State} {m : MethodId} {below : List Frame} {meth : Method} {c : Code} {b x L q k : Nat} {xs : Nat → Int32} {G : hG} {H0 : Heap} {locs : List Loc} {ls : Array Slot} (hx : p.tables.exec = Jvm.exec) (hb : c.code = code) (hts : ∀ w ∈ wsL_law, w.before #[Value.ref b] s = true) (hown : s.vm.findClass RL = some m.cls) (hml : c.maxLocals = 4) (hK : h_K G s) (hZ : h_Z G (fun q => x ≤ q) s) (hX : va_X b L xs s s.heap) (hbl : b < s.heap.size) (hbA : ¬ x ≤ b) (htail : ∀ (k : Nat) (H : Heap) (locs : List Loc) (ls : Array Slot), lwI G x k H → va_S (fun q => x ≤ q) s.heap H locs → lv_has ls 4 [(3, .int (nI q)), (2, .ref (x + 169)), (1, .ref (x)), (0, .ref b)] → W p l e room_1 s m #[Value.ref b] below meth c H locs 600000 7302250 (lw_Z below #[Value.ref b] s) (F0 m 1273 ls [])) (hq : q + 6 ≤ L) (hL : L ≤ 3072) (hI : lwI G x 1 H0) (hS0 : va_S (fun q => x ≤ q) s.heap H0 locs) (hl : lv_has ls 4 [(3, .int (nI q)), (2, .ref (x + 169)), (1, .ref (x)), (0, .ref b)]) : W p l e room_1 s m #[Value.ref b] below meth c H0 locs 600000 7302250 (lw_Z below #[Value.ref b] s) (F0 m 1045 ls []) := by
  obtain ⟨y1, hy1⟩ : ∃ y, xs (q + 1) = y := ⟨_, rfl⟩
  obtain ⟨y2, hy2⟩ : ∃ y, xs (q + 2) = y := ⟨_, rfl⟩
  obtain ⟨y3, hy3⟩ : ∃ y, xs (q + 3) = y := ⟨_, rfl⟩
  obtain ⟨y4, hy4⟩ : ∃ y, xs (q + 4) = y := ⟨_, rfl⟩
  obtain ⟨y5, hy5⟩ : ∃ y, xs (q + 5) = y := ⟨_, rfl⟩
  refine lv_aload_n hx hb dL_law_1045 rfl (lv_at hl 2 rfl) ?_
  have hT0 : hT G (w_Y (tC (fun _ => True)) x) H0 := hI.wT
  refine h_callVi (T := TX10) (rest := []) (As := []) hx hb hml hown hts hK hT0 hZ (fun q hq => (w_Y_A q hq).1) hS0 (c_back1 l G (w_Y (tC (fun _ => True)) x) (fun _ => True) (fun _ => trivial) (x) (w_Y_w (t := tC (fun _ => True)) (x := x))) (show h_gi G H0 10 x 7 = 1 from hI.cntC) wd_X10_back wV_X10_back wL_L_145 (on_w0 (w_Y_w (t := tC (fun _ => True)) (x := x))) rfl rfl hl.1 rfl (Nat.le_of_ble_eq_true rfl) dL_law_1046 ⟨Nat.le_of_ble_eq_true rfl, Nat.le_of_ble_eq_true rfl⟩ ⟨Nat.le_refl _, Nat.le_refl _⟩ (fun r1 H1 locs hp1 hT1 hS1 hk1 => ?_)
  have hI0 := hI
  have hTw := hT1
  have hsd := hI0.side hk1
  have er1 : r1 = 0 := hp1.1
  subst er1
  refine lv_aload_n hx hb dL_law_1049 rfl (lv_at hl 1 rfl) ?_
  have hT1 : hT G (m_Y (tM (fun _ => True)) (x + 169)) H1 := hI0.mT hsd
  refine h_callVi (T := TX11) (rest := [.int 0]) (As := []) hx hb hml hown hts hK hT1 hZ (fun q hq => Nat.le_trans (Nat.le_add_right x 169) (m_Y_A q hq)) hS1 (c_mback1 l G (m_Y (tM (fun _ => True)) (x + 169)) (fun _ => True) (x + 169) (m_Y_m (t := tM (fun _ => True)) (m := x + 169)) (fun _ => trivial)) ⟨hI0.mR1 hsd, (show h_gi G H1 11 (x + 169) 2 = 1 from hI0.mC hsd), hI0.mA hsd (i := 0) (by decide)⟩ wd_X11_back wV_X11_back wL_L_148 ((m_Y_m (t := tM (fun _ => True)) (m := x + 169)).o rfl) rfl rfl hl.1 rfl (Nat.le_of_ble_eq_true rfl) dL_law_1050 ⟨Nat.le_of_ble_eq_true rfl, Nat.le_of_ble_eq_true rfl⟩ ⟨Nat.le_refl _, Nat.le_refl _⟩ (fun r2 H2 locs hp2 hT2 hS2 hk2 => ?_)
  obtain ⟨hp2, hB2⟩ := hp2
  have er2 : r2 = 0 := Int32.toInt_inj.mp (hp2.1.trans (by decide))
  subst er2
  have hI : lwI G x 0 H2 := lwI.back (k := 1) hI0 0 (by decide) hk1 hTw hp1.2 hk2 hT2 hp2.2 hB2.1 hB2.2
  refine lv_icmp_eq (tgt := 1273) hx hb dL_law_1053 (by decide) (fun _ => ?_) (fun h => absurd (by decide) h)
  exact htail 0 _ _ _ hI hS2 (lv_sub hl [0, 1, 2, 3] rfl)
set_option maxHeartbeats 4000000 in
set_option maxRecDepth 100000 in
theorem law_case_31_2 {p : Program} {l : Launch} {e : Env} {s : State} {m : MethodId} {below : List Frame} {meth : Method} {c : Code} {b x L q k : Nat} {xs : Nat → Int32} {G : hG} {H0 : Heap} {locs : List Loc} {ls : Array Slot} (hx : p.tables.exec = Jvm.exec) (hb : c.code = code) (hts : ∀ w ∈ wsL_law, w.before #[Value.ref b] s = true) (hown : s.vm.findClass RL = some m.cls) (hml : c.maxLocals = 4) (hK : h_K G s) (hZ : h_Z G (fun q => x ≤ q) s) (hX : va_X b L xs s s.heap) (hbl : b < s.heap.size) (hbA : ¬ x ≤ b) (htail : ∀ (k : Nat) (H : Heap) (locs : List Loc) (ls : Array Slot), lwI G x k H → va_S (fun q => x ≤ q) s.heap H locs → lv_has ls 4 [(3, .int (nI q)), (2, .ref (x + 169)), (1, .ref (x)), (0, .ref b)] → W p l e room_1 s m #[Value.ref b] below meth c H locs 600000 7302250 (lw_Z below #[Value.ref b] s) (F0 m 1273 ls [])) (hq : q + 6 ≤ L) (hL : L ≤ 3072) (hI : lwI G x 2 H0) (hS0 : va_S (fun q => x ≤ q) s.heap H0 locs) (hl : lv_has ls 4 [(3, .int (nI q)), (2, .ref (x + 169)), (1, .ref (x)), (0, .ref b)]) : W p l e room_1 s m #[Value.ref b] below meth c H0 locs 600000 7302250 (lw_Z below #[Value.ref b] s) (F0 m 1045 ls []) := by
  obtain ⟨y1, hy1⟩ : ∃ y, xs (q + 1) = y := ⟨_, rfl⟩
  obtain ⟨y2, hy2⟩ : ∃ y, xs (q + 2) = y := ⟨_, rfl⟩
  obtain ⟨y3, hy3⟩ : ∃ y, xs (q + 3) = y := ⟨_, rfl⟩
  obtain ⟨y4, hy4⟩ : ∃ y, xs (q + 4) = y := ⟨_, rfl⟩
  obtain ⟨y5, hy5⟩ : ∃ y, xs (q + 5) = y := ⟨_, rfl⟩
  refine lv_aload_n hx hb dL_law_1045 rfl (lv_at hl 2 rfl) ?_
  have hT0 : hT G (w_Y (tC (fun _ => True)) x) H0 := hI.wT
  refine h_callVi (T := TX10) (rest := []) (As := []) hx hb hml hown hts hK hT0 hZ (fun q hq => (w_Y_A q hq).1) hS0 (c_back2 l G (w_Y (tC (fun _ => True)) x) (fun _ => True) (fun _ => trivial) (x) (w_Y_w (t := tC (fun _ => True)) (x := x))) (show h_gi G H0 10 x 7 = 2 from hI.cntC) wd_X10_back wV_X10_back wL_L_145 (on_w0 (w_Y_w (t := tC (fun _ => True)) (x := x))) rfl rfl hl.1 rfl (Nat.le_of_ble_eq_true rfl) dL_law_1046 ⟨Nat.le_of_ble_eq_true rfl, Nat.le_of_ble_eq_true rfl⟩ ⟨Nat.le_refl _, Nat.le_refl _⟩ (fun r1 H1 locs hp1 hT1 hS1 hk1 => ?_)
  have hI0 := hI
  have hTw := hT1
  have hsd := hI0.side hk1
  have er1 : r1 = 1 := hp1.1
  subst er1
  refine lv_aload_n hx hb dL_law_1049 rfl (lv_at hl 1 rfl) ?_
  have hT1 : hT G (m_Y (tM (fun _ => True)) (x + 169)) H1 := hI0.mT hsd
  refine h_callVi (T := TX11) (rest := [.int 1]) (As := []) hx hb hml hown hts hK hT1 hZ (fun q hq => Nat.le_trans (Nat.le_add_right x 169) (m_Y_A q hq)) hS1 (c_mback2 l G (m_Y (tM (fun _ => True)) (x + 169)) (fun _ => True) (x + 169) (m_Y_m (t := tM (fun _ => True)) (m := x + 169)) (fun _ => trivial)) ⟨hI0.mR1 hsd, (show h_gi G H1 11 (x + 169) 2 = 2 from hI0.mC hsd), hI0.mA hsd (i := 1) (by decide)⟩ wd_X11_back wV_X11_back wL_L_148 ((m_Y_m (t := tM (fun _ => True)) (m := x + 169)).o rfl) rfl rfl hl.1 rfl (Nat.le_of_ble_eq_true rfl) dL_law_1050 ⟨Nat.le_of_ble_eq_true rfl, Nat.le_of_ble_eq_true rfl⟩ ⟨Nat.le_refl _, Nat.le_refl _⟩ (fun r2 H2 locs hp2 hT2 hS2 hk2 => ?_)
  obtain ⟨hp2, hB2⟩ := hp2
  have er2 : r2 = 1 := Int32.toInt_inj.mp (hp2.1.trans (by decide))
  subst er2
  have hI : lwI G x 1 H2 := lwI.back (k := 2) hI0 1 (by decide) hk1 hTw hp1.2 hk2 hT2 hp2.2 hB2.1 hB2.2
  refine lv_icmp_eq (tgt := 1273) hx hb dL_law_1053 (by decide) (fun _ => ?_) (fun h => absurd (by decide) h)
  exact htail 1 _ _ _ hI hS2 (lv_sub hl [0, 1, 2, 3] rfl)
set_option maxHeartbeats 4000000 in
set_option maxRecDepth 100000 in
theorem law_case_31_3 {p : Program} {l : Launch} {e : Env} {s : State} {m : MethodId} {below : List Frame} {meth : Method} {c : Code} {b x L q k : Nat} {xs : Nat → Int32} {G : hG} {H0 : Heap} {locs : List Loc} {ls : Array Slot} (hx : p.tables.exec = Jvm.exec) (hb : c.code = code) (hts : ∀ w ∈ wsL_law, w.before #[Value.ref b] s = true) (hown : s.vm.findClass RL = some m.cls) (hml : c.maxLocals = 4) (hK : h_K G s) (hZ : h_Z G (fun q => x ≤ q) s) (hX : va_X b L xs s s.heap) (hbl : b < s.heap.size) (hbA : ¬ x ≤ b) (htail : ∀ (k : Nat) (H : Heap) (locs : List Loc) (ls : Array Slot), lwI G x k H → va_S (fun q => x ≤ q) s.heap H locs → lv_has ls 4 [(3, .int (nI q)), (2, .ref (x + 169)), (1, .ref (x)), (0, .ref b)] → W p l e room_1 s m #[Value.ref b] below meth c H locs 600000 7302250 (lw_Z below #[Value.ref b] s) (F0 m 1273 ls [])) (hq : q + 6 ≤ L) (hL : L ≤ 3072) (hI : lwI G x 3 H0) (hS0 : va_S (fun q => x ≤ q) s.heap H0 locs) (hl : lv_has ls 4 [(3, .int (nI q)), (2, .ref (x + 169)), (1, .ref (x)), (0, .ref b)]) : W p l e room_1 s m #[Value.ref b] below meth c H0 locs 600000 7302250 (lw_Z below #[Value.ref b] s) (F0 m 1045 ls []) := by
  obtain ⟨y1, hy1⟩ : ∃ y, xs (q + 1) = y := ⟨_, rfl⟩
  obtain ⟨y2, hy2⟩ : ∃ y, xs (q + 2) = y := ⟨_, rfl⟩
  obtain ⟨y3, hy3⟩ : ∃ y, xs (q + 3) = y := ⟨_, rfl⟩
  obtain ⟨y4, hy4⟩ : ∃ y, xs (q + 4) = y := ⟨_, rfl⟩
  obtain ⟨y5, hy5⟩ : ∃ y, xs (q + 5) = y := ⟨_, rfl⟩
  refine lv_aload_n hx hb dL_law_1045 rfl (lv_at hl 2 rfl) ?_
  have hT0 : hT G (w_Y (tC (fun _ => True)) x) H0 := hI.wT
  refine h_callVi (T := TX10) (rest := []) (As := []) hx hb hml hown hts hK hT0 hZ (fun q hq => (w_Y_A q hq).1) hS0 (c_back3 l G (w_Y (tC (fun _ => True)) x) (fun _ => True) (fun _ => trivial) (x) (w_Y_w (t := tC (fun _ => True)) (x := x))) (show h_gi G H0 10 x 7 = 3 from hI.cntC) wd_X10_back wV_X10_back wL_L_145 (on_w0 (w_Y_w (t := tC (fun _ => True)) (x := x))) rfl rfl hl.1 rfl (Nat.le_of_ble_eq_true rfl) dL_law_1046 ⟨Nat.le_of_ble_eq_true rfl, Nat.le_of_ble_eq_true rfl⟩ ⟨Nat.le_refl _, Nat.le_refl _⟩ (fun r1 H1 locs hp1 hT1 hS1 hk1 => ?_)
  have hI0 := hI
  have hTw := hT1
  have hsd := hI0.side hk1
  have er1 : r1 = 2 := hp1.1
  subst er1
  refine lv_aload_n hx hb dL_law_1049 rfl (lv_at hl 1 rfl) ?_
  have hT1 : hT G (m_Y (tM (fun _ => True)) (x + 169)) H1 := hI0.mT hsd
  refine h_callVi (T := TX11) (rest := [.int 2]) (As := []) hx hb hml hown hts hK hT1 hZ (fun q hq => Nat.le_trans (Nat.le_add_right x 169) (m_Y_A q hq)) hS1 (c_mback3 l G (m_Y (tM (fun _ => True)) (x + 169)) (fun _ => True) (x + 169) (m_Y_m (t := tM (fun _ => True)) (m := x + 169)) (fun _ => trivial)) ⟨hI0.mR1 hsd, (show h_gi G H1 11 (x + 169) 2 = 3 from hI0.mC hsd), hI0.mA hsd (i := 2) (by decide)⟩ wd_X11_back wV_X11_back wL_L_148 ((m_Y_m (t := tM (fun _ => True)) (m := x + 169)).o rfl) rfl rfl hl.1 rfl (Nat.le_of_ble_eq_true rfl) dL_law_1050 ⟨Nat.le_of_ble_eq_true rfl, Nat.le_of_ble_eq_true rfl⟩ ⟨Nat.le_refl _, Nat.le_refl _⟩ (fun r2 H2 locs hp2 hT2 hS2 hk2 => ?_)
  obtain ⟨hp2, hB2⟩ := hp2
  have er2 : r2 = 2 := Int32.toInt_inj.mp (hp2.1.trans (by decide))
  subst er2
  have hI : lwI G x 2 H2 := lwI.back (k := 3) hI0 2 (by decide) hk1 hTw hp1.2 hk2 hT2 hp2.2 hB2.1 hB2.2
  refine lv_icmp_eq (tgt := 1273) hx hb dL_law_1053 (by decide) (fun _ => ?_) (fun h => absurd (by decide) h)
  exact htail 2 _ _ _ hI hS2 (lv_sub hl [0, 1, 2, 3] rfl)
set_option maxHeartbeats 4000000 in
set_option maxRecDepth 100000 in
theorem law_case_31_4 {p : Program} {l : Launch} {e : Env} {s : State} {m : MethodId} {below : List Frame} {meth : Method} {c : Code} {b x L q k : Nat} {xs : Nat → Int32} {G : hG} {H0 : Heap} {locs : List Loc} {ls : Array Slot} (hx : p.tables.exec = Jvm.exec) (hb : c.code = code) (hts : ∀ w ∈ wsL_law, w.before #[Value.ref b] s = true) (hown : s.vm.findClass RL = some m.cls) (hml : c.maxLocals = 4) (hK : h_K G s) (hZ : h_Z G (fun q => x ≤ q) s) (hX : va_X b L xs s s.heap) (hbl : b < s.heap.size) (hbA : ¬ x ≤ b) (htail : ∀ (k : Nat) (H : Heap) (locs : List Loc) (ls : Array Slot), lwI G x k H → va_S (fun q => x ≤ q) s.heap H locs → lv_has ls 4 [(3, .int (nI q)), (2, .ref (x + 169)), (1, .ref (x)), (0, .ref b)] → W p l e room_1 s m #[Value.ref b] below meth c H locs 600000 7302250 (lw_Z below #[Value.ref b] s) (F0 m 1273 ls [])) (hq : q + 6 ≤ L) (hL : L ≤ 3072) (hI : lwI G x 4 H0) (hS0 : va_S (fun q => x ≤ q) s.heap H0 locs) (hl : lv_has ls 4 [(3, .int (nI q)), (2, .ref (x + 169)), (1, .ref (x)), (0, .ref b)]) : W p l e room_1 s m #[Value.ref b] below meth c H0 locs 600000 7302250 (lw_Z below #[Value.ref b] s) (F0 m 1045 ls []) := by
  obtain ⟨y1, hy1⟩ : ∃ y, xs (q + 1) = y := ⟨_, rfl⟩
  obtain ⟨y2, hy2⟩ : ∃ y, xs (q + 2) = y := ⟨_, rfl⟩
  obtain ⟨y3, hy3⟩ : ∃ y, xs (q + 3) = y := ⟨_, rfl⟩
  obtain ⟨y4, hy4⟩ : ∃ y, xs (q + 4) = y := ⟨_, rfl⟩
  obtain ⟨y5, hy5⟩ : ∃ y, xs (q + 5) = y := ⟨_, rfl⟩
  refine lv_aload_n hx hb dL_law_1045 rfl (lv_at hl 2 rfl) ?_
  have hT0 : hT G (w_Y (tC (fun _ => True)) x) H0 := hI.wT
  refine h_callVi (T := TX10) (rest := []) (As := []) hx hb hml hown hts hK hT0 hZ (fun q hq => (w_Y_A q hq).1) hS0 (c_back4 l G (w_Y (tC (fun _ => True)) x) (fun _ => True) (fun _ => trivial) (x) (w_Y_w (t := tC (fun _ => True)) (x := x))) (show h_gi G H0 10 x 7 = 4 from hI.cntC) wd_X10_back wV_X10_back wL_L_145 (on_w0 (w_Y_w (t := tC (fun _ => True)) (x := x))) rfl rfl hl.1 rfl (Nat.le_of_ble_eq_true rfl) dL_law_1046 ⟨Nat.le_of_ble_eq_true rfl, Nat.le_of_ble_eq_true rfl⟩ ⟨Nat.le_refl _, Nat.le_refl _⟩ (fun r1 H1 locs hp1 hT1 hS1 hk1 => ?_)
  have hI0 := hI
  have hTw := hT1
  have hsd := hI0.side hk1
  have er1 : r1 = 3 := hp1.1
  subst er1
  refine lv_aload_n hx hb dL_law_1049 rfl (lv_at hl 1 rfl) ?_
  have hT1 : hT G (m_Y (tM (fun _ => True)) (x + 169)) H1 := hI0.mT hsd
  refine h_callVi (T := TX11) (rest := [.int 3]) (As := []) hx hb hml hown hts hK hT1 hZ (fun q hq => Nat.le_trans (Nat.le_add_right x 169) (m_Y_A q hq)) hS1 (c_mback4 l G (m_Y (tM (fun _ => True)) (x + 169)) (fun _ => True) (x + 169) (m_Y_m (t := tM (fun _ => True)) (m := x + 169)) (fun _ => trivial)) ⟨hI0.mR1 hsd, (show h_gi G H1 11 (x + 169) 2 = 4 from hI0.mC hsd), hI0.mA hsd (i := 3) (by decide)⟩ wd_X11_back wV_X11_back wL_L_148 ((m_Y_m (t := tM (fun _ => True)) (m := x + 169)).o rfl) rfl rfl hl.1 rfl (Nat.le_of_ble_eq_true rfl) dL_law_1050 ⟨Nat.le_of_ble_eq_true rfl, Nat.le_of_ble_eq_true rfl⟩ ⟨Nat.le_refl _, Nat.le_refl _⟩ (fun r2 H2 locs hp2 hT2 hS2 hk2 => ?_)
  obtain ⟨hp2, hB2⟩ := hp2
  have er2 : r2 = 3 := Int32.toInt_inj.mp (hp2.1.trans (by decide))
  subst er2
  have hI : lwI G x 3 H2 := lwI.back (k := 4) hI0 3 (by decide) hk1 hTw hp1.2 hk2 hT2 hp2.2 hB2.1 hB2.2
  refine lv_icmp_eq (tgt := 1273) hx hb dL_law_1053 (by decide) (fun _ => ?_) (fun h => absurd (by decide) h)
  exact htail 3 _ _ _ hI hS2 (lv_sub hl [0, 1, 2, 3] rfl)
set_option maxHeartbeats 4000000 in
set_option maxRecDepth 100000 in
theorem law_case_32 {p : Program} {l : Launch} {e : Env} {s : State} {m : MethodId} {below : List Frame} {meth : Method} {c : Code} {b x L q k : Nat} {xs : Nat → Int32} {G : hG} {H0 : Heap} {locs : List Loc} {ls : Array Slot} (hx : p.tables.exec = Jvm.exec) (hb : c.code = code) (hts : ∀ w ∈ wsL_law, w.before #[Value.ref b] s = true) (hown : s.vm.findClass RL = some m.cls) (hml : c.maxLocals = 4) (hK : h_K G s) (hZ : h_Z G (fun q => x ≤ q) s) (hX : va_X b L xs s s.heap) (hbl : b < s.heap.size) (hbA : ¬ x ≤ b) (htail : ∀ (k : Nat) (H : Heap) (locs : List Loc) (ls : Array Slot), lwI G x k H → va_S (fun q => x ≤ q) s.heap H locs → lv_has ls 4 [(3, .int (nI q)), (2, .ref (x + 169)), (1, .ref (x)), (0, .ref b)] → W p l e room_1 s m #[Value.ref b] below meth c H locs 600000 7302250 (lw_Z below #[Value.ref b] s) (F0 m 1273 ls [])) (hq : q + 6 ≤ L) (hL : L ≤ 3072) (hI : lwI G x k H0) (hS0 : va_S (fun q => x ≤ q) s.heap H0 locs) (hl : lv_has ls 4 [(3, .int (nI q)), (2, .ref (x + 169)), (1, .ref (x)), (0, .ref b)]) : W p l e room_1 s m #[Value.ref b] below meth c H0 locs 600000 7302250 (lw_Z below #[Value.ref b] s) (F0 m 1058 ls []) := by
  obtain ⟨y1, hy1⟩ : ∃ y, xs (q + 1) = y := ⟨_, rfl⟩
  obtain ⟨y2, hy2⟩ : ∃ y, xs (q + 2) = y := ⟨_, rfl⟩
  obtain ⟨y3, hy3⟩ : ∃ y, xs (q + 3) = y := ⟨_, rfl⟩
  obtain ⟨y4, hy4⟩ : ∃ y, xs (q + 4) = y := ⟨_, rfl⟩
  obtain ⟨y5, hy5⟩ : ∃ y, xs (q + 5) = y := ⟨_, rfl⟩
  refine lv_aload_n hx hb dL_law_1058 rfl (lv_at hl 2 rfl) ?_
  refine lv_aload_n hx hb dL_law_1059 rfl (lv_at hl 3 rfl) ?_
  refine lv_iload_n hx hb dL_law_1060 rfl (lv_at hl 0 rfl) ?_
  refine lv_iconst (v := 1) hx hb dL_law_1061 (by decide) ?_
  refine lv_iadd hx hb dL_law_1062 ?_
  refine h_top (v := (nI (q + 1))) (nI_add q 1) ?_
  refine va_sld hx hb hX hbl hbA hS0 (vp_in_nI (by omega) (by omega)) dL_law_1063 ?_
  refine h_top (v := y1) (by rw [nI_clamp (by omega)]; exact hy1) ?_
  refine lv_if_eq (tgt := 1071) hx hb dL_law_1064 (by decide) (fun c1 => ?_) (fun c1 => ?_)
  · skip
    have c1 : y1.toInt = (0 : Int) := congrArg Int32.toInt c1
    refine lv_iconst (v := 0) hx hb dL_law_1071 (by decide) ?_
    have hT0 : hT G (w_Y (tC (fun v => v = nI k)) x) H0 := hI.2.1
    refine h_callVi (T := TX10) (rest := []) (As := [.int 0]) hx hb hml hown hts hK hT0 hZ (fun q hq => (w_Y_A q hq).1) hS0 (c_X10_quiet l G (w_Y (tC (fun v => v = nI k)) x) (fun v => v = nI k) (x) (w_Y_w (t := tC (fun v => v = nI k)) (x := x)) 0) trivial wd_X10_quiet wV_X10_quiet wL_L_149 (on_w0 (w_Y_w (t := tC (fun v => v = nI k)) (x := x))) rfl rfl hl.1 rfl (Nat.le_of_ble_eq_true rfl) dL_law_1072 ⟨Nat.le_of_ble_eq_true rfl, Nat.le_of_ble_eq_true rfl⟩ ⟨Nat.le_refl _, Nat.le_refl _⟩ (fun r2 H1 locs hp1 hT1 hS1 hk1 => ?_)
    replace hI := hI.C hT1 hk1
    refine lv_pop hx hb dL_law_1075 rfl ?_
    refine lv_aload_n hx hb dL_law_1076 rfl (lv_at hl 1 rfl) ?_
    refine lv_aload_n hx hb dL_law_1077 rfl (lv_at hl 3 rfl) ?_
    refine lv_iload_n hx hb dL_law_1078 rfl (lv_at hl 0 rfl) ?_
    refine lv_iconst (v := 1) hx hb dL_law_1079 (by decide) ?_
    refine lv_iadd hx hb dL_law_1080 ?_
    refine h_top (v := (nI (q + 1))) (nI_add q 1) ?_
    refine va_sld hx hb hX hbl hbA hS1 (vp_in_nI (by omega) (by omega)) dL_law_1081 ?_
    refine h_top (v := y1) (by rw [nI_clamp (by omega)]; exact hy1) ?_
    refine lv_if_eq (tgt := 1089) hx hb dL_law_1082 (by decide) (fun _ => ?_) (fun h => absurd (Int32.toInt_inj.mp (show y1.toInt = (0 : Int) from by omega)) h)
    refine lv_iconst (v := 0) hx hb dL_law_1089 (by decide) ?_
    have hT1 : hT G (m_Y (tM (fun v => v = nI k)) (x + 169)) H1 := hI.2.2.1
    refine h_callVi (T := TX11) (rest := []) (As := [.int 0]) hx hb hml hown hts hK hT1 hZ (fun q hq => Nat.le_trans (Nat.le_add_right x 169) (m_Y_A q hq)) hS1 (c_X11_quiet l G (m_Y (tM (fun v => v = nI k)) (x + 169)) (fun v => v = nI k) (x + 169) (m_Y_m (t := tM (fun v => v = nI k)) (m := x + 169)) 0 (by decide)) hI.2.2.2.1 wd_X11_quiet wV_X11_quiet wL_L_153 ((m_Y_m (t := tM (fun v => v = nI k)) (m := x + 169)).o rfl) rfl rfl hl.1 rfl (Nat.le_of_ble_eq_true rfl) dL_law_1090 ⟨Nat.le_of_ble_eq_true rfl, Nat.le_of_ble_eq_true rfl⟩ ⟨Nat.le_refl _, Nat.le_refl _⟩ (fun r3 H2 locs hp2 hT2 hS2 hk2 => ?_)
    obtain ⟨hp2, hB2⟩ := hp2
    replace hI := hI.M hT2 hB2.1 hB2.2 hk2
    refine lv_pop hx hb dL_law_1093 rfl ?_
    refine lv_goto (tgt := 1273) hx hb dL_law_1094 (by decide) ?_
    exact htail _ _ _ _ hI hS2 (lv_sub hl [0, 1, 2, 3] rfl)
  · skip
    have c1 : ¬ y1.toInt = (0 : Int) := h_neI c1
    refine lv_iconst (v := 1) hx hb dL_law_1067 (by decide) ?_
    refine lv_goto (tgt := 1072) hx hb dL_law_1068 (by decide) ?_
    have hT0 : hT G (w_Y (tC (fun v => v = nI k)) x) H0 := hI.2.1
    refine h_callVi (T := TX10) (rest := []) (As := [.int 1]) hx hb hml hown hts hK hT0 hZ (fun q hq => (w_Y_A q hq).1) hS0 (c_X10_quiet l G (w_Y (tC (fun v => v = nI k)) x) (fun v => v = nI k) (x) (w_Y_w (t := tC (fun v => v = nI k)) (x := x)) 1) trivial wd_X10_quiet wV_X10_quiet wL_L_149 (on_w0 (w_Y_w (t := tC (fun v => v = nI k)) (x := x))) rfl rfl hl.1 rfl (Nat.le_of_ble_eq_true rfl) dL_law_1072 ⟨Nat.le_of_ble_eq_true rfl, Nat.le_of_ble_eq_true rfl⟩ ⟨Nat.le_refl _, Nat.le_refl _⟩ (fun r4 H3 locs hp3 hT3 hS3 hk3 => ?_)
    replace hI := hI.C hT3 hk3
    refine lv_pop hx hb dL_law_1075 rfl ?_
    refine lv_aload_n hx hb dL_law_1076 rfl (lv_at hl 1 rfl) ?_
    refine lv_aload_n hx hb dL_law_1077 rfl (lv_at hl 3 rfl) ?_
    refine lv_iload_n hx hb dL_law_1078 rfl (lv_at hl 0 rfl) ?_
    refine lv_iconst (v := 1) hx hb dL_law_1079 (by decide) ?_
    refine lv_iadd hx hb dL_law_1080 ?_
    refine h_top (v := (nI (q + 1))) (nI_add q 1) ?_
    refine va_sld hx hb hX hbl hbA hS3 (vp_in_nI (by omega) (by omega)) dL_law_1081 ?_
    refine h_top (v := y1) (by rw [nI_clamp (by omega)]; exact hy1) ?_
    refine lv_if_eq (tgt := 1089) hx hb dL_law_1082 (by decide) (fun c5 => ?_) (fun c5 => ?_)
    · skip
      have c5 : y1.toInt = (0 : Int) := congrArg Int32.toInt c5
      refine lv_iconst (v := 0) hx hb dL_law_1089 (by decide) ?_
      have hT3 : hT G (m_Y (tM (fun v => v = nI k)) (x + 169)) H3 := hI.2.2.1
      refine h_callVi (T := TX11) (rest := []) (As := [.int 0]) hx hb hml hown hts hK hT3 hZ (fun q hq => Nat.le_trans (Nat.le_add_right x 169) (m_Y_A q hq)) hS3 (c_X11_quiet l G (m_Y (tM (fun v => v = nI k)) (x + 169)) (fun v => v = nI k) (x + 169) (m_Y_m (t := tM (fun v => v = nI k)) (m := x + 169)) 0 (by decide)) hI.2.2.2.1 wd_X11_quiet wV_X11_quiet wL_L_153 ((m_Y_m (t := tM (fun v => v = nI k)) (m := x + 169)).o rfl) rfl rfl hl.1 rfl (Nat.le_of_ble_eq_true rfl) dL_law_1090 ⟨Nat.le_of_ble_eq_true rfl, Nat.le_of_ble_eq_true rfl⟩ ⟨Nat.le_refl _, Nat.le_refl _⟩ (fun r6 H4 locs hp4 hT4 hS4 hk4 => ?_)
      obtain ⟨hp4, hB4⟩ := hp4
      replace hI := hI.M hT4 hB4.1 hB4.2 hk4
      refine lv_pop hx hb dL_law_1093 rfl ?_
      refine lv_goto (tgt := 1273) hx hb dL_law_1094 (by decide) ?_
      exact htail _ _ _ _ hI hS4 (lv_sub hl [0, 1, 2, 3] rfl)
    · skip
      have c5 : ¬ y1.toInt = (0 : Int) := h_neI c5
      refine lv_iconst (v := 1) hx hb dL_law_1085 (by decide) ?_
      refine lv_goto (tgt := 1090) hx hb dL_law_1086 (by decide) ?_
      have hT3 : hT G (m_Y (tM (fun v => v = nI k)) (x + 169)) H3 := hI.2.2.1
      refine h_callVi (T := TX11) (rest := []) (As := [.int 1]) hx hb hml hown hts hK hT3 hZ (fun q hq => Nat.le_trans (Nat.le_add_right x 169) (m_Y_A q hq)) hS3 (c_X11_quiet l G (m_Y (tM (fun v => v = nI k)) (x + 169)) (fun v => v = nI k) (x + 169) (m_Y_m (t := tM (fun v => v = nI k)) (m := x + 169)) 1 (by decide)) hI.2.2.2.1 wd_X11_quiet wV_X11_quiet wL_L_153 ((m_Y_m (t := tM (fun v => v = nI k)) (m := x + 169)).o rfl) rfl rfl hl.1 rfl (Nat.le_of_ble_eq_true rfl) dL_law_1090 ⟨Nat.le_of_ble_eq_true rfl, Nat.le_of_ble_eq_true rfl⟩ ⟨Nat.le_refl _, Nat.le_refl _⟩ (fun r7 H5 locs hp5 hT5 hS5 hk5 => ?_)
      obtain ⟨hp5, hB5⟩ := hp5
      replace hI := hI.M hT5 hB5.1 hB5.2 hk5
      refine lv_pop hx hb dL_law_1093 rfl ?_
      refine lv_goto (tgt := 1273) hx hb dL_law_1094 (by decide) ?_
      exact htail _ _ _ _ hI hS5 (lv_sub hl [0, 1, 2, 3] rfl)
set_option maxHeartbeats 4000000 in
set_option maxRecDepth 100000 in
theorem law_case_33 {p : Program} {l : Launch} {e : Env} {s : State} {m : MethodId} {below : List Frame} {meth : Method} {c : Code} {b x L q k : Nat} {xs : Nat → Int32} {G : hG} {H0 : Heap} {locs : List Loc} {ls : Array Slot} (hx : p.tables.exec = Jvm.exec) (hb : c.code = code) (hts : ∀ w ∈ wsL_law, w.before #[Value.ref b] s = true) (hown : s.vm.findClass RL = some m.cls) (hml : c.maxLocals = 4) (hK : h_K G s) (hZ : h_Z G (fun q => x ≤ q) s) (hX : va_X b L xs s s.heap) (hbl : b < s.heap.size) (hbA : ¬ x ≤ b) (htail : ∀ (k : Nat) (H : Heap) (locs : List Loc) (ls : Array Slot), lwI G x k H → va_S (fun q => x ≤ q) s.heap H locs → lv_has ls 4 [(3, .int (nI q)), (2, .ref (x + 169)), (1, .ref (x)), (0, .ref b)] → W p l e room_1 s m #[Value.ref b] below meth c H locs 600000 7302250 (lw_Z below #[Value.ref b] s) (F0 m 1273 ls [])) (hq : q + 6 ≤ L) (hL : L ≤ 3072) (hI : lwI G x k H0) (hS0 : va_S (fun q => x ≤ q) s.heap H0 locs) (hl : lv_has ls 4 [(3, .int (nI q)), (2, .ref (x + 169)), (1, .ref (x)), (0, .ref b)]) : W p l e room_1 s m #[Value.ref b] below meth c H0 locs 600000 7302250 (lw_Z below #[Value.ref b] s) (F0 m 1097 ls []) := by
  obtain ⟨y1, hy1⟩ : ∃ y, xs (q + 1) = y := ⟨_, rfl⟩
  obtain ⟨y2, hy2⟩ : ∃ y, xs (q + 2) = y := ⟨_, rfl⟩
  obtain ⟨y3, hy3⟩ : ∃ y, xs (q + 3) = y := ⟨_, rfl⟩
  obtain ⟨y4, hy4⟩ : ∃ y, xs (q + 4) = y := ⟨_, rfl⟩
  obtain ⟨y5, hy5⟩ : ∃ y, xs (q + 5) = y := ⟨_, rfl⟩
  refine lv_aload_n hx hb dL_law_1097 rfl (lv_at hl 2 rfl) ?_
  refine lv_aload_n hx hb dL_law_1098 rfl (lv_at hl 3 rfl) ?_
  refine lv_iload_n hx hb dL_law_1099 rfl (lv_at hl 0 rfl) ?_
  refine lv_iconst (v := 1) hx hb dL_law_1100 (by decide) ?_
  refine lv_iadd hx hb dL_law_1101 ?_
  refine h_top (v := (nI (q + 1))) (nI_add q 1) ?_
  refine va_sld hx hb hX hbl hbA hS0 (vp_in_nI (by omega) (by omega)) dL_law_1102 ?_
  refine h_top (v := y1) (by rw [nI_clamp (by omega)]; exact hy1) ?_
  refine lv_aload_n hx hb dL_law_1103 rfl (lv_at hl 3 rfl) ?_
  refine lv_iload_n hx hb dL_law_1104 rfl (lv_at hl 0 rfl) ?_
  refine lv_iconst (v := 2) hx hb dL_law_1105 (by decide) ?_
  refine lv_iadd hx hb dL_law_1106 ?_
  refine h_top (v := (nI (q + 2))) (nI_add q 2) ?_
  refine va_sld hx hb hX hbl hbA hS0 (vp_in_nI (by omega) (by omega)) dL_law_1107 ?_
  refine h_top (v := y2) (by rw [nI_clamp (by omega)]; exact hy2) ?_
  refine lv_if_eq (tgt := 1115) hx hb dL_law_1108 (by decide) (fun c1 => ?_) (fun c1 => ?_)
  · skip
    have c1 : y2.toInt = (0 : Int) := congrArg Int32.toInt c1
    refine lv_iconst (v := 0) hx hb dL_law_1115 (by decide) ?_
    have hT0 : hT G (w_Y (tC (fun v => v = nI k)) x) H0 := hI.2.1
    refine h_callVi (T := TX10) (rest := []) (As := [.int y1, .int 0]) hx hb hml hown hts hK hT0 hZ (fun q hq => (w_Y_A q hq).1) hS0 (c_X10_when l G (w_Y (tC (fun v => v = nI k)) x) (fun v => v = nI k) (x) (w_Y_w (t := tC (fun v => v = nI k)) (x := x)) y1 0) trivial wd_X10_when wV_X10_when wL_L_154 (on_w0 (w_Y_w (t := tC (fun v => v = nI k)) (x := x))) rfl rfl hl.1 rfl (Nat.le_of_ble_eq_true rfl) dL_law_1116 ⟨Nat.le_of_ble_eq_true rfl, Nat.le_of_ble_eq_true rfl⟩ ⟨Nat.le_refl _, Nat.le_refl _⟩ (fun r2 H1 locs hp1 hT1 hS1 hk1 => ?_)
    replace hI := hI.C hT1 hk1
    refine lv_pop hx hb dL_law_1119 rfl ?_
    refine lv_aload_n hx hb dL_law_1120 rfl (lv_at hl 1 rfl) ?_
    refine lv_aload_n hx hb dL_law_1121 rfl (lv_at hl 3 rfl) ?_
    refine lv_iload_n hx hb dL_law_1122 rfl (lv_at hl 0 rfl) ?_
    refine lv_iconst (v := 1) hx hb dL_law_1123 (by decide) ?_
    refine lv_iadd hx hb dL_law_1124 ?_
    refine h_top (v := (nI (q + 1))) (nI_add q 1) ?_
    refine va_sld hx hb hX hbl hbA hS1 (vp_in_nI (by omega) (by omega)) dL_law_1125 ?_
    refine h_top (v := y1) (by rw [nI_clamp (by omega)]; exact hy1) ?_
    refine lv_aload_n hx hb dL_law_1126 rfl (lv_at hl 3 rfl) ?_
    refine lv_iload_n hx hb dL_law_1127 rfl (lv_at hl 0 rfl) ?_
    refine lv_iconst (v := 2) hx hb dL_law_1128 (by decide) ?_
    refine lv_iadd hx hb dL_law_1129 ?_
    refine h_top (v := (nI (q + 2))) (nI_add q 2) ?_
    refine va_sld hx hb hX hbl hbA hS1 (vp_in_nI (by omega) (by omega)) dL_law_1130 ?_
    refine h_top (v := y2) (by rw [nI_clamp (by omega)]; exact hy2) ?_
    refine lv_if_eq (tgt := 1138) hx hb dL_law_1131 (by decide) (fun _ => ?_) (fun h => absurd (Int32.toInt_inj.mp (show y2.toInt = (0 : Int) from by omega)) h)
    refine lv_iconst (v := 0) hx hb dL_law_1138 (by decide) ?_
    have hT1 : hT G (m_Y (tM (fun v => v = nI k)) (x + 169)) H1 := hI.2.2.1
    refine h_callVi (T := TX11) (rest := []) (As := [.int y1, .int 0]) hx hb hml hown hts hK hT1 hZ (fun q hq => Nat.le_trans (Nat.le_add_right x 169) (m_Y_A q hq)) hS1 (c_X11_when l G (m_Y (tM (fun v => v = nI k)) (x + 169)) (fun v => v = nI k) (x + 169) (m_Y_m (t := tM (fun v => v = nI k)) (m := x + 169)) y1 0 (by decide)) hI.2.2.2.1 wd_X11_when wV_X11_when wL_L_158 ((m_Y_m (t := tM (fun v => v = nI k)) (m := x + 169)).o rfl) rfl rfl hl.1 rfl (Nat.le_of_ble_eq_true rfl) dL_law_1139 ⟨Nat.le_of_ble_eq_true rfl, Nat.le_of_ble_eq_true rfl⟩ ⟨Nat.le_refl _, Nat.le_refl _⟩ (fun r3 H2 locs hp2 hT2 hS2 hk2 => ?_)
    obtain ⟨hp2, hB2⟩ := hp2
    replace hI := hI.M hT2 hB2.1 hB2.2 hk2
    refine lv_pop hx hb dL_law_1142 rfl ?_
    refine lv_goto (tgt := 1273) hx hb dL_law_1143 (by decide) ?_
    exact htail _ _ _ _ hI hS2 (lv_sub hl [0, 1, 2, 3] rfl)
  · skip
    have c1 : ¬ y2.toInt = (0 : Int) := h_neI c1
    refine lv_iconst (v := 1) hx hb dL_law_1111 (by decide) ?_
    refine lv_goto (tgt := 1116) hx hb dL_law_1112 (by decide) ?_
    have hT0 : hT G (w_Y (tC (fun v => v = nI k)) x) H0 := hI.2.1
    refine h_callVi (T := TX10) (rest := []) (As := [.int y1, .int 1]) hx hb hml hown hts hK hT0 hZ (fun q hq => (w_Y_A q hq).1) hS0 (c_X10_when l G (w_Y (tC (fun v => v = nI k)) x) (fun v => v = nI k) (x) (w_Y_w (t := tC (fun v => v = nI k)) (x := x)) y1 1) trivial wd_X10_when wV_X10_when wL_L_154 (on_w0 (w_Y_w (t := tC (fun v => v = nI k)) (x := x))) rfl rfl hl.1 rfl (Nat.le_of_ble_eq_true rfl) dL_law_1116 ⟨Nat.le_of_ble_eq_true rfl, Nat.le_of_ble_eq_true rfl⟩ ⟨Nat.le_refl _, Nat.le_refl _⟩ (fun r4 H3 locs hp3 hT3 hS3 hk3 => ?_)
    replace hI := hI.C hT3 hk3
    refine lv_pop hx hb dL_law_1119 rfl ?_
    refine lv_aload_n hx hb dL_law_1120 rfl (lv_at hl 1 rfl) ?_
    refine lv_aload_n hx hb dL_law_1121 rfl (lv_at hl 3 rfl) ?_
    refine lv_iload_n hx hb dL_law_1122 rfl (lv_at hl 0 rfl) ?_
    refine lv_iconst (v := 1) hx hb dL_law_1123 (by decide) ?_
    refine lv_iadd hx hb dL_law_1124 ?_
    refine h_top (v := (nI (q + 1))) (nI_add q 1) ?_
    refine va_sld hx hb hX hbl hbA hS3 (vp_in_nI (by omega) (by omega)) dL_law_1125 ?_
    refine h_top (v := y1) (by rw [nI_clamp (by omega)]; exact hy1) ?_
    refine lv_aload_n hx hb dL_law_1126 rfl (lv_at hl 3 rfl) ?_
    refine lv_iload_n hx hb dL_law_1127 rfl (lv_at hl 0 rfl) ?_
    refine lv_iconst (v := 2) hx hb dL_law_1128 (by decide) ?_
    refine lv_iadd hx hb dL_law_1129 ?_
    refine h_top (v := (nI (q + 2))) (nI_add q 2) ?_
    refine va_sld hx hb hX hbl hbA hS3 (vp_in_nI (by omega) (by omega)) dL_law_1130 ?_
    refine h_top (v := y2) (by rw [nI_clamp (by omega)]; exact hy2) ?_
    refine lv_if_eq (tgt := 1138) hx hb dL_law_1131 (by decide) (fun c5 => ?_) (fun c5 => ?_)
    · skip
      have c5 : y2.toInt = (0 : Int) := congrArg Int32.toInt c5
      refine lv_iconst (v := 0) hx hb dL_law_1138 (by decide) ?_
      have hT3 : hT G (m_Y (tM (fun v => v = nI k)) (x + 169)) H3 := hI.2.2.1
      refine h_callVi (T := TX11) (rest := []) (As := [.int y1, .int 0]) hx hb hml hown hts hK hT3 hZ (fun q hq => Nat.le_trans (Nat.le_add_right x 169) (m_Y_A q hq)) hS3 (c_X11_when l G (m_Y (tM (fun v => v = nI k)) (x + 169)) (fun v => v = nI k) (x + 169) (m_Y_m (t := tM (fun v => v = nI k)) (m := x + 169)) y1 0 (by decide)) hI.2.2.2.1 wd_X11_when wV_X11_when wL_L_158 ((m_Y_m (t := tM (fun v => v = nI k)) (m := x + 169)).o rfl) rfl rfl hl.1 rfl (Nat.le_of_ble_eq_true rfl) dL_law_1139 ⟨Nat.le_of_ble_eq_true rfl, Nat.le_of_ble_eq_true rfl⟩ ⟨Nat.le_refl _, Nat.le_refl _⟩ (fun r6 H4 locs hp4 hT4 hS4 hk4 => ?_)
      obtain ⟨hp4, hB4⟩ := hp4
      replace hI := hI.M hT4 hB4.1 hB4.2 hk4
      refine lv_pop hx hb dL_law_1142 rfl ?_
      refine lv_goto (tgt := 1273) hx hb dL_law_1143 (by decide) ?_
      exact htail _ _ _ _ hI hS4 (lv_sub hl [0, 1, 2, 3] rfl)
    · skip
      have c5 : ¬ y2.toInt = (0 : Int) := h_neI c5
      refine lv_iconst (v := 1) hx hb dL_law_1134 (by decide) ?_
      refine lv_goto (tgt := 1139) hx hb dL_law_1135 (by decide) ?_
      have hT3 : hT G (m_Y (tM (fun v => v = nI k)) (x + 169)) H3 := hI.2.2.1
      refine h_callVi (T := TX11) (rest := []) (As := [.int y1, .int 1]) hx hb hml hown hts hK hT3 hZ (fun q hq => Nat.le_trans (Nat.le_add_right x 169) (m_Y_A q hq)) hS3 (c_X11_when l G (m_Y (tM (fun v => v = nI k)) (x + 169)) (fun v => v = nI k) (x + 169) (m_Y_m (t := tM (fun v => v = nI k)) (m := x + 169)) y1 1 (by decide)) hI.2.2.2.1 wd_X11_when wV_X11_when wL_L_158 ((m_Y_m (t := tM (fun v => v = nI k)) (m := x + 169)).o rfl) rfl rfl hl.1 rfl (Nat.le_of_ble_eq_true rfl) dL_law_1139 ⟨Nat.le_of_ble_eq_true rfl, Nat.le_of_ble_eq_true rfl⟩ ⟨Nat.le_refl _, Nat.le_refl _⟩ (fun r7 H5 locs hp5 hT5 hS5 hk5 => ?_)
      obtain ⟨hp5, hB5⟩ := hp5
      replace hI := hI.M hT5 hB5.1 hB5.2 hk5
      refine lv_pop hx hb dL_law_1142 rfl ?_
      refine lv_goto (tgt := 1273) hx hb dL_law_1143 (by decide) ?_
      exact htail _ _ _ _ hI hS5 (lv_sub hl [0, 1, 2, 3] rfl)
set_option maxHeartbeats 4000000 in
set_option maxRecDepth 100000 in
theorem law_case_34 {p : Program} {l : Launch} {e : Env} {s : State} {m : MethodId} {below : List Frame} {meth : Method} {c : Code} {b x L q k : Nat} {xs : Nat → Int32} {G : hG} {H0 : Heap} {locs : List Loc} {ls : Array Slot} (hx : p.tables.exec = Jvm.exec) (hb : c.code = code) (hts : ∀ w ∈ wsL_law, w.before #[Value.ref b] s = true) (hown : s.vm.findClass RL = some m.cls) (hml : c.maxLocals = 4) (hK : h_K G s) (hZ : h_Z G (fun q => x ≤ q) s) (hX : va_X b L xs s s.heap) (hbl : b < s.heap.size) (hbA : ¬ x ≤ b) (htail : ∀ (k : Nat) (H : Heap) (locs : List Loc) (ls : Array Slot), lwI G x k H → va_S (fun q => x ≤ q) s.heap H locs → lv_has ls 4 [(3, .int (nI q)), (2, .ref (x + 169)), (1, .ref (x)), (0, .ref b)] → W p l e room_1 s m #[Value.ref b] below meth c H locs 600000 7302250 (lw_Z below #[Value.ref b] s) (F0 m 1273 ls [])) (hq : q + 6 ≤ L) (hL : L ≤ 3072) (hI : lwI G x k H0) (hS0 : va_S (fun q => x ≤ q) s.heap H0 locs) (hl : lv_has ls 4 [(3, .int (nI q)), (2, .ref (x + 169)), (1, .ref (x)), (0, .ref b)]) : W p l e room_1 s m #[Value.ref b] below meth c H0 locs 600000 7302250 (lw_Z below #[Value.ref b] s) (F0 m 1146 ls []) := by
  obtain ⟨y1, hy1⟩ : ∃ y, xs (q + 1) = y := ⟨_, rfl⟩
  obtain ⟨y2, hy2⟩ : ∃ y, xs (q + 2) = y := ⟨_, rfl⟩
  obtain ⟨y3, hy3⟩ : ∃ y, xs (q + 3) = y := ⟨_, rfl⟩
  obtain ⟨y4, hy4⟩ : ∃ y, xs (q + 4) = y := ⟨_, rfl⟩
  obtain ⟨y5, hy5⟩ : ∃ y, xs (q + 5) = y := ⟨_, rfl⟩
  refine lv_aload_n hx hb dL_law_1146 rfl (lv_at hl 2 rfl) ?_
  refine lv_aload_n hx hb dL_law_1147 rfl (lv_at hl 3 rfl) ?_
  refine lv_iload_n hx hb dL_law_1148 rfl (lv_at hl 0 rfl) ?_
  refine lv_iconst (v := 1) hx hb dL_law_1149 (by decide) ?_
  refine lv_iadd hx hb dL_law_1150 ?_
  refine h_top (v := (nI (q + 1))) (nI_add q 1) ?_
  refine va_sld hx hb hX hbl hbA hS0 (vp_in_nI (by omega) (by omega)) dL_law_1151 ?_
  refine h_top (v := y1) (by rw [nI_clamp (by omega)]; exact hy1) ?_
  refine lv_aload_n hx hb dL_law_1152 rfl (lv_at hl 3 rfl) ?_
  refine lv_iload_n hx hb dL_law_1153 rfl (lv_at hl 0 rfl) ?_
  refine lv_iconst (v := 2) hx hb dL_law_1154 (by decide) ?_
  refine lv_iadd hx hb dL_law_1155 ?_
  refine h_top (v := (nI (q + 2))) (nI_add q 2) ?_
  refine va_sld hx hb hX hbl hbA hS0 (vp_in_nI (by omega) (by omega)) dL_law_1156 ?_
  refine h_top (v := y2) (by rw [nI_clamp (by omega)]; exact hy2) ?_
  refine lv_if_eq (tgt := 1164) hx hb dL_law_1157 (by decide) (fun c1 => ?_) (fun c1 => ?_)
  · skip
    have c1 : y2.toInt = (0 : Int) := congrArg Int32.toInt c1
    refine lv_iconst (v := 0) hx hb dL_law_1164 (by decide) ?_
    have hT0 : hT G (w_Y (tC (fun v => v = nI k)) x) H0 := hI.2.1
    refine h_callVi (T := TX10) (rest := []) (As := [.int y1, .int 0]) hx hb hml hown hts hK hT0 hZ (fun q hq => (w_Y_A q hq).1) hS0 (c_X10_next l G (w_Y (tC (fun v => v = nI k)) x) (fun v => v = nI k) (x) (w_Y_w (t := tC (fun v => v = nI k)) (x := x)) y1 0) trivial wd_X10_next wV_X10_next wL_L_159 (on_w0 (w_Y_w (t := tC (fun v => v = nI k)) (x := x))) rfl rfl hl.1 rfl (Nat.le_of_ble_eq_true rfl) dL_law_1165 ⟨Nat.le_of_ble_eq_true rfl, Nat.le_of_ble_eq_true rfl⟩ ⟨Nat.le_refl _, Nat.le_refl _⟩ (fun r2 H1 locs hp1 hT1 hS1 hk1 => ?_)
    replace hI := hI.C hT1 hk1
    refine lv_pop hx hb dL_law_1168 rfl ?_
    refine lv_aload_n hx hb dL_law_1169 rfl (lv_at hl 1 rfl) ?_
    refine lv_aload_n hx hb dL_law_1170 rfl (lv_at hl 3 rfl) ?_
    refine lv_iload_n hx hb dL_law_1171 rfl (lv_at hl 0 rfl) ?_
    refine lv_iconst (v := 1) hx hb dL_law_1172 (by decide) ?_
    refine lv_iadd hx hb dL_law_1173 ?_
    refine h_top (v := (nI (q + 1))) (nI_add q 1) ?_
    refine va_sld hx hb hX hbl hbA hS1 (vp_in_nI (by omega) (by omega)) dL_law_1174 ?_
    refine h_top (v := y1) (by rw [nI_clamp (by omega)]; exact hy1) ?_
    refine lv_aload_n hx hb dL_law_1175 rfl (lv_at hl 3 rfl) ?_
    refine lv_iload_n hx hb dL_law_1176 rfl (lv_at hl 0 rfl) ?_
    refine lv_iconst (v := 2) hx hb dL_law_1177 (by decide) ?_
    refine lv_iadd hx hb dL_law_1178 ?_
    refine h_top (v := (nI (q + 2))) (nI_add q 2) ?_
    refine va_sld hx hb hX hbl hbA hS1 (vp_in_nI (by omega) (by omega)) dL_law_1179 ?_
    refine h_top (v := y2) (by rw [nI_clamp (by omega)]; exact hy2) ?_
    refine lv_if_eq (tgt := 1187) hx hb dL_law_1180 (by decide) (fun _ => ?_) (fun h => absurd (Int32.toInt_inj.mp (show y2.toInt = (0 : Int) from by omega)) h)
    refine lv_iconst (v := 0) hx hb dL_law_1187 (by decide) ?_
    have hT1 : hT G (m_Y (tM (fun v => v = nI k)) (x + 169)) H1 := hI.2.2.1
    refine h_callVi (T := TX11) (rest := []) (As := [.int y1, .int 0]) hx hb hml hown hts hK hT1 hZ (fun q hq => Nat.le_trans (Nat.le_add_right x 169) (m_Y_A q hq)) hS1 (c_X11_next l G (m_Y (tM (fun v => v = nI k)) (x + 169)) (fun v => v = nI k) (x + 169) (m_Y_m (t := tM (fun v => v = nI k)) (m := x + 169)) y1 0 (by decide)) hI.2.2.2.1 wd_X11_next wV_X11_next wL_L_162 ((m_Y_m (t := tM (fun v => v = nI k)) (m := x + 169)).o rfl) rfl rfl hl.1 rfl (Nat.le_of_ble_eq_true rfl) dL_law_1188 ⟨Nat.le_of_ble_eq_true rfl, Nat.le_of_ble_eq_true rfl⟩ ⟨Nat.le_refl _, Nat.le_refl _⟩ (fun r3 H2 locs hp2 hT2 hS2 hk2 => ?_)
    obtain ⟨hp2, hB2⟩ := hp2
    replace hI := hI.M hT2 hB2.1 hB2.2 hk2
    refine lv_pop hx hb dL_law_1191 rfl ?_
    refine lv_goto (tgt := 1273) hx hb dL_law_1192 (by decide) ?_
    exact htail _ _ _ _ hI hS2 (lv_sub hl [0, 1, 2, 3] rfl)
  · skip
    have c1 : ¬ y2.toInt = (0 : Int) := h_neI c1
    refine lv_iconst (v := 1) hx hb dL_law_1160 (by decide) ?_
    refine lv_goto (tgt := 1165) hx hb dL_law_1161 (by decide) ?_
    have hT0 : hT G (w_Y (tC (fun v => v = nI k)) x) H0 := hI.2.1
    refine h_callVi (T := TX10) (rest := []) (As := [.int y1, .int 1]) hx hb hml hown hts hK hT0 hZ (fun q hq => (w_Y_A q hq).1) hS0 (c_X10_next l G (w_Y (tC (fun v => v = nI k)) x) (fun v => v = nI k) (x) (w_Y_w (t := tC (fun v => v = nI k)) (x := x)) y1 1) trivial wd_X10_next wV_X10_next wL_L_159 (on_w0 (w_Y_w (t := tC (fun v => v = nI k)) (x := x))) rfl rfl hl.1 rfl (Nat.le_of_ble_eq_true rfl) dL_law_1165 ⟨Nat.le_of_ble_eq_true rfl, Nat.le_of_ble_eq_true rfl⟩ ⟨Nat.le_refl _, Nat.le_refl _⟩ (fun r4 H3 locs hp3 hT3 hS3 hk3 => ?_)
    replace hI := hI.C hT3 hk3
    refine lv_pop hx hb dL_law_1168 rfl ?_
    refine lv_aload_n hx hb dL_law_1169 rfl (lv_at hl 1 rfl) ?_
    refine lv_aload_n hx hb dL_law_1170 rfl (lv_at hl 3 rfl) ?_
    refine lv_iload_n hx hb dL_law_1171 rfl (lv_at hl 0 rfl) ?_
    refine lv_iconst (v := 1) hx hb dL_law_1172 (by decide) ?_
    refine lv_iadd hx hb dL_law_1173 ?_
    refine h_top (v := (nI (q + 1))) (nI_add q 1) ?_
    refine va_sld hx hb hX hbl hbA hS3 (vp_in_nI (by omega) (by omega)) dL_law_1174 ?_
    refine h_top (v := y1) (by rw [nI_clamp (by omega)]; exact hy1) ?_
    refine lv_aload_n hx hb dL_law_1175 rfl (lv_at hl 3 rfl) ?_
    refine lv_iload_n hx hb dL_law_1176 rfl (lv_at hl 0 rfl) ?_
    refine lv_iconst (v := 2) hx hb dL_law_1177 (by decide) ?_
    refine lv_iadd hx hb dL_law_1178 ?_
    refine h_top (v := (nI (q + 2))) (nI_add q 2) ?_
    refine va_sld hx hb hX hbl hbA hS3 (vp_in_nI (by omega) (by omega)) dL_law_1179 ?_
    refine h_top (v := y2) (by rw [nI_clamp (by omega)]; exact hy2) ?_
    refine lv_if_eq (tgt := 1187) hx hb dL_law_1180 (by decide) (fun c5 => ?_) (fun c5 => ?_)
    · skip
      have c5 : y2.toInt = (0 : Int) := congrArg Int32.toInt c5
      refine lv_iconst (v := 0) hx hb dL_law_1187 (by decide) ?_
      have hT3 : hT G (m_Y (tM (fun v => v = nI k)) (x + 169)) H3 := hI.2.2.1
      refine h_callVi (T := TX11) (rest := []) (As := [.int y1, .int 0]) hx hb hml hown hts hK hT3 hZ (fun q hq => Nat.le_trans (Nat.le_add_right x 169) (m_Y_A q hq)) hS3 (c_X11_next l G (m_Y (tM (fun v => v = nI k)) (x + 169)) (fun v => v = nI k) (x + 169) (m_Y_m (t := tM (fun v => v = nI k)) (m := x + 169)) y1 0 (by decide)) hI.2.2.2.1 wd_X11_next wV_X11_next wL_L_162 ((m_Y_m (t := tM (fun v => v = nI k)) (m := x + 169)).o rfl) rfl rfl hl.1 rfl (Nat.le_of_ble_eq_true rfl) dL_law_1188 ⟨Nat.le_of_ble_eq_true rfl, Nat.le_of_ble_eq_true rfl⟩ ⟨Nat.le_refl _, Nat.le_refl _⟩ (fun r6 H4 locs hp4 hT4 hS4 hk4 => ?_)
      obtain ⟨hp4, hB4⟩ := hp4
      replace hI := hI.M hT4 hB4.1 hB4.2 hk4
      refine lv_pop hx hb dL_law_1191 rfl ?_
      refine lv_goto (tgt := 1273) hx hb dL_law_1192 (by decide) ?_
      exact htail _ _ _ _ hI hS4 (lv_sub hl [0, 1, 2, 3] rfl)
    · skip
      have c5 : ¬ y2.toInt = (0 : Int) := h_neI c5
      refine lv_iconst (v := 1) hx hb dL_law_1183 (by decide) ?_
      refine lv_goto (tgt := 1188) hx hb dL_law_1184 (by decide) ?_
      have hT3 : hT G (m_Y (tM (fun v => v = nI k)) (x + 169)) H3 := hI.2.2.1
      refine h_callVi (T := TX11) (rest := []) (As := [.int y1, .int 1]) hx hb hml hown hts hK hT3 hZ (fun q hq => Nat.le_trans (Nat.le_add_right x 169) (m_Y_A q hq)) hS3 (c_X11_next l G (m_Y (tM (fun v => v = nI k)) (x + 169)) (fun v => v = nI k) (x + 169) (m_Y_m (t := tM (fun v => v = nI k)) (m := x + 169)) y1 1 (by decide)) hI.2.2.2.1 wd_X11_next wV_X11_next wL_L_162 ((m_Y_m (t := tM (fun v => v = nI k)) (m := x + 169)).o rfl) rfl rfl hl.1 rfl (Nat.le_of_ble_eq_true rfl) dL_law_1188 ⟨Nat.le_of_ble_eq_true rfl, Nat.le_of_ble_eq_true rfl⟩ ⟨Nat.le_refl _, Nat.le_refl _⟩ (fun r7 H5 locs hp5 hT5 hS5 hk5 => ?_)
      obtain ⟨hp5, hB5⟩ := hp5
      replace hI := hI.M hT5 hB5.1 hB5.2 hk5
      refine lv_pop hx hb dL_law_1191 rfl ?_
      refine lv_goto (tgt := 1273) hx hb dL_law_1192 (by decide) ?_
      exact htail _ _ _ _ hI hS5 (lv_sub hl [0, 1, 2, 3] rfl)
set_option maxHeartbeats 4000000 in
set_option maxRecDepth 100000 in
theorem law_case_35 {p : Program} {l : Launch} {e : Env} {s : State} {m : MethodId} {below : List Frame} {meth : Method} {c : Code} {b x L q k : Nat} {xs : Nat → Int32} {G : hG} {H0 : Heap} {locs : List Loc} {ls : Array Slot} (hx : p.tables.exec = Jvm.exec) (hb : c.code = code) (hts : ∀ w ∈ wsL_law, w.before #[Value.ref b] s = true) (hown : s.vm.findClass RL = some m.cls) (hml : c.maxLocals = 4) (hK : h_K G s) (hZ : h_Z G (fun q => x ≤ q) s) (hX : va_X b L xs s s.heap) (hbl : b < s.heap.size) (hbA : ¬ x ≤ b) (htail : ∀ (k : Nat) (H : Heap) (locs : List Loc) (ls : Array Slot), lwI G x k H → va_S (fun q => x ≤ q) s.heap H locs → lv_has ls 4 [(3, .int (nI q)), (2, .ref (x + 169)), (1, .ref (x)), (0, .ref b)] → W p l e room_1 s m #[Value.ref b] below meth c H locs 600000 7302250 (lw_Z below #[Value.ref b] s) (F0 m 1273 ls [])) (hq : q + 6 ≤ L) (hL : L ≤ 3072) (hI : lwI G x k H0) (hS0 : va_S (fun q => x ≤ q) s.heap H0 locs) (hl : lv_has ls 4 [(3, .int (nI q)), (2, .ref (x + 169)), (1, .ref (x)), (0, .ref b)]) : W p l e room_1 s m #[Value.ref b] below meth c H0 locs 600000 7302250 (lw_Z below #[Value.ref b] s) (F0 m 1195 ls []) := by
  obtain ⟨y1, hy1⟩ : ∃ y, xs (q + 1) = y := ⟨_, rfl⟩
  obtain ⟨y2, hy2⟩ : ∃ y, xs (q + 2) = y := ⟨_, rfl⟩
  obtain ⟨y3, hy3⟩ : ∃ y, xs (q + 3) = y := ⟨_, rfl⟩
  obtain ⟨y4, hy4⟩ : ∃ y, xs (q + 4) = y := ⟨_, rfl⟩
  obtain ⟨y5, hy5⟩ : ∃ y, xs (q + 5) = y := ⟨_, rfl⟩
  refine lv_aload_n hx hb dL_law_1195 rfl (lv_at hl 2 rfl) ?_
  have hT0 : hT G (w_Y (tC (fun v => v = nI k)) x) H0 := hI.2.1
  refine h_callVi (T := TX10) (rest := []) (As := []) hx hb hml hown hts hK hT0 hZ (fun q hq => (w_Y_A q hq).1) hS0 (c_X10_peak l G (w_Y (tC (fun v => v = nI k)) x) (fun v => v = nI k) (x) (w_Y_w (t := tC (fun v => v = nI k)) (x := x))) trivial wd_X10_peak wV_X10_peak wL_L_163 (on_w0 (w_Y_w (t := tC (fun v => v = nI k)) (x := x))) rfl rfl hl.1 rfl (Nat.le_of_ble_eq_true rfl) dL_law_1196 ⟨Nat.le_of_ble_eq_true rfl, Nat.le_of_ble_eq_true rfl⟩ ⟨Nat.le_refl _, Nat.le_refl _⟩ (fun r1 H1 locs hp1 hT1 hS1 hk1 => ?_)
  replace hI := hI.C hT1 hk1
  refine lv_pop hx hb dL_law_1199 rfl ?_
  refine lv_aload_n hx hb dL_law_1200 rfl (lv_at hl 1 rfl) ?_
  have hT1 : hT G (m_Y (tM (fun v => v = nI k)) (x + 169)) H1 := hI.2.2.1
  refine h_callVi (T := TX11) (rest := []) (As := []) hx hb hml hown hts hK hT1 hZ (fun q hq => Nat.le_trans (Nat.le_add_right x 169) (m_Y_A q hq)) hS1 (c_X11_peak l G (m_Y (tM (fun v => v = nI k)) (x + 169)) (fun v => v = nI k) (x + 169) (m_Y_m (t := tM (fun v => v = nI k)) (m := x + 169))) hI.2.2.2.1 wd_X11_peak wV_X11_peak wL_L_166 ((m_Y_m (t := tM (fun v => v = nI k)) (m := x + 169)).o rfl) rfl rfl hl.1 rfl (Nat.le_of_ble_eq_true rfl) dL_law_1201 ⟨Nat.le_of_ble_eq_true rfl, Nat.le_of_ble_eq_true rfl⟩ ⟨Nat.le_refl _, Nat.le_refl _⟩ (fun r2 H2 locs hp2 hT2 hS2 hk2 => ?_)
  obtain ⟨hp2, hB2⟩ := hp2
  replace hI := hI.M hT2 hB2.1 hB2.2 hk2
  refine lv_pop hx hb dL_law_1204 rfl ?_
  refine lv_goto (tgt := 1273) hx hb dL_law_1205 (by decide) ?_
  exact htail _ _ _ _ hI hS2 (lv_sub hl [0, 1, 2, 3] rfl)
set_option maxHeartbeats 4000000 in
set_option maxRecDepth 100000 in
theorem law_case_36 {p : Program} {l : Launch} {e : Env} {s : State} {m : MethodId} {below : List Frame} {meth : Method} {c : Code} {b x L q k : Nat} {xs : Nat → Int32} {G : hG} {H0 : Heap} {locs : List Loc} {ls : Array Slot} (hx : p.tables.exec = Jvm.exec) (hb : c.code = code) (hts : ∀ w ∈ wsL_law, w.before #[Value.ref b] s = true) (hown : s.vm.findClass RL = some m.cls) (hml : c.maxLocals = 4) (hK : h_K G s) (hZ : h_Z G (fun q => x ≤ q) s) (hX : va_X b L xs s s.heap) (hbl : b < s.heap.size) (hbA : ¬ x ≤ b) (htail : ∀ (k : Nat) (H : Heap) (locs : List Loc) (ls : Array Slot), lwI G x k H → va_S (fun q => x ≤ q) s.heap H locs → lv_has ls 4 [(3, .int (nI q)), (2, .ref (x + 169)), (1, .ref (x)), (0, .ref b)] → W p l e room_1 s m #[Value.ref b] below meth c H locs 600000 7302250 (lw_Z below #[Value.ref b] s) (F0 m 1273 ls [])) (hq : q + 6 ≤ L) (hL : L ≤ 3072) (hI : lwI G x k H0) (hS0 : va_S (fun q => x ≤ q) s.heap H0 locs) (hl : lv_has ls 4 [(3, .int (nI q)), (2, .ref (x + 169)), (1, .ref (x)), (0, .ref b)]) : W p l e room_1 s m #[Value.ref b] below meth c H0 locs 600000 7302250 (lw_Z below #[Value.ref b] s) (F0 m 1208 ls []) := by
  obtain ⟨y1, hy1⟩ : ∃ y, xs (q + 1) = y := ⟨_, rfl⟩
  obtain ⟨y2, hy2⟩ : ∃ y, xs (q + 2) = y := ⟨_, rfl⟩
  obtain ⟨y3, hy3⟩ : ∃ y, xs (q + 3) = y := ⟨_, rfl⟩
  obtain ⟨y4, hy4⟩ : ∃ y, xs (q + 4) = y := ⟨_, rfl⟩
  obtain ⟨y5, hy5⟩ : ∃ y, xs (q + 5) = y := ⟨_, rfl⟩
  refine lv_aload_n hx hb dL_law_1208 rfl (lv_at hl 2 rfl) ?_
  have hT0 : hT G (w_Y (tC (fun v => v = nI k)) x) H0 := hI.2.1
  refine h_callVi (T := TX10) (rest := []) (As := []) hx hb hml hown hts hK hT0 hZ (fun q hq => (w_Y_A q hq).1) hS0 (c_X10_lowered l G (w_Y (tC (fun v => v = nI k)) x) (fun v => v = nI k) (x) (w_Y_w (t := tC (fun v => v = nI k)) (x := x))) trivial wd_X10_lowered wV_X10_lowered wL_L_167 (on_w0 (w_Y_w (t := tC (fun v => v = nI k)) (x := x))) rfl rfl hl.1 rfl (Nat.le_of_ble_eq_true rfl) dL_law_1209 ⟨Nat.le_of_ble_eq_true rfl, Nat.le_of_ble_eq_true rfl⟩ ⟨Nat.le_refl _, Nat.le_refl _⟩ (fun r1 H1 locs hp1 hT1 hS1 hk1 => ?_)
  replace hI := hI.C hT1 hk1
  refine lv_pop hx hb dL_law_1212 rfl ?_
  refine lv_aload_n hx hb dL_law_1213 rfl (lv_at hl 1 rfl) ?_
  have hT1 : hT G (m_Y (tM (fun v => v = nI k)) (x + 169)) H1 := hI.2.2.1
  refine h_callVi (T := TX11) (rest := []) (As := []) hx hb hml hown hts hK hT1 hZ (fun q hq => Nat.le_trans (Nat.le_add_right x 169) (m_Y_A q hq)) hS1 (c_X11_lowered l G (m_Y (tM (fun v => v = nI k)) (x + 169)) (fun v => v = nI k) (x + 169) (m_Y_m (t := tM (fun v => v = nI k)) (m := x + 169))) hI.2.2.2.1 wd_X11_lowered wV_X11_lowered wL_L_170 ((m_Y_m (t := tM (fun v => v = nI k)) (m := x + 169)).o rfl) rfl rfl hl.1 rfl (Nat.le_of_ble_eq_true rfl) dL_law_1214 ⟨Nat.le_of_ble_eq_true rfl, Nat.le_of_ble_eq_true rfl⟩ ⟨Nat.le_refl _, Nat.le_refl _⟩ (fun r2 H2 locs hp2 hT2 hS2 hk2 => ?_)
  obtain ⟨hp2, hB2⟩ := hp2
  replace hI := hI.M hT2 hB2.1 hB2.2 hk2
  refine lv_pop hx hb dL_law_1217 rfl ?_
  refine lv_goto (tgt := 1273) hx hb dL_law_1218 (by decide) ?_
  exact htail _ _ _ _ hI hS2 (lv_sub hl [0, 1, 2, 3] rfl)
set_option maxHeartbeats 4000000 in
set_option maxRecDepth 100000 in
theorem law_case_37 {p : Program} {l : Launch} {e : Env} {s : State} {m : MethodId} {below : List Frame} {meth : Method} {c : Code} {b x L q k : Nat} {xs : Nat → Int32} {G : hG} {H0 : Heap} {locs : List Loc} {ls : Array Slot} (hx : p.tables.exec = Jvm.exec) (hb : c.code = code) (hts : ∀ w ∈ wsL_law, w.before #[Value.ref b] s = true) (hown : s.vm.findClass RL = some m.cls) (hml : c.maxLocals = 4) (hK : h_K G s) (hZ : h_Z G (fun q => x ≤ q) s) (hX : va_X b L xs s s.heap) (hbl : b < s.heap.size) (hbA : ¬ x ≤ b) (htail : ∀ (k : Nat) (H : Heap) (locs : List Loc) (ls : Array Slot), lwI G x k H → va_S (fun q => x ≤ q) s.heap H locs → lv_has ls 4 [(3, .int (nI q)), (2, .ref (x + 169)), (1, .ref (x)), (0, .ref b)] → W p l e room_1 s m #[Value.ref b] below meth c H locs 600000 7302250 (lw_Z below #[Value.ref b] s) (F0 m 1273 ls [])) (hq : q + 6 ≤ L) (hL : L ≤ 3072) (hI : lwI G x k H0) (hS0 : va_S (fun q => x ≤ q) s.heap H0 locs) (hl : lv_has ls 4 [(3, .int (nI q)), (2, .ref (x + 169)), (1, .ref (x)), (0, .ref b)]) : W p l e room_1 s m #[Value.ref b] below meth c H0 locs 600000 7302250 (lw_Z below #[Value.ref b] s) (F0 m 1221 ls []) := by
  obtain ⟨y1, hy1⟩ : ∃ y, xs (q + 1) = y := ⟨_, rfl⟩
  obtain ⟨y2, hy2⟩ : ∃ y, xs (q + 2) = y := ⟨_, rfl⟩
  obtain ⟨y3, hy3⟩ : ∃ y, xs (q + 3) = y := ⟨_, rfl⟩
  obtain ⟨y4, hy4⟩ : ∃ y, xs (q + 4) = y := ⟨_, rfl⟩
  obtain ⟨y5, hy5⟩ : ∃ y, xs (q + 5) = y := ⟨_, rfl⟩
  refine lv_aload_n hx hb dL_law_1221 rfl (lv_at hl 2 rfl) ?_
  have hT0 : hT G (w_Y (tC (fun v => v = nI k)) x) H0 := hI.2.1
  refine h_callVi (T := TX10) (rest := []) (As := []) hx hb hml hown hts hK hT0 hZ (fun q hq => (w_Y_A q hq).1) hS0 (c_X10_healed l G (w_Y (tC (fun v => v = nI k)) x) (fun v => v = nI k) (x) (w_Y_w (t := tC (fun v => v = nI k)) (x := x))) trivial wd_X10_healed wV_X10_healed wL_L_171 (on_w0 (w_Y_w (t := tC (fun v => v = nI k)) (x := x))) rfl rfl hl.1 rfl (Nat.le_of_ble_eq_true rfl) dL_law_1222 ⟨Nat.le_of_ble_eq_true rfl, Nat.le_of_ble_eq_true rfl⟩ ⟨Nat.le_refl _, Nat.le_refl _⟩ (fun r1 H1 locs hp1 hT1 hS1 hk1 => ?_)
  replace hI := hI.C hT1 hk1
  refine lv_pop hx hb dL_law_1225 rfl ?_
  refine lv_aload_n hx hb dL_law_1226 rfl (lv_at hl 1 rfl) ?_
  have hT1 : hT G (m_Y (tM (fun v => v = nI k)) (x + 169)) H1 := hI.2.2.1
  refine h_callVi (T := TX11) (rest := []) (As := []) hx hb hml hown hts hK hT1 hZ (fun q hq => Nat.le_trans (Nat.le_add_right x 169) (m_Y_A q hq)) hS1 (c_X11_healed l G (m_Y (tM (fun v => v = nI k)) (x + 169)) (fun v => v = nI k) (x + 169) (m_Y_m (t := tM (fun v => v = nI k)) (m := x + 169))) hI.2.2.2.1 wd_X11_healed wV_X11_healed wL_L_174 ((m_Y_m (t := tM (fun v => v = nI k)) (m := x + 169)).o rfl) rfl rfl hl.1 rfl (Nat.le_of_ble_eq_true rfl) dL_law_1227 ⟨Nat.le_of_ble_eq_true rfl, Nat.le_of_ble_eq_true rfl⟩ ⟨Nat.le_refl _, Nat.le_refl _⟩ (fun r2 H2 locs hp2 hT2 hS2 hk2 => ?_)
  obtain ⟨hp2, hB2⟩ := hp2
  replace hI := hI.M hT2 hB2.1 hB2.2 hk2
  refine lv_pop hx hb dL_law_1230 rfl ?_
  refine lv_goto (tgt := 1273) hx hb dL_law_1231 (by decide) ?_
  exact htail _ _ _ _ hI hS2 (lv_sub hl [0, 1, 2, 3] rfl)
set_option maxHeartbeats 4000000 in
set_option maxRecDepth 100000 in
theorem law_case_38 {p : Program} {l : Launch} {e : Env} {s : State} {m : MethodId} {below : List Frame} {meth : Method} {c : Code} {b x L q k : Nat} {xs : Nat → Int32} {G : hG} {H0 : Heap} {locs : List Loc} {ls : Array Slot} (hx : p.tables.exec = Jvm.exec) (hb : c.code = code) (hts : ∀ w ∈ wsL_law, w.before #[Value.ref b] s = true) (hown : s.vm.findClass RL = some m.cls) (hml : c.maxLocals = 4) (hK : h_K G s) (hZ : h_Z G (fun q => x ≤ q) s) (hX : va_X b L xs s s.heap) (hbl : b < s.heap.size) (hbA : ¬ x ≤ b) (htail : ∀ (k : Nat) (H : Heap) (locs : List Loc) (ls : Array Slot), lwI G x k H → va_S (fun q => x ≤ q) s.heap H locs → lv_has ls 4 [(3, .int (nI q)), (2, .ref (x + 169)), (1, .ref (x)), (0, .ref b)] → W p l e room_1 s m #[Value.ref b] below meth c H locs 600000 7302250 (lw_Z below #[Value.ref b] s) (F0 m 1273 ls [])) (hq : q + 6 ≤ L) (hL : L ≤ 3072) (hI : lwI G x k H0) (hS0 : va_S (fun q => x ≤ q) s.heap H0 locs) (hl : lv_has ls 4 [(3, .int (nI q)), (2, .ref (x + 169)), (1, .ref (x)), (0, .ref b)]) : W p l e room_1 s m #[Value.ref b] below meth c H0 locs 600000 7302250 (lw_Z below #[Value.ref b] s) (F0 m 1234 ls []) := by
  obtain ⟨y1, hy1⟩ : ∃ y, xs (q + 1) = y := ⟨_, rfl⟩
  obtain ⟨y2, hy2⟩ : ∃ y, xs (q + 2) = y := ⟨_, rfl⟩
  obtain ⟨y3, hy3⟩ : ∃ y, xs (q + 3) = y := ⟨_, rfl⟩
  obtain ⟨y4, hy4⟩ : ∃ y, xs (q + 4) = y := ⟨_, rfl⟩
  obtain ⟨y5, hy5⟩ : ∃ y, xs (q + 5) = y := ⟨_, rfl⟩
  refine lv_aload_n hx hb dL_law_1234 rfl (lv_at hl 2 rfl) ?_
  have hT0 : hT G (w_Y (tC (fun v => v = nI k)) x) H0 := hI.2.1
  refine h_callVi (T := TX10) (rest := []) (As := []) hx hb hml hown hts hK hT0 hZ (fun q hq => (w_Y_A q hq).1) hS0 (c_X10_purged l G (w_Y (tC (fun v => v = nI k)) x) (fun v => v = nI k) (x) (w_Y_w (t := tC (fun v => v = nI k)) (x := x))) trivial wd_X10_purged wV_X10_purged wL_L_175 (on_w0 (w_Y_w (t := tC (fun v => v = nI k)) (x := x))) rfl rfl hl.1 rfl (Nat.le_of_ble_eq_true rfl) dL_law_1235 ⟨Nat.le_of_ble_eq_true rfl, Nat.le_of_ble_eq_true rfl⟩ ⟨Nat.le_refl _, Nat.le_refl _⟩ (fun r1 H1 locs hp1 hT1 hS1 hk1 => ?_)
  replace hI := hI.C hT1 hk1
  refine lv_pop hx hb dL_law_1238 rfl ?_
  refine lv_aload_n hx hb dL_law_1239 rfl (lv_at hl 1 rfl) ?_
  have hT1 : hT G (m_Y (tM (fun v => v = nI k)) (x + 169)) H1 := hI.2.2.1
  refine h_callVi (T := TX11) (rest := []) (As := []) hx hb hml hown hts hK hT1 hZ (fun q hq => Nat.le_trans (Nat.le_add_right x 169) (m_Y_A q hq)) hS1 (c_X11_purged l G (m_Y (tM (fun v => v = nI k)) (x + 169)) (fun v => v = nI k) (x + 169) (m_Y_m (t := tM (fun v => v = nI k)) (m := x + 169))) hI.2.2.2.1 wd_X11_purged wV_X11_purged wL_L_178 ((m_Y_m (t := tM (fun v => v = nI k)) (m := x + 169)).o rfl) rfl rfl hl.1 rfl (Nat.le_of_ble_eq_true rfl) dL_law_1240 ⟨Nat.le_of_ble_eq_true rfl, Nat.le_of_ble_eq_true rfl⟩ ⟨Nat.le_refl _, Nat.le_refl _⟩ (fun r2 H2 locs hp2 hT2 hS2 hk2 => ?_)
  obtain ⟨hp2, hB2⟩ := hp2
  replace hI := hI.M hT2 hB2.1 hB2.2 hk2
  refine lv_pop hx hb dL_law_1243 rfl ?_
  refine lv_goto (tgt := 1273) hx hb dL_law_1244 (by decide) ?_
  exact htail _ _ _ _ hI hS2 (lv_sub hl [0, 1, 2, 3] rfl)
set_option maxHeartbeats 4000000 in
set_option maxRecDepth 100000 in
theorem law_case_39 {p : Program} {l : Launch} {e : Env} {s : State} {m : MethodId} {below : List Frame} {meth : Method} {c : Code} {b x L q k : Nat} {xs : Nat → Int32} {G : hG} {H0 : Heap} {locs : List Loc} {ls : Array Slot} (hx : p.tables.exec = Jvm.exec) (hb : c.code = code) (hts : ∀ w ∈ wsL_law, w.before #[Value.ref b] s = true) (hown : s.vm.findClass RL = some m.cls) (hml : c.maxLocals = 4) (hK : h_K G s) (hZ : h_Z G (fun q => x ≤ q) s) (hX : va_X b L xs s s.heap) (hbl : b < s.heap.size) (hbA : ¬ x ≤ b) (htail : ∀ (k : Nat) (H : Heap) (locs : List Loc) (ls : Array Slot), lwI G x k H → va_S (fun q => x ≤ q) s.heap H locs → lv_has ls 4 [(3, .int (nI q)), (2, .ref (x + 169)), (1, .ref (x)), (0, .ref b)] → W p l e room_1 s m #[Value.ref b] below meth c H locs 600000 7302250 (lw_Z below #[Value.ref b] s) (F0 m 1273 ls [])) (hq : q + 6 ≤ L) (hL : L ≤ 3072) (hI : lwI G x k H0) (hS0 : va_S (fun q => x ≤ q) s.heap H0 locs) (hl : lv_has ls 4 [(3, .int (nI q)), (2, .ref (x + 169)), (1, .ref (x)), (0, .ref b)]) : W p l e room_1 s m #[Value.ref b] below meth c H0 locs 600000 7302250 (lw_Z below #[Value.ref b] s) (F0 m 1247 ls []) := by
  obtain ⟨y1, hy1⟩ : ∃ y, xs (q + 1) = y := ⟨_, rfl⟩
  obtain ⟨y2, hy2⟩ : ∃ y, xs (q + 2) = y := ⟨_, rfl⟩
  obtain ⟨y3, hy3⟩ : ∃ y, xs (q + 3) = y := ⟨_, rfl⟩
  obtain ⟨y4, hy4⟩ : ∃ y, xs (q + 4) = y := ⟨_, rfl⟩
  obtain ⟨y5, hy5⟩ : ∃ y, xs (q + 5) = y := ⟨_, rfl⟩
  refine lv_aload_n hx hb dL_law_1247 rfl (lv_at hl 2 rfl) ?_
  have hT0 : hT G (w_Y (tC (fun v => v = nI k)) x) H0 := hI.2.1
  refine h_callVi (T := TX10) (rest := []) (As := []) hx hb hml hown hts hK hT0 hZ (fun q hq => (w_Y_A q hq).1) hS0 (c_X10_blamed l G (w_Y (tC (fun v => v = nI k)) x) (fun v => v = nI k) (x) (w_Y_w (t := tC (fun v => v = nI k)) (x := x))) trivial wd_X10_blamed wV_X10_blamed wL_L_179 (on_w0 (w_Y_w (t := tC (fun v => v = nI k)) (x := x))) rfl rfl hl.1 rfl (Nat.le_of_ble_eq_true rfl) dL_law_1248 ⟨Nat.le_of_ble_eq_true rfl, Nat.le_of_ble_eq_true rfl⟩ ⟨Nat.le_refl _, Nat.le_refl _⟩ (fun r1 H1 locs hp1 hT1 hS1 hk1 => ?_)
  replace hI := hI.C hT1 hk1
  refine lv_pop hx hb dL_law_1251 rfl ?_
  refine lv_aload_n hx hb dL_law_1252 rfl (lv_at hl 1 rfl) ?_
  have hT1 : hT G (m_Y (tM (fun v => v = nI k)) (x + 169)) H1 := hI.2.2.1
  refine h_callVi (T := TX11) (rest := []) (As := []) hx hb hml hown hts hK hT1 hZ (fun q hq => Nat.le_trans (Nat.le_add_right x 169) (m_Y_A q hq)) hS1 (c_X11_blamed l G (m_Y (tM (fun v => v = nI k)) (x + 169)) (fun v => v = nI k) (x + 169) (m_Y_m (t := tM (fun v => v = nI k)) (m := x + 169))) hI.2.2.2.1 wd_X11_blamed wV_X11_blamed wL_L_182 ((m_Y_m (t := tM (fun v => v = nI k)) (m := x + 169)).o rfl) rfl rfl hl.1 rfl (Nat.le_of_ble_eq_true rfl) dL_law_1253 ⟨Nat.le_of_ble_eq_true rfl, Nat.le_of_ble_eq_true rfl⟩ ⟨Nat.le_refl _, Nat.le_refl _⟩ (fun r2 H2 locs hp2 hT2 hS2 hk2 => ?_)
  obtain ⟨hp2, hB2⟩ := hp2
  replace hI := hI.M hT2 hB2.1 hB2.2 hk2
  refine lv_pop hx hb dL_law_1256 rfl ?_
  refine lv_goto (tgt := 1273) hx hb dL_law_1257 (by decide) ?_
  exact htail _ _ _ _ hI hS2 (lv_sub hl [0, 1, 2, 3] rfl)
set_option maxHeartbeats 4000000 in
set_option maxRecDepth 100000 in
theorem law_case_40 {p : Program} {l : Launch} {e : Env} {s : State} {m : MethodId} {below : List Frame} {meth : Method} {c : Code} {b x L q k : Nat} {xs : Nat → Int32} {G : hG} {H0 : Heap} {locs : List Loc} {ls : Array Slot} (hx : p.tables.exec = Jvm.exec) (hb : c.code = code) (hts : ∀ w ∈ wsL_law, w.before #[Value.ref b] s = true) (hown : s.vm.findClass RL = some m.cls) (hml : c.maxLocals = 4) (hK : h_K G s) (hZ : h_Z G (fun q => x ≤ q) s) (hX : va_X b L xs s s.heap) (hbl : b < s.heap.size) (hbA : ¬ x ≤ b) (htail : ∀ (k : Nat) (H : Heap) (locs : List Loc) (ls : Array Slot), lwI G x k H → va_S (fun q => x ≤ q) s.heap H locs → lv_has ls 4 [(3, .int (nI q)), (2, .ref (x + 169)), (1, .ref (x)), (0, .ref b)] → W p l e room_1 s m #[Value.ref b] below meth c H locs 600000 7302250 (lw_Z below #[Value.ref b] s) (F0 m 1273 ls [])) (hq : q + 6 ≤ L) (hL : L ≤ 3072) (hI : lwI G x k H0) (hS0 : va_S (fun q => x ≤ q) s.heap H0 locs) (hl : lv_has ls 4 [(3, .int (nI q)), (2, .ref (x + 169)), (1, .ref (x)), (0, .ref b)]) : W p l e room_1 s m #[Value.ref b] below meth c H0 locs 600000 7302250 (lw_Z below #[Value.ref b] s) (F0 m 1260 ls []) := by
  obtain ⟨y1, hy1⟩ : ∃ y, xs (q + 1) = y := ⟨_, rfl⟩
  obtain ⟨y2, hy2⟩ : ∃ y, xs (q + 2) = y := ⟨_, rfl⟩
  obtain ⟨y3, hy3⟩ : ∃ y, xs (q + 3) = y := ⟨_, rfl⟩
  obtain ⟨y4, hy4⟩ : ∃ y, xs (q + 4) = y := ⟨_, rfl⟩
  obtain ⟨y5, hy5⟩ : ∃ y, xs (q + 5) = y := ⟨_, rfl⟩
  refine lv_aload_n hx hb dL_law_1260 rfl (lv_at hl 2 rfl) ?_
  have hT0 : hT G (w_Y (tC (fun v => v = nI k)) x) H0 := hI.2.1
  refine h_callVi (T := TX10) (rest := []) (As := []) hx hb hml hown hts hK hT0 hZ (fun q hq => (w_Y_A q hq).1) hS0 (c_X10_gain l G (w_Y (tC (fun v => v = nI k)) x) (fun v => v = nI k) (x) (w_Y_w (t := tC (fun v => v = nI k)) (x := x))) trivial wd_X10_gain wV_X10_gain wL_L_183 (on_w0 (w_Y_w (t := tC (fun v => v = nI k)) (x := x))) rfl rfl hl.1 rfl (Nat.le_of_ble_eq_true rfl) dL_law_1261 ⟨Nat.le_of_ble_eq_true rfl, Nat.le_of_ble_eq_true rfl⟩ ⟨Nat.le_refl _, Nat.le_refl _⟩ (fun r1 H1 locs hp1 hT1 hS1 hk1 => ?_)
  replace hI := hI.C hT1 hk1
  refine lv_pop hx hb dL_law_1264 rfl ?_
  refine lv_aload_n hx hb dL_law_1265 rfl (lv_at hl 1 rfl) ?_
  have hT1 : hT G (m_Y (tM (fun v => v = nI k)) (x + 169)) H1 := hI.2.2.1
  refine h_callVi (T := TX11) (rest := []) (As := []) hx hb hml hown hts hK hT1 hZ (fun q hq => Nat.le_trans (Nat.le_add_right x 169) (m_Y_A q hq)) hS1 (c_X11_gain l G (m_Y (tM (fun v => v = nI k)) (x + 169)) (fun v => v = nI k) (x + 169) (m_Y_m (t := tM (fun v => v = nI k)) (m := x + 169))) hI.2.2.2.1 wd_X11_gain wV_X11_gain wL_L_186 ((m_Y_m (t := tM (fun v => v = nI k)) (m := x + 169)).o rfl) rfl rfl hl.1 rfl (Nat.le_of_ble_eq_true rfl) dL_law_1266 ⟨Nat.le_of_ble_eq_true rfl, Nat.le_of_ble_eq_true rfl⟩ ⟨Nat.le_refl _, Nat.le_refl _⟩ (fun r2 H2 locs hp2 hT2 hS2 hk2 => ?_)
  obtain ⟨hp2, hB2⟩ := hp2
  replace hI := hI.M hT2 hB2.1 hB2.2 hk2
  refine lv_pop hx hb dL_law_1269 rfl ?_
  refine lv_goto (tgt := 1273) hx hb dL_law_1270 (by decide) ?_
  exact htail _ _ _ _ hI hS2 (lv_sub hl [0, 1, 2, 3] rfl)
