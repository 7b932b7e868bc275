set_option maxHeartbeats 4000000 in
set_option maxRecDepth 100000 in
theorem law_case_0 {p : Program} {l : Launch} {e : Env} {s : State} {m : MethodId} {below : List Frame} {meth : Method} {c : Code} {b x : Nat} {xs : Nat → Int32} {G : hG} {H0 : Heap} {locs : List Loc} {ls : Array Slot} (hx : p.tables.exec = Jvm.exec) (hb : c.code = code) (hts : ∀ w ∈ wsL_law, w.before #[Value.ref b] s = true) (hown : s.vm.findClass RL = some m.cls) (hml : c.maxLocals = 4) (hK : h_K G s) (hX : va_X b 6 xs s s.heap) (hbl : b < s.heap.size) (hbA : ¬ x ≤ b) (htail : ∀ (H : Heap) (locs : List Loc) (ls : Array Slot), va_S (fun q => x ≤ q) s.heap H locs → lv_has ls 4 [(3, .int 0), (2, .ref (x + 169)), (1, .ref (x)), (0, .ref b)] → W p l e room_1 s m #[Value.ref b] below meth c H locs 600000 7302250 (lw_Z below #[Value.ref b] s) (F0 m 1273 ls [])) (F : Nat → Int32) (hF : ∀ j, j < 600 → F j = if j = 1 ∨ j = 16 then -1 else 0) (hcx : cw G x (wldV G x) H0) (hcm : cw G (x + 169) (modV G (x + 169) F) H0) (hS0 : va_S (fun q => x ≤ q) s.heap H0 locs) (hl : lv_has ls 4 [(3, .int 0), (2, .ref (x + 169)), (1, .ref (x)), (0, .ref b)]) : W p l e room_1 s m #[Value.ref b] below meth c H0 locs 600000 7302250 (lw_Z below #[Value.ref b] s) (F0 m 212 ls []) := by
  obtain ⟨y1, hy1⟩ : ∃ y, xs 1 = y := ⟨_, rfl⟩
  obtain ⟨y2, hy2⟩ : ∃ y, xs 2 = y := ⟨_, rfl⟩
  obtain ⟨y3, hy3⟩ : ∃ y, xs 3 = y := ⟨_, rfl⟩
  obtain ⟨y4, hy4⟩ : ∃ y, xs 4 = y := ⟨_, rfl⟩
  obtain ⟨y5, hy5⟩ : ∃ y, xs 5 = y := ⟨_, rfl⟩
  refine lv_aload_n hx hb dL_law_212 rfl (lv_at hl 2 rfl) ?_
  have hT0 : hT G (w_Y tF x) H0 := w_Y_T (ftF_W G x) hcx
  refine h_callVi (T := TX10) (rest := []) (As := []) hx hb hml hown hts hK hT0 (fun q hq => (w_Y_A q hq).1) hS0 (c_X10_status l G (w_Y tF x) (x) (w_Y_w (t := tF) (x := x))) (hcx.gi (i := 0) rfl (r := (RX10, TX10, 9)) rfl 8 (by decide) rfl) wd_X10_status wV_X10_status wL_L_13 (on_w0 (w_Y_w (t := tF) (x := x))) rfl rfl hl.1 rfl (Nat.le_of_ble_eq_true rfl) dL_law_213 ⟨Nat.le_of_ble_eq_true rfl, Nat.le_of_ble_eq_true rfl⟩ ⟨Nat.le_refl _, Nat.le_refl _⟩ (fun r1 H1 locs hp1 hT1 hS1 hk1 => ?_)
  have hp1 : r1 = 0 := hp1
  subst hp1
  have hcm := hcm.beyond hk1 (Nat.le_refl _)
  refine lv_aload_n hx hb dL_law_216 rfl (lv_at hl 1 rfl) ?_
  have hT1 : hT G (m_Y tF (x + 169)) H1 := m_Y_T (fF_M G _ F hF) hcm
  refine h_callVi (T := TX11) (rest := [.int 0]) (As := []) hx hb hml hown hts hK hT1 (fun q hq => Nat.le_trans (Nat.le_add_right x 169) (m_Y_A q hq)) hS1 (c_X11_status l G (m_Y tF (x + 169)) (x + 169) (m_Y_m (t := tF) (m := x + 169))) (hcm.gi (i := 0) rfl (r := (RX11, TX11, 23)) rfl 1 (by decide) rfl) wd_X11_status wV_X11_status wL_L_17 ((m_Y_m (t := tF) (m := x + 169)).o rfl) rfl rfl hl.1 rfl (Nat.le_of_ble_eq_true rfl) dL_law_217 ⟨Nat.le_of_ble_eq_true rfl, Nat.le_of_ble_eq_true rfl⟩ ⟨Nat.le_refl _, Nat.le_refl _⟩ (fun r2 H2 locs hp2 hT2 hS2 hk2 => ?_)
  have hp2 : r2 = 0 := hp2
  subst hp2
  refine lv_icmp_eq (tgt := 1273) hx hb dL_law_220 (by decide) (fun _ => ?_) (fun h => absurd (by decide) h)
  exact htail _ _ _ hS2 (lv_sub hl [0, 1, 2, 3] rfl)
set_option maxHeartbeats 4000000 in
set_option maxRecDepth 100000 in
theorem law_case_1 {p : Program} {l : Launch} {e : Env} {s : State} {m : MethodId} {below : List Frame} {meth : Method} {c : Code} {b x : Nat} {xs : Nat → Int32} {G : hG} {H0 : Heap} {locs : List Loc} {ls : Array Slot} (hx : p.tables.exec = Jvm.exec) (hb : c.code = code) (hts : ∀ w ∈ wsL_law, w.before #[Value.ref b] s = true) (hown : s.vm.findClass RL = some m.cls) (hml : c.maxLocals = 4) (hK : h_K G s) (hX : va_X b 6 xs s s.heap) (hbl : b < s.heap.size) (hbA : ¬ x ≤ b) (htail : ∀ (H : Heap) (locs : List Loc) (ls : Array Slot), va_S (fun q => x ≤ q) s.heap H locs → lv_has ls 4 [(3, .int 0), (2, .ref (x + 169)), (1, .ref (x)), (0, .ref b)] → W p l e room_1 s m #[Value.ref b] below meth c H locs 600000 7302250 (lw_Z below #[Value.ref b] s) (F0 m 1273 ls [])) (F : Nat → Int32) (hF : ∀ j, j < 600 → F j = if j = 1 ∨ j = 16 then -1 else 0) (hcx : cw G x (wldV G x) H0) (hcm : cw G (x + 169) (modV G (x + 169) F) H0) (hS0 : va_S (fun q => x ≤ q) s.heap H0 locs) (hl : lv_has ls 4 [(3, .int 0), (2, .ref (x + 169)), (1, .ref (x)), (0, .ref b)]) : W p l e room_1 s m #[Value.ref b] below meth c H0 locs 600000 7302250 (lw_Z below #[Value.ref b] s) (F0 m 225 ls []) := by
  obtain ⟨y1, hy1⟩ : ∃ y, xs 1 = y := ⟨_, rfl⟩
  obtain ⟨y2, hy2⟩ : ∃ y, xs 2 = y := ⟨_, rfl⟩
  obtain ⟨y3, hy3⟩ : ∃ y, xs 3 = y := ⟨_, rfl⟩
  obtain ⟨y4, hy4⟩ : ∃ y, xs 4 = y := ⟨_, rfl⟩
  obtain ⟨y5, hy5⟩ : ∃ y, xs 5 = y := ⟨_, rfl⟩
  refine lv_aload_n hx hb dL_law_225 rfl (lv_at hl 2 rfl) ?_
  refine lv_aload_n hx hb dL_law_226 rfl (lv_at hl 3 rfl) ?_
  refine lv_iload_n hx hb dL_law_227 rfl (lv_at hl 0 rfl) ?_
  refine lv_iconst (v := 1) hx hb dL_law_228 (by decide) ?_
  refine lv_iadd hx hb dL_law_229 ?_
  refine h_top (v := 1) (by decide) ?_
  refine va_sld hx hb hX hbl hbA hS0 (h_inc (by decide)) dL_law_230 ?_
  refine h_top (v := y1) (by rw [show (1 : Int32).toNatClampNeg = 1 from by decide]; exact hy1) ?_
  refine lv_aload_n hx hb dL_law_231 rfl (lv_at hl 3 rfl) ?_
  refine lv_iload_n hx hb dL_law_232 rfl (lv_at hl 0 rfl) ?_
  refine lv_iconst (v := 2) hx hb dL_law_233 (by decide) ?_
  refine lv_iadd hx hb dL_law_234 ?_
  refine h_top (v := 2) (by decide) ?_
  refine va_sld hx hb hX hbl hbA hS0 (h_inc (by decide)) dL_law_235 ?_
  refine h_top (v := y2) (by rw [show (2 : Int32).toNatClampNeg = 2 from by decide]; exact hy2) ?_
  refine lv_aload_n hx hb dL_law_236 rfl (lv_at hl 3 rfl) ?_
  refine lv_iload_n hx hb dL_law_237 rfl (lv_at hl 0 rfl) ?_
  refine lv_iconst (v := 3) hx hb dL_law_238 (by decide) ?_
  refine lv_iadd hx hb dL_law_239 ?_
  refine h_top (v := 3) (by decide) ?_
  refine va_sld hx hb hX hbl hbA hS0 (h_inc (by decide)) dL_law_240 ?_
  refine h_top (v := y3) (by rw [show (3 : Int32).toNatClampNeg = 3 from by decide]; exact hy3) ?_
  refine lv_aload_n hx hb dL_law_241 rfl (lv_at hl 3 rfl) ?_
  refine lv_iload_n hx hb dL_law_242 rfl (lv_at hl 0 rfl) ?_
  refine lv_iconst (v := 4) hx hb dL_law_243 (by decide) ?_
  refine lv_iadd hx hb dL_law_244 ?_
  refine h_top (v := 4) (by decide) ?_
  refine va_sld hx hb hX hbl hbA hS0 (h_inc (by decide)) dL_law_245 ?_
  refine h_top (v := y4) (by rw [show (4 : Int32).toNatClampNeg = 4 from by decide]; exact hy4) ?_
  refine lv_aload_n hx hb dL_law_246 rfl (lv_at hl 3 rfl) ?_
  refine lv_iload_n hx hb dL_law_247 rfl (lv_at hl 0 rfl) ?_
  refine lv_iconst (v := 5) hx hb dL_law_248 (by decide) ?_
  refine lv_iadd hx hb dL_law_249 ?_
  refine h_top (v := 5) (by decide) ?_
  refine va_sld hx hb hX hbl hbA hS0 (h_inc (by decide)) dL_law_250 ?_
  refine h_top (v := y5) (by rw [show (5 : Int32).toNatClampNeg = 5 from by decide]; exact hy5) ?_
  have hT0 : hT G (w_Y tF x) H0 := w_Y_T (ftF_W G x) hcx
  refine h_callVi (T := TX10) (rest := []) (As := [.int y1, .int y2, .int y3, .int y4, .int y5]) hx hb hml hown hts hK hT0 (fun q hq => (w_Y_A q hq).1) hS0 (c_X10_feed l G (w_Y tF x) (x) (w_Y_w (t := tF) (x := x)) y1 y2 y3 y4 y5) (hcx.gi (i := 1) rfl (r := (RX8, TX8, 4)) rfl 1 (by decide) rfl) wd_X10_feed wV_X10_feed wL_L_18 (on_w0 (w_Y_w (t := tF) (x := x))) rfl rfl hl.1 rfl (Nat.le_of_ble_eq_true rfl) dL_law_251 ⟨Nat.le_of_ble_eq_true rfl, Nat.le_of_ble_eq_true rfl⟩ ⟨Nat.le_refl _, Nat.le_refl _⟩ (fun r1 H1 locs hp1 hT1 hS1 hk1 => ?_)
  have hp1 : r1 = 20 := hp1
  subst hp1
  have hcm := hcm.beyond hk1 (Nat.le_refl _)
  refine lv_aload_n hx hb dL_law_254 rfl (lv_at hl 1 rfl) ?_
  refine lv_aload_n hx hb dL_law_255 rfl (lv_at hl 3 rfl) ?_
  refine lv_iload_n hx hb dL_law_256 rfl (lv_at hl 0 rfl) ?_
  refine lv_iconst (v := 1) hx hb dL_law_257 (by decide) ?_
  refine lv_iadd hx hb dL_law_258 ?_
  refine h_top (v := 1) (by decide) ?_
  refine va_sld hx hb hX hbl hbA hS1 (h_inc (by decide)) dL_law_259 ?_
  refine h_top (v := y1) (by rw [show (1 : Int32).toNatClampNeg = 1 from by decide]; exact hy1) ?_
  refine lv_aload_n hx hb dL_law_260 rfl (lv_at hl 3 rfl) ?_
  refine lv_iload_n hx hb dL_law_261 rfl (lv_at hl 0 rfl) ?_
  refine lv_iconst (v := 2) hx hb dL_law_262 (by decide) ?_
  refine lv_iadd hx hb dL_law_263 ?_
  refine h_top (v := 2) (by decide) ?_
  refine va_sld hx hb hX hbl hbA hS1 (h_inc (by decide)) dL_law_264 ?_
  refine h_top (v := y2) (by rw [show (2 : Int32).toNatClampNeg = 2 from by decide]; exact hy2) ?_
  refine lv_aload_n hx hb dL_law_265 rfl (lv_at hl 3 rfl) ?_
  refine lv_iload_n hx hb dL_law_266 rfl (lv_at hl 0 rfl) ?_
  refine lv_iconst (v := 3) hx hb dL_law_267 (by decide) ?_
  refine lv_iadd hx hb dL_law_268 ?_
  refine h_top (v := 3) (by decide) ?_
  refine va_sld hx hb hX hbl hbA hS1 (h_inc (by decide)) dL_law_269 ?_
  refine h_top (v := y3) (by rw [show (3 : Int32).toNatClampNeg = 3 from by decide]; exact hy3) ?_
  refine lv_aload_n hx hb dL_law_270 rfl (lv_at hl 3 rfl) ?_
  refine lv_iload_n hx hb dL_law_271 rfl (lv_at hl 0 rfl) ?_
  refine lv_iconst (v := 4) hx hb dL_law_272 (by decide) ?_
  refine lv_iadd hx hb dL_law_273 ?_
  refine h_top (v := 4) (by decide) ?_
  refine va_sld hx hb hX hbl hbA hS1 (h_inc (by decide)) dL_law_274 ?_
  refine h_top (v := y4) (by rw [show (4 : Int32).toNatClampNeg = 4 from by decide]; exact hy4) ?_
  refine lv_aload_n hx hb dL_law_275 rfl (lv_at hl 3 rfl) ?_
  refine lv_iload_n hx hb dL_law_276 rfl (lv_at hl 0 rfl) ?_
  refine lv_iconst (v := 5) hx hb dL_law_277 (by decide) ?_
  refine lv_iadd hx hb dL_law_278 ?_
  refine h_top (v := 5) (by decide) ?_
  refine va_sld hx hb hX hbl hbA hS1 (h_inc (by decide)) dL_law_279 ?_
  refine h_top (v := y5) (by rw [show (5 : Int32).toNatClampNeg = 5 from by decide]; exact hy5) ?_
  have hT1 : hT G (m_Y tF (x + 169)) H1 := m_Y_T (fF_M G _ F hF) hcm
  refine h_callVi (T := TX11) (rest := [.int 20]) (As := [.int y1, .int y2, .int y3, .int y4, .int y5]) hx hb hml hown hts hK hT1 (fun q hq => Nat.le_trans (Nat.le_add_right x 169) (m_Y_A q hq)) hS1 (c_X11_feed l G (m_Y tF (x + 169)) (x + 169) (m_Y_m (t := tF) (m := x + 169)) y1 y2 y3 y4 y5) (hcm.gi (i := 0) rfl (r := (RX11, TX11, 23)) rfl 10 (by decide) rfl) wd_X11_feed wV_X11_feed wL_L_22 ((m_Y_m (t := tF) (m := x + 169)).o rfl) rfl rfl hl.1 rfl (Nat.le_of_ble_eq_true rfl) dL_law_280 ⟨Nat.le_of_ble_eq_true rfl, Nat.le_of_ble_eq_true rfl⟩ ⟨Nat.le_refl _, Nat.le_refl _⟩ (fun r2 H2 locs hp2 hT2 hS2 hk2 => ?_)
  have hp2 : r2 = 20 := hp2
  subst hp2
  refine lv_icmp_eq (tgt := 1273) hx hb dL_law_283 (by decide) (fun _ => ?_) (fun h => absurd (by decide) h)
  exact htail _ _ _ hS2 (lv_sub hl [0, 1, 2, 3] rfl)
set_option maxHeartbeats 4000000 in
set_option maxRecDepth 100000 in
theorem law_case_2 {p : Program} {l : Launch} {e : Env} {s : State} {m : MethodId} {below : List Frame} {meth : Method} {c : Code} {b x : Nat} {xs : Nat → Int32} {G : hG} {H0 : Heap} {locs : List Loc} {ls : Array Slot} (hx : p.tables.exec = Jvm.exec) (hb : c.code = code) (hts : ∀ w ∈ wsL_law, w.before #[Value.ref b] s = true) (hown : s.vm.findClass RL = some m.cls) (hml : c.maxLocals = 4) (hK : h_K G s) (hX : va_X b 6 xs s s.heap) (hbl : b < s.heap.size) (hbA : ¬ x ≤ b) (htail : ∀ (H : Heap) (locs : List Loc) (ls : Array Slot), va_S (fun q => x ≤ q) s.heap H locs → lv_has ls 4 [(3, .int 0), (2, .ref (x + 169)), (1, .ref (x)), (0, .ref b)] → W p l e room_1 s m #[Value.ref b] below meth c H locs 600000 7302250 (lw_Z below #[Value.ref b] s) (F0 m 1273 ls [])) (F : Nat → Int32) (hF : ∀ j, j < 600 → F j = if j = 1 ∨ j = 16 then -1 else 0) (hcx : cw G x (wldV G x) H0) (hcm : cw G (x + 169) (modV G (x + 169) F) H0) (hS0 : va_S (fun q => x ≤ q) s.heap H0 locs) (hl : lv_has ls 4 [(3, .int 0), (2, .ref (x + 169)), (1, .ref (x)), (0, .ref b)]) : W p l e room_1 s m #[Value.ref b] below meth c H0 locs 600000 7302250 (lw_Z below #[Value.ref b] s) (F0 m 288 ls []) := by
  obtain ⟨y1, hy1⟩ : ∃ y, xs 1 = y := ⟨_, rfl⟩
  obtain ⟨y2, hy2⟩ : ∃ y, xs 2 = y := ⟨_, rfl⟩
  obtain ⟨y3, hy3⟩ : ∃ y, xs 3 = y := ⟨_, rfl⟩
  obtain ⟨y4, hy4⟩ : ∃ y, xs 4 = y := ⟨_, rfl⟩
  obtain ⟨y5, hy5⟩ : ∃ y, xs 5 = y := ⟨_, rfl⟩
  refine lv_aload_n hx hb dL_law_288 rfl (lv_at hl 2 rfl) ?_
  refine lv_aload_n hx hb dL_law_289 rfl (lv_at hl 3 rfl) ?_
  refine lv_iload_n hx hb dL_law_290 rfl (lv_at hl 0 rfl) ?_
  refine lv_iconst (v := 1) hx hb dL_law_291 (by decide) ?_
  refine lv_iadd hx hb dL_law_292 ?_
  refine h_top (v := 1) (by decide) ?_
  refine va_sld hx hb hX hbl hbA hS0 (h_inc (by decide)) dL_law_293 ?_
  refine h_top (v := y1) (by rw [show (1 : Int32).toNatClampNeg = 1 from by decide]; exact hy1) ?_
  have hT0 : hT G (w_Y tF x) H0 := w_Y_T (ftF_W G x) hcx
  refine h_callVi (T := TX10) (rest := []) (As := [.int y1]) hx hb hml hown hts hK hT0 (fun q hq => (w_Y_A q hq).1) hS0 (c_X10_load l G (w_Y tF x) (x) (w_Y_w (t := tF) (x := x)) y1) (hcx.gi (i := 1) rfl (r := (RX8, TX8, 4)) rfl 1 (by decide) rfl) wd_X10_load wV_X10_load wL_L_23 (on_w0 (w_Y_w (t := tF) (x := x))) rfl rfl hl.1 rfl (Nat.le_of_ble_eq_true rfl) dL_law_294 ⟨Nat.le_of_ble_eq_true rfl, Nat.le_of_ble_eq_true rfl⟩ ⟨Nat.le_refl _, Nat.le_refl _⟩ (fun r1 H1 locs hp1 hT1 hS1 hk1 => ?_)
  have hcm := hcm.beyond hk1 (Nat.le_refl _)
  refine lv_aload_n hx hb dL_law_297 rfl (lv_at hl 1 rfl) ?_
  refine lv_aload_n hx hb dL_law_298 rfl (lv_at hl 3 rfl) ?_
  refine lv_iload_n hx hb dL_law_299 rfl (lv_at hl 0 rfl) ?_
  refine lv_iconst (v := 1) hx hb dL_law_300 (by decide) ?_
  refine lv_iadd hx hb dL_law_301 ?_
  refine h_top (v := 1) (by decide) ?_
  refine va_sld hx hb hX hbl hbA hS1 (h_inc (by decide)) dL_law_302 ?_
  refine h_top (v := y1) (by rw [show (1 : Int32).toNatClampNeg = 1 from by decide]; exact hy1) ?_
  have hT1 : hT G (m_Y tA (x + 169)) H1 := m_Y_T (fA_M G _ F) hcm
  refine h_callVi (T := TX11) (rest := [.int r1]) (As := [.int y1]) hx hb hml hown hts hK hT1 (fun q hq => Nat.le_trans (Nat.le_add_right x 169) (m_Y_A q hq)) hS1 (c_X11_loadA l G (m_Y tA (x + 169)) (x + 169) (m_Y_m (t := tA) (m := x + 169)) y1) (hcm.gi (i := 0) rfl (r := (RX11, TX11, 23)) rfl 10 (by decide) rfl) wd_X11_load wV_X11_load wL_L_27 ((m_Y_m (t := tA) (m := x + 169)).o rfl) rfl rfl hl.1 rfl (Nat.le_of_ble_eq_true rfl) dL_law_303 ⟨Nat.le_of_ble_eq_true rfl, Nat.le_of_ble_eq_true rfl⟩ ⟨Nat.le_refl _, Nat.le_refl _⟩ (fun r2 H2 locs hp2 hT2 hS2 hk2 => ?_)
  refine lv_icmp_eq (tgt := 1273) hx hb dL_law_306 (by decide) (fun _ => ?_) (fun h => absurd ((Classical.em (y1.toInt = 0)).elim (fun h => (hp1.1 h).trans (hp2.1 h).symm) (fun h => (hp1.2 h).trans (hp2.2 h).symm)) h)
  exact htail _ _ _ hS2 (lv_sub hl [0, 1, 2, 3] rfl)
set_option maxHeartbeats 4000000 in
set_option maxRecDepth 100000 in
theorem law_case_3 {p : Program} {l : Launch} {e : Env} {s : State} {m : MethodId} {below : List Frame} {meth : Method} {c : Code} {b x : Nat} {xs : Nat → Int32} {G : hG} {H0 : Heap} {locs : List Loc} {ls : Array Slot} (hx : p.tables.exec = Jvm.exec) (hb : c.code = code) (hts : ∀ w ∈ wsL_law, w.before #[Value.ref b] s = true) (hown : s.vm.findClass RL = some m.cls) (hml : c.maxLocals = 4) (hK : h_K G s) (hX : va_X b 6 xs s s.heap) (hbl : b < s.heap.size) (hbA : ¬ x ≤ b) (htail : ∀ (H : Heap) (locs : List Loc) (ls : Array Slot), va_S (fun q => x ≤ q) s.heap H locs → lv_has ls 4 [(3, .int 0), (2, .ref (x + 169)), (1, .ref (x)), (0, .ref b)] → W p l e room_1 s m #[Value.ref b] below meth c H locs 600000 7302250 (lw_Z below #[Value.ref b] s) (F0 m 1273 ls [])) (F : Nat → Int32) (hF : ∀ j, j < 600 → F j = if j = 1 ∨ j = 16 then -1 else 0) (hcx : cw G x (wldV G x) H0) (hcm : cw G (x + 169) (modV G (x + 169) F) H0) (hS0 : va_S (fun q => x ≤ q) s.heap H0 locs) (hl : lv_has ls 4 [(3, .int 0), (2, .ref (x + 169)), (1, .ref (x)), (0, .ref b)]) : W p l e room_1 s m #[Value.ref b] below meth c H0 locs 600000 7302250 (lw_Z below #[Value.ref b] s) (F0 m 311 ls []) := by
  obtain ⟨y1, hy1⟩ : ∃ y, xs 1 = y := ⟨_, rfl⟩
  obtain ⟨y2, hy2⟩ : ∃ y, xs 2 = y := ⟨_, rfl⟩
  obtain ⟨y3, hy3⟩ : ∃ y, xs 3 = y := ⟨_, rfl⟩
  obtain ⟨y4, hy4⟩ : ∃ y, xs 4 = y := ⟨_, rfl⟩
  obtain ⟨y5, hy5⟩ : ∃ y, xs 5 = y := ⟨_, rfl⟩
  refine lv_aload_n hx hb dL_law_311 rfl (lv_at hl 2 rfl) ?_
  refine lv_aload_n hx hb dL_law_312 rfl (lv_at hl 3 rfl) ?_
  refine lv_iload_n hx hb dL_law_313 rfl (lv_at hl 0 rfl) ?_
  refine lv_iconst (v := 1) hx hb dL_law_314 (by decide) ?_
  refine lv_iadd hx hb dL_law_315 ?_
  refine h_top (v := 1) (by decide) ?_
  refine va_sld hx hb hX hbl hbA hS0 (h_inc (by decide)) dL_law_316 ?_
  refine h_top (v := y1) (by rw [show (1 : Int32).toNatClampNeg = 1 from by decide]; exact hy1) ?_
  have hT0 : hT G (w_Y tF x) H0 := w_Y_T (ftF_W G x) hcx
  refine h_callVi (T := TX10) (rest := []) (As := [.int y1]) hx hb hml hown hts hK hT0 (fun q hq => (w_Y_A q hq).1) hS0 (c_X10_fault l G (w_Y tF x) (x) (w_Y_w (t := tF) (x := x)) y1) ⟨(hcx.gi (i := 1) rfl (r := (RX8, TX8, 4)) rfl 2 (by decide) rfl), (hcx.gi (i := 1) rfl (r := (RX8, TX8, 4)) rfl 3 (by decide) rfl)⟩ wd_X10_fault wV_X10_fault wL_L_28 (on_w0 (w_Y_w (t := tF) (x := x))) rfl rfl hl.1 rfl (Nat.le_of_ble_eq_true rfl) dL_law_317 ⟨Nat.le_of_ble_eq_true rfl, Nat.le_of_ble_eq_true rfl⟩ ⟨Nat.le_refl _, Nat.le_refl _⟩ (fun r1 H1 locs hp1 hT1 hS1 hk1 => ?_)
  have hp1 : r1 = (-1) := hp1
  subst hp1
  have hcm := hcm.beyond hk1 (Nat.le_refl _)
  refine lv_aload_n hx hb dL_law_320 rfl (lv_at hl 1 rfl) ?_
  refine lv_aload_n hx hb dL_law_321 rfl (lv_at hl 3 rfl) ?_
  refine lv_iload_n hx hb dL_law_322 rfl (lv_at hl 0 rfl) ?_
  refine lv_iconst (v := 1) hx hb dL_law_323 (by decide) ?_
  refine lv_iadd hx hb dL_law_324 ?_
  refine h_top (v := 1) (by decide) ?_
  refine va_sld hx hb hX hbl hbA hS1 (h_inc (by decide)) dL_law_325 ?_
  refine h_top (v := y1) (by rw [show (1 : Int32).toNatClampNeg = 1 from by decide]; exact hy1) ?_
  have hT1 : hT G (m_Y tF (x + 169)) H1 := m_Y_T (fF_M G _ F hF) hcm
  refine h_callVi (T := TX11) (rest := [.int (-1)]) (As := [.int y1]) hx hb hml hown hts hK hT1 (fun q hq => Nat.le_trans (Nat.le_add_right x 169) (m_Y_A q hq)) hS1 (c_X11_fault l G (m_Y tF (x + 169)) (x + 169) (m_Y_m (t := tF) (m := x + 169)) y1) ⟨(hcm.gi (i := 0) rfl (r := (RX11, TX11, 23)) rfl 18 (by decide) rfl), (hcm.gi (i := 0) rfl (r := (RX11, TX11, 23)) rfl 17 (by decide) rfl)⟩ wd_X11_fault wV_X11_fault wL_L_31 ((m_Y_m (t := tF) (m := x + 169)).o rfl) rfl rfl hl.1 rfl (Nat.le_of_ble_eq_true rfl) dL_law_326 ⟨Nat.le_of_ble_eq_true rfl, Nat.le_of_ble_eq_true rfl⟩ ⟨Nat.le_refl _, Nat.le_refl _⟩ (fun r2 H2 locs hp2 hT2 hS2 hk2 => ?_)
  have hp2 : r2 = (-1) := hp2
  subst hp2
  refine lv_icmp_eq (tgt := 1273) hx hb dL_law_329 (by decide) (fun _ => ?_) (fun h => absurd (by decide) h)
  exact htail _ _ _ hS2 (lv_sub hl [0, 1, 2, 3] rfl)
set_option maxHeartbeats 4000000 in
set_option maxRecDepth 100000 in
theorem law_case_4 {p : Program} {l : Launch} {e : Env} {s : State} {m : MethodId} {below : List Frame} {meth : Method} {c : Code} {b x : Nat} {xs : Nat → Int32} {G : hG} {H0 : Heap} {locs : List Loc} {ls : Array Slot} (hx : p.tables.exec = Jvm.exec) (hb : c.code = code) (hts : ∀ w ∈ wsL_law, w.before #[Value.ref b] s = true) (hown : s.vm.findClass RL = some m.cls) (hml : c.maxLocals = 4) (hK : h_K G s) (hX : va_X b 6 xs s s.heap) (hbl : b < s.heap.size) (hbA : ¬ x ≤ b) (htail : ∀ (H : Heap) (locs : List Loc) (ls : Array Slot), va_S (fun q => x ≤ q) s.heap H locs → lv_has ls 4 [(3, .int 0), (2, .ref (x + 169)), (1, .ref (x)), (0, .ref b)] → W p l e room_1 s m #[Value.ref b] below meth c H locs 600000 7302250 (lw_Z below #[Value.ref b] s) (F0 m 1273 ls [])) (F : Nat → Int32) (hF : ∀ j, j < 600 → F j = if j = 1 ∨ j = 16 then -1 else 0) (hcx : cw G x (wldV G x) H0) (hcm : cw G (x + 169) (modV G (x + 169) F) H0) (hS0 : va_S (fun q => x ≤ q) s.heap H0 locs) (hl : lv_has ls 4 [(3, .int 0), (2, .ref (x + 169)), (1, .ref (x)), (0, .ref b)]) : W p l e room_1 s m #[Value.ref b] below meth c H0 locs 600000 7302250 (lw_Z below #[Value.ref b] s) (F0 m 334 ls []) := by
  obtain ⟨y1, hy1⟩ : ∃ y, xs 1 = y := ⟨_, rfl⟩
  obtain ⟨y2, hy2⟩ : ∃ y, xs 2 = y := ⟨_, rfl⟩
  obtain ⟨y3, hy3⟩ : ∃ y, xs 3 = y := ⟨_, rfl⟩
  obtain ⟨y4, hy4⟩ : ∃ y, xs 4 = y := ⟨_, rfl⟩
  obtain ⟨y5, hy5⟩ : ∃ y, xs 5 = y := ⟨_, rfl⟩
  refine lv_aload_n hx hb dL_law_334 rfl (lv_at hl 2 rfl) ?_
  refine lv_aload_n hx hb dL_law_335 rfl (lv_at hl 3 rfl) ?_
  refine lv_iload_n hx hb dL_law_336 rfl (lv_at hl 0 rfl) ?_
  refine lv_iconst (v := 1) hx hb dL_law_337 (by decide) ?_
  refine lv_iadd hx hb dL_law_338 ?_
  refine h_top (v := 1) (by decide) ?_
  refine va_sld hx hb hX hbl hbA hS0 (h_inc (by decide)) dL_law_339 ?_
  refine h_top (v := y1) (by rw [show (1 : Int32).toNatClampNeg = 1 from by decide]; exact hy1) ?_
  have hT0 : hT G (w_Y tF x) H0 := w_Y_T (ftF_W G x) hcx
  refine h_callVi (T := TX10) (rest := []) (As := [.int y1]) hx hb hml hown hts hK hT0 (fun q hq => (w_Y_A q hq).1) hS0 (c_X10_many l G (w_Y tF x) (x) (w_Y_w (t := tF) (x := x)) y1) ⟨(hcx.gi (i := 0) rfl (r := (RX10, TX10, 9)) rfl 7 (by decide) rfl), (hcx.gi (i := 3) rfl (r := (RX5, TX5, 11)) rfl 6 (by decide) rfl), (hcx.gi (i := 21) rfl (r := (RX6, TX6, 4)) rfl 0 (by decide) rfl)⟩ wd_X10_many wV_X10_many wL_L_32 (on_w0 (w_Y_w (t := tF) (x := x))) rfl rfl hl.1 rfl (Nat.le_of_ble_eq_true rfl) dL_law_340 ⟨Nat.le_of_ble_eq_true rfl, Nat.le_of_ble_eq_true rfl⟩ ⟨Nat.le_refl _, Nat.le_refl _⟩ (fun r1 H1 locs hp1 hT1 hS1 hk1 => ?_)
  have hcm := hcm.beyond hk1 (Nat.le_refl _)
  refine lv_aload_n hx hb dL_law_343 rfl (lv_at hl 1 rfl) ?_
  refine lv_aload_n hx hb dL_law_344 rfl (lv_at hl 3 rfl) ?_
  refine lv_iload_n hx hb dL_law_345 rfl (lv_at hl 0 rfl) ?_
  refine lv_iconst (v := 1) hx hb dL_law_346 (by decide) ?_
  refine lv_iadd hx hb dL_law_347 ?_
  refine h_top (v := 1) (by decide) ?_
  refine va_sld hx hb hX hbl hbA hS1 (h_inc (by decide)) dL_law_348 ?_
  refine h_top (v := y1) (by rw [show (1 : Int32).toNatClampNeg = 1 from by decide]; exact hy1) ?_
  have hT1 : hT G (m_Y tF (x + 169)) H1 := m_Y_T (fF_M G _ F hF) hcm
  refine h_callVi (T := TX11) (rest := [.int r1]) (As := [.int y1]) hx hb hml hown hts hK hT1 (fun q hq => Nat.le_trans (Nat.le_add_right x 169) (m_Y_A q hq)) hS1 (c_X11_many l G (m_Y tF (x + 169)) (x + 169) (m_Y_m (t := tF) (m := x + 169)) y1) ⟨(hcm.gi (i := 0) rfl (r := (RX11, TX11, 23)) rfl 2 (by decide) rfl), ((hcm.ai (i := 1) rfl 3 (by decide)).trans (hF 3 (by decide))), ((hcm.ai (i := 1) rfl 4 (by decide)).trans (hF 4 (by decide)))⟩ wd_X11_many wV_X11_many wL_L_35 ((m_Y_m (t := tF) (m := x + 169)).o rfl) rfl rfl hl.1 rfl (Nat.le_of_ble_eq_true rfl) dL_law_349 ⟨Nat.le_of_ble_eq_true rfl, Nat.le_of_ble_eq_true rfl⟩ ⟨Nat.le_refl _, Nat.le_refl _⟩ (fun r2 H2 locs hp2 hT2 hS2 hk2 => ?_)
  refine lv_icmp_eq (tgt := 1273) hx hb dL_law_352 (by decide) (fun _ => ?_) (fun h => absurd ((Classical.em ((0 ≤ y1.toInt ∧ y1.toInt ≤ 8) ∧ y1.toInt ≠ 2)).elim (fun h => (hp1.1 h).trans (hp2.1 h).symm) (fun h => (hp1.2 h).trans (hp2.2 h).symm)) h)
  exact htail _ _ _ hS2 (lv_sub hl [0, 1, 2, 3] rfl)
set_option maxHeartbeats 4000000 in
set_option maxRecDepth 100000 in
theorem law_case_5 {p : Program} {l : Launch} {e : Env} {s : State} {m : MethodId} {below : List Frame} {meth : Method} {c : Code} {b x : Nat} {xs : Nat → Int32} {G : hG} {H0 : Heap} {locs : List Loc} {ls : Array Slot} (hx : p.tables.exec = Jvm.exec) (hb : c.code = code) (hts : ∀ w ∈ wsL_law, w.before #[Value.ref b] s = true) (hown : s.vm.findClass RL = some m.cls) (hml : c.maxLocals = 4) (hK : h_K G s) (hX : va_X b 6 xs s s.heap) (hbl : b < s.heap.size) (hbA : ¬ x ≤ b) (htail : ∀ (H : Heap) (locs : List Loc) (ls : Array Slot), va_S (fun q => x ≤ q) s.heap H locs → lv_has ls 4 [(3, .int 0), (2, .ref (x + 169)), (1, .ref (x)), (0, .ref b)] → W p l e room_1 s m #[Value.ref b] below meth c H locs 600000 7302250 (lw_Z below #[Value.ref b] s) (F0 m 1273 ls [])) (F : Nat → Int32) (hF : ∀ j, j < 600 → F j = if j = 1 ∨ j = 16 then -1 else 0) (hcx : cw G x (wldV G x) H0) (hcm : cw G (x + 169) (modV G (x + 169) F) H0) (hS0 : va_S (fun q => x ≤ q) s.heap H0 locs) (hl : lv_has ls 4 [(3, .int 0), (2, .ref (x + 169)), (1, .ref (x)), (0, .ref b)]) : W p l e room_1 s m #[Value.ref b] below meth c H0 locs 600000 7302250 (lw_Z below #[Value.ref b] s) (F0 m 357 ls []) := by
  obtain ⟨y1, hy1⟩ : ∃ y, xs 1 = y := ⟨_, rfl⟩
  obtain ⟨y2, hy2⟩ : ∃ y, xs 2 = y := ⟨_, rfl⟩
  obtain ⟨y3, hy3⟩ : ∃ y, xs 3 = y := ⟨_, rfl⟩
  obtain ⟨y4, hy4⟩ : ∃ y, xs 4 = y := ⟨_, rfl⟩
  obtain ⟨y5, hy5⟩ : ∃ y, xs 5 = y := ⟨_, rfl⟩
  refine lv_aload_n hx hb dL_law_357 rfl (lv_at hl 2 rfl) ?_
  refine lv_aload_n hx hb dL_law_358 rfl (lv_at hl 3 rfl) ?_
  refine lv_iload_n hx hb dL_law_359 rfl (lv_at hl 0 rfl) ?_
  refine lv_iconst (v := 1) hx hb dL_law_360 (by decide) ?_
  refine lv_iadd hx hb dL_law_361 ?_
  refine h_top (v := 1) (by decide) ?_
  refine va_sld hx hb hX hbl hbA hS0 (h_inc (by decide)) dL_law_362 ?_
  refine h_top (v := y1) (by rw [show (1 : Int32).toNatClampNeg = 1 from by decide]; exact hy1) ?_
  refine lv_aload_n hx hb dL_law_363 rfl (lv_at hl 3 rfl) ?_
  refine lv_iload_n hx hb dL_law_364 rfl (lv_at hl 0 rfl) ?_
  refine lv_iconst (v := 2) hx hb dL_law_365 (by decide) ?_
  refine lv_iadd hx hb dL_law_366 ?_
  refine h_top (v := 2) (by decide) ?_
  refine va_sld hx hb hX hbl hbA hS0 (h_inc (by decide)) dL_law_367 ?_
  refine h_top (v := y2) (by rw [show (2 : Int32).toNatClampNeg = 2 from by decide]; exact hy2) ?_
  have hT0 : hT G (w_Y tF x) H0 := w_Y_T (ftF_W G x) hcx
  refine h_callVi (T := TX10) (rest := []) (As := [.int y1, .int y2]) hx hb hml hown hts hK hT0 (fun q hq => (w_Y_A q hq).1) hS0 (c_X10_station l G (w_Y tF x) (x) (w_Y_w (t := tF) (x := x)) y1 y2) trivial wd_X10_station wV_X10_station wL_L_36 (on_w0 (w_Y_w (t := tF) (x := x))) rfl rfl hl.1 rfl (Nat.le_of_ble_eq_true rfl) dL_law_368 ⟨Nat.le_of_ble_eq_true rfl, Nat.le_of_ble_eq_true rfl⟩ ⟨Nat.le_refl _, Nat.le_refl _⟩ (fun r1 H1 locs hp1 hT1 hS1 hk1 => ?_)
  have hp1 : r1 = (-1) := hp1
  subst hp1
  have hcm := hcm.beyond hk1 (Nat.le_refl _)
  refine lv_aload_n hx hb dL_law_371 rfl (lv_at hl 1 rfl) ?_
  refine lv_aload_n hx hb dL_law_372 rfl (lv_at hl 3 rfl) ?_
  refine lv_iload_n hx hb dL_law_373 rfl (lv_at hl 0 rfl) ?_
  refine lv_iconst (v := 1) hx hb dL_law_374 (by decide) ?_
  refine lv_iadd hx hb dL_law_375 ?_
  refine h_top (v := 1) (by decide) ?_
  refine va_sld hx hb hX hbl hbA hS1 (h_inc (by decide)) dL_law_376 ?_
  refine h_top (v := y1) (by rw [show (1 : Int32).toNatClampNeg = 1 from by decide]; exact hy1) ?_
  refine lv_aload_n hx hb dL_law_377 rfl (lv_at hl 3 rfl) ?_
  refine lv_iload_n hx hb dL_law_378 rfl (lv_at hl 0 rfl) ?_
  refine lv_iconst (v := 2) hx hb dL_law_379 (by decide) ?_
  refine lv_iadd hx hb dL_law_380 ?_
  refine h_top (v := 2) (by decide) ?_
  refine va_sld hx hb hX hbl hbA hS1 (h_inc (by decide)) dL_law_381 ?_
  refine h_top (v := y2) (by rw [show (2 : Int32).toNatClampNeg = 2 from by decide]; exact hy2) ?_
  have hT1 : hT G (m_Y tF (x + 169)) H1 := m_Y_T (fF_M G _ F hF) hcm
  refine h_callVi (T := TX11) (rest := [.int (-1)]) (As := [.int y1, .int y2]) hx hb hml hown hts hK hT1 (fun q hq => Nat.le_trans (Nat.le_add_right x 169) (m_Y_A q hq)) hS1 (c_X11_station l G (m_Y tF (x + 169)) (x + 169) (m_Y_m (t := tF) (m := x + 169)) y1 y2) trivial wd_X11_station wV_X11_station wL_L_40 ((m_Y_m (t := tF) (m := x + 169)).o rfl) rfl rfl hl.1 rfl (Nat.le_of_ble_eq_true rfl) dL_law_382 ⟨Nat.le_of_ble_eq_true rfl, Nat.le_of_ble_eq_true rfl⟩ ⟨Nat.le_refl _, Nat.le_refl _⟩ (fun r2 H2 locs hp2 hT2 hS2 hk2 => ?_)
  have hp2 : r2 = (-1) := hp2
  subst hp2
  refine lv_icmp_eq (tgt := 1273) hx hb dL_law_385 (by decide) (fun _ => ?_) (fun h => absurd (by decide) h)
  exact htail _ _ _ hS2 (lv_sub hl [0, 1, 2, 3] rfl)
set_option maxHeartbeats 4000000 in
set_option maxRecDepth 100000 in
theorem law_case_6 {p : Program} {l : Launch} {e : Env} {s : State} {m : MethodId} {below : List Frame} {meth : Method} {c : Code} {b x : Nat} {xs : Nat → Int32} {G : hG} {H0 : Heap} {locs : List Loc} {ls : Array Slot} (hx : p.tables.exec = Jvm.exec) (hb : c.code = code) (hts : ∀ w ∈ wsL_law, w.before #[Value.ref b] s = true) (hown : s.vm.findClass RL = some m.cls) (hml : c.maxLocals = 4) (hK : h_K G s) (hX : va_X b 6 xs s s.heap) (hbl : b < s.heap.size) (hbA : ¬ x ≤ b) (htail : ∀ (H : Heap) (locs : List Loc) (ls : Array Slot), va_S (fun q => x ≤ q) s.heap H locs → lv_has ls 4 [(3, .int 0), (2, .ref (x + 169)), (1, .ref (x)), (0, .ref b)] → W p l e room_1 s m #[Value.ref b] below meth c H locs 600000 7302250 (lw_Z below #[Value.ref b] s) (F0 m 1273 ls [])) (F : Nat → Int32) (hF : ∀ j, j < 600 → F j = if j = 1 ∨ j = 16 then -1 else 0) (hcx : cw G x (wldV G x) H0) (hcm : cw G (x + 169) (modV G (x + 169) F) H0) (hS0 : va_S (fun q => x ≤ q) s.heap H0 locs) (hl : lv_has ls 4 [(3, .int 0), (2, .ref (x + 169)), (1, .ref (x)), (0, .ref b)]) : W p l e room_1 s m #[Value.ref b] below meth c H0 locs 600000 7302250 (lw_Z below #[Value.ref b] s) (F0 m 390 ls []) := by
  obtain ⟨y1, hy1⟩ : ∃ y, xs 1 = y := ⟨_, rfl⟩
  obtain ⟨y2, hy2⟩ : ∃ y, xs 2 = y := ⟨_, rfl⟩
  obtain ⟨y3, hy3⟩ : ∃ y, xs 3 = y := ⟨_, rfl⟩
  obtain ⟨y4, hy4⟩ : ∃ y, xs 4 = y := ⟨_, rfl⟩
  obtain ⟨y5, hy5⟩ : ∃ y, xs 5 = y := ⟨_, rfl⟩
  refine lv_aload_n hx hb dL_law_390 rfl (lv_at hl 2 rfl) ?_
  refine lv_aload_n hx hb dL_law_391 rfl (lv_at hl 3 rfl) ?_
  refine lv_iload_n hx hb dL_law_392 rfl (lv_at hl 0 rfl) ?_
  refine lv_iconst (v := 1) hx hb dL_law_393 (by decide) ?_
  refine lv_iadd hx hb dL_law_394 ?_
  refine h_top (v := 1) (by decide) ?_
  refine va_sld hx hb hX hbl hbA hS0 (h_inc (by decide)) dL_law_395 ?_
  refine h_top (v := y1) (by rw [show (1 : Int32).toNatClampNeg = 1 from by decide]; exact hy1) ?_
  refine lv_aload_n hx hb dL_law_396 rfl (lv_at hl 3 rfl) ?_
  refine lv_iload_n hx hb dL_law_397 rfl (lv_at hl 0 rfl) ?_
  refine lv_iconst (v := 2) hx hb dL_law_398 (by decide) ?_
  refine lv_iadd hx hb dL_law_399 ?_
  refine h_top (v := 2) (by decide) ?_
  refine va_sld hx hb hX hbl hbA hS0 (h_inc (by decide)) dL_law_400 ?_
  refine h_top (v := y2) (by rw [show (2 : Int32).toNatClampNeg = 2 from by decide]; exact hy2) ?_
  refine lv_aload_n hx hb dL_law_401 rfl (lv_at hl 3 rfl) ?_
  refine lv_iload_n hx hb dL_law_402 rfl (lv_at hl 0 rfl) ?_
  refine lv_iconst (v := 3) hx hb dL_law_403 (by decide) ?_
  refine lv_iadd hx hb dL_law_404 ?_
  refine h_top (v := 3) (by decide) ?_
  refine va_sld hx hb hX hbl hbA hS0 (h_inc (by decide)) dL_law_405 ?_
  refine h_top (v := y3) (by rw [show (3 : Int32).toNatClampNeg = 3 from by decide]; exact hy3) ?_
  have hT0 : hT G (w_Y tF x) H0 := w_Y_T (ftF_W G x) hcx
  refine h_callVi (T := TX10) (rest := []) (As := [.int y1, .int y2, .int y3]) hx hb hml hown hts hK hT0 (fun q hq => (w_Y_A q hq).1) hS0 (c_X10_waits l G (w_Y tF x) (x) (w_Y_w (t := tF) (x := x)) y1 y2 y3) trivial wd_X10_waits wV_X10_waits wL_L_41 (on_w0 (w_Y_w (t := tF) (x := x))) rfl rfl hl.1 rfl (Nat.le_of_ble_eq_true rfl) dL_law_406 ⟨Nat.le_of_ble_eq_true rfl, Nat.le_of_ble_eq_true rfl⟩ ⟨Nat.le_refl _, Nat.le_refl _⟩ (fun r1 H1 locs hp1 hT1 hS1 hk1 => ?_)
  have hp1 : r1 = (-1) := hp1
  subst hp1
  have hcm := hcm.beyond hk1 (Nat.le_refl _)
  refine lv_aload_n hx hb dL_law_409 rfl (lv_at hl 1 rfl) ?_
  refine lv_aload_n hx hb dL_law_410 rfl (lv_at hl 3 rfl) ?_
  refine lv_iload_n hx hb dL_law_411 rfl (lv_at hl 0 rfl) ?_
  refine lv_iconst (v := 1) hx hb dL_law_412 (by decide) ?_
  refine lv_iadd hx hb dL_law_413 ?_
  refine h_top (v := 1) (by decide) ?_
  refine va_sld hx hb hX hbl hbA hS1 (h_inc (by decide)) dL_law_414 ?_
  refine h_top (v := y1) (by rw [show (1 : Int32).toNatClampNeg = 1 from by decide]; exact hy1) ?_
  refine lv_aload_n hx hb dL_law_415 rfl (lv_at hl 3 rfl) ?_
  refine lv_iload_n hx hb dL_law_416 rfl (lv_at hl 0 rfl) ?_
  refine lv_iconst (v := 2) hx hb dL_law_417 (by decide) ?_
  refine lv_iadd hx hb dL_law_418 ?_
  refine h_top (v := 2) (by decide) ?_
  refine va_sld hx hb hX hbl hbA hS1 (h_inc (by decide)) dL_law_419 ?_
  refine h_top (v := y2) (by rw [show (2 : Int32).toNatClampNeg = 2 from by decide]; exact hy2) ?_
  refine lv_aload_n hx hb dL_law_420 rfl (lv_at hl 3 rfl) ?_
  refine lv_iload_n hx hb dL_law_421 rfl (lv_at hl 0 rfl) ?_
  refine lv_iconst (v := 3) hx hb dL_law_422 (by decide) ?_
  refine lv_iadd hx hb dL_law_423 ?_
  refine h_top (v := 3) (by decide) ?_
  refine va_sld hx hb hX hbl hbA hS1 (h_inc (by decide)) dL_law_424 ?_
  refine h_top (v := y3) (by rw [show (3 : Int32).toNatClampNeg = 3 from by decide]; exact hy3) ?_
  have hT1 : hT G (m_Y tF (x + 169)) H1 := m_Y_T (fF_M G _ F hF) hcm
  refine h_callVi (T := TX11) (rest := [.int (-1)]) (As := [.int y1, .int y2, .int y3]) hx hb hml hown hts hK hT1 (fun q hq => Nat.le_trans (Nat.le_add_right x 169) (m_Y_A q hq)) hS1 (c_X11_waits l G (m_Y tF (x + 169)) (x + 169) (m_Y_m (t := tF) (m := x + 169)) y1 y2 y3) trivial wd_X11_waits wV_X11_waits wL_L_45 ((m_Y_m (t := tF) (m := x + 169)).o rfl) rfl rfl hl.1 rfl (Nat.le_of_ble_eq_true rfl) dL_law_425 ⟨Nat.le_of_ble_eq_true rfl, Nat.le_of_ble_eq_true rfl⟩ ⟨Nat.le_refl _, Nat.le_refl _⟩ (fun r2 H2 locs hp2 hT2 hS2 hk2 => ?_)
  have hp2 : r2 = (-1) := hp2
  subst hp2
  refine lv_icmp_eq (tgt := 1273) hx hb dL_law_428 (by decide) (fun _ => ?_) (fun h => absurd (by decide) h)
  exact htail _ _ _ hS2 (lv_sub hl [0, 1, 2, 3] rfl)
set_option maxHeartbeats 4000000 in
set_option maxRecDepth 100000 in
theorem law_case_7 {p : Program} {l : Launch} {e : Env} {s : State} {m : MethodId} {below : List Frame} {meth : Method} {c : Code} {b x : Nat} {xs : Nat → Int32} {G : hG} {H0 : Heap} {locs : List Loc} {ls : Array Slot} (hx : p.tables.exec = Jvm.exec) (hb : c.code = code) (hts : ∀ w ∈ wsL_law, w.before #[Value.ref b] s = true) (hown : s.vm.findClass RL = some m.cls) (hml : c.maxLocals = 4) (hK : h_K G s) (hX : va_X b 6 xs s s.heap) (hbl : b < s.heap.size) (hbA : ¬ x ≤ b) (htail : ∀ (H : Heap) (locs : List Loc) (ls : Array Slot), va_S (fun q => x ≤ q) s.heap H locs → lv_has ls 4 [(3, .int 0), (2, .ref (x + 169)), (1, .ref (x)), (0, .ref b)] → W p l e room_1 s m #[Value.ref b] below meth c H locs 600000 7302250 (lw_Z below #[Value.ref b] s) (F0 m 1273 ls [])) (F : Nat → Int32) (hF : ∀ j, j < 600 → F j = if j = 1 ∨ j = 16 then -1 else 0) (hcx : cw G x (wldV G x) H0) (hcm : cw G (x + 169) (modV G (x + 169) F) H0) (hS0 : va_S (fun q => x ≤ q) s.heap H0 locs) (hl : lv_has ls 4 [(3, .int 0), (2, .ref (x + 169)), (1, .ref (x)), (0, .ref b)]) : W p l e room_1 s m #[Value.ref b] below meth c H0 locs 600000 7302250 (lw_Z below #[Value.ref b] s) (F0 m 433 ls []) := by
  obtain ⟨y1, hy1⟩ : ∃ y, xs 1 = y := ⟨_, rfl⟩
  obtain ⟨y2, hy2⟩ : ∃ y, xs 2 = y := ⟨_, rfl⟩
  obtain ⟨y3, hy3⟩ : ∃ y, xs 3 = y := ⟨_, rfl⟩
  obtain ⟨y4, hy4⟩ : ∃ y, xs 4 = y := ⟨_, rfl⟩
  obtain ⟨y5, hy5⟩ : ∃ y, xs 5 = y := ⟨_, rfl⟩
  refine lv_aload_n hx hb dL_law_433 rfl (lv_at hl 2 rfl) ?_
  refine lv_aload_n hx hb dL_law_434 rfl (lv_at hl 3 rfl) ?_
  refine lv_iload_n hx hb dL_law_435 rfl (lv_at hl 0 rfl) ?_
  refine lv_iconst (v := 1) hx hb dL_law_436 (by decide) ?_
  refine lv_iadd hx hb dL_law_437 ?_
  refine h_top (v := 1) (by decide) ?_
  refine va_sld hx hb hX hbl hbA hS0 (h_inc (by decide)) dL_law_438 ?_
  refine h_top (v := y1) (by rw [show (1 : Int32).toNatClampNeg = 1 from by decide]; exact hy1) ?_
  have hT0 : hT G (w_Y tF x) H0 := w_Y_T (ftF_W G x) hcx
  refine h_callVi (T := TX10) (rest := []) (As := [.int y1]) hx hb hml hown hts hK hT0 (fun q hq => (w_Y_A q hq).1) hS0 (c_X10_way l G (w_Y tF x) (x) (w_Y_w (t := tF) (x := x)) y1) trivial wd_X10_way wV_X10_way wL_L_46 (on_w0 (w_Y_w (t := tF) (x := x))) rfl rfl hl.1 rfl (Nat.le_of_ble_eq_true rfl) dL_law_439 ⟨Nat.le_of_ble_eq_true rfl, Nat.le_of_ble_eq_true rfl⟩ ⟨Nat.le_refl _, Nat.le_refl _⟩ (fun r1 H1 locs hp1 hT1 hS1 hk1 => ?_)
  have hcm := hcm.beyond hk1 (Nat.le_refl _)
  refine lv_aload_n hx hb dL_law_442 rfl (lv_at hl 1 rfl) ?_
  refine lv_aload_n hx hb dL_law_443 rfl (lv_at hl 3 rfl) ?_
  refine lv_iload_n hx hb dL_law_444 rfl (lv_at hl 0 rfl) ?_
  refine lv_iconst (v := 1) hx hb dL_law_445 (by decide) ?_
  refine lv_iadd hx hb dL_law_446 ?_
  refine h_top (v := 1) (by decide) ?_
  refine va_sld hx hb hX hbl hbA hS1 (h_inc (by decide)) dL_law_447 ?_
  refine h_top (v := y1) (by rw [show (1 : Int32).toNatClampNeg = 1 from by decide]; exact hy1) ?_
  have hT1 : hT G (m_Y tF (x + 169)) H1 := m_Y_T (fF_M G _ F hF) hcm
  refine h_callVi (T := TX11) (rest := [.int r1]) (As := [.int y1]) hx hb hml hown hts hK hT1 (fun q hq => Nat.le_trans (Nat.le_add_right x 169) (m_Y_A q hq)) hS1 (c_X11_way l G (m_Y tF (x + 169)) (x + 169) (m_Y_m (t := tF) (m := x + 169)) y1) trivial wd_X11_way wV_X11_way wL_L_49 ((m_Y_m (t := tF) (m := x + 169)).o rfl) rfl rfl hl.1 rfl (Nat.le_of_ble_eq_true rfl) dL_law_448 ⟨Nat.le_of_ble_eq_true rfl, Nat.le_of_ble_eq_true rfl⟩ ⟨Nat.le_refl _, Nat.le_refl _⟩ (fun r2 H2 locs hp2 hT2 hS2 hk2 => ?_)
  refine lv_icmp_eq (tgt := 1273) hx hb dL_law_451 (by decide) (fun _ => ?_) (fun h => absurd ((Classical.em (y1.toInt = 0)).elim (fun h => (hp1.1 h).trans (hp2.1 h).symm) (fun h => (hp1.2 h).trans (hp2.2 h).symm)) h)
  exact htail _ _ _ hS2 (lv_sub hl [0, 1, 2, 3] rfl)
set_option maxHeartbeats 4000000 in
set_option maxRecDepth 100000 in
theorem law_case_8 {p : Program} {l : Launch} {e : Env} {s : State} {m : MethodId} {below : List Frame} {meth : Method} {c : Code} {b x : Nat} {xs : Nat → Int32} {G : hG} {H0 : Heap} {locs : List Loc} {ls : Array Slot} (hx : p.tables.exec = Jvm.exec) (hb : c.code = code) (hts : ∀ w ∈ wsL_law, w.before #[Value.ref b] s = true) (hown : s.vm.findClass RL = some m.cls) (hml : c.maxLocals = 4) (hK : h_K G s) (hX : va_X b 6 xs s s.heap) (hbl : b < s.heap.size) (hbA : ¬ x ≤ b) (htail : ∀ (H : Heap) (locs : List Loc) (ls : Array Slot), va_S (fun q => x ≤ q) s.heap H locs → lv_has ls 4 [(3, .int 0), (2, .ref (x + 169)), (1, .ref (x)), (0, .ref b)] → W p l e room_1 s m #[Value.ref b] below meth c H locs 600000 7302250 (lw_Z below #[Value.ref b] s) (F0 m 1273 ls [])) (F : Nat → Int32) (hF : ∀ j, j < 600 → F j = if j = 1 ∨ j = 16 then -1 else 0) (hcx : cw G x (wldV G x) H0) (hcm : cw G (x + 169) (modV G (x + 169) F) H0) (hS0 : va_S (fun q => x ≤ q) s.heap H0 locs) (hl : lv_has ls 4 [(3, .int 0), (2, .ref (x + 169)), (1, .ref (x)), (0, .ref b)]) : W p l e room_1 s m #[Value.ref b] below meth c H0 locs 600000 7302250 (lw_Z below #[Value.ref b] s) (F0 m 456 ls []) := by
  obtain ⟨y1, hy1⟩ : ∃ y, xs 1 = y := ⟨_, rfl⟩
  obtain ⟨y2, hy2⟩ : ∃ y, xs 2 = y := ⟨_, rfl⟩
  obtain ⟨y3, hy3⟩ : ∃ y, xs 3 = y := ⟨_, rfl⟩
  obtain ⟨y4, hy4⟩ : ∃ y, xs 4 = y := ⟨_, rfl⟩
  obtain ⟨y5, hy5⟩ : ∃ y, xs 5 = y := ⟨_, rfl⟩
  refine lv_aload_n hx hb dL_law_456 rfl (lv_at hl 2 rfl) ?_
  refine lv_aload_n hx hb dL_law_457 rfl (lv_at hl 3 rfl) ?_
  refine lv_iload_n hx hb dL_law_458 rfl (lv_at hl 0 rfl) ?_
  refine lv_iconst (v := 1) hx hb dL_law_459 (by decide) ?_
  refine lv_iadd hx hb dL_law_460 ?_
  refine h_top (v := 1) (by decide) ?_
  refine va_sld hx hb hX hbl hbA hS0 (h_inc (by decide)) dL_law_461 ?_
  refine h_top (v := y1) (by rw [show (1 : Int32).toNatClampNeg = 1 from by decide]; exact hy1) ?_
  have hT0 : hT G (w_Y tF x) H0 := w_Y_T (ftF_W G x) hcx
  refine h_callVi (T := TX10) (rest := []) (As := [.int y1]) hx hb hml hown hts hK hT0 (fun q hq => (w_Y_A q hq).1) hS0 (c_X10_beacon l G (w_Y tF x) (x) (w_Y_w (t := tF) (x := x)) y1) trivial wd_X10_beacon wV_X10_beacon wL_L_50 (on_w0 (w_Y_w (t := tF) (x := x))) rfl rfl hl.1 rfl (Nat.le_of_ble_eq_true rfl) dL_law_462 ⟨Nat.le_of_ble_eq_true rfl, Nat.le_of_ble_eq_true rfl⟩ ⟨Nat.le_refl _, Nat.le_refl _⟩ (fun r1 H1 locs hp1 hT1 hS1 hk1 => ?_)
  have hcm := hcm.beyond hk1 (Nat.le_refl _)
  refine lv_aload_n hx hb dL_law_465 rfl (lv_at hl 1 rfl) ?_
  refine lv_aload_n hx hb dL_law_466 rfl (lv_at hl 3 rfl) ?_
  refine lv_iload_n hx hb dL_law_467 rfl (lv_at hl 0 rfl) ?_
  refine lv_iconst (v := 1) hx hb dL_law_468 (by decide) ?_
  refine lv_iadd hx hb dL_law_469 ?_
  refine h_top (v := 1) (by decide) ?_
  refine va_sld hx hb hX hbl hbA hS1 (h_inc (by decide)) dL_law_470 ?_
  refine h_top (v := y1) (by rw [show (1 : Int32).toNatClampNeg = 1 from by decide]; exact hy1) ?_
  have hT1 : hT G (m_Y tF (x + 169)) H1 := m_Y_T (fF_M G _ F hF) hcm
  refine h_callVi (T := TX11) (rest := [.int r1]) (As := [.int y1]) hx hb hml hown hts hK hT1 (fun q hq => Nat.le_trans (Nat.le_add_right x 169) (m_Y_A q hq)) hS1 (c_X11_beacon l G (m_Y tF (x + 169)) (x + 169) (m_Y_m (t := tF) (m := x + 169)) y1) trivial wd_X11_beacon wV_X11_beacon wL_L_53 ((m_Y_m (t := tF) (m := x + 169)).o rfl) rfl rfl hl.1 rfl (Nat.le_of_ble_eq_true rfl) dL_law_471 ⟨Nat.le_of_ble_eq_true rfl, Nat.le_of_ble_eq_true rfl⟩ ⟨Nat.le_refl _, Nat.le_refl _⟩ (fun r2 H2 locs hp2 hT2 hS2 hk2 => ?_)
  refine lv_icmp_eq (tgt := 1273) hx hb dL_law_474 (by decide) (fun _ => ?_) (fun h => absurd ((Classical.em (y1.toInt = 0)).elim (fun h => (hp1.1 h).trans (hp2.1 h).symm) (fun h => (hp1.2 h).trans (hp2.2 h).symm)) h)
  exact htail _ _ _ hS2 (lv_sub hl [0, 1, 2, 3] rfl)
set_option maxHeartbeats 4000000 in
set_option maxRecDepth 100000 in
theorem law_case_9 {p : Program} {l : Launch} {e : Env} {s : State} {m : MethodId} {below : List Frame} {meth : Method} {c : Code} {b x : Nat} {xs : Nat → Int32} {G : hG} {H0 : Heap} {locs : List Loc} {ls : Array Slot} (hx : p.tables.exec = Jvm.exec) (hb : c.code = code) (hts : ∀ w ∈ wsL_law, w.before #[Value.ref b] s = true) (hown : s.vm.findClass RL = some m.cls) (hml : c.maxLocals = 4) (hK : h_K G s) (hX : va_X b 6 xs s s.heap) (hbl : b < s.heap.size) (hbA : ¬ x ≤ b) (htail : ∀ (H : Heap) (locs : List Loc) (ls : Array Slot), va_S (fun q => x ≤ q) s.heap H locs → lv_has ls 4 [(3, .int 0), (2, .ref (x + 169)), (1, .ref (x)), (0, .ref b)] → W p l e room_1 s m #[Value.ref b] below meth c H locs 600000 7302250 (lw_Z below #[Value.ref b] s) (F0 m 1273 ls [])) (F : Nat → Int32) (hF : ∀ j, j < 600 → F j = if j = 1 ∨ j = 16 then -1 else 0) (hcx : cw G x (wldV G x) H0) (hcm : cw G (x + 169) (modV G (x + 169) F) H0) (hS0 : va_S (fun q => x ≤ q) s.heap H0 locs) (hl : lv_has ls 4 [(3, .int 0), (2, .ref (x + 169)), (1, .ref (x)), (0, .ref b)]) : W p l e room_1 s m #[Value.ref b] below meth c H0 locs 600000 7302250 (lw_Z below #[Value.ref b] s) (F0 m 479 ls []) := by
  obtain ⟨y1, hy1⟩ : ∃ y, xs 1 = y := ⟨_, rfl⟩
  obtain ⟨y2, hy2⟩ : ∃ y, xs 2 = y := ⟨_, rfl⟩
  obtain ⟨y3, hy3⟩ : ∃ y, xs 3 = y := ⟨_, rfl⟩
  obtain ⟨y4, hy4⟩ : ∃ y, xs 4 = y := ⟨_, rfl⟩
  obtain ⟨y5, hy5⟩ : ∃ y, xs 5 = y := ⟨_, rfl⟩
  refine lv_aload_n hx hb dL_law_479 rfl (lv_at hl 2 rfl) ?_
  refine lv_aload_n hx hb dL_law_480 rfl (lv_at hl 3 rfl) ?_
  refine lv_iload_n hx hb dL_law_481 rfl (lv_at hl 0 rfl) ?_
  refine lv_iconst (v := 1) hx hb dL_law_482 (by decide) ?_
  refine lv_iadd hx hb dL_law_483 ?_
  refine h_top (v := 1) (by decide) ?_
  refine va_sld hx hb hX hbl hbA hS0 (h_inc (by decide)) dL_law_484 ?_
  refine h_top (v := y1) (by rw [show (1 : Int32).toNatClampNeg = 1 from by decide]; exact hy1) ?_
  have hT0 : hT G (w_Y tF x) H0 := w_Y_T (ftF_W G x) hcx
  refine h_callVi (T := TX10) (rest := []) (As := [.int y1]) hx hb hml hown hts hK hT0 (fun q hq => (w_Y_A q hq).1) hS0 (c_X10_been l G (w_Y tF x) (x) (w_Y_w (t := tF) (x := x)) y1) trivial wd_X10_been wV_X10_been wL_L_54 (on_w0 (w_Y_w (t := tF) (x := x))) rfl rfl hl.1 rfl (Nat.le_of_ble_eq_true rfl) dL_law_485 ⟨Nat.le_of_ble_eq_true rfl, Nat.le_of_ble_eq_true rfl⟩ ⟨Nat.le_refl _, Nat.le_refl _⟩ (fun r1 H1 locs hp1 hT1 hS1 hk1 => ?_)
  have hcm := hcm.beyond hk1 (Nat.le_refl _)
  refine lv_aload_n hx hb dL_law_488 rfl (lv_at hl 1 rfl) ?_
  refine lv_aload_n hx hb dL_law_489 rfl (lv_at hl 3 rfl) ?_
  refine lv_iload_n hx hb dL_law_490 rfl (lv_at hl 0 rfl) ?_
  refine lv_iconst (v := 1) hx hb dL_law_491 (by decide) ?_
  refine lv_iadd hx hb dL_law_492 ?_
  refine h_top (v := 1) (by decide) ?_
  refine va_sld hx hb hX hbl hbA hS1 (h_inc (by decide)) dL_law_493 ?_
  refine h_top (v := y1) (by rw [show (1 : Int32).toNatClampNeg = 1 from by decide]; exact hy1) ?_
  have hT1 : hT G (m_Y tF (x + 169)) H1 := m_Y_T (fF_M G _ F hF) hcm
  refine h_callVi (T := TX11) (rest := [.int r1]) (As := [.int y1]) hx hb hml hown hts hK hT1 (fun q hq => Nat.le_trans (Nat.le_add_right x 169) (m_Y_A q hq)) hS1 (c_X11_been l G (m_Y tF (x + 169)) (x + 169) (m_Y_m (t := tF) (m := x + 169)) y1) trivial wd_X11_been wV_X11_been wL_L_57 ((m_Y_m (t := tF) (m := x + 169)).o rfl) rfl rfl hl.1 rfl (Nat.le_of_ble_eq_true rfl) dL_law_494 ⟨Nat.le_of_ble_eq_true rfl, Nat.le_of_ble_eq_true rfl⟩ ⟨Nat.le_refl _, Nat.le_refl _⟩ (fun r2 H2 locs hp2 hT2 hS2 hk2 => ?_)
  refine lv_icmp_eq (tgt := 1273) hx hb dL_law_497 (by decide) (fun _ => ?_) (fun h => absurd ((Classical.em (0 ≤ y1.toInt ∧ y1.toInt ≤ 9)).elim (fun h => (hp1.1 h).trans (hp2.1 h).symm) (fun h => (hp1.2 h).trans (hp2.2 h).symm)) h)
  exact htail _ _ _ hS2 (lv_sub hl [0, 1, 2, 3] rfl)
set_option maxHeartbeats 4000000 in
set_option maxRecDepth 100000 in
theorem law_case_10 {p : Program} {l : Launch} {e : Env} {s : State} {m : MethodId} {below : List Frame} {meth : Method} {c : Code} {b x : Nat} {xs : Nat → Int32} {G : hG} {H0 : Heap} {locs : List Loc} {ls : Array Slot} (hx : p.tables.exec = Jvm.exec) (hb : c.code = code) (hts : ∀ w ∈ wsL_law, w.before #[Value.ref b] s = true) (hown : s.vm.findClass RL = some m.cls) (hml : c.maxLocals = 4) (hK : h_K G s) (hX : va_X b 6 xs s s.heap) (hbl : b < s.heap.size) (hbA : ¬ x ≤ b) (htail : ∀ (H : Heap) (locs : List Loc) (ls : Array Slot), va_S (fun q => x ≤ q) s.heap H locs → lv_has ls 4 [(3, .int 0), (2, .ref (x + 169)), (1, .ref (x)), (0, .ref b)] → W p l e room_1 s m #[Value.ref b] below meth c H locs 600000 7302250 (lw_Z below #[Value.ref b] s) (F0 m 1273 ls [])) (F : Nat → Int32) (hF : ∀ j, j < 600 → F j = if j = 1 ∨ j = 16 then -1 else 0) (hcx : cw G x (wldV G x) H0) (hcm : cw G (x + 169) (modV G (x + 169) F) H0) (hS0 : va_S (fun q => x ≤ q) s.heap H0 locs) (hl : lv_has ls 4 [(3, .int 0), (2, .ref (x + 169)), (1, .ref (x)), (0, .ref b)]) : W p l e room_1 s m #[Value.ref b] below meth c H0 locs 600000 7302250 (lw_Z below #[Value.ref b] s) (F0 m 502 ls []) := by
  obtain ⟨y1, hy1⟩ : ∃ y, xs 1 = y := ⟨_, rfl⟩
  obtain ⟨y2, hy2⟩ : ∃ y, xs 2 = y := ⟨_, rfl⟩
  obtain ⟨y3, hy3⟩ : ∃ y, xs 3 = y := ⟨_, rfl⟩
  obtain ⟨y4, hy4⟩ : ∃ y, xs 4 = y := ⟨_, rfl⟩
  obtain ⟨y5, hy5⟩ : ∃ y, xs 5 = y := ⟨_, rfl⟩
  refine lv_aload_n hx hb dL_law_502 rfl (lv_at hl 2 rfl) ?_
  refine lv_aload_n hx hb dL_law_503 rfl (lv_at hl 3 rfl) ?_
  refine lv_iload_n hx hb dL_law_504 rfl (lv_at hl 0 rfl) ?_
  refine lv_iconst (v := 1) hx hb dL_law_505 (by decide) ?_
  refine lv_iadd hx hb dL_law_506 ?_
  refine h_top (v := 1) (by decide) ?_
  refine va_sld hx hb hX hbl hbA hS0 (h_inc (by decide)) dL_law_507 ?_
  refine h_top (v := y1) (by rw [show (1 : Int32).toNatClampNeg = 1 from by decide]; exact hy1) ?_
  refine lv_aload_n hx hb dL_law_508 rfl (lv_at hl 3 rfl) ?_
  refine lv_iload_n hx hb dL_law_509 rfl (lv_at hl 0 rfl) ?_
  refine lv_iconst (v := 2) hx hb dL_law_510 (by decide) ?_
  refine lv_iadd hx hb dL_law_511 ?_
  refine h_top (v := 2) (by decide) ?_
  refine va_sld hx hb hX hbl hbA hS0 (h_inc (by decide)) dL_law_512 ?_
  refine h_top (v := y2) (by rw [show (2 : Int32).toNatClampNeg = 2 from by decide]; exact hy2) ?_
  have hT0 : hT G (w_Y tF x) H0 := w_Y_T (ftF_W G x) hcx
  refine h_callVi (T := TX10) (rest := []) (As := [.int y1, .int y2]) hx hb hml hown hts hK hT0 (fun q hq => (w_Y_A q hq).1) hS0 (c_X10_got l G (w_Y tF x) (x) (w_Y_w (t := tF) (x := x)) y1 y2) trivial wd_X10_got wV_X10_got wL_L_58 (on_w0 (w_Y_w (t := tF) (x := x))) rfl rfl hl.1 rfl (Nat.le_of_ble_eq_true rfl) dL_law_513 ⟨Nat.le_of_ble_eq_true rfl, Nat.le_of_ble_eq_true rfl⟩ ⟨Nat.le_refl _, Nat.le_refl _⟩ (fun r1 H1 locs hp1 hT1 hS1 hk1 => ?_)
  have hp1 : r1 = (-1) := hp1
  subst hp1
  have hcm := hcm.beyond hk1 (Nat.le_refl _)
  refine lv_aload_n hx hb dL_law_516 rfl (lv_at hl 1 rfl) ?_
  refine lv_aload_n hx hb dL_law_517 rfl (lv_at hl 3 rfl) ?_
  refine lv_iload_n hx hb dL_law_518 rfl (lv_at hl 0 rfl) ?_
  refine lv_iconst (v := 1) hx hb dL_law_519 (by decide) ?_
  refine lv_iadd hx hb dL_law_520 ?_
  refine h_top (v := 1) (by decide) ?_
  refine va_sld hx hb hX hbl hbA hS1 (h_inc (by decide)) dL_law_521 ?_
  refine h_top (v := y1) (by rw [show (1 : Int32).toNatClampNeg = 1 from by decide]; exact hy1) ?_
  refine lv_aload_n hx hb dL_law_522 rfl (lv_at hl 3 rfl) ?_
  refine lv_iload_n hx hb dL_law_523 rfl (lv_at hl 0 rfl) ?_
  refine lv_iconst (v := 2) hx hb dL_law_524 (by decide) ?_
  refine lv_iadd hx hb dL_law_525 ?_
  refine h_top (v := 2) (by decide) ?_
  refine va_sld hx hb hX hbl hbA hS1 (h_inc (by decide)) dL_law_526 ?_
  refine h_top (v := y2) (by rw [show (2 : Int32).toNatClampNeg = 2 from by decide]; exact hy2) ?_
  have hT1 : hT G (m_Y tF (x + 169)) H1 := m_Y_T (fF_M G _ F hF) hcm
  refine h_callVi (T := TX11) (rest := [.int (-1)]) (As := [.int y1, .int y2]) hx hb hml hown hts hK hT1 (fun q hq => Nat.le_trans (Nat.le_add_right x 169) (m_Y_A q hq)) hS1 (c_X11_got l G (m_Y tF (x + 169)) (x + 169) (m_Y_m (t := tF) (m := x + 169)) y1 y2) trivial wd_X11_got wV_X11_got wL_L_61 ((m_Y_m (t := tF) (m := x + 169)).o rfl) rfl rfl hl.1 rfl (Nat.le_of_ble_eq_true rfl) dL_law_527 ⟨Nat.le_of_ble_eq_true rfl, Nat.le_of_ble_eq_true rfl⟩ ⟨Nat.le_refl _, Nat.le_refl _⟩ (fun r2 H2 locs hp2 hT2 hS2 hk2 => ?_)
  have hp2 : r2 = (-1) := hp2
  subst hp2
  refine lv_icmp_eq (tgt := 1273) hx hb dL_law_530 (by decide) (fun _ => ?_) (fun h => absurd (by decide) h)
  exact htail _ _ _ hS2 (lv_sub hl [0, 1, 2, 3] rfl)
set_option maxHeartbeats 4000000 in
set_option maxRecDepth 100000 in
theorem law_case_11 {p : Program} {l : Launch} {e : Env} {s : State} {m : MethodId} {below : List Frame} {meth : Method} {c : Code} {b x : Nat} {xs : Nat → Int32} {G : hG} {H0 : Heap} {locs : List Loc} {ls : Array Slot} (hx : p.tables.exec = Jvm.exec) (hb : c.code = code) (hts : ∀ w ∈ wsL_law, w.before #[Value.ref b] s = true) (hown : s.vm.findClass RL = some m.cls) (hml : c.maxLocals = 4) (hK : h_K G s) (hX : va_X b 6 xs s s.heap) (hbl : b < s.heap.size) (hbA : ¬ x ≤ b) (htail : ∀ (H : Heap) (locs : List Loc) (ls : Array Slot), va_S (fun q => x ≤ q) s.heap H locs → lv_has ls 4 [(3, .int 0), (2, .ref (x + 169)), (1, .ref (x)), (0, .ref b)] → W p l e room_1 s m #[Value.ref b] below meth c H locs 600000 7302250 (lw_Z below #[Value.ref b] s) (F0 m 1273 ls [])) (F : Nat → Int32) (hF : ∀ j, j < 600 → F j = if j = 1 ∨ j = 16 then -1 else 0) (hcx : cw G x (wldV G x) H0) (hcm : cw G (x + 169) (modV G (x + 169) F) H0) (hS0 : va_S (fun q => x ≤ q) s.heap H0 locs) (hl : lv_has ls 4 [(3, .int 0), (2, .ref (x + 169)), (1, .ref (x)), (0, .ref b)]) : W p l e room_1 s m #[Value.ref b] below meth c H0 locs 600000 7302250 (lw_Z below #[Value.ref b] s) (F0 m 535 ls []) := by
  obtain ⟨y1, hy1⟩ : ∃ y, xs 1 = y := ⟨_, rfl⟩
  obtain ⟨y2, hy2⟩ : ∃ y, xs 2 = y := ⟨_, rfl⟩
  obtain ⟨y3, hy3⟩ : ∃ y, xs 3 = y := ⟨_, rfl⟩
  obtain ⟨y4, hy4⟩ : ∃ y, xs 4 = y := ⟨_, rfl⟩
  obtain ⟨y5, hy5⟩ : ∃ y, xs 5 = y := ⟨_, rfl⟩
  refine lv_aload_n hx hb dL_law_535 rfl (lv_at hl 2 rfl) ?_
  refine lv_aload_n hx hb dL_law_536 rfl (lv_at hl 3 rfl) ?_
  refine lv_iload_n hx hb dL_law_537 rfl (lv_at hl 0 rfl) ?_
  refine lv_iconst (v := 1) hx hb dL_law_538 (by decide) ?_
  refine lv_iadd hx hb dL_law_539 ?_
  refine h_top (v := 1) (by decide) ?_
  refine va_sld hx hb hX hbl hbA hS0 (h_inc (by decide)) dL_law_540 ?_
  refine h_top (v := y1) (by rw [show (1 : Int32).toNatClampNeg = 1 from by decide]; exact hy1) ?_
  refine lv_aload_n hx hb dL_law_541 rfl (lv_at hl 3 rfl) ?_
  refine lv_iload_n hx hb dL_law_542 rfl (lv_at hl 0 rfl) ?_
  refine lv_iconst (v := 2) hx hb dL_law_543 (by decide) ?_
  refine lv_iadd hx hb dL_law_544 ?_
  refine h_top (v := 2) (by decide) ?_
  refine va_sld hx hb hX hbl hbA hS0 (h_inc (by decide)) dL_law_545 ?_
  refine h_top (v := y2) (by rw [show (2 : Int32).toNatClampNeg = 2 from by decide]; exact hy2) ?_
  refine lv_aload_n hx hb dL_law_546 rfl (lv_at hl 3 rfl) ?_
  refine lv_iload_n hx hb dL_law_547 rfl (lv_at hl 0 rfl) ?_
  refine lv_iconst (v := 3) hx hb dL_law_548 (by decide) ?_
  refine lv_iadd hx hb dL_law_549 ?_
  refine h_top (v := 3) (by decide) ?_
  refine va_sld hx hb hX hbl hbA hS0 (h_inc (by decide)) dL_law_550 ?_
  refine h_top (v := y3) (by rw [show (3 : Int32).toNatClampNeg = 3 from by decide]; exact hy3) ?_
  have hT0 : hT G (w_Y tF x) H0 := w_Y_T (ftF_W G x) hcx
  refine h_callVi (T := TX10) (rest := []) (As := [.int y1, .int y2, .int y3]) hx hb hml hown hts hK hT0 (fun q hq => (w_Y_A q hq).1) hS0 (c_X10_raise l G (w_Y tF x) (x) (w_Y_w (t := tF) (x := x)) y1 y2 y3) trivial wd_X10_raise wV_X10_raise wL_L_62 (on_w0 (w_Y_w (t := tF) (x := x))) rfl rfl hl.1 rfl (Nat.le_of_ble_eq_true rfl) dL_law_551 ⟨Nat.le_of_ble_eq_true rfl, Nat.le_of_ble_eq_true rfl⟩ ⟨Nat.le_refl _, Nat.le_refl _⟩ (fun r1 H1 locs hp1 hT1 hS1 hk1 => ?_)
  have hp1 : r1 = (-1) := hp1
  subst hp1
  have hcm := hcm.beyond hk1 (Nat.le_refl _)
  refine lv_aload_n hx hb dL_law_554 rfl (lv_at hl 1 rfl) ?_
  refine lv_aload_n hx hb dL_law_555 rfl (lv_at hl 3 rfl) ?_
  refine lv_iload_n hx hb dL_law_556 rfl (lv_at hl 0 rfl) ?_
  refine lv_iconst (v := 1) hx hb dL_law_557 (by decide) ?_
  refine lv_iadd hx hb dL_law_558 ?_
  refine h_top (v := 1) (by decide) ?_
  refine va_sld hx hb hX hbl hbA hS1 (h_inc (by decide)) dL_law_559 ?_
  refine h_top (v := y1) (by rw [show (1 : Int32).toNatClampNeg = 1 from by decide]; exact hy1) ?_
  refine lv_aload_n hx hb dL_law_560 rfl (lv_at hl 3 rfl) ?_
  refine lv_iload_n hx hb dL_law_561 rfl (lv_at hl 0 rfl) ?_
  refine lv_iconst (v := 2) hx hb dL_law_562 (by decide) ?_
  refine lv_iadd hx hb dL_law_563 ?_
  refine h_top (v := 2) (by decide) ?_
  refine va_sld hx hb hX hbl hbA hS1 (h_inc (by decide)) dL_law_564 ?_
  refine h_top (v := y2) (by rw [show (2 : Int32).toNatClampNeg = 2 from by decide]; exact hy2) ?_
  refine lv_aload_n hx hb dL_law_565 rfl (lv_at hl 3 rfl) ?_
  refine lv_iload_n hx hb dL_law_566 rfl (lv_at hl 0 rfl) ?_
  refine lv_iconst (v := 3) hx hb dL_law_567 (by decide) ?_
  refine lv_iadd hx hb dL_law_568 ?_
  refine h_top (v := 3) (by decide) ?_
  refine va_sld hx hb hX hbl hbA hS1 (h_inc (by decide)) dL_law_569 ?_
  refine h_top (v := y3) (by rw [show (3 : Int32).toNatClampNeg = 3 from by decide]; exact hy3) ?_
  have hT1 : hT G (m_Y tF (x + 169)) H1 := m_Y_T (fF_M G _ F hF) hcm
  refine h_callVi (T := TX11) (rest := [.int (-1)]) (As := [.int y1, .int y2, .int y3]) hx hb hml hown hts hK hT1 (fun q hq => Nat.le_trans (Nat.le_add_right x 169) (m_Y_A q hq)) hS1 (c_X11_raise l G (m_Y tF (x + 169)) (x + 169) (m_Y_m (t := tF) (m := x + 169)) y1 y2 y3) trivial wd_X11_raise wV_X11_raise wL_L_65 ((m_Y_m (t := tF) (m := x + 169)).o rfl) rfl rfl hl.1 rfl (Nat.le_of_ble_eq_true rfl) dL_law_570 ⟨Nat.le_of_ble_eq_true rfl, Nat.le_of_ble_eq_true rfl⟩ ⟨Nat.le_refl _, Nat.le_refl _⟩ (fun r2 H2 locs hp2 hT2 hS2 hk2 => ?_)
  have hp2 : r2 = (-1) := hp2
  subst hp2
  refine lv_icmp_eq (tgt := 1273) hx hb dL_law_573 (by decide) (fun _ => ?_) (fun h => absurd (by decide) h)
  exact htail _ _ _ hS2 (lv_sub hl [0, 1, 2, 3] rfl)
set_option maxHeartbeats 4000000 in
set_option maxRecDepth 100000 in
theorem law_case_12 {p : Program} {l : Launch} {e : Env} {s : State} {m : MethodId} {below : List Frame} {meth : Method} {c : Code} {b x : Nat} {xs : Nat → Int32} {G : hG} {H0 : Heap} {locs : List Loc} {ls : Array Slot} (hx : p.tables.exec = Jvm.exec) (hb : c.code = code) (hts : ∀ w ∈ wsL_law, w.before #[Value.ref b] s = true) (hown : s.vm.findClass RL = some m.cls) (hml : c.maxLocals = 4) (hK : h_K G s) (hX : va_X b 6 xs s s.heap) (hbl : b < s.heap.size) (hbA : ¬ x ≤ b) (htail : ∀ (H : Heap) (locs : List Loc) (ls : Array Slot), va_S (fun q => x ≤ q) s.heap H locs → lv_has ls 4 [(3, .int 0), (2, .ref (x + 169)), (1, .ref (x)), (0, .ref b)] → W p l e room_1 s m #[Value.ref b] below meth c H locs 600000 7302250 (lw_Z below #[Value.ref b] s) (F0 m 1273 ls [])) (F : Nat → Int32) (hF : ∀ j, j < 600 → F j = if j = 1 ∨ j = 16 then -1 else 0) (hcx : cw G x (wldV G x) H0) (hcm : cw G (x + 169) (modV G (x + 169) F) H0) (hS0 : va_S (fun q => x ≤ q) s.heap H0 locs) (hl : lv_has ls 4 [(3, .int 0), (2, .ref (x + 169)), (1, .ref (x)), (0, .ref b)]) : W p l e room_1 s m #[Value.ref b] below meth c H0 locs 600000 7302250 (lw_Z below #[Value.ref b] s) (F0 m 578 ls []) := by
  obtain ⟨y1, hy1⟩ : ∃ y, xs 1 = y := ⟨_, rfl⟩
  obtain ⟨y2, hy2⟩ : ∃ y, xs 2 = y := ⟨_, rfl⟩
  obtain ⟨y3, hy3⟩ : ∃ y, xs 3 = y := ⟨_, rfl⟩
  obtain ⟨y4, hy4⟩ : ∃ y, xs 4 = y := ⟨_, rfl⟩
  obtain ⟨y5, hy5⟩ : ∃ y, xs 5 = y := ⟨_, rfl⟩
  refine lv_aload_n hx hb dL_law_578 rfl (lv_at hl 2 rfl) ?_
  refine lv_aload_n hx hb dL_law_579 rfl (lv_at hl 3 rfl) ?_
  refine lv_iload_n hx hb dL_law_580 rfl (lv_at hl 0 rfl) ?_
  refine lv_iconst (v := 1) hx hb dL_law_581 (by decide) ?_
  refine lv_iadd hx hb dL_law_582 ?_
  refine h_top (v := 1) (by decide) ?_
  refine va_sld hx hb hX hbl hbA hS0 (h_inc (by decide)) dL_law_583 ?_
  refine h_top (v := y1) (by rw [show (1 : Int32).toNatClampNeg = 1 from by decide]; exact hy1) ?_
  refine lv_aload_n hx hb dL_law_584 rfl (lv_at hl 3 rfl) ?_
  refine lv_iload_n hx hb dL_law_585 rfl (lv_at hl 0 rfl) ?_
  refine lv_iconst (v := 2) hx hb dL_law_586 (by decide) ?_
  refine lv_iadd hx hb dL_law_587 ?_
  refine h_top (v := 2) (by decide) ?_
  refine va_sld hx hb hX hbl hbA hS0 (h_inc (by decide)) dL_law_588 ?_
  refine h_top (v := y2) (by rw [show (2 : Int32).toNatClampNeg = 2 from by decide]; exact hy2) ?_
  have hT0 : hT G (w_Y tF x) H0 := w_Y_T (ftF_W G x) hcx
  refine h_callVi (T := TX10) (rest := []) (As := [.int y1, .int y2]) hx hb hml hown hts hK hT0 (fun q hq => (w_Y_A q hq).1) hS0 (c_X10_event l G (w_Y tF x) (x) (w_Y_w (t := tF) (x := x)) y1 y2) trivial wd_X10_event wV_X10_event wL_L_66 (on_w0 (w_Y_w (t := tF) (x := x))) rfl rfl hl.1 rfl (Nat.le_of_ble_eq_true rfl) dL_law_589 ⟨Nat.le_of_ble_eq_true rfl, Nat.le_of_ble_eq_true rfl⟩ ⟨Nat.le_refl _, Nat.le_refl _⟩ (fun r1 H1 locs hp1 hT1 hS1 hk1 => ?_)
  have hp1 : r1 = (-1) := hp1
  subst hp1
  have hcm := hcm.beyond hk1 (Nat.le_refl _)
  refine lv_aload_n hx hb dL_law_592 rfl (lv_at hl 1 rfl) ?_
  refine lv_aload_n hx hb dL_law_593 rfl (lv_at hl 3 rfl) ?_
  refine lv_iload_n hx hb dL_law_594 rfl (lv_at hl 0 rfl) ?_
  refine lv_iconst (v := 1) hx hb dL_law_595 (by decide) ?_
  refine lv_iadd hx hb dL_law_596 ?_
  refine h_top (v := 1) (by decide) ?_
  refine va_sld hx hb hX hbl hbA hS1 (h_inc (by decide)) dL_law_597 ?_
  refine h_top (v := y1) (by rw [show (1 : Int32).toNatClampNeg = 1 from by decide]; exact hy1) ?_
  refine lv_aload_n hx hb dL_law_598 rfl (lv_at hl 3 rfl) ?_
  refine lv_iload_n hx hb dL_law_599 rfl (lv_at hl 0 rfl) ?_
  refine lv_iconst (v := 2) hx hb dL_law_600 (by decide) ?_
  refine lv_iadd hx hb dL_law_601 ?_
  refine h_top (v := 2) (by decide) ?_
  refine va_sld hx hb hX hbl hbA hS1 (h_inc (by decide)) dL_law_602 ?_
  refine h_top (v := y2) (by rw [show (2 : Int32).toNatClampNeg = 2 from by decide]; exact hy2) ?_
  have hT1 : hT G (m_Y tF (x + 169)) H1 := m_Y_T (fF_M G _ F hF) hcm
  refine h_callVi (T := TX11) (rest := [.int (-1)]) (As := [.int y1, .int y2]) hx hb hml hown hts hK hT1 (fun q hq => Nat.le_trans (Nat.le_add_right x 169) (m_Y_A q hq)) hS1 (c_X11_event l G (m_Y tF (x + 169)) (x + 169) (m_Y_m (t := tF) (m := x + 169)) y1 y2) trivial wd_X11_event wV_X11_event wL_L_69 ((m_Y_m (t := tF) (m := x + 169)).o rfl) rfl rfl hl.1 rfl (Nat.le_of_ble_eq_true rfl) dL_law_603 ⟨Nat.le_of_ble_eq_true rfl, Nat.le_of_ble_eq_true rfl⟩ ⟨Nat.le_refl _, Nat.le_refl _⟩ (fun r2 H2 locs hp2 hT2 hS2 hk2 => ?_)
  have hp2 : r2 = (-1) := hp2
  subst hp2
  refine lv_icmp_eq (tgt := 1273) hx hb dL_law_606 (by decide) (fun _ => ?_) (fun h => absurd (by decide) h)
  exact htail _ _ _ hS2 (lv_sub hl [0, 1, 2, 3] rfl)
set_option maxHeartbeats 4000000 in
set_option maxRecDepth 100000 in
theorem law_case_13 {p : Program} {l : Launch} {e : Env} {s : State} {m : MethodId} {below : List Frame} {meth : Method} {c : Code} {b x : Nat} {xs : Nat → Int32} {G : hG} {H0 : Heap} {locs : List Loc} {ls : Array Slot} (hx : p.tables.exec = Jvm.exec) (hb : c.code = code) (hts : ∀ w ∈ wsL_law, w.before #[Value.ref b] s = true) (hown : s.vm.findClass RL = some m.cls) (hml : c.maxLocals = 4) (hK : h_K G s) (hX : va_X b 6 xs s s.heap) (hbl : b < s.heap.size) (hbA : ¬ x ≤ b) (htail : ∀ (H : Heap) (locs : List Loc) (ls : Array Slot), va_S (fun q => x ≤ q) s.heap H locs → lv_has ls 4 [(3, .int 0), (2, .ref (x + 169)), (1, .ref (x)), (0, .ref b)] → W p l e room_1 s m #[Value.ref b] below meth c H locs 600000 7302250 (lw_Z below #[Value.ref b] s) (F0 m 1273 ls [])) (F : Nat → Int32) (hF : ∀ j, j < 600 → F j = if j = 1 ∨ j = 16 then -1 else 0) (hcx : cw G x (wldV G x) H0) (hcm : cw G (x + 169) (modV G (x + 169) F) H0) (hS0 : va_S (fun q => x ≤ q) s.heap H0 locs) (hl : lv_has ls 4 [(3, .int 0), (2, .ref (x + 169)), (1, .ref (x)), (0, .ref b)]) : W p l e room_1 s m #[Value.ref b] below meth c H0 locs 600000 7302250 (lw_Z below #[Value.ref b] s) (F0 m 611 ls []) := by
  obtain ⟨y1, hy1⟩ : ∃ y, xs 1 = y := ⟨_, rfl⟩
  obtain ⟨y2, hy2⟩ : ∃ y, xs 2 = y := ⟨_, rfl⟩
  obtain ⟨y3, hy3⟩ : ∃ y, xs 3 = y := ⟨_, rfl⟩
  obtain ⟨y4, hy4⟩ : ∃ y, xs 4 = y := ⟨_, rfl⟩
  obtain ⟨y5, hy5⟩ : ∃ y, xs 5 = y := ⟨_, rfl⟩
  refine lv_aload_n hx hb dL_law_611 rfl (lv_at hl 2 rfl) ?_
  refine lv_aload_n hx hb dL_law_612 rfl (lv_at hl 3 rfl) ?_
  refine lv_iload_n hx hb dL_law_613 rfl (lv_at hl 0 rfl) ?_
  refine lv_iconst (v := 1) hx hb dL_law_614 (by decide) ?_
  refine lv_iadd hx hb dL_law_615 ?_
  refine h_top (v := 1) (by decide) ?_
  refine va_sld hx hb hX hbl hbA hS0 (h_inc (by decide)) dL_law_616 ?_
  refine h_top (v := y1) (by rw [show (1 : Int32).toNatClampNeg = 1 from by decide]; exact hy1) ?_
  refine lv_aload_n hx hb dL_law_617 rfl (lv_at hl 3 rfl) ?_
  refine lv_iload_n hx hb dL_law_618 rfl (lv_at hl 0 rfl) ?_
  refine lv_iconst (v := 2) hx hb dL_law_619 (by decide) ?_
  refine lv_iadd hx hb dL_law_620 ?_
  refine h_top (v := 2) (by decide) ?_
  refine va_sld hx hb hX hbl hbA hS0 (h_inc (by decide)) dL_law_621 ?_
  refine h_top (v := y2) (by rw [show (2 : Int32).toNatClampNeg = 2 from by decide]; exact hy2) ?_
  have hT0 : hT G (w_Y tF x) H0 := w_Y_T (ftF_W G x) hcx
  refine h_callVi (T := TX10) (rest := []) (As := [.int y1, .int y2]) hx hb hml hown hts hK hT0 (fun q hq => (w_Y_A q hq).1) hS0 (c_X10_ranks l G (w_Y tF x) (x) (w_Y_w (t := tF) (x := x)) y1 y2) trivial wd_X10_ranks wV_X10_ranks wL_L_70 (on_w0 (w_Y_w (t := tF) (x := x))) rfl rfl hl.1 rfl (Nat.le_of_ble_eq_true rfl) dL_law_622 ⟨Nat.le_of_ble_eq_true rfl, Nat.le_of_ble_eq_true rfl⟩ ⟨Nat.le_refl _, Nat.le_refl _⟩ (fun r1 H1 locs hp1 hT1 hS1 hk1 => ?_)
  have hcm := hcm.beyond hk1 (Nat.le_refl _)
  refine lv_aload_n hx hb dL_law_625 rfl (lv_at hl 1 rfl) ?_
  refine lv_aload_n hx hb dL_law_626 rfl (lv_at hl 3 rfl) ?_
  refine lv_iload_n hx hb dL_law_627 rfl (lv_at hl 0 rfl) ?_
  refine lv_iconst (v := 1) hx hb dL_law_628 (by decide) ?_
  refine lv_iadd hx hb dL_law_629 ?_
  refine h_top (v := 1) (by decide) ?_
  refine va_sld hx hb hX hbl hbA hS1 (h_inc (by decide)) dL_law_630 ?_
  refine h_top (v := y1) (by rw [show (1 : Int32).toNatClampNeg = 1 from by decide]; exact hy1) ?_
  refine lv_aload_n hx hb dL_law_631 rfl (lv_at hl 3 rfl) ?_
  refine lv_iload_n hx hb dL_law_632 rfl (lv_at hl 0 rfl) ?_
  refine lv_iconst (v := 2) hx hb dL_law_633 (by decide) ?_
  refine lv_iadd hx hb dL_law_634 ?_
  refine h_top (v := 2) (by decide) ?_
  refine va_sld hx hb hX hbl hbA hS1 (h_inc (by decide)) dL_law_635 ?_
  refine h_top (v := y2) (by rw [show (2 : Int32).toNatClampNeg = 2 from by decide]; exact hy2) ?_
  have hT1 : hT G (m_Y tF (x + 169)) H1 := m_Y_T (fF_M G _ F hF) hcm
  refine h_callVi (T := TX11) (rest := [.int r1]) (As := [.int y1, .int y2]) hx hb hml hown hts hK hT1 (fun q hq => Nat.le_trans (Nat.le_add_right x 169) (m_Y_A q hq)) hS1 (c_X11_ranks l G (m_Y tF (x + 169)) (x + 169) (m_Y_m (t := tF) (m := x + 169)) y1 y2) trivial wd_X11_ranks wV_X11_ranks wL_L_73 ((m_Y_m (t := tF) (m := x + 169)).o rfl) rfl rfl hl.1 rfl (Nat.le_of_ble_eq_true rfl) dL_law_636 ⟨Nat.le_of_ble_eq_true rfl, Nat.le_of_ble_eq_true rfl⟩ ⟨Nat.le_refl _, Nat.le_refl _⟩ (fun r2 H2 locs hp2 hT2 hS2 hk2 => ?_)
  refine lv_icmp_eq (tgt := 1273) hx hb dL_law_639 (by decide) (fun _ => ?_) (fun h => absurd ((Classical.em ((0 ≤ y1.toInt ∧ y1.toInt ≤ 7) ∧ (0 ≤ y2.toInt ∧ y2.toInt ≤ 2))).elim (fun h => (hp1.1 h).trans (hp2.1 h).symm) (fun h => (hp1.2 h).trans (hp2.2 h).symm)) h)
  exact htail _ _ _ hS2 (lv_sub hl [0, 1, 2, 3] rfl)
set_option maxHeartbeats 4000000 in
set_option maxRecDepth 100000 in
theorem law_case_14 {p : Program} {l : Launch} {e : Env} {s : State} {m : MethodId} {below : List Frame} {meth : Method} {c : Code} {b x : Nat} {xs : Nat → Int32} {G : hG} {H0 : Heap} {locs : List Loc} {ls : Array Slot} (hx : p.tables.exec = Jvm.exec) (hb : c.code = code) (hts : ∀ w ∈ wsL_law, w.before #[Value.ref b] s = true) (hown : s.vm.findClass RL = some m.cls) (hml : c.maxLocals = 4) (hK : h_K G s) (hX : va_X b 6 xs s s.heap) (hbl : b < s.heap.size) (hbA : ¬ x ≤ b) (htail : ∀ (H : Heap) (locs : List Loc) (ls : Array Slot), va_S (fun q => x ≤ q) s.heap H locs → lv_has ls 4 [(3, .int 0), (2, .ref (x + 169)), (1, .ref (x)), (0, .ref b)] → W p l e room_1 s m #[Value.ref b] below meth c H locs 600000 7302250 (lw_Z below #[Value.ref b] s) (F0 m 1273 ls [])) (F : Nat → Int32) (hF : ∀ j, j < 600 → F j = if j = 1 ∨ j = 16 then -1 else 0) (hcx : cw G x (wldV G x) H0) (hcm : cw G (x + 169) (modV G (x + 169) F) H0) (hS0 : va_S (fun q => x ≤ q) s.heap H0 locs) (hl : lv_has ls 4 [(3, .int 0), (2, .ref (x + 169)), (1, .ref (x)), (0, .ref b)]) : W p l e room_1 s m #[Value.ref b] below meth c H0 locs 600000 7302250 (lw_Z below #[Value.ref b] s) (F0 m 644 ls []) := by
  obtain ⟨y1, hy1⟩ : ∃ y, xs 1 = y := ⟨_, rfl⟩
  obtain ⟨y2, hy2⟩ : ∃ y, xs 2 = y := ⟨_, rfl⟩
  obtain ⟨y3, hy3⟩ : ∃ y, xs 3 = y := ⟨_, rfl⟩
  obtain ⟨y4, hy4⟩ : ∃ y, xs 4 = y := ⟨_, rfl⟩
  obtain ⟨y5, hy5⟩ : ∃ y, xs 5 = y := ⟨_, rfl⟩
  refine lv_aload_n hx hb dL_law_644 rfl (lv_at hl 2 rfl) ?_
  refine lv_aload_n hx hb dL_law_645 rfl (lv_at hl 3 rfl) ?_
  refine lv_iload_n hx hb dL_law_646 rfl (lv_at hl 0 rfl) ?_
  refine lv_iconst (v := 1) hx hb dL_law_647 (by decide) ?_
  refine lv_iadd hx hb dL_law_648 ?_
  refine h_top (v := 1) (by decide) ?_
  refine va_sld hx hb hX hbl hbA hS0 (h_inc (by decide)) dL_law_649 ?_
  refine h_top (v := y1) (by rw [show (1 : Int32).toNatClampNeg = 1 from by decide]; exact hy1) ?_
  refine lv_aload_n hx hb dL_law_650 rfl (lv_at hl 3 rfl) ?_
  refine lv_iload_n hx hb dL_law_651 rfl (lv_at hl 0 rfl) ?_
  refine lv_iconst (v := 2) hx hb dL_law_652 (by decide) ?_
  refine lv_iadd hx hb dL_law_653 ?_
  refine h_top (v := 2) (by decide) ?_
  refine va_sld hx hb hX hbl hbA hS0 (h_inc (by decide)) dL_law_654 ?_
  refine h_top (v := y2) (by rw [show (2 : Int32).toNatClampNeg = 2 from by decide]; exact hy2) ?_
  have hT0 : hT G (w_Y tF x) H0 := w_Y_T (ftF_W G x) hcx
  refine h_callVi (T := TX10) (rest := []) (As := [.int y1, .int y2]) hx hb hml hown hts hK hT0 (fun q hq => (w_Y_A q hq).1) hS0 (c_X10_hops l G (w_Y tF x) (x) (w_Y_w (t := tF) (x := x)) y1 y2) trivial wd_X10_hops wV_X10_hops wL_L_74 (on_w0 (w_Y_w (t := tF) (x := x))) rfl rfl hl.1 rfl (Nat.le_of_ble_eq_true rfl) dL_law_655 ⟨Nat.le_of_ble_eq_true rfl, Nat.le_of_ble_eq_true rfl⟩ ⟨Nat.le_refl _, Nat.le_refl _⟩ (fun r1 H1 locs hp1 hT1 hS1 hk1 => ?_)
  have hp1 : r1 = (-1) := hp1
  subst hp1
  have hcm := hcm.beyond hk1 (Nat.le_refl _)
  refine lv_aload_n hx hb dL_law_658 rfl (lv_at hl 1 rfl) ?_
  refine lv_aload_n hx hb dL_law_659 rfl (lv_at hl 3 rfl) ?_
  refine lv_iload_n hx hb dL_law_660 rfl (lv_at hl 0 rfl) ?_
  refine lv_iconst (v := 1) hx hb dL_law_661 (by decide) ?_
  refine lv_iadd hx hb dL_law_662 ?_
  refine h_top (v := 1) (by decide) ?_
  refine va_sld hx hb hX hbl hbA hS1 (h_inc (by decide)) dL_law_663 ?_
  refine h_top (v := y1) (by rw [show (1 : Int32).toNatClampNeg = 1 from by decide]; exact hy1) ?_
  refine lv_aload_n hx hb dL_law_664 rfl (lv_at hl 3 rfl) ?_
  refine lv_iload_n hx hb dL_law_665 rfl (lv_at hl 0 rfl) ?_
  refine lv_iconst (v := 2) hx hb dL_law_666 (by decide) ?_
  refine lv_iadd hx hb dL_law_667 ?_
  refine h_top (v := 2) (by decide) ?_
  refine va_sld hx hb hX hbl hbA hS1 (h_inc (by decide)) dL_law_668 ?_
  refine h_top (v := y2) (by rw [show (2 : Int32).toNatClampNeg = 2 from by decide]; exact hy2) ?_
  have hT1 : hT G (m_Y tF (x + 169)) H1 := m_Y_T (fF_M G _ F hF) hcm
  refine h_callVi (T := TX11) (rest := [.int (-1)]) (As := [.int y1, .int y2]) hx hb hml hown hts hK hT1 (fun q hq => Nat.le_trans (Nat.le_add_right x 169) (m_Y_A q hq)) hS1 (c_X11_hops l G (m_Y tF (x + 169)) (x + 169) (m_Y_m (t := tF) (m := x + 169)) y1 y2) trivial wd_X11_hops wV_X11_hops wL_L_77 ((m_Y_m (t := tF) (m := x + 169)).o rfl) rfl rfl hl.1 rfl (Nat.le_of_ble_eq_true rfl) dL_law_669 ⟨Nat.le_of_ble_eq_true rfl, Nat.le_of_ble_eq_true rfl⟩ ⟨Nat.le_refl _, Nat.le_refl _⟩ (fun r2 H2 locs hp2 hT2 hS2 hk2 => ?_)
  have hp2 : r2 = (-1) := hp2
  subst hp2
  refine lv_icmp_eq (tgt := 1273) hx hb dL_law_672 (by decide) (fun _ => ?_) (fun h => absurd (by decide) h)
  exact htail _ _ _ hS2 (lv_sub hl [0, 1, 2, 3] rfl)
set_option maxHeartbeats 4000000 in
set_option maxRecDepth 100000 in
theorem law_case_15 {p : Program} {l : Launch} {e : Env} {s : State} {m : MethodId} {below : List Frame} {meth : Method} {c : Code} {b x : Nat} {xs : Nat → Int32} {G : hG} {H0 : Heap} {locs : List Loc} {ls : Array Slot} (hx : p.tables.exec = Jvm.exec) (hb : c.code = code) (hts : ∀ w ∈ wsL_law, w.before #[Value.ref b] s = true) (hown : s.vm.findClass RL = some m.cls) (hml : c.maxLocals = 4) (hK : h_K G s) (hX : va_X b 6 xs s s.heap) (hbl : b < s.heap.size) (hbA : ¬ x ≤ b) (htail : ∀ (H : Heap) (locs : List Loc) (ls : Array Slot), va_S (fun q => x ≤ q) s.heap H locs → lv_has ls 4 [(3, .int 0), (2, .ref (x + 169)), (1, .ref (x)), (0, .ref b)] → W p l e room_1 s m #[Value.ref b] below meth c H locs 600000 7302250 (lw_Z below #[Value.ref b] s) (F0 m 1273 ls [])) (F : Nat → Int32) (hF : ∀ j, j < 600 → F j = if j = 1 ∨ j = 16 then -1 else 0) (hcx : cw G x (wldV G x) H0) (hcm : cw G (x + 169) (modV G (x + 169) F) H0) (hS0 : va_S (fun q => x ≤ q) s.heap H0 locs) (hl : lv_has ls 4 [(3, .int 0), (2, .ref (x + 169)), (1, .ref (x)), (0, .ref b)]) : W p l e room_1 s m #[Value.ref b] below meth c H0 locs 600000 7302250 (lw_Z below #[Value.ref b] s) (F0 m 677 ls []) := by
  obtain ⟨y1, hy1⟩ : ∃ y, xs 1 = y := ⟨_, rfl⟩
  obtain ⟨y2, hy2⟩ : ∃ y, xs 2 = y := ⟨_, rfl⟩
  obtain ⟨y3, hy3⟩ : ∃ y, xs 3 = y := ⟨_, rfl⟩
  obtain ⟨y4, hy4⟩ : ∃ y, xs 4 = y := ⟨_, rfl⟩
  obtain ⟨y5, hy5⟩ : ∃ y, xs 5 = y := ⟨_, rfl⟩
  refine lv_aload_n hx hb dL_law_677 rfl (lv_at hl 2 rfl) ?_
  have hT0 : hT G (w_Y tF x) H0 := w_Y_T (ftF_W G x) hcx
  refine h_callVi (T := TX10) (rest := []) (As := []) hx hb hml hown hts hK hT0 (fun q hq => (w_Y_A q hq).1) hS0 (c_X10_heir l G (w_Y tF x) (x) (w_Y_w (t := tF) (x := x))) trivial wd_X10_heir wV_X10_heir wL_L_78 (on_w0 (w_Y_w (t := tF) (x := x))) rfl rfl hl.1 rfl (Nat.le_of_ble_eq_true rfl) dL_law_678 ⟨Nat.le_of_ble_eq_true rfl, Nat.le_of_ble_eq_true rfl⟩ ⟨Nat.le_refl _, Nat.le_refl _⟩ (fun r1 H1 locs hp1 hT1 hS1 hk1 => ?_)
  have hp1 : r1 = (-1) := hp1
  subst hp1
  have hcm := hcm.beyond hk1 (Nat.le_refl _)
  refine lv_aload_n hx hb dL_law_681 rfl (lv_at hl 1 rfl) ?_
  have hT1 : hT G (m_Y tF (x + 169)) H1 := m_Y_T (fF_M G _ F hF) hcm
  refine h_callVi (T := TX11) (rest := [.int (-1)]) (As := []) hx hb hml hown hts hK hT1 (fun q hq => Nat.le_trans (Nat.le_add_right x 169) (m_Y_A q hq)) hS1 (c_X11_heir l G (m_Y tF (x + 169)) (x + 169) (m_Y_m (t := tF) (m := x + 169))) trivial wd_X11_heir wV_X11_heir wL_L_81 ((m_Y_m (t := tF) (m := x + 169)).o rfl) rfl rfl hl.1 rfl (Nat.le_of_ble_eq_true rfl) dL_law_682 ⟨Nat.le_of_ble_eq_true rfl, Nat.le_of_ble_eq_true rfl⟩ ⟨Nat.le_refl _, Nat.le_refl _⟩ (fun r2 H2 locs hp2 hT2 hS2 hk2 => ?_)
  have hp2 : r2 = (-1) := hp2
  subst hp2
  refine lv_icmp_eq (tgt := 1273) hx hb dL_law_685 (by decide) (fun _ => ?_) (fun h => absurd (by decide) h)
  exact htail _ _ _ hS2 (lv_sub hl [0, 1, 2, 3] rfl)
set_option maxHeartbeats 4000000 in
set_option maxRecDepth 100000 in
theorem law_case_16 {p : Program} {l : Launch} {e : Env} {s : State} {m : MethodId} {below : List Frame} {meth : Method} {c : Code} {b x : Nat} {xs : Nat → Int32} {G : hG} {H0 : Heap} {locs : List Loc} {ls : Array Slot} (hx : p.tables.exec = Jvm.exec) (hb : c.code = code) (hts : ∀ w ∈ wsL_law, w.before #[Value.ref b] s = true) (hown : s.vm.findClass RL = some m.cls) (hml : c.maxLocals = 4) (hK : h_K G s) (hX : va_X b 6 xs s s.heap) (hbl : b < s.heap.size) (hbA : ¬ x ≤ b) (htail : ∀ (H : Heap) (locs : List Loc) (ls : Array Slot), va_S (fun q => x ≤ q) s.heap H locs → lv_has ls 4 [(3, .int 0), (2, .ref (x + 169)), (1, .ref (x)), (0, .ref b)] → W p l e room_1 s m #[Value.ref b] below meth c H locs 600000 7302250 (lw_Z below #[Value.ref b] s) (F0 m 1273 ls [])) (F : Nat → Int32) (hF : ∀ j, j < 600 → F j = if j = 1 ∨ j = 16 then -1 else 0) (hcx : cw G x (wldV G x) H0) (hcm : cw G (x + 169) (modV G (x + 169) F) H0) (hS0 : va_S (fun q => x ≤ q) s.heap H0 locs) (hl : lv_has ls 4 [(3, .int 0), (2, .ref (x + 169)), (1, .ref (x)), (0, .ref b)]) : W p l e room_1 s m #[Value.ref b] below meth c H0 locs 600000 7302250 (lw_Z below #[Value.ref b] s) (F0 m 690 ls []) := by
  obtain ⟨y1, hy1⟩ : ∃ y, xs 1 = y := ⟨_, rfl⟩
  obtain ⟨y2, hy2⟩ : ∃ y, xs 2 = y := ⟨_, rfl⟩
  obtain ⟨y3, hy3⟩ : ∃ y, xs 3 = y := ⟨_, rfl⟩
  obtain ⟨y4, hy4⟩ : ∃ y, xs 4 = y := ⟨_, rfl⟩
  obtain ⟨y5, hy5⟩ : ∃ y, xs 5 = y := ⟨_, rfl⟩
  refine lv_aload_n hx hb dL_law_690 rfl (lv_at hl 2 rfl) ?_
  refine lv_aload_n hx hb dL_law_691 rfl (lv_at hl 3 rfl) ?_
  refine lv_iload_n hx hb dL_law_692 rfl (lv_at hl 0 rfl) ?_
  refine lv_iconst (v := 1) hx hb dL_law_693 (by decide) ?_
  refine lv_iadd hx hb dL_law_694 ?_
  refine h_top (v := 1) (by decide) ?_
  refine va_sld hx hb hX hbl hbA hS0 (h_inc (by decide)) dL_law_695 ?_
  refine h_top (v := y1) (by rw [show (1 : Int32).toNatClampNeg = 1 from by decide]; exact hy1) ?_
  have hT0 : hT G (w_Y tA x) H0 := w_Y_T (ftA_W G x) hcx
  refine h_callVi (T := TX10) (rest := []) (As := [.int y1]) hx hb hml hown hts hK hT0 (fun q hq => (w_Y_A q hq).1) hS0 (cA_add l G (w_Y tA x) (x) (w_Y_w (t := tA) (x := x)) y1) (hcx.gi (i := 4) rfl (r := (RX7, TX7, 9)) rfl 5 (by decide) rfl) wd_X10_add wV_X10_add wL_L_82 (on_w0 (w_Y_w (t := tA) (x := x))) rfl rfl hl.1 rfl (Nat.le_of_ble_eq_true rfl) dL_law_696 ⟨Nat.le_of_ble_eq_true rfl, Nat.le_of_ble_eq_true rfl⟩ ⟨Nat.le_refl _, Nat.le_refl _⟩ (fun r1 H1 locs hp1 hT1 hS1 hk1 => ?_)
  have hcm := hcm.beyond hk1 (Nat.le_refl _)
  refine lv_aload_n hx hb dL_law_699 rfl (lv_at hl 1 rfl) ?_
  refine lv_aload_n hx hb dL_law_700 rfl (lv_at hl 3 rfl) ?_
  refine lv_iload_n hx hb dL_law_701 rfl (lv_at hl 0 rfl) ?_
  refine lv_iconst (v := 1) hx hb dL_law_702 (by decide) ?_
  refine lv_iadd hx hb dL_law_703 ?_
  refine h_top (v := 1) (by decide) ?_
  refine va_sld hx hb hX hbl hbA hS1 (h_inc (by decide)) dL_law_704 ?_
  refine h_top (v := y1) (by rw [show (1 : Int32).toNatClampNeg = 1 from by decide]; exact hy1) ?_
  have hT1 : hT G (m_Y tA (x + 169)) H1 := m_Y_T (fA_M G _ F) hcm
  refine h_callVi (T := TX11) (rest := [.int r1]) (As := [.int y1]) hx hb hml hown hts hK hT1 (fun q hq => Nat.le_trans (Nat.le_add_right x 169) (m_Y_A q hq)) hS1 (c_X11_addA l G (m_Y tA (x + 169)) (x + 169) (m_Y_m (t := tA) (m := x + 169)) y1) ⟨((hcm.ai (i := 1) rfl 0 (by decide)).trans (hF 0 (by decide))), ((hcm.ai (i := 1) rfl 5 (by decide)).trans (hF 5 (by decide)))⟩ wd_X11_add wV_X11_add wL_L_85 ((m_Y_m (t := tA) (m := x + 169)).o rfl) rfl rfl hl.1 rfl (Nat.le_of_ble_eq_true rfl) dL_law_705 ⟨Nat.le_of_ble_eq_true rfl, Nat.le_of_ble_eq_true rfl⟩ ⟨Nat.le_refl _, Nat.le_refl _⟩ (fun r2 H2 locs hp2 hT2 hS2 hk2 => ?_)
  refine lv_icmp_eq (tgt := 1273) hx hb dL_law_708 (by decide) (fun _ => ?_) (fun h => absurd ((Classical.em (0 ≤ y1.toInt ∧ y1.toInt ≤ 99)).elim (fun h => (hp1.1 h).trans (hp2.1 h).symm) (fun h => (hp1.2 h).trans (hp2.2 h).symm)) h)
  exact htail _ _ _ hS2 (lv_sub hl [0, 1, 2, 3] rfl)
set_option maxHeartbeats 4000000 in
set_option maxRecDepth 100000 in
theorem law_case_17 {p : Program} {l : Launch} {e : Env} {s : State} {m : MethodId} {below : List Frame} {meth : Method} {c : Code} {b x : Nat} {xs : Nat → Int32} {G : hG} {H0 : Heap} {locs : List Loc} {ls : Array Slot} (hx : p.tables.exec = Jvm.exec) (hb : c.code = code) (hts : ∀ w ∈ wsL_law, w.before #[Value.ref b] s = true) (hown : s.vm.findClass RL = some m.cls) (hml : c.maxLocals = 4) (hK : h_K G s) (hX : va_X b 6 xs s s.heap) (hbl : b < s.heap.size) (hbA : ¬ x ≤ b) (htail : ∀ (H : Heap) (locs : List Loc) (ls : Array Slot), va_S (fun q => x ≤ q) s.heap H locs → lv_has ls 4 [(3, .int 0), (2, .ref (x + 169)), (1, .ref (x)), (0, .ref b)] → W p l e room_1 s m #[Value.ref b] below meth c H locs 600000 7302250 (lw_Z below #[Value.ref b] s) (F0 m 1273 ls [])) (F : Nat → Int32) (hF : ∀ j, j < 600 → F j = if j = 1 ∨ j = 16 then -1 else 0) (hcx : cw G x (wldV G x) H0) (hcm : cw G (x + 169) (modV G (x + 169) F) H0) (hS0 : va_S (fun q => x ≤ q) s.heap H0 locs) (hl : lv_has ls 4 [(3, .int 0), (2, .ref (x + 169)), (1, .ref (x)), (0, .ref b)]) : W p l e room_1 s m #[Value.ref b] below meth c H0 locs 600000 7302250 (lw_Z below #[Value.ref b] s) (F0 m 713 ls []) := by
  obtain ⟨y1, hy1⟩ : ∃ y, xs 1 = y := ⟨_, rfl⟩
  obtain ⟨y2, hy2⟩ : ∃ y, xs 2 = y := ⟨_, rfl⟩
  obtain ⟨y3, hy3⟩ : ∃ y, xs 3 = y := ⟨_, rfl⟩
  obtain ⟨y4, hy4⟩ : ∃ y, xs 4 = y := ⟨_, rfl⟩
  obtain ⟨y5, hy5⟩ : ∃ y, xs 5 = y := ⟨_, rfl⟩
  refine lv_aload_n hx hb dL_law_713 rfl (lv_at hl 2 rfl) ?_
  refine lv_aload_n hx hb dL_law_714 rfl (lv_at hl 3 rfl) ?_
  refine lv_iload_n hx hb dL_law_715 rfl (lv_at hl 0 rfl) ?_
  refine lv_iconst (v := 1) hx hb dL_law_716 (by decide) ?_
  refine lv_iadd hx hb dL_law_717 ?_
  refine h_top (v := 1) (by decide) ?_
  refine va_sld hx hb hX hbl hbA hS0 (h_inc (by decide)) dL_law_718 ?_
  refine h_top (v := y1) (by rw [show (1 : Int32).toNatClampNeg = 1 from by decide]; exact hy1) ?_
  refine lv_aload_n hx hb dL_law_719 rfl (lv_at hl 3 rfl) ?_
  refine lv_iload_n hx hb dL_law_720 rfl (lv_at hl 0 rfl) ?_
  refine lv_iconst (v := 2) hx hb dL_law_721 (by decide) ?_
  refine lv_iadd hx hb dL_law_722 ?_
  refine h_top (v := 2) (by decide) ?_
  refine va_sld hx hb hX hbl hbA hS0 (h_inc (by decide)) dL_law_723 ?_
  refine h_top (v := y2) (by rw [show (2 : Int32).toNatClampNeg = 2 from by decide]; exact hy2) ?_
  refine lv_aload_n hx hb dL_law_724 rfl (lv_at hl 3 rfl) ?_
  refine lv_iload_n hx hb dL_law_725 rfl (lv_at hl 0 rfl) ?_
  refine lv_iconst (v := 3) hx hb dL_law_726 (by decide) ?_
  refine lv_iadd hx hb dL_law_727 ?_
  refine h_top (v := 3) (by decide) ?_
  refine va_sld hx hb hX hbl hbA hS0 (h_inc (by decide)) dL_law_728 ?_
  refine h_top (v := y3) (by rw [show (3 : Int32).toNatClampNeg = 3 from by decide]; exact hy3) ?_
  have hT0 : hT G (w_Y tF x) H0 := w_Y_T (ftF_W G x) hcx
  refine h_callVi (T := TX10) (rest := []) (As := [.int y1, .int y2, .int y3]) hx hb hml hown hts hK hT0 (fun q hq => (w_Y_A q hq).1) hS0 (c_X10_send l G (w_Y tF x) (x) (w_Y_w (t := tF) (x := x)) y1 y2 y3) trivial wd_X10_send wV_X10_send wL_L_86 (on_w0 (w_Y_w (t := tF) (x := x))) rfl rfl hl.1 rfl (Nat.le_of_ble_eq_true rfl) dL_law_729 ⟨Nat.le_of_ble_eq_true rfl, Nat.le_of_ble_eq_true rfl⟩ ⟨Nat.le_refl _, Nat.le_refl _⟩ (fun r1 H1 locs hp1 hT1 hS1 hk1 => ?_)
  have hp1 : r1 = (-1) := hp1
  subst hp1
  have hcm := hcm.beyond hk1 (Nat.le_refl _)
  refine lv_aload_n hx hb dL_law_732 rfl (lv_at hl 1 rfl) ?_
  refine lv_aload_n hx hb dL_law_733 rfl (lv_at hl 3 rfl) ?_
  refine lv_iload_n hx hb dL_law_734 rfl (lv_at hl 0 rfl) ?_
  refine lv_iconst (v := 1) hx hb dL_law_735 (by decide) ?_
  refine lv_iadd hx hb dL_law_736 ?_
  refine h_top (v := 1) (by decide) ?_
  refine va_sld hx hb hX hbl hbA hS1 (h_inc (by decide)) dL_law_737 ?_
  refine h_top (v := y1) (by rw [show (1 : Int32).toNatClampNeg = 1 from by decide]; exact hy1) ?_
  refine lv_aload_n hx hb dL_law_738 rfl (lv_at hl 3 rfl) ?_
  refine lv_iload_n hx hb dL_law_739 rfl (lv_at hl 0 rfl) ?_
  refine lv_iconst (v := 2) hx hb dL_law_740 (by decide) ?_
  refine lv_iadd hx hb dL_law_741 ?_
  refine h_top (v := 2) (by decide) ?_
  refine va_sld hx hb hX hbl hbA hS1 (h_inc (by decide)) dL_law_742 ?_
  refine h_top (v := y2) (by rw [show (2 : Int32).toNatClampNeg = 2 from by decide]; exact hy2) ?_
  refine lv_aload_n hx hb dL_law_743 rfl (lv_at hl 3 rfl) ?_
  refine lv_iload_n hx hb dL_law_744 rfl (lv_at hl 0 rfl) ?_
  refine lv_iconst (v := 3) hx hb dL_law_745 (by decide) ?_
  refine lv_iadd hx hb dL_law_746 ?_
  refine h_top (v := 3) (by decide) ?_
  refine va_sld hx hb hX hbl hbA hS1 (h_inc (by decide)) dL_law_747 ?_
  refine h_top (v := y3) (by rw [show (3 : Int32).toNatClampNeg = 3 from by decide]; exact hy3) ?_
  have hT1 : hT G (m_Y tF (x + 169)) H1 := m_Y_T (fF_M G _ F hF) hcm
  refine h_callVi (T := TX11) (rest := [.int (-1)]) (As := [.int y1, .int y2, .int y3]) hx hb hml hown hts hK hT1 (fun q hq => Nat.le_trans (Nat.le_add_right x 169) (m_Y_A q hq)) hS1 (c_X11_send l G (m_Y tF (x + 169)) (x + 169) (m_Y_m (t := tF) (m := x + 169)) y1 y2 y3) trivial wd_X11_send wV_X11_send wL_L_89 ((m_Y_m (t := tF) (m := x + 169)).o rfl) rfl rfl hl.1 rfl (Nat.le_of_ble_eq_true rfl) dL_law_748 ⟨Nat.le_of_ble_eq_true rfl, Nat.le_of_ble_eq_true rfl⟩ ⟨Nat.le_refl _, Nat.le_refl _⟩ (fun r2 H2 locs hp2 hT2 hS2 hk2 => ?_)
  have hp2 : r2 = (-1) := hp2
  subst hp2
  refine lv_icmp_eq (tgt := 1273) hx hb dL_law_751 (by decide) (fun _ => ?_) (fun h => absurd (by decide) h)
  exact htail _ _ _ hS2 (lv_sub hl [0, 1, 2, 3] rfl)
set_option maxHeartbeats 4000000 in
set_option maxRecDepth 100000 in
theorem law_case_18 {p : Program} {l : Launch} {e : Env} {s : State} {m : MethodId} {below : List Frame} {meth : Method} {c : Code} {b x : Nat} {xs : Nat → Int32} {G : hG} {H0 : Heap} {locs : List Loc} {ls : Array Slot} (hx : p.tables.exec = Jvm.exec) (hb : c.code = code) (hts : ∀ w ∈ wsL_law, w.before #[Value.ref b] s = true) (hown : s.vm.findClass RL = some m.cls) (hml : c.maxLocals = 4) (hK : h_K G s) (hX : va_X b 6 xs s s.heap) (hbl : b < s.heap.size) (hbA : ¬ x ≤ b) (htail : ∀ (H : Heap) (locs : List Loc) (ls : Array Slot), va_S (fun q => x ≤ q) s.heap H locs → lv_has ls 4 [(3, .int 0), (2, .ref (x + 169)), (1, .ref (x)), (0, .ref b)] → W p l e room_1 s m #[Value.ref b] below meth c H locs 600000 7302250 (lw_Z below #[Value.ref b] s) (F0 m 1273 ls [])) (F : Nat → Int32) (hF : ∀ j, j < 600 → F j = if j = 1 ∨ j = 16 then -1 else 0) (hcx : cw G x (wldV G x) H0) (hcm : cw G (x + 169) (modV G (x + 169) F) H0) (hS0 : va_S (fun q => x ≤ q) s.heap H0 locs) (hl : lv_has ls 4 [(3, .int 0), (2, .ref (x + 169)), (1, .ref (x)), (0, .ref b)]) : W p l e room_1 s m #[Value.ref b] below meth c H0 locs 600000 7302250 (lw_Z below #[Value.ref b] s) (F0 m 756 ls []) := by
  obtain ⟨y1, hy1⟩ : ∃ y, xs 1 = y := ⟨_, rfl⟩
  obtain ⟨y2, hy2⟩ : ∃ y, xs 2 = y := ⟨_, rfl⟩
  obtain ⟨y3, hy3⟩ : ∃ y, xs 3 = y := ⟨_, rfl⟩
  obtain ⟨y4, hy4⟩ : ∃ y, xs 4 = y := ⟨_, rfl⟩
  obtain ⟨y5, hy5⟩ : ∃ y, xs 5 = y := ⟨_, rfl⟩
  refine lv_aload_n hx hb dL_law_756 rfl (lv_at hl 2 rfl) ?_
  refine lv_aload_n hx hb dL_law_757 rfl (lv_at hl 3 rfl) ?_
  refine lv_iload_n hx hb dL_law_758 rfl (lv_at hl 0 rfl) ?_
  refine lv_iconst (v := 1) hx hb dL_law_759 (by decide) ?_
  refine lv_iadd hx hb dL_law_760 ?_
  refine h_top (v := 1) (by decide) ?_
  refine va_sld hx hb hX hbl hbA hS0 (h_inc (by decide)) dL_law_761 ?_
  refine h_top (v := y1) (by rw [show (1 : Int32).toNatClampNeg = 1 from by decide]; exact hy1) ?_
  have hT0 : hT G (w_Y tF x) H0 := w_Y_T (ftF_W G x) hcx
  refine h_callVi (T := TX10) (rest := []) (As := [.int y1]) hx hb hml hown hts hK hT0 (fun q hq => (w_Y_A q hq).1) hS0 (c_X10_take l G (w_Y tF x) (x) (w_Y_w (t := tF) (x := x)) y1) trivial wd_X10_take wV_X10_take wL_L_90 (on_w0 (w_Y_w (t := tF) (x := x))) rfl rfl hl.1 rfl (Nat.le_of_ble_eq_true rfl) dL_law_762 ⟨Nat.le_of_ble_eq_true rfl, Nat.le_of_ble_eq_true rfl⟩ ⟨Nat.le_refl _, Nat.le_refl _⟩ (fun r1 H1 locs hp1 hT1 hS1 hk1 => ?_)
  have hp1 : r1 = (-1) := hp1
  subst hp1
  have hcm := hcm.beyond hk1 (Nat.le_refl _)
  refine lv_aload_n hx hb dL_law_765 rfl (lv_at hl 1 rfl) ?_
  refine lv_aload_n hx hb dL_law_766 rfl (lv_at hl 3 rfl) ?_
  refine lv_iload_n hx hb dL_law_767 rfl (lv_at hl 0 rfl) ?_
  refine lv_iconst (v := 1) hx hb dL_law_768 (by decide) ?_
  refine lv_iadd hx hb dL_law_769 ?_
  refine h_top (v := 1) (by decide) ?_
  refine va_sld hx hb hX hbl hbA hS1 (h_inc (by decide)) dL_law_770 ?_
  refine h_top (v := y1) (by rw [show (1 : Int32).toNatClampNeg = 1 from by decide]; exact hy1) ?_
  have hT1 : hT G (m_Y tF (x + 169)) H1 := m_Y_T (fF_M G _ F hF) hcm
  refine h_callVi (T := TX11) (rest := [.int (-1)]) (As := [.int y1]) hx hb hml hown hts hK hT1 (fun q hq => Nat.le_trans (Nat.le_add_right x 169) (m_Y_A q hq)) hS1 (c_X11_take l G (m_Y tF (x + 169)) (x + 169) (m_Y_m (t := tF) (m := x + 169)) y1) trivial wd_X11_take wV_X11_take wL_L_93 ((m_Y_m (t := tF) (m := x + 169)).o rfl) rfl rfl hl.1 rfl (Nat.le_of_ble_eq_true rfl) dL_law_771 ⟨Nat.le_of_ble_eq_true rfl, Nat.le_of_ble_eq_true rfl⟩ ⟨Nat.le_refl _, Nat.le_refl _⟩ (fun r2 H2 locs hp2 hT2 hS2 hk2 => ?_)
  have hp2 : r2 = (-1) := hp2
  subst hp2
  refine lv_icmp_eq (tgt := 1273) hx hb dL_law_774 (by decide) (fun _ => ?_) (fun h => absurd (by decide) h)
  exact htail _ _ _ hS2 (lv_sub hl [0, 1, 2, 3] rfl)
set_option maxHeartbeats 4000000 in
set_option maxRecDepth 100000 in
theorem law_case_19 {p : Program} {l : Launch} {e : Env} {s : State} {m : MethodId} {below : List Frame} {meth : Method} {c : Code} {b x : Nat} {xs : Nat → Int32} {G : hG} {H0 : Heap} {locs : List Loc} {ls : Array Slot} (hx : p.tables.exec = Jvm.exec) (hb : c.code = code) (hts : ∀ w ∈ wsL_law, w.before #[Value.ref b] s = true) (hown : s.vm.findClass RL = some m.cls) (hml : c.maxLocals = 4) (hK : h_K G s) (hX : va_X b 6 xs s s.heap) (hbl : b < s.heap.size) (hbA : ¬ x ≤ b) (htail : ∀ (H : Heap) (locs : List Loc) (ls : Array Slot), va_S (fun q => x ≤ q) s.heap H locs → lv_has ls 4 [(3, .int 0), (2, .ref (x + 169)), (1, .ref (x)), (0, .ref b)] → W p l e room_1 s m #[Value.ref b] below meth c H locs 600000 7302250 (lw_Z below #[Value.ref b] s) (F0 m 1273 ls [])) (F : Nat → Int32) (hF : ∀ j, j < 600 → F j = if j = 1 ∨ j = 16 then -1 else 0) (hcx : cw G x (wldV G x) H0) (hcm : cw G (x + 169) (modV G (x + 169) F) H0) (hS0 : va_S (fun q => x ≤ q) s.heap H0 locs) (hl : lv_has ls 4 [(3, .int 0), (2, .ref (x + 169)), (1, .ref (x)), (0, .ref b)]) : W p l e room_1 s m #[Value.ref b] below meth c H0 locs 600000 7302250 (lw_Z below #[Value.ref b] s) (F0 m 779 ls []) := by
  obtain ⟨y1, hy1⟩ : ∃ y, xs 1 = y := ⟨_, rfl⟩
  obtain ⟨y2, hy2⟩ : ∃ y, xs 2 = y := ⟨_, rfl⟩
  obtain ⟨y3, hy3⟩ : ∃ y, xs 3 = y := ⟨_, rfl⟩
  obtain ⟨y4, hy4⟩ : ∃ y, xs 4 = y := ⟨_, rfl⟩
  obtain ⟨y5, hy5⟩ : ∃ y, xs 5 = y := ⟨_, rfl⟩
  refine lv_aload_n hx hb dL_law_779 rfl (lv_at hl 2 rfl) ?_
  refine lv_aload_n hx hb dL_law_780 rfl (lv_at hl 3 rfl) ?_
  refine lv_iload_n hx hb dL_law_781 rfl (lv_at hl 0 rfl) ?_
  refine lv_iconst (v := 1) hx hb dL_law_782 (by decide) ?_
  refine lv_iadd hx hb dL_law_783 ?_
  refine h_top (v := 1) (by decide) ?_
  refine va_sld hx hb hX hbl hbA hS0 (h_inc (by decide)) dL_law_784 ?_
  refine h_top (v := y1) (by rw [show (1 : Int32).toNatClampNeg = 1 from by decide]; exact hy1) ?_
  refine lv_aload_n hx hb dL_law_785 rfl (lv_at hl 3 rfl) ?_
  refine lv_iload_n hx hb dL_law_786 rfl (lv_at hl 0 rfl) ?_
  refine lv_iconst (v := 2) hx hb dL_law_787 (by decide) ?_
  refine lv_iadd hx hb dL_law_788 ?_
  refine h_top (v := 2) (by decide) ?_
  refine va_sld hx hb hX hbl hbA hS0 (h_inc (by decide)) dL_law_789 ?_
  refine h_top (v := y2) (by rw [show (2 : Int32).toNatClampNeg = 2 from by decide]; exact hy2) ?_
  have hT0 : hT G (w_Y tF x) H0 := w_Y_T (ftF_W G x) hcx
  refine h_callVi (T := TX10) (rest := []) (As := [.int y1, .int y2]) hx hb hml hown hts hK hT0 (fun q hq => (w_Y_A q hq).1) hS0 (c_X10_shed l G (w_Y tF x) (x) (w_Y_w (t := tF) (x := x)) y1 y2) trivial wd_X10_shed wV_X10_shed wL_L_94 (on_w0 (w_Y_w (t := tF) (x := x))) rfl rfl hl.1 rfl (Nat.le_of_ble_eq_true rfl) dL_law_790 ⟨Nat.le_of_ble_eq_true rfl, Nat.le_of_ble_eq_true rfl⟩ ⟨Nat.le_refl _, Nat.le_refl _⟩ (fun r1 H1 locs hp1 hT1 hS1 hk1 => ?_)
  have hp1 : r1 = (-1) := hp1
  subst hp1
  have hcm := hcm.beyond hk1 (Nat.le_refl _)
  refine lv_aload_n hx hb dL_law_793 rfl (lv_at hl 1 rfl) ?_
  refine lv_aload_n hx hb dL_law_794 rfl (lv_at hl 3 rfl) ?_
  refine lv_iload_n hx hb dL_law_795 rfl (lv_at hl 0 rfl) ?_
  refine lv_iconst (v := 1) hx hb dL_law_796 (by decide) ?_
  refine lv_iadd hx hb dL_law_797 ?_
  refine h_top (v := 1) (by decide) ?_
  refine va_sld hx hb hX hbl hbA hS1 (h_inc (by decide)) dL_law_798 ?_
  refine h_top (v := y1) (by rw [show (1 : Int32).toNatClampNeg = 1 from by decide]; exact hy1) ?_
  refine lv_aload_n hx hb dL_law_799 rfl (lv_at hl 3 rfl) ?_
  refine lv_iload_n hx hb dL_law_800 rfl (lv_at hl 0 rfl) ?_
  refine lv_iconst (v := 2) hx hb dL_law_801 (by decide) ?_
  refine lv_iadd hx hb dL_law_802 ?_
  refine h_top (v := 2) (by decide) ?_
  refine va_sld hx hb hX hbl hbA hS1 (h_inc (by decide)) dL_law_803 ?_
  refine h_top (v := y2) (by rw [show (2 : Int32).toNatClampNeg = 2 from by decide]; exact hy2) ?_
  have hT1 : hT G (m_Y tF (x + 169)) H1 := m_Y_T (fF_M G _ F hF) hcm
  refine h_callVi (T := TX11) (rest := [.int (-1)]) (As := [.int y1, .int y2]) hx hb hml hown hts hK hT1 (fun q hq => Nat.le_trans (Nat.le_add_right x 169) (m_Y_A q hq)) hS1 (c_X11_shed l G (m_Y tF (x + 169)) (x + 169) (m_Y_m (t := tF) (m := x + 169)) y1 y2) trivial wd_X11_shed wV_X11_shed wL_L_97 ((m_Y_m (t := tF) (m := x + 169)).o rfl) rfl rfl hl.1 rfl (Nat.le_of_ble_eq_true rfl) dL_law_804 ⟨Nat.le_of_ble_eq_true rfl, Nat.le_of_ble_eq_true rfl⟩ ⟨Nat.le_refl _, Nat.le_refl _⟩ (fun r2 H2 locs hp2 hT2 hS2 hk2 => ?_)
  have hp2 : r2 = (-1) := hp2
  subst hp2
  refine lv_icmp_eq (tgt := 1273) hx hb dL_law_807 (by decide) (fun _ => ?_) (fun h => absurd (by decide) h)
  exact htail _ _ _ hS2 (lv_sub hl [0, 1, 2, 3] rfl)
set_option maxHeartbeats 4000000 in
set_option maxRecDepth 100000 in
theorem law_case_20 {p : Program} {l : Launch} {e : Env} {s : State} {m : MethodId} {below : List Frame} {meth : Method} {c : Code} {b x : Nat} {xs : Nat → Int32} {G : hG} {H0 : Heap} {locs : List Loc} {ls : Array Slot} (hx : p.tables.exec = Jvm.exec) (hb : c.code = code) (hts : ∀ w ∈ wsL_law, w.before #[Value.ref b] s = true) (hown : s.vm.findClass RL = some m.cls) (hml : c.maxLocals = 4) (hK : h_K G s) (hX : va_X b 6 xs s s.heap) (hbl : b < s.heap.size) (hbA : ¬ x ≤ b) (htail : ∀ (H : Heap) (locs : List Loc) (ls : Array Slot), va_S (fun q => x ≤ q) s.heap H locs → lv_has ls 4 [(3, .int 0), (2, .ref (x + 169)), (1, .ref (x)), (0, .ref b)] → W p l e room_1 s m #[Value.ref b] below meth c H locs 600000 7302250 (lw_Z below #[Value.ref b] s) (F0 m 1273 ls [])) (F : Nat → Int32) (hF : ∀ j, j < 600 → F j = if j = 1 ∨ j = 16 then -1 else 0) (hcx : cw G x (wldV G x) H0) (hcm : cw G (x + 169) (modV G (x + 169) F) H0) (hS0 : va_S (fun q => x ≤ q) s.heap H0 locs) (hl : lv_has ls 4 [(3, .int 0), (2, .ref (x + 169)), (1, .ref (x)), (0, .ref b)]) : W p l e room_1 s m #[Value.ref b] below meth c H0 locs 600000 7302250 (lw_Z below #[Value.ref b] s) (F0 m 812 ls []) := by
  obtain ⟨y1, hy1⟩ : ∃ y, xs 1 = y := ⟨_, rfl⟩
  obtain ⟨y2, hy2⟩ : ∃ y, xs 2 = y := ⟨_, rfl⟩
  obtain ⟨y3, hy3⟩ : ∃ y, xs 3 = y := ⟨_, rfl⟩
  obtain ⟨y4, hy4⟩ : ∃ y, xs 4 = y := ⟨_, rfl⟩
  obtain ⟨y5, hy5⟩ : ∃ y, xs 5 = y := ⟨_, rfl⟩
  refine lv_aload_n hx hb dL_law_812 rfl (lv_at hl 2 rfl) ?_
  refine lv_aload_n hx hb dL_law_813 rfl (lv_at hl 3 rfl) ?_
  refine lv_iload_n hx hb dL_law_814 rfl (lv_at hl 0 rfl) ?_
  refine lv_iconst (v := 1) hx hb dL_law_815 (by decide) ?_
  refine lv_iadd hx hb dL_law_816 ?_
  refine h_top (v := 1) (by decide) ?_
  refine va_sld hx hb hX hbl hbA hS0 (h_inc (by decide)) dL_law_817 ?_
  refine h_top (v := y1) (by rw [show (1 : Int32).toNatClampNeg = 1 from by decide]; exact hy1) ?_
  have hT0 : hT G (w_Y tF x) H0 := w_Y_T (ftF_W G x) hcx
  refine h_callVi (T := TX10) (rest := []) (As := [.int y1]) hx hb hml hown hts hK hT0 (fun q hq => (w_Y_A q hq).1) hS0 (c_X10_off l G (w_Y tF x) (x) (w_Y_w (t := tF) (x := x)) y1) trivial wd_X10_off wV_X10_off wL_L_98 (on_w0 (w_Y_w (t := tF) (x := x))) rfl rfl hl.1 rfl (Nat.le_of_ble_eq_true rfl) dL_law_818 ⟨Nat.le_of_ble_eq_true rfl, Nat.le_of_ble_eq_true rfl⟩ ⟨Nat.le_refl _, Nat.le_refl _⟩ (fun r1 H1 locs hp1 hT1 hS1 hk1 => ?_)
  have hp1 : r1 = 0 := hp1
  subst hp1
  have hcm := hcm.beyond hk1 (Nat.le_refl _)
  refine lv_aload_n hx hb dL_law_821 rfl (lv_at hl 1 rfl) ?_
  refine lv_aload_n hx hb dL_law_822 rfl (lv_at hl 3 rfl) ?_
  refine lv_iload_n hx hb dL_law_823 rfl (lv_at hl 0 rfl) ?_
  refine lv_iconst (v := 1) hx hb dL_law_824 (by decide) ?_
  refine lv_iadd hx hb dL_law_825 ?_
  refine h_top (v := 1) (by decide) ?_
  refine va_sld hx hb hX hbl hbA hS1 (h_inc (by decide)) dL_law_826 ?_
  refine h_top (v := y1) (by rw [show (1 : Int32).toNatClampNeg = 1 from by decide]; exact hy1) ?_
  have hT1 : hT G (m_Y tF (x + 169)) H1 := m_Y_T (fF_M G _ F hF) hcm
  refine h_callVi (T := TX11) (rest := [.int 0]) (As := [.int y1]) hx hb hml hown hts hK hT1 (fun q hq => Nat.le_trans (Nat.le_add_right x 169) (m_Y_A q hq)) hS1 (c_X11_off l G (m_Y tF (x + 169)) (x + 169) (m_Y_m (t := tF) (m := x + 169)) y1) trivial wd_X11_off wV_X11_off wL_L_102 ((m_Y_m (t := tF) (m := x + 169)).o rfl) rfl rfl hl.1 rfl (Nat.le_of_ble_eq_true rfl) dL_law_827 ⟨Nat.le_of_ble_eq_true rfl, Nat.le_of_ble_eq_true rfl⟩ ⟨Nat.le_refl _, Nat.le_refl _⟩ (fun r2 H2 locs hp2 hT2 hS2 hk2 => ?_)
  have hp2 : r2 = 0 := hp2
  subst hp2
  refine lv_icmp_eq (tgt := 1273) hx hb dL_law_830 (by decide) (fun _ => ?_) (fun h => absurd (by decide) h)
  exact htail _ _ _ hS2 (lv_sub hl [0, 1, 2, 3] rfl)
set_option maxHeartbeats 4000000 in
set_option maxRecDepth 100000 in
theorem law_case_21 {p : Program} {l : Launch} {e : Env} {s : State} {m : MethodId} {below : List Frame} {meth : Method} {c : Code} {b x : Nat} {xs : Nat → Int32} {G : hG} {H0 : Heap} {locs : List Loc} {ls : Array Slot} (hx : p.tables.exec = Jvm.exec) (hb : c.code = code) (hts : ∀ w ∈ wsL_law, w.before #[Value.ref b] s = true) (hown : s.vm.findClass RL = some m.cls) (hml : c.maxLocals = 4) (hK : h_K G s) (hX : va_X b 6 xs s s.heap) (hbl : b < s.heap.size) (hbA : ¬ x ≤ b) (htail : ∀ (H : Heap) (locs : List Loc) (ls : Array Slot), va_S (fun q => x ≤ q) s.heap H locs → lv_has ls 4 [(3, .int 0), (2, .ref (x + 169)), (1, .ref (x)), (0, .ref b)] → W p l e room_1 s m #[Value.ref b] below meth c H locs 600000 7302250 (lw_Z below #[Value.ref b] s) (F0 m 1273 ls [])) (F : Nat → Int32) (hF : ∀ j, j < 600 → F j = if j = 1 ∨ j = 16 then -1 else 0) (hcx : cw G x (wldV G x) H0) (hcm : cw G (x + 169) (modV G (x + 169) F) H0) (hS0 : va_S (fun q => x ≤ q) s.heap H0 locs) (hl : lv_has ls 4 [(3, .int 0), (2, .ref (x + 169)), (1, .ref (x)), (0, .ref b)]) : W p l e room_1 s m #[Value.ref b] below meth c H0 locs 600000 7302250 (lw_Z below #[Value.ref b] s) (F0 m 835 ls []) := by
  obtain ⟨y1, hy1⟩ : ∃ y, xs 1 = y := ⟨_, rfl⟩
  obtain ⟨y2, hy2⟩ : ∃ y, xs 2 = y := ⟨_, rfl⟩
  obtain ⟨y3, hy3⟩ : ∃ y, xs 3 = y := ⟨_, rfl⟩
  obtain ⟨y4, hy4⟩ : ∃ y, xs 4 = y := ⟨_, rfl⟩
  obtain ⟨y5, hy5⟩ : ∃ y, xs 5 = y := ⟨_, rfl⟩
  refine lv_aload_n hx hb dL_law_835 rfl (lv_at hl 2 rfl) ?_
  refine lv_aload_n hx hb dL_law_836 rfl (lv_at hl 3 rfl) ?_
  refine lv_iload_n hx hb dL_law_837 rfl (lv_at hl 0 rfl) ?_
  refine lv_iconst (v := 1) hx hb dL_law_838 (by decide) ?_
  refine lv_iadd hx hb dL_law_839 ?_
  refine h_top (v := 1) (by decide) ?_
  refine va_sld hx hb hX hbl hbA hS0 (h_inc (by decide)) dL_law_840 ?_
  refine h_top (v := y1) (by rw [show (1 : Int32).toNatClampNeg = 1 from by decide]; exact hy1) ?_
  have hT0 : hT G (w_Y tF x) H0 := w_Y_T (ftF_W G x) hcx
  refine h_callVi (T := TX10) (rest := []) (As := [.int y1]) hx hb hml hown hts hK hT0 (fun q hq => (w_Y_A q hq).1) hS0 (c_X10_on l G (w_Y tF x) (x) (w_Y_w (t := tF) (x := x)) y1) trivial wd_X10_on wV_X10_on wL_L_103 (on_w0 (w_Y_w (t := tF) (x := x))) rfl rfl hl.1 rfl (Nat.le_of_ble_eq_true rfl) dL_law_841 ⟨Nat.le_of_ble_eq_true rfl, Nat.le_of_ble_eq_true rfl⟩ ⟨Nat.le_refl _, Nat.le_refl _⟩ (fun r1 H1 locs hp1 hT1 hS1 hk1 => ?_)
  have hp1 : r1 = 0 := hp1
  subst hp1
  have hcm := hcm.beyond hk1 (Nat.le_refl _)
  refine lv_aload_n hx hb dL_law_844 rfl (lv_at hl 1 rfl) ?_
  refine lv_aload_n hx hb dL_law_845 rfl (lv_at hl 3 rfl) ?_
  refine lv_iload_n hx hb dL_law_846 rfl (lv_at hl 0 rfl) ?_
  refine lv_iconst (v := 1) hx hb dL_law_847 (by decide) ?_
  refine lv_iadd hx hb dL_law_848 ?_
  refine h_top (v := 1) (by decide) ?_
  refine va_sld hx hb hX hbl hbA hS1 (h_inc (by decide)) dL_law_849 ?_
  refine h_top (v := y1) (by rw [show (1 : Int32).toNatClampNeg = 1 from by decide]; exact hy1) ?_
  have hT1 : hT G (m_Y tF (x + 169)) H1 := m_Y_T (fF_M G _ F hF) hcm
  refine h_callVi (T := TX11) (rest := [.int 0]) (As := [.int y1]) hx hb hml hown hts hK hT1 (fun q hq => Nat.le_trans (Nat.le_add_right x 169) (m_Y_A q hq)) hS1 (c_X11_on l G (m_Y tF (x + 169)) (x + 169) (m_Y_m (t := tF) (m := x + 169)) y1) trivial wd_X11_on wV_X11_on wL_L_106 ((m_Y_m (t := tF) (m := x + 169)).o rfl) rfl rfl hl.1 rfl (Nat.le_of_ble_eq_true rfl) dL_law_850 ⟨Nat.le_of_ble_eq_true rfl, Nat.le_of_ble_eq_true rfl⟩ ⟨Nat.le_refl _, Nat.le_refl _⟩ (fun r2 H2 locs hp2 hT2 hS2 hk2 => ?_)
  have hp2 : r2 = 0 := hp2
  subst hp2
  refine lv_icmp_eq (tgt := 1273) hx hb dL_law_853 (by decide) (fun _ => ?_) (fun h => absurd (by decide) h)
  exact htail _ _ _ hS2 (lv_sub hl [0, 1, 2, 3] rfl)
set_option maxHeartbeats 4000000 in
set_option maxRecDepth 100000 in
theorem law_case_22 {p : Program} {l : Launch} {e : Env} {s : State} {m : MethodId} {below : List Frame} {meth : Method} {c : Code} {b x : Nat} {xs : Nat → Int32} {G : hG} {H0 : Heap} {locs : List Loc} {ls : Array Slot} (hx : p.tables.exec = Jvm.exec) (hb : c.code = code) (hts : ∀ w ∈ wsL_law, w.before #[Value.ref b] s = true) (hown : s.vm.findClass RL = some m.cls) (hml : c.maxLocals = 4) (hK : h_K G s) (hX : va_X b 6 xs s s.heap) (hbl : b < s.heap.size) (hbA : ¬ x ≤ b) (htail : ∀ (H : Heap) (locs : List Loc) (ls : Array Slot), va_S (fun q => x ≤ q) s.heap H locs → lv_has ls 4 [(3, .int 0), (2, .ref (x + 169)), (1, .ref (x)), (0, .ref b)] → W p l e room_1 s m #[Value.ref b] below meth c H locs 600000 7302250 (lw_Z below #[Value.ref b] s) (F0 m 1273 ls [])) (F : Nat → Int32) (hF : ∀ j, j < 600 → F j = if j = 1 ∨ j = 16 then -1 else 0) (hcx : cw G x (wldV G x) H0) (hcm : cw G (x + 169) (modV G (x + 169) F) H0) (hS0 : va_S (fun q => x ≤ q) s.heap H0 locs) (hl : lv_has ls 4 [(3, .int 0), (2, .ref (x + 169)), (1, .ref (x)), (0, .ref b)]) : W p l e room_1 s m #[Value.ref b] below meth c H0 locs 600000 7302250 (lw_Z below #[Value.ref b] s) (F0 m 858 ls []) := by
  obtain ⟨y1, hy1⟩ : ∃ y, xs 1 = y := ⟨_, rfl⟩
  obtain ⟨y2, hy2⟩ : ∃ y, xs 2 = y := ⟨_, rfl⟩
  obtain ⟨y3, hy3⟩ : ∃ y, xs 3 = y := ⟨_, rfl⟩
  obtain ⟨y4, hy4⟩ : ∃ y, xs 4 = y := ⟨_, rfl⟩
  obtain ⟨y5, hy5⟩ : ∃ y, xs 5 = y := ⟨_, rfl⟩
  refine lv_aload_n hx hb dL_law_858 rfl (lv_at hl 2 rfl) ?_
  refine lv_aload_n hx hb dL_law_859 rfl (lv_at hl 3 rfl) ?_
  refine lv_iload_n hx hb dL_law_860 rfl (lv_at hl 0 rfl) ?_
  refine lv_iconst (v := 1) hx hb dL_law_861 (by decide) ?_
  refine lv_iadd hx hb dL_law_862 ?_
  refine h_top (v := 1) (by decide) ?_
  refine va_sld hx hb hX hbl hbA hS0 (h_inc (by decide)) dL_law_863 ?_
  refine h_top (v := y1) (by rw [show (1 : Int32).toNatClampNeg = 1 from by decide]; exact hy1) ?_
  have hT0 : hT G (w_Y tF x) H0 := w_Y_T (ftF_W G x) hcx
  refine h_callVi (T := TX10) (rest := []) (As := [.int y1]) hx hb hml hown hts hK hT0 (fun q hq => (w_Y_A q hq).1) hS0 (c_X10_monitor l G (w_Y tF x) (x) (w_Y_w (t := tF) (x := x)) y1) trivial wd_X10_monitor wV_X10_monitor wL_L_107 (on_w0 (w_Y_w (t := tF) (x := x))) rfl rfl hl.1 rfl (Nat.le_of_ble_eq_true rfl) dL_law_864 ⟨Nat.le_of_ble_eq_true rfl, Nat.le_of_ble_eq_true rfl⟩ ⟨Nat.le_refl _, Nat.le_refl _⟩ (fun r1 H1 locs hp1 hT1 hS1 hk1 => ?_)
  have hp1 : r1 = 0 := hp1
  subst hp1
  have hcm := hcm.beyond hk1 (Nat.le_refl _)
  refine lv_aload_n hx hb dL_law_867 rfl (lv_at hl 1 rfl) ?_
  refine lv_aload_n hx hb dL_law_868 rfl (lv_at hl 3 rfl) ?_
  refine lv_iload_n hx hb dL_law_869 rfl (lv_at hl 0 rfl) ?_
  refine lv_iconst (v := 1) hx hb dL_law_870 (by decide) ?_
  refine lv_iadd hx hb dL_law_871 ?_
  refine h_top (v := 1) (by decide) ?_
  refine va_sld hx hb hX hbl hbA hS1 (h_inc (by decide)) dL_law_872 ?_
  refine h_top (v := y1) (by rw [show (1 : Int32).toNatClampNeg = 1 from by decide]; exact hy1) ?_
  have hT1 : hT G (m_Y tF (x + 169)) H1 := m_Y_T (fF_M G _ F hF) hcm
  refine h_callVi (T := TX11) (rest := [.int 0]) (As := [.int y1]) hx hb hml hown hts hK hT1 (fun q hq => Nat.le_trans (Nat.le_add_right x 169) (m_Y_A q hq)) hS1 (c_X11_monitor l G (m_Y tF (x + 169)) (x + 169) (m_Y_m (t := tF) (m := x + 169)) y1) trivial wd_X11_monitor wV_X11_monitor wL_L_110 ((m_Y_m (t := tF) (m := x + 169)).o rfl) rfl rfl hl.1 rfl (Nat.le_of_ble_eq_true rfl) dL_law_873 ⟨Nat.le_of_ble_eq_true rfl, Nat.le_of_ble_eq_true rfl⟩ ⟨Nat.le_refl _, Nat.le_refl _⟩ (fun r2 H2 locs hp2 hT2 hS2 hk2 => ?_)
  have hp2 : r2 = 0 := hp2
  subst hp2
  refine lv_icmp_eq (tgt := 1273) hx hb dL_law_876 (by decide) (fun _ => ?_) (fun h => absurd (by decide) h)
  exact htail _ _ _ hS2 (lv_sub hl [0, 1, 2, 3] rfl)
set_option maxHeartbeats 4000000 in
set_option maxRecDepth 100000 in
theorem law_case_23 {p : Program} {l : Launch} {e : Env} {s : State} {m : MethodId} {below : List Frame} {meth : Method} {c : Code} {b x : Nat} {xs : Nat → Int32} {G : hG} {H0 : Heap} {locs : List Loc} {ls : Array Slot} (hx : p.tables.exec = Jvm.exec) (hb : c.code = code) (hts : ∀ w ∈ wsL_law, w.before #[Value.ref b] s = true) (hown : s.vm.findClass RL = some m.cls) (hml : c.maxLocals = 4) (hK : h_K G s) (hX : va_X b 6 xs s s.heap) (hbl : b < s.heap.size) (hbA : ¬ x ≤ b) (htail : ∀ (H : Heap) (locs : List Loc) (ls : Array Slot), va_S (fun q => x ≤ q) s.heap H locs → lv_has ls 4 [(3, .int 0), (2, .ref (x + 169)), (1, .ref (x)), (0, .ref b)] → W p l e room_1 s m #[Value.ref b] below meth c H locs 600000 7302250 (lw_Z below #[Value.ref b] s) (F0 m 1273 ls [])) (F : Nat → Int32) (hF : ∀ j, j < 600 → F j = if j = 1 ∨ j = 16 then -1 else 0) (hcx : cw G x (wldV G x) H0) (hcm : cw G (x + 169) (modV G (x + 169) F) H0) (hS0 : va_S (fun q => x ≤ q) s.heap H0 locs) (hl : lv_has ls 4 [(3, .int 0), (2, .ref (x + 169)), (1, .ref (x)), (0, .ref b)]) : W p l e room_1 s m #[Value.ref b] below meth c H0 locs 600000 7302250 (lw_Z below #[Value.ref b] s) (F0 m 881 ls []) := by
  obtain ⟨y1, hy1⟩ : ∃ y, xs 1 = y := ⟨_, rfl⟩
  obtain ⟨y2, hy2⟩ : ∃ y, xs 2 = y := ⟨_, rfl⟩
  obtain ⟨y3, hy3⟩ : ∃ y, xs 3 = y := ⟨_, rfl⟩
  obtain ⟨y4, hy4⟩ : ∃ y, xs 4 = y := ⟨_, rfl⟩
  obtain ⟨y5, hy5⟩ : ∃ y, xs 5 = y := ⟨_, rfl⟩
  refine lv_aload_n hx hb dL_law_881 rfl (lv_at hl 2 rfl) ?_
  have hT0 : hT G (w_Y tF x) H0 := w_Y_T (ftF_W G x) hcx
  refine h_callVi (T := TX10) (rest := []) (As := []) hx hb hml hown hts hK hT0 (fun q hq => (w_Y_A q hq).1) hS0 (c_X10_lose l G (w_Y tF x) (x) (w_Y_w (t := tF) (x := x))) trivial wd_X10_lose wV_X10_lose wL_L_111 (on_w0 (w_Y_w (t := tF) (x := x))) rfl rfl hl.1 rfl (Nat.le_of_ble_eq_true rfl) dL_law_882 ⟨Nat.le_of_ble_eq_true rfl, Nat.le_of_ble_eq_true rfl⟩ ⟨Nat.le_refl _, Nat.le_refl _⟩ (fun r1 H1 locs hp1 hT1 hS1 hk1 => ?_)
  have hp1 : r1 = 0 := hp1
  subst hp1
  have hcm := hcm.beyond hk1 (Nat.le_refl _)
  refine lv_aload_n hx hb dL_law_885 rfl (lv_at hl 1 rfl) ?_
  have hT1 : hT G (m_Y tF (x + 169)) H1 := m_Y_T (fF_M G _ F hF) hcm
  refine h_callVi (T := TX11) (rest := [.int 0]) (As := []) hx hb hml hown hts hK hT1 (fun q hq => Nat.le_trans (Nat.le_add_right x 169) (m_Y_A q hq)) hS1 (c_X11_lose l G (m_Y tF (x + 169)) (x + 169) (m_Y_m (t := tF) (m := x + 169))) trivial wd_X11_lose wV_X11_lose wL_L_115 ((m_Y_m (t := tF) (m := x + 169)).o rfl) rfl rfl hl.1 rfl (Nat.le_of_ble_eq_true rfl) dL_law_886 ⟨Nat.le_of_ble_eq_true rfl, Nat.le_of_ble_eq_true rfl⟩ ⟨Nat.le_refl _, Nat.le_refl _⟩ (fun r2 H2 locs hp2 hT2 hS2 hk2 => ?_)
  have hp2 : r2 = 0 := hp2
  subst hp2
  refine lv_icmp_eq (tgt := 1273) hx hb dL_law_889 (by decide) (fun _ => ?_) (fun h => absurd (by decide) h)
  exact htail _ _ _ hS2 (lv_sub hl [0, 1, 2, 3] rfl)
set_option maxHeartbeats 4000000 in
set_option maxRecDepth 100000 in
theorem law_case_24 {p : Program} {l : Launch} {e : Env} {s : State} {m : MethodId} {below : List Frame} {meth : Method} {c : Code} {b x : Nat} {xs : Nat → Int32} {G : hG} {H0 : Heap} {locs : List Loc} {ls : Array Slot} (hx : p.tables.exec = Jvm.exec) (hb : c.code = code) (hts : ∀ w ∈ wsL_law, w.before #[Value.ref b] s = true) (hown : s.vm.findClass RL = some m.cls) (hml : c.maxLocals = 4) (hK : h_K G s) (hX : va_X b 6 xs s s.heap) (hbl : b < s.heap.size) (hbA : ¬ x ≤ b) (htail : ∀ (H : Heap) (locs : List Loc) (ls : Array Slot), va_S (fun q => x ≤ q) s.heap H locs → lv_has ls 4 [(3, .int 0), (2, .ref (x + 169)), (1, .ref (x)), (0, .ref b)] → W p l e room_1 s m #[Value.ref b] below meth c H locs 600000 7302250 (lw_Z below #[Value.ref b] s) (F0 m 1273 ls [])) (F : Nat → Int32) (hF : ∀ j, j < 600 → F j = if j = 1 ∨ j = 16 then -1 else 0) (hcx : cw G x (wldV G x) H0) (hcm : cw G (x + 169) (modV G (x + 169) F) H0) (hS0 : va_S (fun q => x ≤ q) s.heap H0 locs) (hl : lv_has ls 4 [(3, .int 0), (2, .ref (x + 169)), (1, .ref (x)), (0, .ref b)]) : W p l e room_1 s m #[Value.ref b] below meth c H0 locs 600000 7302250 (lw_Z below #[Value.ref b] s) (F0 m 894 ls []) := by
  obtain ⟨y1, hy1⟩ : ∃ y, xs 1 = y := ⟨_, rfl⟩
  obtain ⟨y2, hy2⟩ : ∃ y, xs 2 = y := ⟨_, rfl⟩
  obtain ⟨y3, hy3⟩ : ∃ y, xs 3 = y := ⟨_, rfl⟩
  obtain ⟨y4, hy4⟩ : ∃ y, xs 4 = y := ⟨_, rfl⟩
  obtain ⟨y5, hy5⟩ : ∃ y, xs 5 = y := ⟨_, rfl⟩
  refine lv_aload_n hx hb dL_law_894 rfl (lv_at hl 2 rfl) ?_
  refine lv_aload_n hx hb dL_law_895 rfl (lv_at hl 3 rfl) ?_
  refine lv_iload_n hx hb dL_law_896 rfl (lv_at hl 0 rfl) ?_
  refine lv_iconst (v := 1) hx hb dL_law_897 (by decide) ?_
  refine lv_iadd hx hb dL_law_898 ?_
  refine h_top (v := 1) (by decide) ?_
  refine va_sld hx hb hX hbl hbA hS0 (h_inc (by decide)) dL_law_899 ?_
  refine h_top (v := y1) (by rw [show (1 : Int32).toNatClampNeg = 1 from by decide]; exact hy1) ?_
  refine lv_aload_n hx hb dL_law_900 rfl (lv_at hl 3 rfl) ?_
  refine lv_iload_n hx hb dL_law_901 rfl (lv_at hl 0 rfl) ?_
  refine lv_iconst (v := 2) hx hb dL_law_902 (by decide) ?_
  refine lv_iadd hx hb dL_law_903 ?_
  refine h_top (v := 2) (by decide) ?_
  refine va_sld hx hb hX hbl hbA hS0 (h_inc (by decide)) dL_law_904 ?_
  refine h_top (v := y2) (by rw [show (2 : Int32).toNatClampNeg = 2 from by decide]; exact hy2) ?_
  have hT0 : hT G (w_Y tF x) H0 := w_Y_T (ftF_W G x) hcx
  refine h_callVi (T := TX10) (rest := []) (As := [.int y1, .int y2]) hx hb hml hown hts hK hT0 (fun q hq => (w_Y_A q hq).1) hS0 (c_X10_snap l G (w_Y tF x) (x) (w_Y_w (t := tF) (x := x)) y1 y2) trivial wd_X10_snap wV_X10_snap wL_L_116 (on_w0 (w_Y_w (t := tF) (x := x))) rfl rfl hl.1 rfl (Nat.le_of_ble_eq_true rfl) dL_law_905 ⟨Nat.le_of_ble_eq_true rfl, Nat.le_of_ble_eq_true rfl⟩ ⟨Nat.le_refl _, Nat.le_refl _⟩ (fun r1 H1 locs hp1 hT1 hS1 hk1 => ?_)
  have hp1 : r1 = 0 := hp1
  subst hp1
  have hcm := hcm.beyond hk1 (Nat.le_refl _)
  refine lv_aload_n hx hb dL_law_908 rfl (lv_at hl 1 rfl) ?_
  refine lv_aload_n hx hb dL_law_909 rfl (lv_at hl 3 rfl) ?_
  refine lv_iload_n hx hb dL_law_910 rfl (lv_at hl 0 rfl) ?_
  refine lv_iconst (v := 1) hx hb dL_law_911 (by decide) ?_
  refine lv_iadd hx hb dL_law_912 ?_
  refine h_top (v := 1) (by decide) ?_
  refine va_sld hx hb hX hbl hbA hS1 (h_inc (by decide)) dL_law_913 ?_
  refine h_top (v := y1) (by rw [show (1 : Int32).toNatClampNeg = 1 from by decide]; exact hy1) ?_
  refine lv_aload_n hx hb dL_law_914 rfl (lv_at hl 3 rfl) ?_
  refine lv_iload_n hx hb dL_law_915 rfl (lv_at hl 0 rfl) ?_
  refine lv_iconst (v := 2) hx hb dL_law_916 (by decide) ?_
  refine lv_iadd hx hb dL_law_917 ?_
  refine h_top (v := 2) (by decide) ?_
  refine va_sld hx hb hX hbl hbA hS1 (h_inc (by decide)) dL_law_918 ?_
  refine h_top (v := y2) (by rw [show (2 : Int32).toNatClampNeg = 2 from by decide]; exact hy2) ?_
  have hT1 : hT G (m_Y tF (x + 169)) H1 := m_Y_T (fF_M G _ F hF) hcm
  refine h_callVi (T := TX11) (rest := [.int 0]) (As := [.int y1, .int y2]) hx hb hml hown hts hK hT1 (fun q hq => Nat.le_trans (Nat.le_add_right x 169) (m_Y_A q hq)) hS1 (c_X11_snap l G (m_Y tF (x + 169)) (x + 169) (m_Y_m (t := tF) (m := x + 169)) y1 y2) trivial wd_X11_snap wV_X11_snap wL_L_120 ((m_Y_m (t := tF) (m := x + 169)).o rfl) rfl rfl hl.1 rfl (Nat.le_of_ble_eq_true rfl) dL_law_919 ⟨Nat.le_of_ble_eq_true rfl, Nat.le_of_ble_eq_true rfl⟩ ⟨Nat.le_refl _, Nat.le_refl _⟩ (fun r2 H2 locs hp2 hT2 hS2 hk2 => ?_)
  have hp2 : r2 = 0 := hp2
  subst hp2
  refine lv_icmp_eq (tgt := 1273) hx hb dL_law_922 (by decide) (fun _ => ?_) (fun h => absurd (by decide) h)
  exact htail _ _ _ hS2 (lv_sub hl [0, 1, 2, 3] rfl)
set_option maxHeartbeats 4000000 in
set_option maxRecDepth 100000 in
theorem law_case_25 {p : Program} {l : Launch} {e : Env} {s : State} {m : MethodId} {below : List Frame} {meth : Method} {c : Code} {b x : Nat} {xs : Nat → Int32} {G : hG} {H0 : Heap} {locs : List Loc} {ls : Array Slot} (hx : p.tables.exec = Jvm.exec) (hb : c.code = code) (hts : ∀ w ∈ wsL_law, w.before #[Value.ref b] s = true) (hown : s.vm.findClass RL = some m.cls) (hml : c.maxLocals = 4) (hK : h_K G s) (hX : va_X b 6 xs s s.heap) (hbl : b < s.heap.size) (hbA : ¬ x ≤ b) (htail : ∀ (H : Heap) (locs : List Loc) (ls : Array Slot), va_S (fun q => x ≤ q) s.heap H locs → lv_has ls 4 [(3, .int 0), (2, .ref (x + 169)), (1, .ref (x)), (0, .ref b)] → W p l e room_1 s m #[Value.ref b] below meth c H locs 600000 7302250 (lw_Z below #[Value.ref b] s) (F0 m 1273 ls [])) (F : Nat → Int32) (hF : ∀ j, j < 600 → F j = if j = 1 ∨ j = 16 then -1 else 0) (hcx : cw G x (wldV G x) H0) (hcm : cw G (x + 169) (modV G (x + 169) F) H0) (hS0 : va_S (fun q => x ≤ q) s.heap H0 locs) (hl : lv_has ls 4 [(3, .int 0), (2, .ref (x + 169)), (1, .ref (x)), (0, .ref b)]) : W p l e room_1 s m #[Value.ref b] below meth c H0 locs 600000 7302250 (lw_Z below #[Value.ref b] s) (F0 m 927 ls []) := by
  obtain ⟨y1, hy1⟩ : ∃ y, xs 1 = y := ⟨_, rfl⟩
  obtain ⟨y2, hy2⟩ : ∃ y, xs 2 = y := ⟨_, rfl⟩
  obtain ⟨y3, hy3⟩ : ∃ y, xs 3 = y := ⟨_, rfl⟩
  obtain ⟨y4, hy4⟩ : ∃ y, xs 4 = y := ⟨_, rfl⟩
  obtain ⟨y5, hy5⟩ : ∃ y, xs 5 = y := ⟨_, rfl⟩
  refine lv_aload_n hx hb dL_law_927 rfl (lv_at hl 2 rfl) ?_
  have hT0 : hT G (w_Y tF x) H0 := w_Y_T (ftF_W G x) hcx
  refine h_callVi (T := TX10) (rest := []) (As := []) hx hb hml hown hts hK hT0 (fun q hq => (w_Y_A q hq).1) hS0 (c_X10_mend l G (w_Y tF x) (x) (w_Y_w (t := tF) (x := x))) trivial wd_X10_mend wV_X10_mend wL_L_121 (on_w0 (w_Y_w (t := tF) (x := x))) rfl rfl hl.1 rfl (Nat.le_of_ble_eq_true rfl) dL_law_928 ⟨Nat.le_of_ble_eq_true rfl, Nat.le_of_ble_eq_true rfl⟩ ⟨Nat.le_refl _, Nat.le_refl _⟩ (fun r1 H1 locs hp1 hT1 hS1 hk1 => ?_)
  have hp1 : r1 = 0 := hp1
  subst hp1
  have hcm := hcm.beyond hk1 (Nat.le_refl _)
  refine lv_aload_n hx hb dL_law_931 rfl (lv_at hl 1 rfl) ?_
  have hT1 : hT G (m_Y tF (x + 169)) H1 := m_Y_T (fF_M G _ F hF) hcm
  refine h_callVi (T := TX11) (rest := [.int 0]) (As := []) hx hb hml hown hts hK hT1 (fun q hq => Nat.le_trans (Nat.le_add_right x 169) (m_Y_A q hq)) hS1 (c_X11_mend l G (m_Y tF (x + 169)) (x + 169) (m_Y_m (t := tF) (m := x + 169))) trivial wd_X11_mend wV_X11_mend wL_L_124 ((m_Y_m (t := tF) (m := x + 169)).o rfl) rfl rfl hl.1 rfl (Nat.le_of_ble_eq_true rfl) dL_law_932 ⟨Nat.le_of_ble_eq_true rfl, Nat.le_of_ble_eq_true rfl⟩ ⟨Nat.le_refl _, Nat.le_refl _⟩ (fun r2 H2 locs hp2 hT2 hS2 hk2 => ?_)
  have hp2 : r2 = 0 := hp2
  subst hp2
  refine lv_icmp_eq (tgt := 1273) hx hb dL_law_935 (by decide) (fun _ => ?_) (fun h => absurd (by decide) h)
  exact htail _ _ _ hS2 (lv_sub hl [0, 1, 2, 3] rfl)
set_option maxHeartbeats 4000000 in
set_option maxRecDepth 100000 in
theorem law_case_26 {p : Program} {l : Launch} {e : Env} {s : State} {m : MethodId} {below : List Frame} {meth : Method} {c : Code} {b x : Nat} {xs : Nat → Int32} {G : hG} {H0 : Heap} {locs : List Loc} {ls : Array Slot} (hx : p.tables.exec = Jvm.exec) (hb : c.code = code) (hts : ∀ w ∈ wsL_law, w.before #[Value.ref b] s = true) (hown : s.vm.findClass RL = some m.cls) (hml : c.maxLocals = 4) (hK : h_K G s) (hX : va_X b 6 xs s s.heap) (hbl : b < s.heap.size) (hbA : ¬ x ≤ b) (htail : ∀ (H : Heap) (locs : List Loc) (ls : Array Slot), va_S (fun q => x ≤ q) s.heap H locs → lv_has ls 4 [(3, .int 0), (2, .ref (x + 169)), (1, .ref (x)), (0, .ref b)] → W p l e room_1 s m #[Value.ref b] below meth c H locs 600000 7302250 (lw_Z below #[Value.ref b] s) (F0 m 1273 ls [])) (F : Nat → Int32) (hF : ∀ j, j < 600 → F j = if j = 1 ∨ j = 16 then -1 else 0) (hcx : cw G x (wldV G x) H0) (hcm : cw G (x + 169) (modV G (x + 169) F) H0) (hS0 : va_S (fun q => x ≤ q) s.heap H0 locs) (hl : lv_has ls 4 [(3, .int 0), (2, .ref (x + 169)), (1, .ref (x)), (0, .ref b)]) : W p l e room_1 s m #[Value.ref b] below meth c H0 locs 600000 7302250 (lw_Z below #[Value.ref b] s) (F0 m 940 ls []) := by
  obtain ⟨y1, hy1⟩ : ∃ y, xs 1 = y := ⟨_, rfl⟩
  obtain ⟨y2, hy2⟩ : ∃ y, xs 2 = y := ⟨_, rfl⟩
  obtain ⟨y3, hy3⟩ : ∃ y, xs 3 = y := ⟨_, rfl⟩
  obtain ⟨y4, hy4⟩ : ∃ y, xs 4 = y := ⟨_, rfl⟩
  obtain ⟨y5, hy5⟩ : ∃ y, xs 5 = y := ⟨_, rfl⟩
  refine lv_aload_n hx hb dL_law_940 rfl (lv_at hl 2 rfl) ?_
  refine lv_aload_n hx hb dL_law_941 rfl (lv_at hl 3 rfl) ?_
  refine lv_iload_n hx hb dL_law_942 rfl (lv_at hl 0 rfl) ?_
  refine lv_iconst (v := 1) hx hb dL_law_943 (by decide) ?_
  refine lv_iadd hx hb dL_law_944 ?_
  refine h_top (v := 1) (by decide) ?_
  refine va_sld hx hb hX hbl hbA hS0 (h_inc (by decide)) dL_law_945 ?_
  refine h_top (v := y1) (by rw [show (1 : Int32).toNatClampNeg = 1 from by decide]; exact hy1) ?_
  have hT0 : hT G (w_Y tF x) H0 := w_Y_T (ftF_W G x) hcx
  refine h_callVi (T := TX10) (rest := []) (As := [.int y1]) hx hb hml hown hts hK hT0 (fun q hq => (w_Y_A q hq).1) hS0 (c_X10_tick l G (w_Y tF x) (x) (w_Y_w (t := tF) (x := x)) y1) (hcx.gi (i := 3) rfl (r := (RX5, TX5, 11)) rfl 6 (by decide) rfl) wd_X10_tick wV_X10_tick wL_L_125 (on_w0 (w_Y_w (t := tF) (x := x))) rfl rfl hl.1 rfl (Nat.le_of_ble_eq_true rfl) dL_law_946 ⟨Nat.le_of_ble_eq_true rfl, Nat.le_of_ble_eq_true rfl⟩ ⟨Nat.le_refl _, Nat.le_refl _⟩ (fun r1 H1 locs hp1 hT1 hS1 hk1 => ?_)
  have hcm := hcm.beyond hk1 (Nat.le_refl _)
  refine lv_aload_n hx hb dL_law_949 rfl (lv_at hl 1 rfl) ?_
  refine lv_aload_n hx hb dL_law_950 rfl (lv_at hl 3 rfl) ?_
  refine lv_iload_n hx hb dL_law_951 rfl (lv_at hl 0 rfl) ?_
  refine lv_iconst (v := 1) hx hb dL_law_952 (by decide) ?_
  refine lv_iadd hx hb dL_law_953 ?_
  refine h_top (v := 1) (by decide) ?_
  refine va_sld hx hb hX hbl hbA hS1 (h_inc (by decide)) dL_law_954 ?_
  refine h_top (v := y1) (by rw [show (1 : Int32).toNatClampNeg = 1 from by decide]; exact hy1) ?_
  have hT1 : hT G (m_Y tF (x + 169)) H1 := m_Y_T (fF_M G _ F hF) hcm
  refine h_callVi (T := TX11) (rest := [.int r1]) (As := [.int y1]) hx hb hml hown hts hK hT1 (fun q hq => Nat.le_trans (Nat.le_add_right x 169) (m_Y_A q hq)) hS1 (c_X11_tick l G (m_Y tF (x + 169)) (x + 169) (m_Y_m (t := tF) (m := x + 169)) y1) ((hcm.ai (i := 1) rfl 3 (by decide)).trans (hF 3 (by decide))) wd_X11_tick wV_X11_tick wL_L_128 ((m_Y_m (t := tF) (m := x + 169)).o rfl) rfl rfl hl.1 rfl (Nat.le_of_ble_eq_true rfl) dL_law_955 ⟨Nat.le_of_ble_eq_true rfl, Nat.le_of_ble_eq_true rfl⟩ ⟨Nat.le_refl _, Nat.le_refl _⟩ (fun r2 H2 locs hp2 hT2 hS2 hk2 => ?_)
  refine lv_icmp_eq (tgt := 1273) hx hb dL_law_958 (by decide) (fun _ => ?_) (fun h => absurd ((Classical.em (1 ≤ y1.toInt ∧ y1.toInt ≤ 500)).elim (fun h => (hp1.1 h).trans (hp2.1 h).symm) (fun h => (hp1.2 h).trans (hp2.2 h).symm)) h)
  exact htail _ _ _ hS2 (lv_sub hl [0, 1, 2, 3] rfl)
set_option maxHeartbeats 4000000 in
set_option maxRecDepth 100000 in
theorem law_case_27 {p : Program} {l : Launch} {e : Env} {s : State} {m : MethodId} {below : List Frame} {meth : Method} {c : Code} {b x : Nat} {xs : Nat → Int32} {G : hG} {H0 : Heap} {locs : List Loc} {ls : Array Slot} (hx : p.tables.exec = Jvm.exec) (hb : c.code = code) (hts : ∀ w ∈ wsL_law, w.before #[Value.ref b] s = true) (hown : s.vm.findClass RL = some m.cls) (hml : c.maxLocals = 4) (hK : h_K G s) (hX : va_X b 6 xs s s.heap) (hbl : b < s.heap.size) (hbA : ¬ x ≤ b) (htail : ∀ (H : Heap) (locs : List Loc) (ls : Array Slot), va_S (fun q => x ≤ q) s.heap H locs → lv_has ls 4 [(3, .int 0), (2, .ref (x + 169)), (1, .ref (x)), (0, .ref b)] → W p l e room_1 s m #[Value.ref b] below meth c H locs 600000 7302250 (lw_Z below #[Value.ref b] s) (F0 m 1273 ls [])) (F : Nat → Int32) (hF : ∀ j, j < 600 → F j = if j = 1 ∨ j = 16 then -1 else 0) (hcx : cw G x (wldV G x) H0) (hcm : cw G (x + 169) (modV G (x + 169) F) H0) (hS0 : va_S (fun q => x ≤ q) s.heap H0 locs) (hl : lv_has ls 4 [(3, .int 0), (2, .ref (x + 169)), (1, .ref (x)), (0, .ref b)]) : W p l e room_1 s m #[Value.ref b] below meth c H0 locs 600000 7302250 (lw_Z below #[Value.ref b] s) (F0 m 963 ls []) := by
  obtain ⟨y1, hy1⟩ : ∃ y, xs 1 = y := ⟨_, rfl⟩
  obtain ⟨y2, hy2⟩ : ∃ y, xs 2 = y := ⟨_, rfl⟩
  obtain ⟨y3, hy3⟩ : ∃ y, xs 3 = y := ⟨_, rfl⟩
  obtain ⟨y4, hy4⟩ : ∃ y, xs 4 = y := ⟨_, rfl⟩
  obtain ⟨y5, hy5⟩ : ∃ y, xs 5 = y := ⟨_, rfl⟩
  refine lv_aload_n hx hb dL_law_963 rfl (lv_at hl 2 rfl) ?_
  refine lv_aload_n hx hb dL_law_964 rfl (lv_at hl 3 rfl) ?_
  refine lv_iload_n hx hb dL_law_965 rfl (lv_at hl 0 rfl) ?_
  refine lv_iconst (v := 1) hx hb dL_law_966 (by decide) ?_
  refine lv_iadd hx hb dL_law_967 ?_
  refine h_top (v := 1) (by decide) ?_
  refine va_sld hx hb hX hbl hbA hS0 (h_inc (by decide)) dL_law_968 ?_
  refine h_top (v := y1) (by rw [show (1 : Int32).toNatClampNeg = 1 from by decide]; exact hy1) ?_
  refine lv_aload_n hx hb dL_law_969 rfl (lv_at hl 3 rfl) ?_
  refine lv_iload_n hx hb dL_law_970 rfl (lv_at hl 0 rfl) ?_
  refine lv_iconst (v := 2) hx hb dL_law_971 (by decide) ?_
  refine lv_iadd hx hb dL_law_972 ?_
  refine h_top (v := 2) (by decide) ?_
  refine va_sld hx hb hX hbl hbA hS0 (h_inc (by decide)) dL_law_973 ?_
  refine h_top (v := y2) (by rw [show (2 : Int32).toNatClampNeg = 2 from by decide]; exact hy2) ?_
  refine lv_aload_n hx hb dL_law_974 rfl (lv_at hl 3 rfl) ?_
  refine lv_iload_n hx hb dL_law_975 rfl (lv_at hl 0 rfl) ?_
  refine lv_iconst (v := 3) hx hb dL_law_976 (by decide) ?_
  refine lv_iadd hx hb dL_law_977 ?_
  refine h_top (v := 3) (by decide) ?_
  refine va_sld hx hb hX hbl hbA hS0 (h_inc (by decide)) dL_law_978 ?_
  refine h_top (v := y3) (by rw [show (3 : Int32).toNatClampNeg = 3 from by decide]; exact hy3) ?_
  have hT0 : hT G (w_Y tF x) H0 := w_Y_T (ftF_W G x) hcx
  refine h_callVi (T := TX10) (rest := []) (As := [.int y1, .int y2, .int y3]) hx hb hml hown hts hK hT0 (fun q hq => (w_Y_A q hq).1) hS0 (c_X10_run l G (w_Y tF x) (x) (w_Y_w (t := tF) (x := x)) y1 y2 y3) trivial wd_X10_run wV_X10_run wL_L_129 (on_w0 (w_Y_w (t := tF) (x := x))) rfl rfl hl.1 rfl (Nat.le_of_ble_eq_true rfl) dL_law_979 ⟨Nat.le_of_ble_eq_true rfl, Nat.le_of_ble_eq_true rfl⟩ ⟨Nat.le_refl _, Nat.le_refl _⟩ (fun r1 H1 locs hp1 hT1 hS1 hk1 => ?_)
  have hcm := hcm.beyond hk1 (Nat.le_refl _)
  refine lv_aload_n hx hb dL_law_982 rfl (lv_at hl 1 rfl) ?_
  refine lv_aload_n hx hb dL_law_983 rfl (lv_at hl 3 rfl) ?_
  refine lv_iload_n hx hb dL_law_984 rfl (lv_at hl 0 rfl) ?_
  refine lv_iconst (v := 1) hx hb dL_law_985 (by decide) ?_
  refine lv_iadd hx hb dL_law_986 ?_
  refine h_top (v := 1) (by decide) ?_
  refine va_sld hx hb hX hbl hbA hS1 (h_inc (by decide)) dL_law_987 ?_
  refine h_top (v := y1) (by rw [show (1 : Int32).toNatClampNeg = 1 from by decide]; exact hy1) ?_
  refine lv_aload_n hx hb dL_law_988 rfl (lv_at hl 3 rfl) ?_
  refine lv_iload_n hx hb dL_law_989 rfl (lv_at hl 0 rfl) ?_
  refine lv_iconst (v := 2) hx hb dL_law_990 (by decide) ?_
  refine lv_iadd hx hb dL_law_991 ?_
  refine h_top (v := 2) (by decide) ?_
  refine va_sld hx hb hX hbl hbA hS1 (h_inc (by decide)) dL_law_992 ?_
  refine h_top (v := y2) (by rw [show (2 : Int32).toNatClampNeg = 2 from by decide]; exact hy2) ?_
  refine lv_aload_n hx hb dL_law_993 rfl (lv_at hl 3 rfl) ?_
  refine lv_iload_n hx hb dL_law_994 rfl (lv_at hl 0 rfl) ?_
  refine lv_iconst (v := 3) hx hb dL_law_995 (by decide) ?_
  refine lv_iadd hx hb dL_law_996 ?_
  refine h_top (v := 3) (by decide) ?_
  refine va_sld hx hb hX hbl hbA hS1 (h_inc (by decide)) dL_law_997 ?_
  refine h_top (v := y3) (by rw [show (3 : Int32).toNatClampNeg = 3 from by decide]; exact hy3) ?_
  have hT1 : hT G (m_Y tF (x + 169)) H1 := m_Y_T (fF_M G _ F hF) hcm
  refine h_callVi (T := TX11) (rest := [.int r1]) (As := [.int y1, .int y2, .int y3]) hx hb hml hown hts hK hT1 (fun q hq => Nat.le_trans (Nat.le_add_right x 169) (m_Y_A q hq)) hS1 (c_X11_run l G (m_Y tF (x + 169)) (x + 169) (m_Y_m (t := tF) (m := x + 169)) y1 y2 y3) trivial wd_X11_run wV_X11_run wL_L_132 ((m_Y_m (t := tF) (m := x + 169)).o rfl) rfl rfl hl.1 rfl (Nat.le_of_ble_eq_true rfl) dL_law_998 ⟨Nat.le_of_ble_eq_true rfl, Nat.le_of_ble_eq_true rfl⟩ ⟨Nat.le_refl _, Nat.le_refl _⟩ (fun r2 H2 locs hp2 hT2 hS2 hk2 => ?_)
  refine lv_icmp_eq (tgt := 1273) hx hb dL_law_1001 (by decide) (fun _ => ?_) (fun h => absurd ((Classical.em ((1 ≤ y1.toInt ∧ y1.toInt ≤ 500) ∧ (0 ≤ y2.toInt ∧ y2.toInt ≤ 9999) ∧ (0 ≤ y3.toInt ∧ y3.toInt ≤ 16))).elim (fun h => (hp1.1 h).trans (hp2.1 h).symm) (fun h => (hp1.2 h).trans (hp2.2 h).symm)) h)
  exact htail _ _ _ hS2 (lv_sub hl [0, 1, 2, 3] rfl)
set_option maxHeartbeats 4000000 in
set_option maxRecDepth 100000 in
theorem law_case_28 {p : Program} {l : Launch} {e : Env} {s : State} {m : MethodId} {below : List Frame} {meth : Method} {c : Code} {b x : Nat} {xs : Nat → Int32} {G : hG} {H0 : Heap} {locs : List Loc} {ls : Array Slot} (hx : p.tables.exec = Jvm.exec) (hb : c.code = code) (hts : ∀ w ∈ wsL_law, w.before #[Value.ref b] s = true) (hown : s.vm.findClass RL = some m.cls) (hml : c.maxLocals = 4) (hK : h_K G s) (hX : va_X b 6 xs s s.heap) (hbl : b < s.heap.size) (hbA : ¬ x ≤ b) (htail : ∀ (H : Heap) (locs : List Loc) (ls : Array Slot), va_S (fun q => x ≤ q) s.heap H locs → lv_has ls 4 [(3, .int 0), (2, .ref (x + 169)), (1, .ref (x)), (0, .ref b)] → W p l e room_1 s m #[Value.ref b] below meth c H locs 600000 7302250 (lw_Z below #[Value.ref b] s) (F0 m 1273 ls [])) (F : Nat → Int32) (hF : ∀ j, j < 600 → F j = if j = 1 ∨ j = 16 then -1 else 0) (hcx : cw G x (wldV G x) H0) (hcm : cw G (x + 169) (modV G (x + 169) F) H0) (hS0 : va_S (fun q => x ≤ q) s.heap H0 locs) (hl : lv_has ls 4 [(3, .int 0), (2, .ref (x + 169)), (1, .ref (x)), (0, .ref b)]) : W p l e room_1 s m #[Value.ref b] below meth c H0 locs 600000 7302250 (lw_Z below #[Value.ref b] s) (F0 m 1006 ls []) := by
  obtain ⟨y1, hy1⟩ : ∃ y, xs 1 = y := ⟨_, rfl⟩
  obtain ⟨y2, hy2⟩ : ∃ y, xs 2 = y := ⟨_, rfl⟩
  obtain ⟨y3, hy3⟩ : ∃ y, xs 3 = y := ⟨_, rfl⟩
  obtain ⟨y4, hy4⟩ : ∃ y, xs 4 = y := ⟨_, rfl⟩
  obtain ⟨y5, hy5⟩ : ∃ y, xs 5 = y := ⟨_, rfl⟩
  refine lv_aload_n hx hb dL_law_1006 rfl (lv_at hl 2 rfl) ?_
  have hT0 : hT G (w_Y tF x) H0 := w_Y_T (ftF_W G x) hcx
  refine h_callVi (T := TX10) (rest := []) (As := []) hx hb hml hown hts hK hT0 (fun q hq => (w_Y_A q hq).1) hS0 (c_X10_notice l G (w_Y tF x) (x) (w_Y_w (t := tF) (x := x))) trivial wd_X10_notice wV_X10_notice wL_L_133 (on_w0 (w_Y_w (t := tF) (x := x))) rfl rfl hl.1 rfl (Nat.le_of_ble_eq_true rfl) dL_law_1007 ⟨Nat.le_of_ble_eq_true rfl, Nat.le_of_ble_eq_true rfl⟩ ⟨Nat.le_refl _, Nat.le_refl _⟩ (fun r1 H1 locs hp1 hT1 hS1 hk1 => ?_)
  have hp1 : r1 = (-1) := hp1
  subst hp1
  have hcm := hcm.beyond hk1 (Nat.le_refl _)
  refine lv_aload_n hx hb dL_law_1010 rfl (lv_at hl 1 rfl) ?_
  have hT1 : hT G (m_Y tF (x + 169)) H1 := m_Y_T (fF_M G _ F hF) hcm
  refine h_callVi (T := TX11) (rest := [.int (-1)]) (As := []) hx hb hml hown hts hK hT1 (fun q hq => Nat.le_trans (Nat.le_add_right x 169) (m_Y_A q hq)) hS1 (c_X11_notice l G (m_Y tF (x + 169)) (x + 169) (m_Y_m (t := tF) (m := x + 169))) trivial wd_X11_notice wV_X11_notice wL_L_136 ((m_Y_m (t := tF) (m := x + 169)).o rfl) rfl rfl hl.1 rfl (Nat.le_of_ble_eq_true rfl) dL_law_1011 ⟨Nat.le_of_ble_eq_true rfl, Nat.le_of_ble_eq_true rfl⟩ ⟨Nat.le_refl _, Nat.le_refl _⟩ (fun r2 H2 locs hp2 hT2 hS2 hk2 => ?_)
  have hp2 : r2 = (-1) := hp2
  subst hp2
  refine lv_icmp_eq (tgt := 1273) hx hb dL_law_1014 (by decide) (fun _ => ?_) (fun h => absurd (by decide) h)
  exact htail _ _ _ hS2 (lv_sub hl [0, 1, 2, 3] rfl)
set_option maxHeartbeats 4000000 in
set_option maxRecDepth 100000 in
theorem law_case_29 {p : Program} {l : Launch} {e : Env} {s : State} {m : MethodId} {below : List Frame} {meth : Method} {c : Code} {b x : Nat} {xs : Nat → Int32} {G : hG} {H0 : Heap} {locs : List Loc} {ls : Array Slot} (hx : p.tables.exec = Jvm.exec) (hb : c.code = code) (hts : ∀ w ∈ wsL_law, w.before #[Value.ref b] s = true) (hown : s.vm.findClass RL = some m.cls) (hml : c.maxLocals = 4) (hK : h_K G s) (hX : va_X b 6 xs s s.heap) (hbl : b < s.heap.size) (hbA : ¬ x ≤ b) (htail : ∀ (H : Heap) (locs : List Loc) (ls : Array Slot), va_S (fun q => x ≤ q) s.heap H locs → lv_has ls 4 [(3, .int 0), (2, .ref (x + 169)), (1, .ref (x)), (0, .ref b)] → W p l e room_1 s m #[Value.ref b] below meth c H locs 600000 7302250 (lw_Z below #[Value.ref b] s) (F0 m 1273 ls [])) (F : Nat → Int32) (hF : ∀ j, j < 600 → F j = if j = 1 ∨ j = 16 then -1 else 0) (hcx : cw G x (wldV G x) H0) (hcm : cw G (x + 169) (modV G (x + 169) F) H0) (hS0 : va_S (fun q => x ≤ q) s.heap H0 locs) (hl : lv_has ls 4 [(3, .int 0), (2, .ref (x + 169)), (1, .ref (x)), (0, .ref b)]) : W p l e room_1 s m #[Value.ref b] below meth c H0 locs 600000 7302250 (lw_Z below #[Value.ref b] s) (F0 m 1019 ls []) := by
  obtain ⟨y1, hy1⟩ : ∃ y, xs 1 = y := ⟨_, rfl⟩
  obtain ⟨y2, hy2⟩ : ∃ y, xs 2 = y := ⟨_, rfl⟩
  obtain ⟨y3, hy3⟩ : ∃ y, xs 3 = y := ⟨_, rfl⟩
  obtain ⟨y4, hy4⟩ : ∃ y, xs 4 = y := ⟨_, rfl⟩
  obtain ⟨y5, hy5⟩ : ∃ y, xs 5 = y := ⟨_, rfl⟩
  refine lv_aload_n hx hb dL_law_1019 rfl (lv_at hl 2 rfl) ?_
  have hT0 : hT G (w_Y tF x) H0 := w_Y_T (ftF_W G x) hcx
  refine h_callVi (T := TX10) (rest := []) (As := []) hx hb hml hown hts hK hT0 (fun q hq => (w_Y_A q hq).1) hS0 (c_X10_stale l G (w_Y tF x) (x) (w_Y_w (t := tF) (x := x))) trivial wd_X10_stale wV_X10_stale wL_L_137 (on_w0 (w_Y_w (t := tF) (x := x))) rfl rfl hl.1 rfl (Nat.le_of_ble_eq_true rfl) dL_law_1020 ⟨Nat.le_of_ble_eq_true rfl, Nat.le_of_ble_eq_true rfl⟩ ⟨Nat.le_refl _, Nat.le_refl _⟩ (fun r1 H1 locs hp1 hT1 hS1 hk1 => ?_)
  have hp1 : r1 = 0 := hp1
  subst hp1
  have hcm := hcm.beyond hk1 (Nat.le_refl _)
  refine lv_aload_n hx hb dL_law_1023 rfl (lv_at hl 1 rfl) ?_
  have hT1 : hT G (m_Y tF (x + 169)) H1 := m_Y_T (fF_M G _ F hF) hcm
  refine h_callVi (T := TX11) (rest := [.int 0]) (As := []) hx hb hml hown hts hK hT1 (fun q hq => Nat.le_trans (Nat.le_add_right x 169) (m_Y_A q hq)) hS1 (c_X11_stale l G (m_Y tF (x + 169)) (x + 169) (m_Y_m (t := tF) (m := x + 169))) trivial wd_X11_stale wV_X11_stale wL_L_140 ((m_Y_m (t := tF) (m := x + 169)).o rfl) rfl rfl hl.1 rfl (Nat.le_of_ble_eq_true rfl) dL_law_1024 ⟨Nat.le_of_ble_eq_true rfl, Nat.le_of_ble_eq_true rfl⟩ ⟨Nat.le_refl _, Nat.le_refl _⟩ (fun r2 H2 locs hp2 hT2 hS2 hk2 => ?_)
  have hp2 : r2 = 0 := hp2
  subst hp2
  refine lv_icmp_eq (tgt := 1273) hx hb dL_law_1027 (by decide) (fun _ => ?_) (fun h => absurd (by decide) h)
  exact htail _ _ _ hS2 (lv_sub hl [0, 1, 2, 3] rfl)
set_option maxHeartbeats 4000000 in
set_option maxRecDepth 100000 in
theorem law_case_30 {p : Program} {l : Launch} {e : Env} {s : State} {m : MethodId} {below : List Frame} {meth : Method} {c : Code} {b x : Nat} {xs : Nat → Int32} {G : hG} {H0 : Heap} {locs : List Loc} {ls : Array Slot} (hx : p.tables.exec = Jvm.exec) (hb : c.code = code) (hts : ∀ w ∈ wsL_law, w.before #[Value.ref b] s = true) (hown : s.vm.findClass RL = some m.cls) (hml : c.maxLocals = 4) (hK : h_K G s) (hX : va_X b 6 xs s s.heap) (hbl : b < s.heap.size) (hbA : ¬ x ≤ b) (htail : ∀ (H : Heap) (locs : List Loc) (ls : Array Slot), va_S (fun q => x ≤ q) s.heap H locs → lv_has ls 4 [(3, .int 0), (2, .ref (x + 169)), (1, .ref (x)), (0, .ref b)] → W p l e room_1 s m #[Value.ref b] below meth c H locs 600000 7302250 (lw_Z below #[Value.ref b] s) (F0 m 1273 ls [])) (F : Nat → Int32) (hF : ∀ j, j < 600 → F j = if j = 1 ∨ j = 16 then -1 else 0) (hcx : cw G x (wldV G x) H0) (hcm : cw G (x + 169) (modV G (x + 169) F) H0) (hS0 : va_S (fun q => x ≤ q) s.heap H0 locs) (hl : lv_has ls 4 [(3, .int 0), (2, .ref (x + 169)), (1, .ref (x)), (0, .ref b)]) : W p l e room_1 s m #[Value.ref b] below meth c H0 locs 600000 7302250 (lw_Z below #[Value.ref b] s) (F0 m 1032 ls []) := by
  obtain ⟨y1, hy1⟩ : ∃ y, xs 1 = y := ⟨_, rfl⟩
  obtain ⟨y2, hy2⟩ : ∃ y, xs 2 = y := ⟨_, rfl⟩
  obtain ⟨y3, hy3⟩ : ∃ y, xs 3 = y := ⟨_, rfl⟩
  obtain ⟨y4, hy4⟩ : ∃ y, xs 4 = y := ⟨_, rfl⟩
  obtain ⟨y5, hy5⟩ : ∃ y, xs 5 = y := ⟨_, rfl⟩
  refine lv_aload_n hx hb dL_law_1032 rfl (lv_at hl 2 rfl) ?_
  have hT0 : hT G (w_Y tF x) H0 := w_Y_T (ftF_W G x) hcx
  refine h_callVi (T := TX10) (rest := []) (As := []) hx hb hml hown hts hK hT0 (fun q hq => (w_Y_A q hq).1) hS0 (c_X10_mark l G (w_Y tF x) (x) (w_Y_w (t := tF) (x := x))) (hcx.gi (i := 0) rfl (r := (RX10, TX10, 9)) rfl 7 (by decide) rfl) wd_X10_mark wV_X10_mark wL_L_141 (on_w0 (w_Y_w (t := tF) (x := x))) rfl rfl hl.1 rfl (Nat.le_of_ble_eq_true rfl) dL_law_1033 ⟨Nat.le_of_ble_eq_true rfl, Nat.le_of_ble_eq_true rfl⟩ ⟨Nat.le_refl _, Nat.le_refl _⟩ (fun r1 H1 locs hp1 hT1 hS1 hk1 => ?_)
  have hp1 : r1 = 1 := hp1
  subst hp1
  have hcm := hcm.beyond hk1 (Nat.le_refl _)
  refine lv_aload_n hx hb dL_law_1036 rfl (lv_at hl 1 rfl) ?_
  have hT1 : hT G (m_Y tF (x + 169)) H1 := m_Y_T (fF_M G _ F hF) hcm
  refine h_callVi (T := TX11) (rest := [.int 1]) (As := []) hx hb hml hown hts hK hT1 (fun q hq => Nat.le_trans (Nat.le_add_right x 169) (m_Y_A q hq)) hS1 (c_X11_mark l G (m_Y tF (x + 169)) (x + 169) (m_Y_m (t := tF) (m := x + 169))) (hcm.gi (i := 0) rfl (r := (RX11, TX11, 23)) rfl 2 (by decide) rfl) wd_X11_mark wV_X11_mark wL_L_144 ((m_Y_m (t := tF) (m := x + 169)).o rfl) rfl rfl hl.1 rfl (Nat.le_of_ble_eq_true rfl) dL_law_1037 ⟨Nat.le_of_ble_eq_true rfl, Nat.le_of_ble_eq_true rfl⟩ ⟨Nat.le_refl _, Nat.le_refl _⟩ (fun r2 H2 locs hp2 hT2 hS2 hk2 => ?_)
  have hp2 : r2 = 1 := hp2
  subst hp2
  refine lv_icmp_eq (tgt := 1273) hx hb dL_law_1040 (by decide) (fun _ => ?_) (fun h => absurd (by decide) h)
  exact htail _ _ _ hS2 (lv_sub hl [0, 1, 2, 3] rfl)
set_option maxHeartbeats 4000000 in
set_option maxRecDepth 100000 in
theorem law_case_31 {p : Program} {l : Launch} {e : Env} {s : State} {m : MethodId} {below : List Frame} {meth : Method} {c : Code} {b x : Nat} {xs : Nat → Int32} {G : hG} {H0 : Heap} {locs : List Loc} {ls : Array Slot} (hx : p.tables.exec = Jvm.exec) (hb : c.code = code) (hts : ∀ w ∈ wsL_law, w.before #[Value.ref b] s = true) (hown : s.vm.findClass RL = some m.cls) (hml : c.maxLocals = 4) (hK : h_K G s) (hX : va_X b 6 xs s s.heap) (hbl : b < s.heap.size) (hbA : ¬ x ≤ b) (htail : ∀ (H : Heap) (locs : List Loc) (ls : Array Slot), va_S (fun q => x ≤ q) s.heap H locs → lv_has ls 4 [(3, .int 0), (2, .ref (x + 169)), (1, .ref (x)), (0, .ref b)] → W p l e room_1 s m #[Value.ref b] below meth c H locs 600000 7302250 (lw_Z below #[Value.ref b] s) (F0 m 1273 ls [])) (F : Nat → Int32) (hF : ∀ j, j < 600 → F j = if j = 1 ∨ j = 16 then -1 else 0) (hcx : cw G x (wldV G x) H0) (hcm : cw G (x + 169) (modV G (x + 169) F) H0) (hS0 : va_S (fun q => x ≤ q) s.heap H0 locs) (hl : lv_has ls 4 [(3, .int 0), (2, .ref (x + 169)), (1, .ref (x)), (0, .ref b)]) : W p l e room_1 s m #[Value.ref b] below meth c H0 locs 600000 7302250 (lw_Z below #[Value.ref b] s) (F0 m 1045 ls []) := by
  obtain ⟨y1, hy1⟩ : ∃ y, xs 1 = y := ⟨_, rfl⟩
  obtain ⟨y2, hy2⟩ : ∃ y, xs 2 = y := ⟨_, rfl⟩
  obtain ⟨y3, hy3⟩ : ∃ y, xs 3 = y := ⟨_, rfl⟩
  obtain ⟨y4, hy4⟩ : ∃ y, xs 4 = y := ⟨_, rfl⟩
  obtain ⟨y5, hy5⟩ : ∃ y, xs 5 = y := ⟨_, rfl⟩
  refine lv_aload_n hx hb dL_law_1045 rfl (lv_at hl 2 rfl) ?_
  have hT0 : hT G (w_Y tF x) H0 := w_Y_T (ftF_W G x) hcx
  refine h_callVi (T := TX10) (rest := []) (As := []) hx hb hml hown hts hK hT0 (fun q hq => (w_Y_A q hq).1) hS0 (c_X10_back l G (w_Y tF x) (x) (w_Y_w (t := tF) (x := x))) (hcx.gi (i := 0) rfl (r := (RX10, TX10, 9)) rfl 7 (by decide) rfl) wd_X10_back wV_X10_back wL_L_145 (on_w0 (w_Y_w (t := tF) (x := x))) rfl rfl hl.1 rfl (Nat.le_of_ble_eq_true rfl) dL_law_1046 ⟨Nat.le_of_ble_eq_true rfl, Nat.le_of_ble_eq_true rfl⟩ ⟨Nat.le_refl _, Nat.le_refl _⟩ (fun r1 H1 locs hp1 hT1 hS1 hk1 => ?_)
  have hp1 : r1 = (-1) := hp1
  subst hp1
  have hcm := hcm.beyond hk1 (Nat.le_refl _)
  refine lv_aload_n hx hb dL_law_1049 rfl (lv_at hl 1 rfl) ?_
  have hT1 : hT G (m_Y tF (x + 169)) H1 := m_Y_T (fF_M G _ F hF) hcm
  refine h_callVi (T := TX11) (rest := [.int (-1)]) (As := []) hx hb hml hown hts hK hT1 (fun q hq => Nat.le_trans (Nat.le_add_right x 169) (m_Y_A q hq)) hS1 (c_X11_back l G (m_Y tF (x + 169)) (x + 169) (m_Y_m (t := tF) (m := x + 169))) (hcm.gi (i := 0) rfl (r := (RX11, TX11, 23)) rfl 2 (by decide) rfl) wd_X11_back wV_X11_back wL_L_148 ((m_Y_m (t := tF) (m := x + 169)).o rfl) rfl rfl hl.1 rfl (Nat.le_of_ble_eq_true rfl) dL_law_1050 ⟨Nat.le_of_ble_eq_true rfl, Nat.le_of_ble_eq_true rfl⟩ ⟨Nat.le_refl _, Nat.le_refl _⟩ (fun r2 H2 locs hp2 hT2 hS2 hk2 => ?_)
  have hp2 : r2 = (-1) := hp2
  subst hp2
  refine lv_icmp_eq (tgt := 1273) hx hb dL_law_1053 (by decide) (fun _ => ?_) (fun h => absurd (by decide) h)
  exact htail _ _ _ hS2 (lv_sub hl [0, 1, 2, 3] rfl)
set_option maxHeartbeats 4000000 in
set_option maxRecDepth 100000 in
theorem law_case_32 {p : Program} {l : Launch} {e : Env} {s : State} {m : MethodId} {below : List Frame} {meth : Method} {c : Code} {b x : Nat} {xs : Nat → Int32} {G : hG} {H0 : Heap} {locs : List Loc} {ls : Array Slot} (hx : p.tables.exec = Jvm.exec) (hb : c.code = code) (hts : ∀ w ∈ wsL_law, w.before #[Value.ref b] s = true) (hown : s.vm.findClass RL = some m.cls) (hml : c.maxLocals = 4) (hK : h_K G s) (hX : va_X b 6 xs s s.heap) (hbl : b < s.heap.size) (hbA : ¬ x ≤ b) (htail : ∀ (H : Heap) (locs : List Loc) (ls : Array Slot), va_S (fun q => x ≤ q) s.heap H locs → lv_has ls 4 [(3, .int 0), (2, .ref (x + 169)), (1, .ref (x)), (0, .ref b)] → W p l e room_1 s m #[Value.ref b] below meth c H locs 600000 7302250 (lw_Z below #[Value.ref b] s) (F0 m 1273 ls [])) (F : Nat → Int32) (hF : ∀ j, j < 600 → F j = if j = 1 ∨ j = 16 then -1 else 0) (hcx : cw G x (wldV G x) H0) (hcm : cw G (x + 169) (modV G (x + 169) F) H0) (hS0 : va_S (fun q => x ≤ q) s.heap H0 locs) (hl : lv_has ls 4 [(3, .int 0), (2, .ref (x + 169)), (1, .ref (x)), (0, .ref b)]) : W p l e room_1 s m #[Value.ref b] below meth c H0 locs 600000 7302250 (lw_Z below #[Value.ref b] s) (F0 m 1058 ls []) := by
  obtain ⟨y1, hy1⟩ : ∃ y, xs 1 = y := ⟨_, rfl⟩
  obtain ⟨y2, hy2⟩ : ∃ y, xs 2 = y := ⟨_, rfl⟩
  obtain ⟨y3, hy3⟩ : ∃ y, xs 3 = y := ⟨_, rfl⟩
  obtain ⟨y4, hy4⟩ : ∃ y, xs 4 = y := ⟨_, rfl⟩
  obtain ⟨y5, hy5⟩ : ∃ y, xs 5 = y := ⟨_, rfl⟩
  refine lv_aload_n hx hb dL_law_1058 rfl (lv_at hl 2 rfl) ?_
  refine lv_aload_n hx hb dL_law_1059 rfl (lv_at hl 3 rfl) ?_
  refine lv_iload_n hx hb dL_law_1060 rfl (lv_at hl 0 rfl) ?_
  refine lv_iconst (v := 1) hx hb dL_law_1061 (by decide) ?_
  refine lv_iadd hx hb dL_law_1062 ?_
  refine h_top (v := 1) (by decide) ?_
  refine va_sld hx hb hX hbl hbA hS0 (h_inc (by decide)) dL_law_1063 ?_
  refine h_top (v := y1) (by rw [show (1 : Int32).toNatClampNeg = 1 from by decide]; exact hy1) ?_
  refine lv_if_eq (tgt := 1071) hx hb dL_law_1064 (by decide) (fun c1 => ?_) (fun c1 => ?_)
  · skip
    refine lv_iconst (v := 0) hx hb dL_law_1071 (by decide) ?_
    have hT0 : hT G (w_Y tF x) H0 := w_Y_T (ftF_W G x) hcx
    refine h_callVi (T := TX10) (rest := []) (As := [.int 0]) hx hb hml hown hts hK hT0 (fun q hq => (w_Y_A q hq).1) hS0 (c_X10_quiet l G (w_Y tF x) (x) (w_Y_w (t := tF) (x := x)) 0) trivial wd_X10_quiet wV_X10_quiet wL_L_149 (on_w0 (w_Y_w (t := tF) (x := x))) rfl rfl hl.1 rfl (Nat.le_of_ble_eq_true rfl) dL_law_1072 ⟨Nat.le_of_ble_eq_true rfl, Nat.le_of_ble_eq_true rfl⟩ ⟨Nat.le_refl _, Nat.le_refl _⟩ (fun r2 H1 locs hp1 hT1 hS1 hk1 => ?_)
    have hp1 : r2 = 0 := hp1
    subst hp1
    have hcm := hcm.beyond hk1 (Nat.le_refl _)
    refine lv_aload_n hx hb dL_law_1075 rfl (lv_at hl 1 rfl) ?_
    refine lv_aload_n hx hb dL_law_1076 rfl (lv_at hl 3 rfl) ?_
    refine lv_iload_n hx hb dL_law_1077 rfl (lv_at hl 0 rfl) ?_
    refine lv_iconst (v := 1) hx hb dL_law_1078 (by decide) ?_
    refine lv_iadd hx hb dL_law_1079 ?_
    refine h_top (v := 1) (by decide) ?_
    refine va_sld hx hb hX hbl hbA hS1 (h_inc (by decide)) dL_law_1080 ?_
    refine h_top (v := y1) (by rw [show (1 : Int32).toNatClampNeg = 1 from by decide]; exact hy1) ?_
    refine lv_if_eq (tgt := 1088) hx hb dL_law_1081 (by decide) (fun _ => ?_) (fun h => absurd (by simp only [Int32.lt_iff_toInt_lt, Int32.le_iff_toInt_le, ← Int32.toInt_inj, Int32.reduceToInt, (show (-1 : Int32).toInt = -1 from rfl)] at c1 ⊢; omega) h)
    refine lv_iconst (v := 0) hx hb dL_law_1088 (by decide) ?_
    have hT1 : hT G (m_Y tF (x + 169)) H1 := m_Y_T (fF_M G _ F hF) hcm
    refine h_callVi (T := TX11) (rest := [.int 0]) (As := [.int 0]) hx hb hml hown hts hK hT1 (fun q hq => Nat.le_trans (Nat.le_add_right x 169) (m_Y_A q hq)) hS1 (c_X11_quiet l G (m_Y tF (x + 169)) (x + 169) (m_Y_m (t := tF) (m := x + 169)) 0 (by decide)) trivial wd_X11_quiet wV_X11_quiet wL_L_153 ((m_Y_m (t := tF) (m := x + 169)).o rfl) rfl rfl hl.1 rfl (Nat.le_of_ble_eq_true rfl) dL_law_1089 ⟨Nat.le_of_ble_eq_true rfl, Nat.le_of_ble_eq_true rfl⟩ ⟨Nat.le_refl _, Nat.le_refl _⟩ (fun r3 H2 locs hp2 hT2 hS2 hk2 => ?_)
    have hp2 : r3 = 0 := hp2
    subst hp2
    refine lv_icmp_eq (tgt := 1273) hx hb dL_law_1092 (by decide) (fun _ => ?_) (fun h => absurd (by decide) h)
    exact htail _ _ _ hS2 (lv_sub hl [0, 1, 2, 3] rfl)
  · skip
    refine lv_iconst (v := 1) hx hb dL_law_1067 (by decide) ?_
    refine lv_goto (tgt := 1072) hx hb dL_law_1068 (by decide) ?_
    have hT0 : hT G (w_Y tF x) H0 := w_Y_T (ftF_W G x) hcx
    refine h_callVi (T := TX10) (rest := []) (As := [.int 1]) hx hb hml hown hts hK hT0 (fun q hq => (w_Y_A q hq).1) hS0 (c_X10_quiet l G (w_Y tF x) (x) (w_Y_w (t := tF) (x := x)) 1) trivial wd_X10_quiet wV_X10_quiet wL_L_149 (on_w0 (w_Y_w (t := tF) (x := x))) rfl rfl hl.1 rfl (Nat.le_of_ble_eq_true rfl) dL_law_1072 ⟨Nat.le_of_ble_eq_true rfl, Nat.le_of_ble_eq_true rfl⟩ ⟨Nat.le_refl _, Nat.le_refl _⟩ (fun r5 H3 locs hp3 hT3 hS3 hk3 => ?_)
    have hp3 : r5 = 0 := hp3
    subst hp3
    have hcm := hcm.beyond hk3 (Nat.le_refl _)
    refine lv_aload_n hx hb dL_law_1075 rfl (lv_at hl 1 rfl) ?_
    refine lv_aload_n hx hb dL_law_1076 rfl (lv_at hl 3 rfl) ?_
    refine lv_iload_n hx hb dL_law_1077 rfl (lv_at hl 0 rfl) ?_
    refine lv_iconst (v := 1) hx hb dL_law_1078 (by decide) ?_
    refine lv_iadd hx hb dL_law_1079 ?_
    refine h_top (v := 1) (by decide) ?_
    refine va_sld hx hb hX hbl hbA hS3 (h_inc (by decide)) dL_law_1080 ?_
    refine h_top (v := y1) (by rw [show (1 : Int32).toNatClampNeg = 1 from by decide]; exact hy1) ?_
    refine lv_if_eq (tgt := 1088) hx hb dL_law_1081 (by decide) (fun h => absurd h c1) (fun _ => ?_)
    refine lv_iconst (v := 1) hx hb dL_law_1084 (by decide) ?_
    refine lv_goto (tgt := 1089) hx hb dL_law_1085 (by decide) ?_
    have hT3 : hT G (m_Y tF (x + 169)) H3 := m_Y_T (fF_M G _ F hF) hcm
    refine h_callVi (T := TX11) (rest := [.int 0]) (As := [.int 1]) hx hb hml hown hts hK hT3 (fun q hq => Nat.le_trans (Nat.le_add_right x 169) (m_Y_A q hq)) hS3 (c_X11_quiet l G (m_Y tF (x + 169)) (x + 169) (m_Y_m (t := tF) (m := x + 169)) 1 (by decide)) trivial wd_X11_quiet wV_X11_quiet wL_L_153 ((m_Y_m (t := tF) (m := x + 169)).o rfl) rfl rfl hl.1 rfl (Nat.le_of_ble_eq_true rfl) dL_law_1089 ⟨Nat.le_of_ble_eq_true rfl, Nat.le_of_ble_eq_true rfl⟩ ⟨Nat.le_refl _, Nat.le_refl _⟩ (fun r6 H4 locs hp4 hT4 hS4 hk4 => ?_)
    have hp4 : r6 = 0 := hp4
    subst hp4
    refine lv_icmp_eq (tgt := 1273) hx hb dL_law_1092 (by decide) (fun _ => ?_) (fun h => absurd (by decide) h)
    exact htail _ _ _ hS4 (lv_sub hl [0, 1, 2, 3] rfl)
set_option maxHeartbeats 4000000 in
set_option maxRecDepth 100000 in
theorem law_case_33 {p : Program} {l : Launch} {e : Env} {s : State} {m : MethodId} {below : List Frame} {meth : Method} {c : Code} {b x : Nat} {xs : Nat → Int32} {G : hG} {H0 : Heap} {locs : List Loc} {ls : Array Slot} (hx : p.tables.exec = Jvm.exec) (hb : c.code = code) (hts : ∀ w ∈ wsL_law, w.before #[Value.ref b] s = true) (hown : s.vm.findClass RL = some m.cls) (hml : c.maxLocals = 4) (hK : h_K G s) (hX : va_X b 6 xs s s.heap) (hbl : b < s.heap.size) (hbA : ¬ x ≤ b) (htail : ∀ (H : Heap) (locs : List Loc) (ls : Array Slot), va_S (fun q => x ≤ q) s.heap H locs → lv_has ls 4 [(3, .int 0), (2, .ref (x + 169)), (1, .ref (x)), (0, .ref b)] → W p l e room_1 s m #[Value.ref b] below meth c H locs 600000 7302250 (lw_Z below #[Value.ref b] s) (F0 m 1273 ls [])) (F : Nat → Int32) (hF : ∀ j, j < 600 → F j = if j = 1 ∨ j = 16 then -1 else 0) (hcx : cw G x (wldV G x) H0) (hcm : cw G (x + 169) (modV G (x + 169) F) H0) (hS0 : va_S (fun q => x ≤ q) s.heap H0 locs) (hl : lv_has ls 4 [(3, .int 0), (2, .ref (x + 169)), (1, .ref (x)), (0, .ref b)]) : W p l e room_1 s m #[Value.ref b] below meth c H0 locs 600000 7302250 (lw_Z below #[Value.ref b] s) (F0 m 1097 ls []) := by
  obtain ⟨y1, hy1⟩ : ∃ y, xs 1 = y := ⟨_, rfl⟩
  obtain ⟨y2, hy2⟩ : ∃ y, xs 2 = y := ⟨_, rfl⟩
  obtain ⟨y3, hy3⟩ : ∃ y, xs 3 = y := ⟨_, rfl⟩
  obtain ⟨y4, hy4⟩ : ∃ y, xs 4 = y := ⟨_, rfl⟩
  obtain ⟨y5, hy5⟩ : ∃ y, xs 5 = y := ⟨_, rfl⟩
  refine lv_aload_n hx hb dL_law_1097 rfl (lv_at hl 2 rfl) ?_
  refine lv_aload_n hx hb dL_law_1098 rfl (lv_at hl 3 rfl) ?_
  refine lv_iload_n hx hb dL_law_1099 rfl (lv_at hl 0 rfl) ?_
  refine lv_iconst (v := 1) hx hb dL_law_1100 (by decide) ?_
  refine lv_iadd hx hb dL_law_1101 ?_
  refine h_top (v := 1) (by decide) ?_
  refine va_sld hx hb hX hbl hbA hS0 (h_inc (by decide)) dL_law_1102 ?_
  refine h_top (v := y1) (by rw [show (1 : Int32).toNatClampNeg = 1 from by decide]; exact hy1) ?_
  refine lv_aload_n hx hb dL_law_1103 rfl (lv_at hl 3 rfl) ?_
  refine lv_iload_n hx hb dL_law_1104 rfl (lv_at hl 0 rfl) ?_
  refine lv_iconst (v := 2) hx hb dL_law_1105 (by decide) ?_
  refine lv_iadd hx hb dL_law_1106 ?_
  refine h_top (v := 2) (by decide) ?_
  refine va_sld hx hb hX hbl hbA hS0 (h_inc (by decide)) dL_law_1107 ?_
  refine h_top (v := y2) (by rw [show (2 : Int32).toNatClampNeg = 2 from by decide]; exact hy2) ?_
  refine lv_if_eq (tgt := 1115) hx hb dL_law_1108 (by decide) (fun c1 => ?_) (fun c1 => ?_)
  · skip
    refine lv_iconst (v := 0) hx hb dL_law_1115 (by decide) ?_
    have hT0 : hT G (w_Y tF x) H0 := w_Y_T (ftF_W G x) hcx
    refine h_callVi (T := TX10) (rest := []) (As := [.int y1, .int 0]) hx hb hml hown hts hK hT0 (fun q hq => (w_Y_A q hq).1) hS0 (c_X10_when l G (w_Y tF x) (x) (w_Y_w (t := tF) (x := x)) y1 0) trivial wd_X10_when wV_X10_when wL_L_154 (on_w0 (w_Y_w (t := tF) (x := x))) rfl rfl hl.1 rfl (Nat.le_of_ble_eq_true rfl) dL_law_1116 ⟨Nat.le_of_ble_eq_true rfl, Nat.le_of_ble_eq_true rfl⟩ ⟨Nat.le_refl _, Nat.le_refl _⟩ (fun r2 H1 locs hp1 hT1 hS1 hk1 => ?_)
    have hp1 : r2 = (-1) := hp1
    subst hp1
    have hcm := hcm.beyond hk1 (Nat.le_refl _)
    refine lv_aload_n hx hb dL_law_1119 rfl (lv_at hl 1 rfl) ?_
    refine lv_aload_n hx hb dL_law_1120 rfl (lv_at hl 3 rfl) ?_
    refine lv_iload_n hx hb dL_law_1121 rfl (lv_at hl 0 rfl) ?_
    refine lv_iconst (v := 1) hx hb dL_law_1122 (by decide) ?_
    refine lv_iadd hx hb dL_law_1123 ?_
    refine h_top (v := 1) (by decide) ?_
    refine va_sld hx hb hX hbl hbA hS1 (h_inc (by decide)) dL_law_1124 ?_
    refine h_top (v := y1) (by rw [show (1 : Int32).toNatClampNeg = 1 from by decide]; exact hy1) ?_
    refine lv_aload_n hx hb dL_law_1125 rfl (lv_at hl 3 rfl) ?_
    refine lv_iload_n hx hb dL_law_1126 rfl (lv_at hl 0 rfl) ?_
    refine lv_iconst (v := 2) hx hb dL_law_1127 (by decide) ?_
    refine lv_iadd hx hb dL_law_1128 ?_
    refine h_top (v := 2) (by decide) ?_
    refine va_sld hx hb hX hbl hbA hS1 (h_inc (by decide)) dL_law_1129 ?_
    refine h_top (v := y2) (by rw [show (2 : Int32).toNatClampNeg = 2 from by decide]; exact hy2) ?_
    refine lv_if_eq (tgt := 1137) hx hb dL_law_1130 (by decide) (fun _ => ?_) (fun h => absurd (by simp only [Int32.lt_iff_toInt_lt, Int32.le_iff_toInt_le, ← Int32.toInt_inj, Int32.reduceToInt, (show (-1 : Int32).toInt = -1 from rfl)] at c1 ⊢; omega) h)
    refine lv_iconst (v := 0) hx hb dL_law_1137 (by decide) ?_
    have hT1 : hT G (m_Y tF (x + 169)) H1 := m_Y_T (fF_M G _ F hF) hcm
    refine h_callVi (T := TX11) (rest := [.int (-1)]) (As := [.int y1, .int 0]) hx hb hml hown hts hK hT1 (fun q hq => Nat.le_trans (Nat.le_add_right x 169) (m_Y_A q hq)) hS1 (c_X11_when l G (m_Y tF (x + 169)) (x + 169) (m_Y_m (t := tF) (m := x + 169)) y1 0 (by decide)) trivial wd_X11_when wV_X11_when wL_L_158 ((m_Y_m (t := tF) (m := x + 169)).o rfl) rfl rfl hl.1 rfl (Nat.le_of_ble_eq_true rfl) dL_law_1138 ⟨Nat.le_of_ble_eq_true rfl, Nat.le_of_ble_eq_true rfl⟩ ⟨Nat.le_refl _, Nat.le_refl _⟩ (fun r3 H2 locs hp2 hT2 hS2 hk2 => ?_)
    have hp2 : r3 = (-1) := hp2
    subst hp2
    refine lv_icmp_eq (tgt := 1273) hx hb dL_law_1141 (by decide) (fun _ => ?_) (fun h => absurd (by decide) h)
    exact htail _ _ _ hS2 (lv_sub hl [0, 1, 2, 3] rfl)
  · skip
    refine lv_iconst (v := 1) hx hb dL_law_1111 (by decide) ?_
    refine lv_goto (tgt := 1116) hx hb dL_law_1112 (by decide) ?_
    have hT0 : hT G (w_Y tF x) H0 := w_Y_T (ftF_W G x) hcx
    refine h_callVi (T := TX10) (rest := []) (As := [.int y1, .int 1]) hx hb hml hown hts hK hT0 (fun q hq => (w_Y_A q hq).1) hS0 (c_X10_when l G (w_Y tF x) (x) (w_Y_w (t := tF) (x := x)) y1 1) trivial wd_X10_when wV_X10_when wL_L_154 (on_w0 (w_Y_w (t := tF) (x := x))) rfl rfl hl.1 rfl (Nat.le_of_ble_eq_true rfl) dL_law_1116 ⟨Nat.le_of_ble_eq_true rfl, Nat.le_of_ble_eq_true rfl⟩ ⟨Nat.le_refl _, Nat.le_refl _⟩ (fun r5 H3 locs hp3 hT3 hS3 hk3 => ?_)
    have hp3 : r5 = (-1) := hp3
    subst hp3
    have hcm := hcm.beyond hk3 (Nat.le_refl _)
    refine lv_aload_n hx hb dL_law_1119 rfl (lv_at hl 1 rfl) ?_
    refine lv_aload_n hx hb dL_law_1120 rfl (lv_at hl 3 rfl) ?_
    refine lv_iload_n hx hb dL_law_1121 rfl (lv_at hl 0 rfl) ?_
    refine lv_iconst (v := 1) hx hb dL_law_1122 (by decide) ?_
    refine lv_iadd hx hb dL_law_1123 ?_
    refine h_top (v := 1) (by decide) ?_
    refine va_sld hx hb hX hbl hbA hS3 (h_inc (by decide)) dL_law_1124 ?_
    refine h_top (v := y1) (by rw [show (1 : Int32).toNatClampNeg = 1 from by decide]; exact hy1) ?_
    refine lv_aload_n hx hb dL_law_1125 rfl (lv_at hl 3 rfl) ?_
    refine lv_iload_n hx hb dL_law_1126 rfl (lv_at hl 0 rfl) ?_
    refine lv_iconst (v := 2) hx hb dL_law_1127 (by decide) ?_
    refine lv_iadd hx hb dL_law_1128 ?_
    refine h_top (v := 2) (by decide) ?_
    refine va_sld hx hb hX hbl hbA hS3 (h_inc (by decide)) dL_law_1129 ?_
    refine h_top (v := y2) (by rw [show (2 : Int32).toNatClampNeg = 2 from by decide]; exact hy2) ?_
    refine lv_if_eq (tgt := 1137) hx hb dL_law_1130 (by decide) (fun h => absurd h c1) (fun _ => ?_)
    refine lv_iconst (v := 1) hx hb dL_law_1133 (by decide) ?_
    refine lv_goto (tgt := 1138) hx hb dL_law_1134 (by decide) ?_
    have hT3 : hT G (m_Y tF (x + 169)) H3 := m_Y_T (fF_M G _ F hF) hcm
    refine h_callVi (T := TX11) (rest := [.int (-1)]) (As := [.int y1, .int 1]) hx hb hml hown hts hK hT3 (fun q hq => Nat.le_trans (Nat.le_add_right x 169) (m_Y_A q hq)) hS3 (c_X11_when l G (m_Y tF (x + 169)) (x + 169) (m_Y_m (t := tF) (m := x + 169)) y1 1 (by decide)) trivial wd_X11_when wV_X11_when wL_L_158 ((m_Y_m (t := tF) (m := x + 169)).o rfl) rfl rfl hl.1 rfl (Nat.le_of_ble_eq_true rfl) dL_law_1138 ⟨Nat.le_of_ble_eq_true rfl, Nat.le_of_ble_eq_true rfl⟩ ⟨Nat.le_refl _, Nat.le_refl _⟩ (fun r6 H4 locs hp4 hT4 hS4 hk4 => ?_)
    have hp4 : r6 = (-1) := hp4
    subst hp4
    refine lv_icmp_eq (tgt := 1273) hx hb dL_law_1141 (by decide) (fun _ => ?_) (fun h => absurd (by decide) h)
    exact htail _ _ _ hS4 (lv_sub hl [0, 1, 2, 3] rfl)
set_option maxHeartbeats 4000000 in
set_option maxRecDepth 100000 in
theorem law_case_34 {p : Program} {l : Launch} {e : Env} {s : State} {m : MethodId} {below : List Frame} {meth : Method} {c : Code} {b x : Nat} {xs : Nat → Int32} {G : hG} {H0 : Heap} {locs : List Loc} {ls : Array Slot} (hx : p.tables.exec = Jvm.exec) (hb : c.code = code) (hts : ∀ w ∈ wsL_law, w.before #[Value.ref b] s = true) (hown : s.vm.findClass RL = some m.cls) (hml : c.maxLocals = 4) (hK : h_K G s) (hX : va_X b 6 xs s s.heap) (hbl : b < s.heap.size) (hbA : ¬ x ≤ b) (htail : ∀ (H : Heap) (locs : List Loc) (ls : Array Slot), va_S (fun q => x ≤ q) s.heap H locs → lv_has ls 4 [(3, .int 0), (2, .ref (x + 169)), (1, .ref (x)), (0, .ref b)] → W p l e room_1 s m #[Value.ref b] below meth c H locs 600000 7302250 (lw_Z below #[Value.ref b] s) (F0 m 1273 ls [])) (F : Nat → Int32) (hF : ∀ j, j < 600 → F j = if j = 1 ∨ j = 16 then -1 else 0) (hcx : cw G x (wldV G x) H0) (hcm : cw G (x + 169) (modV G (x + 169) F) H0) (hS0 : va_S (fun q => x ≤ q) s.heap H0 locs) (hl : lv_has ls 4 [(3, .int 0), (2, .ref (x + 169)), (1, .ref (x)), (0, .ref b)]) : W p l e room_1 s m #[Value.ref b] below meth c H0 locs 600000 7302250 (lw_Z below #[Value.ref b] s) (F0 m 1146 ls []) := by
  obtain ⟨y1, hy1⟩ : ∃ y, xs 1 = y := ⟨_, rfl⟩
  obtain ⟨y2, hy2⟩ : ∃ y, xs 2 = y := ⟨_, rfl⟩
  obtain ⟨y3, hy3⟩ : ∃ y, xs 3 = y := ⟨_, rfl⟩
  obtain ⟨y4, hy4⟩ : ∃ y, xs 4 = y := ⟨_, rfl⟩
  obtain ⟨y5, hy5⟩ : ∃ y, xs 5 = y := ⟨_, rfl⟩
  refine lv_aload_n hx hb dL_law_1146 rfl (lv_at hl 2 rfl) ?_
  refine lv_aload_n hx hb dL_law_1147 rfl (lv_at hl 3 rfl) ?_
  refine lv_iload_n hx hb dL_law_1148 rfl (lv_at hl 0 rfl) ?_
  refine lv_iconst (v := 1) hx hb dL_law_1149 (by decide) ?_
  refine lv_iadd hx hb dL_law_1150 ?_
  refine h_top (v := 1) (by decide) ?_
  refine va_sld hx hb hX hbl hbA hS0 (h_inc (by decide)) dL_law_1151 ?_
  refine h_top (v := y1) (by rw [show (1 : Int32).toNatClampNeg = 1 from by decide]; exact hy1) ?_
  refine lv_aload_n hx hb dL_law_1152 rfl (lv_at hl 3 rfl) ?_
  refine lv_iload_n hx hb dL_law_1153 rfl (lv_at hl 0 rfl) ?_
  refine lv_iconst (v := 2) hx hb dL_law_1154 (by decide) ?_
  refine lv_iadd hx hb dL_law_1155 ?_
  refine h_top (v := 2) (by decide) ?_
  refine va_sld hx hb hX hbl hbA hS0 (h_inc (by decide)) dL_law_1156 ?_
  refine h_top (v := y2) (by rw [show (2 : Int32).toNatClampNeg = 2 from by decide]; exact hy2) ?_
  refine lv_if_eq (tgt := 1164) hx hb dL_law_1157 (by decide) (fun c1 => ?_) (fun c1 => ?_)
  · skip
    refine lv_iconst (v := 0) hx hb dL_law_1164 (by decide) ?_
    have hT0 : hT G (w_Y tF x) H0 := w_Y_T (ftF_W G x) hcx
    refine h_callVi (T := TX10) (rest := []) (As := [.int y1, .int 0]) hx hb hml hown hts hK hT0 (fun q hq => (w_Y_A q hq).1) hS0 (c_X10_next l G (w_Y tF x) (x) (w_Y_w (t := tF) (x := x)) y1 0) trivial wd_X10_next wV_X10_next wL_L_159 (on_w0 (w_Y_w (t := tF) (x := x))) rfl rfl hl.1 rfl (Nat.le_of_ble_eq_true rfl) dL_law_1165 ⟨Nat.le_of_ble_eq_true rfl, Nat.le_of_ble_eq_true rfl⟩ ⟨Nat.le_refl _, Nat.le_refl _⟩ (fun r2 H1 locs hp1 hT1 hS1 hk1 => ?_)
    have hp1 : r2 = (-1) := hp1
    subst hp1
    have hcm := hcm.beyond hk1 (Nat.le_refl _)
    refine lv_aload_n hx hb dL_law_1168 rfl (lv_at hl 1 rfl) ?_
    refine lv_aload_n hx hb dL_law_1169 rfl (lv_at hl 3 rfl) ?_
    refine lv_iload_n hx hb dL_law_1170 rfl (lv_at hl 0 rfl) ?_
    refine lv_iconst (v := 1) hx hb dL_law_1171 (by decide) ?_
    refine lv_iadd hx hb dL_law_1172 ?_
    refine h_top (v := 1) (by decide) ?_
    refine va_sld hx hb hX hbl hbA hS1 (h_inc (by decide)) dL_law_1173 ?_
    refine h_top (v := y1) (by rw [show (1 : Int32).toNatClampNeg = 1 from by decide]; exact hy1) ?_
    refine lv_aload_n hx hb dL_law_1174 rfl (lv_at hl 3 rfl) ?_
    refine lv_iload_n hx hb dL_law_1175 rfl (lv_at hl 0 rfl) ?_
    refine lv_iconst (v := 2) hx hb dL_law_1176 (by decide) ?_
    refine lv_iadd hx hb dL_law_1177 ?_
    refine h_top (v := 2) (by decide) ?_
    refine va_sld hx hb hX hbl hbA hS1 (h_inc (by decide)) dL_law_1178 ?_
    refine h_top (v := y2) (by rw [show (2 : Int32).toNatClampNeg = 2 from by decide]; exact hy2) ?_
    refine lv_if_eq (tgt := 1186) hx hb dL_law_1179 (by decide) (fun _ => ?_) (fun h => absurd (by simp only [Int32.lt_iff_toInt_lt, Int32.le_iff_toInt_le, ← Int32.toInt_inj, Int32.reduceToInt, (show (-1 : Int32).toInt = -1 from rfl)] at c1 ⊢; omega) h)
    refine lv_iconst (v := 0) hx hb dL_law_1186 (by decide) ?_
    have hT1 : hT G (m_Y tF (x + 169)) H1 := m_Y_T (fF_M G _ F hF) hcm
    refine h_callVi (T := TX11) (rest := [.int (-1)]) (As := [.int y1, .int 0]) hx hb hml hown hts hK hT1 (fun q hq => Nat.le_trans (Nat.le_add_right x 169) (m_Y_A q hq)) hS1 (c_X11_next l G (m_Y tF (x + 169)) (x + 169) (m_Y_m (t := tF) (m := x + 169)) y1 0 (by decide)) trivial wd_X11_next wV_X11_next wL_L_162 ((m_Y_m (t := tF) (m := x + 169)).o rfl) rfl rfl hl.1 rfl (Nat.le_of_ble_eq_true rfl) dL_law_1187 ⟨Nat.le_of_ble_eq_true rfl, Nat.le_of_ble_eq_true rfl⟩ ⟨Nat.le_refl _, Nat.le_refl _⟩ (fun r3 H2 locs hp2 hT2 hS2 hk2 => ?_)
    have hp2 : r3 = (-1) := hp2
    subst hp2
    refine lv_icmp_eq (tgt := 1273) hx hb dL_law_1190 (by decide) (fun _ => ?_) (fun h => absurd (by decide) h)
    exact htail _ _ _ hS2 (lv_sub hl [0, 1, 2, 3] rfl)
  · skip
    refine lv_iconst (v := 1) hx hb dL_law_1160 (by decide) ?_
    refine lv_goto (tgt := 1165) hx hb dL_law_1161 (by decide) ?_
    have hT0 : hT G (w_Y tF x) H0 := w_Y_T (ftF_W G x) hcx
    refine h_callVi (T := TX10) (rest := []) (As := [.int y1, .int 1]) hx hb hml hown hts hK hT0 (fun q hq => (w_Y_A q hq).1) hS0 (c_X10_next l G (w_Y tF x) (x) (w_Y_w (t := tF) (x := x)) y1 1) trivial wd_X10_next wV_X10_next wL_L_159 (on_w0 (w_Y_w (t := tF) (x := x))) rfl rfl hl.1 rfl (Nat.le_of_ble_eq_true rfl) dL_law_1165 ⟨Nat.le_of_ble_eq_true rfl, Nat.le_of_ble_eq_true rfl⟩ ⟨Nat.le_refl _, Nat.le_refl _⟩ (fun r5 H3 locs hp3 hT3 hS3 hk3 => ?_)
    have hp3 : r5 = (-1) := hp3
    subst hp3
    have hcm := hcm.beyond hk3 (Nat.le_refl _)
    refine lv_aload_n hx hb dL_law_1168 rfl (lv_at hl 1 rfl) ?_
    refine lv_aload_n hx hb dL_law_1169 rfl (lv_at hl 3 rfl) ?_
    refine lv_iload_n hx hb dL_law_1170 rfl (lv_at hl 0 rfl) ?_
    refine lv_iconst (v := 1) hx hb dL_law_1171 (by decide) ?_
    refine lv_iadd hx hb dL_law_1172 ?_
    refine h_top (v := 1) (by decide) ?_
    refine va_sld hx hb hX hbl hbA hS3 (h_inc (by decide)) dL_law_1173 ?_
    refine h_top (v := y1) (by rw [show (1 : Int32).toNatClampNeg = 1 from by decide]; exact hy1) ?_
    refine lv_aload_n hx hb dL_law_1174 rfl (lv_at hl 3 rfl) ?_
    refine lv_iload_n hx hb dL_law_1175 rfl (lv_at hl 0 rfl) ?_
    refine lv_iconst (v := 2) hx hb dL_law_1176 (by decide) ?_
    refine lv_iadd hx hb dL_law_1177 ?_
    refine h_top (v := 2) (by decide) ?_
    refine va_sld hx hb hX hbl hbA hS3 (h_inc (by decide)) dL_law_1178 ?_
    refine h_top (v := y2) (by rw [show (2 : Int32).toNatClampNeg = 2 from by decide]; exact hy2) ?_
    refine lv_if_eq (tgt := 1186) hx hb dL_law_1179 (by decide) (fun h => absurd h c1) (fun _ => ?_)
    refine lv_iconst (v := 1) hx hb dL_law_1182 (by decide) ?_
    refine lv_goto (tgt := 1187) hx hb dL_law_1183 (by decide) ?_
    have hT3 : hT G (m_Y tF (x + 169)) H3 := m_Y_T (fF_M G _ F hF) hcm
    refine h_callVi (T := TX11) (rest := [.int (-1)]) (As := [.int y1, .int 1]) hx hb hml hown hts hK hT3 (fun q hq => Nat.le_trans (Nat.le_add_right x 169) (m_Y_A q hq)) hS3 (c_X11_next l G (m_Y tF (x + 169)) (x + 169) (m_Y_m (t := tF) (m := x + 169)) y1 1 (by decide)) trivial wd_X11_next wV_X11_next wL_L_162 ((m_Y_m (t := tF) (m := x + 169)).o rfl) rfl rfl hl.1 rfl (Nat.le_of_ble_eq_true rfl) dL_law_1187 ⟨Nat.le_of_ble_eq_true rfl, Nat.le_of_ble_eq_true rfl⟩ ⟨Nat.le_refl _, Nat.le_refl _⟩ (fun r6 H4 locs hp4 hT4 hS4 hk4 => ?_)
    have hp4 : r6 = (-1) := hp4
    subst hp4
    refine lv_icmp_eq (tgt := 1273) hx hb dL_law_1190 (by decide) (fun _ => ?_) (fun h => absurd (by decide) h)
    exact htail _ _ _ hS4 (lv_sub hl [0, 1, 2, 3] rfl)
set_option maxHeartbeats 4000000 in
set_option maxRecDepth 100000 in
theorem law_case_35 {p : Program} {l : Launch} {e : Env} {s : State} {m : MethodId} {below : List Frame} {meth : Method} {c : Code} {b x : Nat} {xs : Nat → Int32} {G : hG} {H0 : Heap} {locs : List Loc} {ls : Array Slot} (hx : p.tables.exec = Jvm.exec) (hb : c.code = code) (hts : ∀ w ∈ wsL_law, w.before #[Value.ref b] s = true) (hown : s.vm.findClass RL = some m.cls) (hml : c.maxLocals = 4) (hK : h_K G s) (hX : va_X b 6 xs s s.heap) (hbl : b < s.heap.size) (hbA : ¬ x ≤ b) (htail : ∀ (H : Heap) (locs : List Loc) (ls : Array Slot), va_S (fun q => x ≤ q) s.heap H locs → lv_has ls 4 [(3, .int 0), (2, .ref (x + 169)), (1, .ref (x)), (0, .ref b)] → W p l e room_1 s m #[Value.ref b] below meth c H locs 600000 7302250 (lw_Z below #[Value.ref b] s) (F0 m 1273 ls [])) (F : Nat → Int32) (hF : ∀ j, j < 600 → F j = if j = 1 ∨ j = 16 then -1 else 0) (hcx : cw G x (wldV G x) H0) (hcm : cw G (x + 169) (modV G (x + 169) F) H0) (hS0 : va_S (fun q => x ≤ q) s.heap H0 locs) (hl : lv_has ls 4 [(3, .int 0), (2, .ref (x + 169)), (1, .ref (x)), (0, .ref b)]) : W p l e room_1 s m #[Value.ref b] below meth c H0 locs 600000 7302250 (lw_Z below #[Value.ref b] s) (F0 m 1195 ls []) := by
  obtain ⟨y1, hy1⟩ : ∃ y, xs 1 = y := ⟨_, rfl⟩
  obtain ⟨y2, hy2⟩ : ∃ y, xs 2 = y := ⟨_, rfl⟩
  obtain ⟨y3, hy3⟩ : ∃ y, xs 3 = y := ⟨_, rfl⟩
  obtain ⟨y4, hy4⟩ : ∃ y, xs 4 = y := ⟨_, rfl⟩
  obtain ⟨y5, hy5⟩ : ∃ y, xs 5 = y := ⟨_, rfl⟩
  refine lv_aload_n hx hb dL_law_1195 rfl (lv_at hl 2 rfl) ?_
  have hT0 : hT G (w_Y tF x) H0 := w_Y_T (ftF_W G x) hcx
  refine h_callVi (T := TX10) (rest := []) (As := []) hx hb hml hown hts hK hT0 (fun q hq => (w_Y_A q hq).1) hS0 (c_X10_peak l G (w_Y tF x) (x) (w_Y_w (t := tF) (x := x))) trivial wd_X10_peak wV_X10_peak wL_L_163 (on_w0 (w_Y_w (t := tF) (x := x))) rfl rfl hl.1 rfl (Nat.le_of_ble_eq_true rfl) dL_law_1196 ⟨Nat.le_of_ble_eq_true rfl, Nat.le_of_ble_eq_true rfl⟩ ⟨Nat.le_refl _, Nat.le_refl _⟩ (fun r1 H1 locs hp1 hT1 hS1 hk1 => ?_)
  have hp1 : r1 = 0 := hp1
  subst hp1
  have hcm := hcm.beyond hk1 (Nat.le_refl _)
  refine lv_aload_n hx hb dL_law_1199 rfl (lv_at hl 1 rfl) ?_
  have hT1 : hT G (m_Y tF (x + 169)) H1 := m_Y_T (fF_M G _ F hF) hcm
  refine h_callVi (T := TX11) (rest := [.int 0]) (As := []) hx hb hml hown hts hK hT1 (fun q hq => Nat.le_trans (Nat.le_add_right x 169) (m_Y_A q hq)) hS1 (c_X11_peak l G (m_Y tF (x + 169)) (x + 169) (m_Y_m (t := tF) (m := x + 169))) trivial wd_X11_peak wV_X11_peak wL_L_166 ((m_Y_m (t := tF) (m := x + 169)).o rfl) rfl rfl hl.1 rfl (Nat.le_of_ble_eq_true rfl) dL_law_1200 ⟨Nat.le_of_ble_eq_true rfl, Nat.le_of_ble_eq_true rfl⟩ ⟨Nat.le_refl _, Nat.le_refl _⟩ (fun r2 H2 locs hp2 hT2 hS2 hk2 => ?_)
  have hp2 : r2 = 0 := hp2
  subst hp2
  refine lv_icmp_eq (tgt := 1273) hx hb dL_law_1203 (by decide) (fun _ => ?_) (fun h => absurd (by decide) h)
  exact htail _ _ _ hS2 (lv_sub hl [0, 1, 2, 3] rfl)
set_option maxHeartbeats 4000000 in
set_option maxRecDepth 100000 in
theorem law_case_36 {p : Program} {l : Launch} {e : Env} {s : State} {m : MethodId} {below : List Frame} {meth : Method} {c : Code} {b x : Nat} {xs : Nat → Int32} {G : hG} {H0 : Heap} {locs : List Loc} {ls : Array Slot} (hx : p.tables.exec = Jvm.exec) (hb : c.code = code) (hts : ∀ w ∈ wsL_law, w.before #[Value.ref b] s = true) (hown : s.vm.findClass RL = some m.cls) (hml : c.maxLocals = 4) (hK : h_K G s) (hX : va_X b 6 xs s s.heap) (hbl : b < s.heap.size) (hbA : ¬ x ≤ b) (htail : ∀ (H : Heap) (locs : List Loc) (ls : Array Slot), va_S (fun q => x ≤ q) s.heap H locs → lv_has ls 4 [(3, .int 0), (2, .ref (x + 169)), (1, .ref (x)), (0, .ref b)] → W p l e room_1 s m #[Value.ref b] below meth c H locs 600000 7302250 (lw_Z below #[Value.ref b] s) (F0 m 1273 ls [])) (F : Nat → Int32) (hF : ∀ j, j < 600 → F j = if j = 1 ∨ j = 16 then -1 else 0) (hcx : cw G x (wldV G x) H0) (hcm : cw G (x + 169) (modV G (x + 169) F) H0) (hS0 : va_S (fun q => x ≤ q) s.heap H0 locs) (hl : lv_has ls 4 [(3, .int 0), (2, .ref (x + 169)), (1, .ref (x)), (0, .ref b)]) : W p l e room_1 s m #[Value.ref b] below meth c H0 locs 600000 7302250 (lw_Z below #[Value.ref b] s) (F0 m 1208 ls []) := by
  obtain ⟨y1, hy1⟩ : ∃ y, xs 1 = y := ⟨_, rfl⟩
  obtain ⟨y2, hy2⟩ : ∃ y, xs 2 = y := ⟨_, rfl⟩
  obtain ⟨y3, hy3⟩ : ∃ y, xs 3 = y := ⟨_, rfl⟩
  obtain ⟨y4, hy4⟩ : ∃ y, xs 4 = y := ⟨_, rfl⟩
  obtain ⟨y5, hy5⟩ : ∃ y, xs 5 = y := ⟨_, rfl⟩
  refine lv_aload_n hx hb dL_law_1208 rfl (lv_at hl 2 rfl) ?_
  have hT0 : hT G (w_Y tF x) H0 := w_Y_T (ftF_W G x) hcx
  refine h_callVi (T := TX10) (rest := []) (As := []) hx hb hml hown hts hK hT0 (fun q hq => (w_Y_A q hq).1) hS0 (c_X10_lowered l G (w_Y tF x) (x) (w_Y_w (t := tF) (x := x))) trivial wd_X10_lowered wV_X10_lowered wL_L_167 (on_w0 (w_Y_w (t := tF) (x := x))) rfl rfl hl.1 rfl (Nat.le_of_ble_eq_true rfl) dL_law_1209 ⟨Nat.le_of_ble_eq_true rfl, Nat.le_of_ble_eq_true rfl⟩ ⟨Nat.le_refl _, Nat.le_refl _⟩ (fun r1 H1 locs hp1 hT1 hS1 hk1 => ?_)
  have hp1 : r1 = 0 := hp1
  subst hp1
  have hcm := hcm.beyond hk1 (Nat.le_refl _)
  refine lv_aload_n hx hb dL_law_1212 rfl (lv_at hl 1 rfl) ?_
  have hT1 : hT G (m_Y tF (x + 169)) H1 := m_Y_T (fF_M G _ F hF) hcm
  refine h_callVi (T := TX11) (rest := [.int 0]) (As := []) hx hb hml hown hts hK hT1 (fun q hq => Nat.le_trans (Nat.le_add_right x 169) (m_Y_A q hq)) hS1 (c_X11_lowered l G (m_Y tF (x + 169)) (x + 169) (m_Y_m (t := tF) (m := x + 169))) trivial wd_X11_lowered wV_X11_lowered wL_L_170 ((m_Y_m (t := tF) (m := x + 169)).o rfl) rfl rfl hl.1 rfl (Nat.le_of_ble_eq_true rfl) dL_law_1213 ⟨Nat.le_of_ble_eq_true rfl, Nat.le_of_ble_eq_true rfl⟩ ⟨Nat.le_refl _, Nat.le_refl _⟩ (fun r2 H2 locs hp2 hT2 hS2 hk2 => ?_)
  have hp2 : r2 = 0 := hp2
  subst hp2
  refine lv_icmp_eq (tgt := 1273) hx hb dL_law_1216 (by decide) (fun _ => ?_) (fun h => absurd (by decide) h)
  exact htail _ _ _ hS2 (lv_sub hl [0, 1, 2, 3] rfl)
set_option maxHeartbeats 4000000 in
set_option maxRecDepth 100000 in
theorem law_case_37 {p : Program} {l : Launch} {e : Env} {s : State} {m : MethodId} {below : List Frame} {meth : Method} {c : Code} {b x : Nat} {xs : Nat → Int32} {G : hG} {H0 : Heap} {locs : List Loc} {ls : Array Slot} (hx : p.tables.exec = Jvm.exec) (hb : c.code = code) (hts : ∀ w ∈ wsL_law, w.before #[Value.ref b] s = true) (hown : s.vm.findClass RL = some m.cls) (hml : c.maxLocals = 4) (hK : h_K G s) (hX : va_X b 6 xs s s.heap) (hbl : b < s.heap.size) (hbA : ¬ x ≤ b) (htail : ∀ (H : Heap) (locs : List Loc) (ls : Array Slot), va_S (fun q => x ≤ q) s.heap H locs → lv_has ls 4 [(3, .int 0), (2, .ref (x + 169)), (1, .ref (x)), (0, .ref b)] → W p l e room_1 s m #[Value.ref b] below meth c H locs 600000 7302250 (lw_Z below #[Value.ref b] s) (F0 m 1273 ls [])) (F : Nat → Int32) (hF : ∀ j, j < 600 → F j = if j = 1 ∨ j = 16 then -1 else 0) (hcx : cw G x (wldV G x) H0) (hcm : cw G (x + 169) (modV G (x + 169) F) H0) (hS0 : va_S (fun q => x ≤ q) s.heap H0 locs) (hl : lv_has ls 4 [(3, .int 0), (2, .ref (x + 169)), (1, .ref (x)), (0, .ref b)]) : W p l e room_1 s m #[Value.ref b] below meth c H0 locs 600000 7302250 (lw_Z below #[Value.ref b] s) (F0 m 1221 ls []) := by
  obtain ⟨y1, hy1⟩ : ∃ y, xs 1 = y := ⟨_, rfl⟩
  obtain ⟨y2, hy2⟩ : ∃ y, xs 2 = y := ⟨_, rfl⟩
  obtain ⟨y3, hy3⟩ : ∃ y, xs 3 = y := ⟨_, rfl⟩
  obtain ⟨y4, hy4⟩ : ∃ y, xs 4 = y := ⟨_, rfl⟩
  obtain ⟨y5, hy5⟩ : ∃ y, xs 5 = y := ⟨_, rfl⟩
  refine lv_aload_n hx hb dL_law_1221 rfl (lv_at hl 2 rfl) ?_
  have hT0 : hT G (w_Y tF x) H0 := w_Y_T (ftF_W G x) hcx
  refine h_callVi (T := TX10) (rest := []) (As := []) hx hb hml hown hts hK hT0 (fun q hq => (w_Y_A q hq).1) hS0 (c_X10_healed l G (w_Y tF x) (x) (w_Y_w (t := tF) (x := x))) trivial wd_X10_healed wV_X10_healed wL_L_171 (on_w0 (w_Y_w (t := tF) (x := x))) rfl rfl hl.1 rfl (Nat.le_of_ble_eq_true rfl) dL_law_1222 ⟨Nat.le_of_ble_eq_true rfl, Nat.le_of_ble_eq_true rfl⟩ ⟨Nat.le_refl _, Nat.le_refl _⟩ (fun r1 H1 locs hp1 hT1 hS1 hk1 => ?_)
  have hp1 : r1 = (-1) := hp1
  subst hp1
  have hcm := hcm.beyond hk1 (Nat.le_refl _)
  refine lv_aload_n hx hb dL_law_1225 rfl (lv_at hl 1 rfl) ?_
  have hT1 : hT G (m_Y tF (x + 169)) H1 := m_Y_T (fF_M G _ F hF) hcm
  refine h_callVi (T := TX11) (rest := [.int (-1)]) (As := []) hx hb hml hown hts hK hT1 (fun q hq => Nat.le_trans (Nat.le_add_right x 169) (m_Y_A q hq)) hS1 (c_X11_healed l G (m_Y tF (x + 169)) (x + 169) (m_Y_m (t := tF) (m := x + 169))) trivial wd_X11_healed wV_X11_healed wL_L_174 ((m_Y_m (t := tF) (m := x + 169)).o rfl) rfl rfl hl.1 rfl (Nat.le_of_ble_eq_true rfl) dL_law_1226 ⟨Nat.le_of_ble_eq_true rfl, Nat.le_of_ble_eq_true rfl⟩ ⟨Nat.le_refl _, Nat.le_refl _⟩ (fun r2 H2 locs hp2 hT2 hS2 hk2 => ?_)
  have hp2 : r2 = (-1) := hp2
  subst hp2
  refine lv_icmp_eq (tgt := 1273) hx hb dL_law_1229 (by decide) (fun _ => ?_) (fun h => absurd (by decide) h)
  exact htail _ _ _ hS2 (lv_sub hl [0, 1, 2, 3] rfl)
set_option maxHeartbeats 4000000 in
set_option maxRecDepth 100000 in
theorem law_case_38 {p : Program} {l : Launch} {e : Env} {s : State} {m : MethodId} {below : List Frame} {meth : Method} {c : Code} {b x : Nat} {xs : Nat → Int32} {G : hG} {H0 : Heap} {locs : List Loc} {ls : Array Slot} (hx : p.tables.exec = Jvm.exec) (hb : c.code = code) (hts : ∀ w ∈ wsL_law, w.before #[Value.ref b] s = true) (hown : s.vm.findClass RL = some m.cls) (hml : c.maxLocals = 4) (hK : h_K G s) (hX : va_X b 6 xs s s.heap) (hbl : b < s.heap.size) (hbA : ¬ x ≤ b) (htail : ∀ (H : Heap) (locs : List Loc) (ls : Array Slot), va_S (fun q => x ≤ q) s.heap H locs → lv_has ls 4 [(3, .int 0), (2, .ref (x + 169)), (1, .ref (x)), (0, .ref b)] → W p l e room_1 s m #[Value.ref b] below meth c H locs 600000 7302250 (lw_Z below #[Value.ref b] s) (F0 m 1273 ls [])) (F : Nat → Int32) (hF : ∀ j, j < 600 → F j = if j = 1 ∨ j = 16 then -1 else 0) (hcx : cw G x (wldV G x) H0) (hcm : cw G (x + 169) (modV G (x + 169) F) H0) (hS0 : va_S (fun q => x ≤ q) s.heap H0 locs) (hl : lv_has ls 4 [(3, .int 0), (2, .ref (x + 169)), (1, .ref (x)), (0, .ref b)]) : W p l e room_1 s m #[Value.ref b] below meth c H0 locs 600000 7302250 (lw_Z below #[Value.ref b] s) (F0 m 1234 ls []) := by
  obtain ⟨y1, hy1⟩ : ∃ y, xs 1 = y := ⟨_, rfl⟩
  obtain ⟨y2, hy2⟩ : ∃ y, xs 2 = y := ⟨_, rfl⟩
  obtain ⟨y3, hy3⟩ : ∃ y, xs 3 = y := ⟨_, rfl⟩
  obtain ⟨y4, hy4⟩ : ∃ y, xs 4 = y := ⟨_, rfl⟩
  obtain ⟨y5, hy5⟩ : ∃ y, xs 5 = y := ⟨_, rfl⟩
  refine lv_aload_n hx hb dL_law_1234 rfl (lv_at hl 2 rfl) ?_
  have hT0 : hT G (w_Y tF x) H0 := w_Y_T (ftF_W G x) hcx
  refine h_callVi (T := TX10) (rest := []) (As := []) hx hb hml hown hts hK hT0 (fun q hq => (w_Y_A q hq).1) hS0 (c_X10_purged l G (w_Y tF x) (x) (w_Y_w (t := tF) (x := x))) trivial wd_X10_purged wV_X10_purged wL_L_175 (on_w0 (w_Y_w (t := tF) (x := x))) rfl rfl hl.1 rfl (Nat.le_of_ble_eq_true rfl) dL_law_1235 ⟨Nat.le_of_ble_eq_true rfl, Nat.le_of_ble_eq_true rfl⟩ ⟨Nat.le_refl _, Nat.le_refl _⟩ (fun r1 H1 locs hp1 hT1 hS1 hk1 => ?_)
  have hp1 : r1 = (-1) := hp1
  subst hp1
  have hcm := hcm.beyond hk1 (Nat.le_refl _)
  refine lv_aload_n hx hb dL_law_1238 rfl (lv_at hl 1 rfl) ?_
  have hT1 : hT G (m_Y tF (x + 169)) H1 := m_Y_T (fF_M G _ F hF) hcm
  refine h_callVi (T := TX11) (rest := [.int (-1)]) (As := []) hx hb hml hown hts hK hT1 (fun q hq => Nat.le_trans (Nat.le_add_right x 169) (m_Y_A q hq)) hS1 (c_X11_purged l G (m_Y tF (x + 169)) (x + 169) (m_Y_m (t := tF) (m := x + 169))) trivial wd_X11_purged wV_X11_purged wL_L_178 ((m_Y_m (t := tF) (m := x + 169)).o rfl) rfl rfl hl.1 rfl (Nat.le_of_ble_eq_true rfl) dL_law_1239 ⟨Nat.le_of_ble_eq_true rfl, Nat.le_of_ble_eq_true rfl⟩ ⟨Nat.le_refl _, Nat.le_refl _⟩ (fun r2 H2 locs hp2 hT2 hS2 hk2 => ?_)
  have hp2 : r2 = (-1) := hp2
  subst hp2
  refine lv_icmp_eq (tgt := 1273) hx hb dL_law_1242 (by decide) (fun _ => ?_) (fun h => absurd (by decide) h)
  exact htail _ _ _ hS2 (lv_sub hl [0, 1, 2, 3] rfl)
set_option maxHeartbeats 4000000 in
set_option maxRecDepth 100000 in
theorem law_case_39 {p : Program} {l : Launch} {e : Env} {s : State} {m : MethodId} {below : List Frame} {meth : Method} {c : Code} {b x : Nat} {xs : Nat → Int32} {G : hG} {H0 : Heap} {locs : List Loc} {ls : Array Slot} (hx : p.tables.exec = Jvm.exec) (hb : c.code = code) (hts : ∀ w ∈ wsL_law, w.before #[Value.ref b] s = true) (hown : s.vm.findClass RL = some m.cls) (hml : c.maxLocals = 4) (hK : h_K G s) (hX : va_X b 6 xs s s.heap) (hbl : b < s.heap.size) (hbA : ¬ x ≤ b) (htail : ∀ (H : Heap) (locs : List Loc) (ls : Array Slot), va_S (fun q => x ≤ q) s.heap H locs → lv_has ls 4 [(3, .int 0), (2, .ref (x + 169)), (1, .ref (x)), (0, .ref b)] → W p l e room_1 s m #[Value.ref b] below meth c H locs 600000 7302250 (lw_Z below #[Value.ref b] s) (F0 m 1273 ls [])) (F : Nat → Int32) (hF : ∀ j, j < 600 → F j = if j = 1 ∨ j = 16 then -1 else 0) (hcx : cw G x (wldV G x) H0) (hcm : cw G (x + 169) (modV G (x + 169) F) H0) (hS0 : va_S (fun q => x ≤ q) s.heap H0 locs) (hl : lv_has ls 4 [(3, .int 0), (2, .ref (x + 169)), (1, .ref (x)), (0, .ref b)]) : W p l e room_1 s m #[Value.ref b] below meth c H0 locs 600000 7302250 (lw_Z below #[Value.ref b] s) (F0 m 1247 ls []) := by
  obtain ⟨y1, hy1⟩ : ∃ y, xs 1 = y := ⟨_, rfl⟩
  obtain ⟨y2, hy2⟩ : ∃ y, xs 2 = y := ⟨_, rfl⟩
  obtain ⟨y3, hy3⟩ : ∃ y, xs 3 = y := ⟨_, rfl⟩
  obtain ⟨y4, hy4⟩ : ∃ y, xs 4 = y := ⟨_, rfl⟩
  obtain ⟨y5, hy5⟩ : ∃ y, xs 5 = y := ⟨_, rfl⟩
  refine lv_aload_n hx hb dL_law_1247 rfl (lv_at hl 2 rfl) ?_
  have hT0 : hT G (w_Y tF x) H0 := w_Y_T (ftF_W G x) hcx
  refine h_callVi (T := TX10) (rest := []) (As := []) hx hb hml hown hts hK hT0 (fun q hq => (w_Y_A q hq).1) hS0 (c_X10_blamed l G (w_Y tF x) (x) (w_Y_w (t := tF) (x := x))) trivial wd_X10_blamed wV_X10_blamed wL_L_179 (on_w0 (w_Y_w (t := tF) (x := x))) rfl rfl hl.1 rfl (Nat.le_of_ble_eq_true rfl) dL_law_1248 ⟨Nat.le_of_ble_eq_true rfl, Nat.le_of_ble_eq_true rfl⟩ ⟨Nat.le_refl _, Nat.le_refl _⟩ (fun r1 H1 locs hp1 hT1 hS1 hk1 => ?_)
  have hp1 : r1 = (-1) := hp1
  subst hp1
  have hcm := hcm.beyond hk1 (Nat.le_refl _)
  refine lv_aload_n hx hb dL_law_1251 rfl (lv_at hl 1 rfl) ?_
  have hT1 : hT G (m_Y tF (x + 169)) H1 := m_Y_T (fF_M G _ F hF) hcm
  refine h_callVi (T := TX11) (rest := [.int (-1)]) (As := []) hx hb hml hown hts hK hT1 (fun q hq => Nat.le_trans (Nat.le_add_right x 169) (m_Y_A q hq)) hS1 (c_X11_blamed l G (m_Y tF (x + 169)) (x + 169) (m_Y_m (t := tF) (m := x + 169))) trivial wd_X11_blamed wV_X11_blamed wL_L_182 ((m_Y_m (t := tF) (m := x + 169)).o rfl) rfl rfl hl.1 rfl (Nat.le_of_ble_eq_true rfl) dL_law_1252 ⟨Nat.le_of_ble_eq_true rfl, Nat.le_of_ble_eq_true rfl⟩ ⟨Nat.le_refl _, Nat.le_refl _⟩ (fun r2 H2 locs hp2 hT2 hS2 hk2 => ?_)
  have hp2 : r2 = (-1) := hp2
  subst hp2
  refine lv_icmp_eq (tgt := 1273) hx hb dL_law_1255 (by decide) (fun _ => ?_) (fun h => absurd (by decide) h)
  exact htail _ _ _ hS2 (lv_sub hl [0, 1, 2, 3] rfl)
set_option maxHeartbeats 4000000 in
set_option maxRecDepth 100000 in
theorem law_case_40 {p : Program} {l : Launch} {e : Env} {s : State} {m : MethodId} {below : List Frame} {meth : Method} {c : Code} {b x : Nat} {xs : Nat → Int32} {G : hG} {H0 : Heap} {locs : List Loc} {ls : Array Slot} (hx : p.tables.exec = Jvm.exec) (hb : c.code = code) (hts : ∀ w ∈ wsL_law, w.before #[Value.ref b] s = true) (hown : s.vm.findClass RL = some m.cls) (hml : c.maxLocals = 4) (hK : h_K G s) (hX : va_X b 6 xs s s.heap) (hbl : b < s.heap.size) (hbA : ¬ x ≤ b) (htail : ∀ (H : Heap) (locs : List Loc) (ls : Array Slot), va_S (fun q => x ≤ q) s.heap H locs → lv_has ls 4 [(3, .int 0), (2, .ref (x + 169)), (1, .ref (x)), (0, .ref b)] → W p l e room_1 s m #[Value.ref b] below meth c H locs 600000 7302250 (lw_Z below #[Value.ref b] s) (F0 m 1273 ls [])) (F : Nat → Int32) (hF : ∀ j, j < 600 → F j = if j = 1 ∨ j = 16 then -1 else 0) (hcx : cw G x (wldV G x) H0) (hcm : cw G (x + 169) (modV G (x + 169) F) H0) (hS0 : va_S (fun q => x ≤ q) s.heap H0 locs) (hl : lv_has ls 4 [(3, .int 0), (2, .ref (x + 169)), (1, .ref (x)), (0, .ref b)]) : W p l e room_1 s m #[Value.ref b] below meth c H0 locs 600000 7302250 (lw_Z below #[Value.ref b] s) (F0 m 1260 ls []) := by
  obtain ⟨y1, hy1⟩ : ∃ y, xs 1 = y := ⟨_, rfl⟩
  obtain ⟨y2, hy2⟩ : ∃ y, xs 2 = y := ⟨_, rfl⟩
  obtain ⟨y3, hy3⟩ : ∃ y, xs 3 = y := ⟨_, rfl⟩
  obtain ⟨y4, hy4⟩ : ∃ y, xs 4 = y := ⟨_, rfl⟩
  obtain ⟨y5, hy5⟩ : ∃ y, xs 5 = y := ⟨_, rfl⟩
  refine lv_aload_n hx hb dL_law_1260 rfl (lv_at hl 2 rfl) ?_
  have hT0 : hT G (w_Y tF x) H0 := w_Y_T (ftF_W G x) hcx
  refine h_callVi (T := TX10) (rest := []) (As := []) hx hb hml hown hts hK hT0 (fun q hq => (w_Y_A q hq).1) hS0 (c_X10_gain l G (w_Y tF x) (x) (w_Y_w (t := tF) (x := x))) trivial wd_X10_gain wV_X10_gain wL_L_183 (on_w0 (w_Y_w (t := tF) (x := x))) rfl rfl hl.1 rfl (Nat.le_of_ble_eq_true rfl) dL_law_1261 ⟨Nat.le_of_ble_eq_true rfl, Nat.le_of_ble_eq_true rfl⟩ ⟨Nat.le_refl _, Nat.le_refl _⟩ (fun r1 H1 locs hp1 hT1 hS1 hk1 => ?_)
  have hp1 : r1 = 0 := hp1
  subst hp1
  have hcm := hcm.beyond hk1 (Nat.le_refl _)
  refine lv_aload_n hx hb dL_law_1264 rfl (lv_at hl 1 rfl) ?_
  have hT1 : hT G (m_Y tF (x + 169)) H1 := m_Y_T (fF_M G _ F hF) hcm
  refine h_callVi (T := TX11) (rest := [.int 0]) (As := []) hx hb hml hown hts hK hT1 (fun q hq => Nat.le_trans (Nat.le_add_right x 169) (m_Y_A q hq)) hS1 (c_X11_gain l G (m_Y tF (x + 169)) (x + 169) (m_Y_m (t := tF) (m := x + 169))) trivial wd_X11_gain wV_X11_gain wL_L_186 ((m_Y_m (t := tF) (m := x + 169)).o rfl) rfl rfl hl.1 rfl (Nat.le_of_ble_eq_true rfl) dL_law_1265 ⟨Nat.le_of_ble_eq_true rfl, Nat.le_of_ble_eq_true rfl⟩ ⟨Nat.le_refl _, Nat.le_refl _⟩ (fun r2 H2 locs hp2 hT2 hS2 hk2 => ?_)
  have hp2 : r2 = 0 := hp2
  subst hp2
  refine lv_icmp_eq (tgt := 1273) hx hb dL_law_1268 (by decide) (fun _ => ?_) (fun h => absurd (by decide) h)
  exact htail _ _ _ hS2 (lv_sub hl [0, 1, 2, 3] rfl)
