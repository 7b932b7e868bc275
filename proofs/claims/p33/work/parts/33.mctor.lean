/-- a constructor's contract, with what it says of the heap -/
def hJ (l : Launch) (y : MethodName) (cc : ByteArray) (mL fr lo mc ms : Nat) (G : hG) (a : Nat) (As : List Value) (d0 : va_E) (BP : Heap → Prop) : Prop :=
  Met l y (.code y cc mL none :: wsL_law) { frames := fr, cells := mc, slots := ms, locals := lo } (va_Pc (.ref a :: As) (fun U => U.heap.size = a + 1 ∧ va_at G.1 vwCl (a, d0) U.heap ∧ h_K G U ∧ c_N U ∧ h_Z G (fun q => a ≤ q) U)) (va_Qv (S := Unit) (fun _ => True) (fun _ t => BP t.heap) (fun q => a ≤ q)) mc ms (fun q => a ≤ q)
theorem hJ_blind {G : hG} {a : Nat} {As : List Value} {d0 : va_E} : FrameBlind (va_Pc (.ref a :: As) (fun U => U.heap.size = a + 1 ∧ va_at G.1 vwCl (a, d0) U.heap ∧ h_K G U ∧ c_N U ∧ h_Z G (fun q => a ≤ q) U)) := fun v U g mk q => by
  obtain ⟨q0, q1, q2, q3, q4, q5⟩ := q
  exact ⟨q0, q1, q2, h_K.moved (u := U) (U := U.calling g mk v) (Vm.Alike.refl U.vm) q3, c_N.same (s := U) (U := U.calling g mk v) rfl q4, q5.same (u := U) (U := U.calling g mk v) rfl rfl⟩
theorem hJ_of {l : Launch} {y : MethodName} {cc : ByteArray} {mL fr lo mc ms : Nat} {G : hG} {a : Nat} {As : List Value} {d0 : va_E} {BP : Heap → Prop} (hy : plainName y.cls = true) (hfit : (lg_sl (.ref a :: As)).length ≤ mL) (hni : y.name = "<init>")
    (body : ∀ (p : Program) (e : Env) (s : State) (m : MethodId) (args : Array Value) (below : List Frame) (meth : Method) (c : Code) (H : Heap) (ls : Array Slot) (Q : State → Prop), p.tables.exec = Jvm.exec → c.code = cc → (∀ w ∈ wsL_law, w.before args s = true) → s.vm.findClass y.cls = some m.cls → c.maxLocals = mL → meth.name = "<init>" → h_K G s → c_N s → h_Z G (fun q => a ≤ q) s → s.heap.size = a + 1 → H.size = a + 1 → va_at G.1 vwCl (a, d0) H → va_S (fun q => a ≤ q) s.heap H [] → lv_has ls mL (lv_args 0 (.ref a :: As)) →
      (∀ (H1 : Heap) (locs : List Loc) (pc : Nat) (ls : Array Slot), BP H1 → va_S (fun q => a ≤ q) s.heap H1 locs → decode cc pc = .ok (.return_, 1) → W p l e { frames := fr, cells := mc, slots := ms, locals := lo } s m args below meth c H1 locs mc ms Q (F0 m pc ls [])) →
      W p l e { frames := fr, cells := mc, slots := ms, locals := lo } s m args below meth c H [] 0 0 Q (F0 m 0 ls [])) : hJ l y cc mL fr lo mc ms G a As d0 BP := by
  refine Met.ofW (cc := cc) (maxL := mL) (ret := none) hy rfl ?_
  intro p e s m args below meth c s₁ B hml hv
  obtain ⟨rfl, hz, ho, hK, hN, hZ⟩ := hv
  have hts := atoms_spec (ws := .code y cc mL none :: wsL_law) B.pre
  have hin : meth.name = "<init>" := (name_of_methodNamed B.named B.method).1.trans hni
  have hl := lv_entry (.ref a :: As) (n := mL) hfit
  rw [lg_entry_eq]
  generalize (lg_sl (.ref a :: As) ++ List.replicate (mL - (lg_sl (.ref a :: As)).length) Slot.unset).toArray = ls at hl ⊢
  exact body p e s m _ below meth c s.heap ls _ B.exec B.bytes (fun w hw => hts w (List.mem_cons_of_mem _ hw)) (findClass_of_methodNamed B.named) hml hin hK hN hZ hz hz ho va_S.rf hl
    (fun H1 locs pc ls hc1 hS1 hdg => W.vret B.exec B.bytes B.returns (fun t ht hW => ⟨⟨(), rfl, trivial, (by show BP t.heap; rw [ht]; exact hc1)⟩, hS1.F ht⟩) hS1.2.2 hdg B.notSynchronized)

section CJ
variable {p : Program} {l : Launch} {e : Env} {R : Room} {s : State} {m : MethodId} {args : Array Value} {below : List Frame} {meth : Method} {c : Code} {H : Heap} {locs : List Loc} {cells slots : Nat} {Q : State → Prop}
variable {cc : ByteArray} {pc nL : Nat} {ls : Array Slot} {rest st0 As : List Value} {G : hG} {A : Nat → Prop} {a : Nat} {H0 : Heap} {own : String} {index : Nat}
variable {y : MethodName} {bytes : ByteArray} {maxL fr lo n mc ms : Nat} {d0 : va_E} {BP : Heap → Prop}
theorem c_callJ (hx : p.tables.exec = Jvm.exec) (hb : c.code = cc) (hml : c.maxLocals = nL) (hown : s.vm.findClass own = some m.cls) (hts : ∀ w ∈ wsL_law, w.before args s = true) (hK : h_K G s) (hN : c_N s) (hZ : h_Z G A s) (hA : ∀ q, a ≤ q → A q) (hS : va_S A s.heap H locs)
    (hM : hJ l y bytes maxL fr lo mc ms G a As d0 BP) (hz : H.size = a + 1) (ho : va_at G.1 vwCl (a, d0) H) (hw : h_wd y bytes maxL none n) (hni : y.name = "<init>") (hinst : Cond.instanceMethod y ∈ wsL_law) (hlink : Cond.methodLink own index y ∈ wsL_law) (hn : As.length = n) (hls : ls.size = nL) (hst : st0 = As.reverse ++ .ref a :: rest) (hroom : (rest.map fun v => v.category).sum ≤ 8) (hdg : decode cc pc = .ok (.invokespecial index, 3)) (hR : fr + 1 ≤ R.frames ∧ 8 + (maxL + 11) + lo ≤ R.locals) (hf : cells + mc ≤ R.cells ∧ slots + ms ≤ R.slots)
    (kk : ∀ (H1 : Heap) (locs1 : List Loc), BP H1 → (∀ q : Nat, q < a → H1[q]? = H[q]?) → va_S A s.heap H1 locs1 → W p l e R s m args below meth c H1 locs1 (cells + mc) (slots + ms) Q (F0 m (pc + 3) ls rest)) : W p l e R s m args below meth c H locs cells slots Q (F0 m pc ls st0) := by
  refine va_callv (va_runI (As := As) (rest := rest) (n := n) (b := a) ⟨hx, hb, hml, hown, hts⟩ hM (cwI n hts (h_ws hw) rfl rfl rfl (hts _ hw.1.2) (hts _ hlink) (hts _ hinst) hni hw.2 hR) ⟨hJ_blind, fun U hU hW => ⟨rfl, by rw [hU]; exact hz, by rw [hU]; exact ho, hK.moved hW.alike, hN.warm hW, hZ.to hA hS hU hW⟩⟩ rfl hn hls hst (lv_room hroom) hdg hf) hS (fun q _ h => hA q h) (fun q h => hA q h) (fun u t H1 locs1 ht hvm hp hB hzz hk hS1 => ?_)
  have hB : BP t.heap := hB
  rw [ht] at hB
  exact kk H1 locs1 hB (fun q hq => hk q (by omega) (by omega)) hS1
end CJ
set_option maxHeartbeats 4000000 in
set_option maxRecDepth 100000 in
theorem k_X11_init (l : Launch) (G : hG) (a : Nat) : hJ l yX11_init cX11_init 1 2 43 6 4752 G a [] (.inr (11, [.null, .int 0, .int 0, .int 0, .int 0, .int 0, .int 0, .null, .null, .null, .int 0, .int 0, .int 0, .int 0, .int 0, .int 0, .int 0, .int 0, .int 0, .int 0, .int 0, .null, .null])) (fun H => hT G (m_Y (tM (fun v => v = 0)) a) H ∧ mR a H) := by
  refine hJ_of (by decide +kernel) (Nat.le_of_ble_eq_true rfl) rfl ?_
  intro p e s m args below meth c H0 ls Q hx hb hts hown hml hin hK hN hZ hs0 hz0 g0 hS0 hl hret
  have hl : lv_has ls 1 [(0, .ref a)] := hl
  refine lv_aload_n hx hb dX11_init_0 rfl (lv_at hl 0 rfl) ?_
  refine W.objInit hx hb hown (hts _ wL_X11_1) (hts _ wOi) (hts _ wOc) rfl (by rw [hml]; exact hl.1) rfl dX11_init_1 (Nat.le_of_ble_eq_true rfl) (Nat.le_of_ble_eq_true rfl) ?_
  refine W.eq (g2 := F0 m 4 ls []) rfl ?_
  refine lv_aload_n hx hb dX11_init_4 rfl (lv_at hl 0 rfl) ?_
  refine lv_sipush (v := 3600) hx hb dX11_init_5 (by decide) ?_
  refine c_newa (atype := ArrayType.int) (a0 := (3600, .inl (fun _ => 0))) (N := 3600) hx hb hts wArr_int 0 (by decide) rfl hK hS0 rfl (by decide) (by decide) (Nat.le_of_ble_eq_true rfl) hz0 (Nat.le_of_ble_eq_true rfl) (Nat.le_of_ble_eq_true rfl) dX11_init_8 (fun H1 hz1 g1 oq1 hS1 => ?_)
  replace g0 := g0.kept (oq1 _ (Nat.lt_add_of_pos_right (Nat.le_of_ble_eq_true rfl)))
  clear oq1
  refine c_putF (C := RX11) (T := TX11) (N := 23) hx hb hts inX11 tyX11 tyX11_ok nmX11 hown hK g0 (Nat.le_refl _) hS1 rfl 0 (by decide) wF_X11_7 rfl rfl hin rfl rfl rfl (Nat.le_of_ble_eq_true rfl) dX11_init_10 (fun H2 locs hz2 g0n oq2 hS2 => ?_)
  replace hz2 : H2.size = a + 2 := hz2.trans hz1
  replace g0 : va_at G.1 vwCl (a, .inr (11, [.ref (a + 1), .int 0, .int 0, .int 0, .int 0, .int 0, .int 0, .null, .null, .null, .int 0, .int 0, .int 0, .int 0, .int 0, .int 0, .int 0, .int 0, .int 0, .int 0, .int 0, .null, .null])) H2 := g0n
  clear g0n
  replace g1 := g1.kept (oq2 _ (Nat.ne_of_gt (Nat.lt_add_of_pos_right (Nat.le_of_ble_eq_true rfl))))
  clear oq2 hz1 hS1
  refine lv_aload_n hx hb dX11_init_13 rfl (lv_at hl 0 rfl) ?_
  refine lv_sipush (v := 500) hx hb dX11_init_14 (by decide) ?_
  refine c_newa (atype := ArrayType.byte) (a0 := (500, .inl (fun _ => 0))) (N := 500) hx hb hts wArr_byte 1 (by decide) rfl hK hS2 rfl (by decide) (by decide) (Nat.le_of_ble_eq_true rfl) hz2 (Nat.le_of_ble_eq_true rfl) (Nat.le_of_ble_eq_true rfl) dX11_init_17 (fun H3 hz3 g2 oq3 hS3 => ?_)
  replace g0 := g0.kept (oq3 _ (Nat.lt_add_of_pos_right (Nat.le_of_ble_eq_true rfl)))
  replace g1 := g1.kept (oq3 _ (Nat.add_lt_add_left (n := 1) (m := 2) (Nat.le_of_ble_eq_true rfl) a))
  clear oq3 hz2 hS2
  refine c_putF (C := RX11) (T := TX11) (N := 23) hx hb hts inX11 tyX11 tyX11_ok nmX11 hown hK g0 (Nat.le_refl _) hS3 rfl 7 (by decide) wF_X11_13 rfl rfl hin rfl rfl rfl (Nat.le_of_ble_eq_true rfl) dX11_init_19 (fun H4 locs hz4 g0n oq4 hS4 => ?_)
  replace hz4 : H4.size = a + 3 := hz4.trans hz3
  replace g0 : va_at G.1 vwCl (a, .inr (11, [.ref (a + 1), .int 0, .int 0, .int 0, .int 0, .int 0, .int 0, .ref (a + 2), .null, .null, .int 0, .int 0, .int 0, .int 0, .int 0, .int 0, .int 0, .int 0, .int 0, .int 0, .int 0, .null, .null])) H4 := g0n
  clear g0n
  replace g1 := g1.kept (oq4 _ (Nat.ne_of_gt (Nat.lt_add_of_pos_right (Nat.le_of_ble_eq_true rfl))))
  replace g2 := g2.kept (oq4 _ (Nat.ne_of_gt (Nat.lt_add_of_pos_right (Nat.le_of_ble_eq_true rfl))))
  clear oq4 hz3 hS3
  refine lv_aload_n hx hb dX11_init_22 rfl (lv_at hl 0 rfl) ?_
  refine lv_sipush (v := 500) hx hb dX11_init_23 (by decide) ?_
  refine c_newa (atype := ArrayType.byte) (a0 := (500, .inl (fun _ => 0))) (N := 500) hx hb hts wArr_byte 1 (by decide) rfl hK hS4 rfl (by decide) (by decide) (Nat.le_of_ble_eq_true rfl) hz4 (Nat.le_of_ble_eq_true rfl) (Nat.le_of_ble_eq_true rfl) dX11_init_26 (fun H5 hz5 g3 oq5 hS5 => ?_)
  replace g0 := g0.kept (oq5 _ (Nat.lt_add_of_pos_right (Nat.le_of_ble_eq_true rfl)))
  replace g1 := g1.kept (oq5 _ (Nat.add_lt_add_left (n := 1) (m := 3) (Nat.le_of_ble_eq_true rfl) a))
  replace g2 := g2.kept (oq5 _ (Nat.add_lt_add_left (n := 2) (m := 3) (Nat.le_of_ble_eq_true rfl) a))
  clear oq5 hz4 hS4
  refine c_putF (C := RX11) (T := TX11) (N := 23) hx hb hts inX11 tyX11 tyX11_ok nmX11 hown hK g0 (Nat.le_refl _) hS5 rfl 8 (by decide) wF_X11_17 rfl rfl hin rfl rfl rfl (Nat.le_of_ble_eq_true rfl) dX11_init_28 (fun H6 locs hz6 g0n oq6 hS6 => ?_)
  replace hz6 : H6.size = a + 4 := hz6.trans hz5
  replace g0 : va_at G.1 vwCl (a, .inr (11, [.ref (a + 1), .int 0, .int 0, .int 0, .int 0, .int 0, .int 0, .ref (a + 2), .ref (a + 3), .null, .int 0, .int 0, .int 0, .int 0, .int 0, .int 0, .int 0, .int 0, .int 0, .int 0, .int 0, .null, .null])) H6 := g0n
  clear g0n
  replace g1 := g1.kept (oq6 _ (Nat.ne_of_gt (Nat.lt_add_of_pos_right (Nat.le_of_ble_eq_true rfl))))
  replace g2 := g2.kept (oq6 _ (Nat.ne_of_gt (Nat.lt_add_of_pos_right (Nat.le_of_ble_eq_true rfl))))
  replace g3 := g3.kept (oq6 _ (Nat.ne_of_gt (Nat.lt_add_of_pos_right (Nat.le_of_ble_eq_true rfl))))
  clear oq6 hz5 hS5
  refine lv_aload_n hx hb dX11_init_31 rfl (lv_at hl 0 rfl) ?_
  refine lv_bipush (v := 8) hx hb dX11_init_32 (by decide) ?_
  refine c_newa (atype := ArrayType.long) (a0 := (8, .inr (.inl (fun _ => 0)))) (N := 8) hx hb hts wArr_long 3 (by decide) rfl hK hS6 rfl (by decide) (by decide) (Nat.le_of_ble_eq_true rfl) hz6 (Nat.le_of_ble_eq_true rfl) (Nat.le_of_ble_eq_true rfl) dX11_init_34 (fun H7 hz7 g4 oq7 hS7 => ?_)
  replace g0 := g0.kept (oq7 _ (Nat.lt_add_of_pos_right (Nat.le_of_ble_eq_true rfl)))
  replace g1 := g1.kept (oq7 _ (Nat.add_lt_add_left (n := 1) (m := 4) (Nat.le_of_ble_eq_true rfl) a))
  replace g2 := g2.kept (oq7 _ (Nat.add_lt_add_left (n := 2) (m := 4) (Nat.le_of_ble_eq_true rfl) a))
  replace g3 := g3.kept (oq7 _ (Nat.add_lt_add_left (n := 3) (m := 4) (Nat.le_of_ble_eq_true rfl) a))
  clear oq7 hz6 hS6
  refine c_putF (C := RX11) (T := TX11) (N := 23) hx hb hts inX11 tyX11 tyX11_ok nmX11 hown hK g0 (Nat.le_refl _) hS7 rfl 9 (by decide) wF_X11_20 rfl rfl hin rfl rfl rfl (Nat.le_of_ble_eq_true rfl) dX11_init_36 (fun H8 locs hz8 g0n oq8 hS8 => ?_)
  replace hz8 : H8.size = a + 5 := hz8.trans hz7
  replace g0 : va_at G.1 vwCl (a, .inr (11, [.ref (a + 1), .int 0, .int 0, .int 0, .int 0, .int 0, .int 0, .ref (a + 2), .ref (a + 3), .ref (a + 4), .int 0, .int 0, .int 0, .int 0, .int 0, .int 0, .int 0, .int 0, .int 0, .int 0, .int 0, .null, .null])) H8 := g0n
  clear g0n
  replace g1 := g1.kept (oq8 _ (Nat.ne_of_gt (Nat.lt_add_of_pos_right (Nat.le_of_ble_eq_true rfl))))
  replace g2 := g2.kept (oq8 _ (Nat.ne_of_gt (Nat.lt_add_of_pos_right (Nat.le_of_ble_eq_true rfl))))
  replace g3 := g3.kept (oq8 _ (Nat.ne_of_gt (Nat.lt_add_of_pos_right (Nat.le_of_ble_eq_true rfl))))
  replace g4 := g4.kept (oq8 _ (Nat.ne_of_gt (Nat.lt_add_of_pos_right (Nat.le_of_ble_eq_true rfl))))
  clear oq8 hz7 hS7
  refine lv_aload_n hx hb dX11_init_39 rfl (lv_at hl 0 rfl) ?_
  refine lv_iconst (v := (-1)) hx hb dX11_init_40 (by decide) ?_
  refine c_put (C := RX11) (T := TX11) (N := 23) hx hb hts inX11 tyX11 tyX11_ok nmX11 hown hK g0 (Nat.le_refl _) hS8 rfl 17 (by decide) wF_X11_24 rfl rfl rfl rfl (Nat.le_of_ble_eq_true rfl) dX11_init_41 (fun H9 locs hz9 g0n oq9 hS9 => ?_)
  replace hz9 : H9.size = a + 5 := hz9.trans hz8
  replace g0 : va_at G.1 vwCl (a, .inr (11, [.ref (a + 1), .int 0, .int 0, .int 0, .int 0, .int 0, .int 0, .ref (a + 2), .ref (a + 3), .ref (a + 4), .int 0, .int 0, .int 0, .int 0, .int 0, .int 0, .int 0, .int (-1), .int 0, .int 0, .int 0, .null, .null])) H9 := g0n
  clear g0n
  replace g1 := g1.kept (oq9 _ (Nat.ne_of_gt (Nat.lt_add_of_pos_right (Nat.le_of_ble_eq_true rfl))))
  replace g2 := g2.kept (oq9 _ (Nat.ne_of_gt (Nat.lt_add_of_pos_right (Nat.le_of_ble_eq_true rfl))))
  replace g3 := g3.kept (oq9 _ (Nat.ne_of_gt (Nat.lt_add_of_pos_right (Nat.le_of_ble_eq_true rfl))))
  replace g4 := g4.kept (oq9 _ (Nat.ne_of_gt (Nat.lt_add_of_pos_right (Nat.le_of_ble_eq_true rfl))))
  clear oq9 hz8 hS8
  refine lv_aload_n hx hb dX11_init_44 rfl (lv_at hl 0 rfl) ?_
  refine lv_iconst (v := (-1)) hx hb dX11_init_45 (by decide) ?_
  refine c_put (C := RX11) (T := TX11) (N := 23) hx hb hts inX11 tyX11 tyX11_ok nmX11 hown hK g0 (Nat.le_refl _) hS9 rfl 18 (by decide) wF_X11_28 rfl rfl rfl rfl (Nat.le_of_ble_eq_true rfl) dX11_init_46 (fun H10 locs hz10 g0n oq10 hS10 => ?_)
  replace hz10 : H10.size = a + 5 := hz10.trans hz9
  replace g0 : va_at G.1 vwCl (a, .inr (11, [.ref (a + 1), .int 0, .int 0, .int 0, .int 0, .int 0, .int 0, .ref (a + 2), .ref (a + 3), .ref (a + 4), .int 0, .int 0, .int 0, .int 0, .int 0, .int 0, .int 0, .int (-1), .int (-1), .int 0, .int 0, .null, .null])) H10 := g0n
  clear g0n
  replace g1 := g1.kept (oq10 _ (Nat.ne_of_gt (Nat.lt_add_of_pos_right (Nat.le_of_ble_eq_true rfl))))
  replace g2 := g2.kept (oq10 _ (Nat.ne_of_gt (Nat.lt_add_of_pos_right (Nat.le_of_ble_eq_true rfl))))
  replace g3 := g3.kept (oq10 _ (Nat.ne_of_gt (Nat.lt_add_of_pos_right (Nat.le_of_ble_eq_true rfl))))
  replace g4 := g4.kept (oq10 _ (Nat.ne_of_gt (Nat.lt_add_of_pos_right (Nat.le_of_ble_eq_true rfl))))
  clear oq10 hz9 hS9
  refine lv_aload_n hx hb dX11_init_49 rfl (lv_at hl 0 rfl) ?_
  refine lv_bipush (v := 48) hx hb dX11_init_50 (by decide) ?_
  refine c_newa (atype := ArrayType.int) (a0 := (48, .inl (fun _ => 0))) (N := 48) hx hb hts wArr_int 0 (by decide) rfl hK hS10 rfl (by decide) (by decide) (Nat.le_of_ble_eq_true rfl) hz10 (Nat.le_of_ble_eq_true rfl) (Nat.le_of_ble_eq_true rfl) dX11_init_52 (fun H11 hz11 g5 oq11 hS11 => ?_)
  replace g0 := g0.kept (oq11 _ (Nat.lt_add_of_pos_right (Nat.le_of_ble_eq_true rfl)))
  replace g1 := g1.kept (oq11 _ (Nat.add_lt_add_left (n := 1) (m := 5) (Nat.le_of_ble_eq_true rfl) a))
  replace g2 := g2.kept (oq11 _ (Nat.add_lt_add_left (n := 2) (m := 5) (Nat.le_of_ble_eq_true rfl) a))
  replace g3 := g3.kept (oq11 _ (Nat.add_lt_add_left (n := 3) (m := 5) (Nat.le_of_ble_eq_true rfl) a))
  replace g4 := g4.kept (oq11 _ (Nat.add_lt_add_left (n := 4) (m := 5) (Nat.le_of_ble_eq_true rfl) a))
  clear oq11 hz10 hS10
  refine c_putF (C := RX11) (T := TX11) (N := 23) hx hb hts inX11 tyX11 tyX11_ok nmX11 hown hK g0 (Nat.le_refl _) hS11 rfl 21 (by decide) wF_X11_31 rfl rfl hin rfl rfl rfl (Nat.le_of_ble_eq_true rfl) dX11_init_54 (fun H12 locs hz12 g0n oq12 hS12 => ?_)
  replace hz12 : H12.size = a + 6 := hz12.trans hz11
  replace g0 : va_at G.1 vwCl (a, .inr (11, [.ref (a + 1), .int 0, .int 0, .int 0, .int 0, .int 0, .int 0, .ref (a + 2), .ref (a + 3), .ref (a + 4), .int 0, .int 0, .int 0, .int 0, .int 0, .int 0, .int 0, .int (-1), .int (-1), .int 0, .int 0, .ref (a + 5), .null])) H12 := g0n
  clear g0n
  replace g1 := g1.kept (oq12 _ (Nat.ne_of_gt (Nat.lt_add_of_pos_right (Nat.le_of_ble_eq_true rfl))))
  replace g2 := g2.kept (oq12 _ (Nat.ne_of_gt (Nat.lt_add_of_pos_right (Nat.le_of_ble_eq_true rfl))))
  replace g3 := g3.kept (oq12 _ (Nat.ne_of_gt (Nat.lt_add_of_pos_right (Nat.le_of_ble_eq_true rfl))))
  replace g4 := g4.kept (oq12 _ (Nat.ne_of_gt (Nat.lt_add_of_pos_right (Nat.le_of_ble_eq_true rfl))))
  replace g5 := g5.kept (oq12 _ (Nat.ne_of_gt (Nat.lt_add_of_pos_right (Nat.le_of_ble_eq_true rfl))))
  clear oq12 hz11 hS11
  refine lv_aload_n hx hb dX11_init_57 rfl (lv_at hl 0 rfl) ?_
  refine lv_bipush (v := 96) hx hb dX11_init_58 (by decide) ?_
  refine c_newa (atype := ArrayType.int) (a0 := (96, .inl (fun _ => 0))) (N := 96) hx hb hts wArr_int 0 (by decide) rfl hK hS12 rfl (by decide) (by decide) (Nat.le_of_ble_eq_true rfl) hz12 (Nat.le_of_ble_eq_true rfl) (Nat.le_of_ble_eq_true rfl) dX11_init_60 (fun H13 hz13 g6 oq13 hS13 => ?_)
  replace g0 := g0.kept (oq13 _ (Nat.lt_add_of_pos_right (Nat.le_of_ble_eq_true rfl)))
  replace g1 := g1.kept (oq13 _ (Nat.add_lt_add_left (n := 1) (m := 6) (Nat.le_of_ble_eq_true rfl) a))
  replace g2 := g2.kept (oq13 _ (Nat.add_lt_add_left (n := 2) (m := 6) (Nat.le_of_ble_eq_true rfl) a))
  replace g3 := g3.kept (oq13 _ (Nat.add_lt_add_left (n := 3) (m := 6) (Nat.le_of_ble_eq_true rfl) a))
  replace g4 := g4.kept (oq13 _ (Nat.add_lt_add_left (n := 4) (m := 6) (Nat.le_of_ble_eq_true rfl) a))
  replace g5 := g5.kept (oq13 _ (Nat.add_lt_add_left (n := 5) (m := 6) (Nat.le_of_ble_eq_true rfl) a))
  clear oq13 hz12 hS12
  refine c_putF (C := RX11) (T := TX11) (N := 23) hx hb hts inX11 tyX11 tyX11_ok nmX11 hown hK g0 (Nat.le_refl _) hS13 rfl 22 (by decide) wF_X11_34 rfl rfl hin rfl rfl rfl (Nat.le_of_ble_eq_true rfl) dX11_init_62 (fun H14 locs hz14 g0n oq14 hS14 => ?_)
  replace hz14 : H14.size = a + 7 := hz14.trans hz13
  replace g0 : va_at G.1 vwCl (a, .inr (11, [.ref (a + 1), .int 0, .int 0, .int 0, .int 0, .int 0, .int 0, .ref (a + 2), .ref (a + 3), .ref (a + 4), .int 0, .int 0, .int 0, .int 0, .int 0, .int 0, .int 0, .int (-1), .int (-1), .int 0, .int 0, .ref (a + 5), .ref (a + 6)])) H14 := g0n
  clear g0n
  replace g1 := g1.kept (oq14 _ (Nat.ne_of_gt (Nat.lt_add_of_pos_right (Nat.le_of_ble_eq_true rfl))))
  replace g2 := g2.kept (oq14 _ (Nat.ne_of_gt (Nat.lt_add_of_pos_right (Nat.le_of_ble_eq_true rfl))))
  replace g3 := g3.kept (oq14 _ (Nat.ne_of_gt (Nat.lt_add_of_pos_right (Nat.le_of_ble_eq_true rfl))))
  replace g4 := g4.kept (oq14 _ (Nat.ne_of_gt (Nat.lt_add_of_pos_right (Nat.le_of_ble_eq_true rfl))))
  replace g5 := g5.kept (oq14 _ (Nat.ne_of_gt (Nat.lt_add_of_pos_right (Nat.le_of_ble_eq_true rfl))))
  replace g6 := g6.kept (oq14 _ (Nat.ne_of_gt (Nat.lt_add_of_pos_right (Nat.le_of_ble_eq_true rfl))))
  clear oq14 hz13 hS13
  refine lv_aload_n hx hb dX11_init_65 rfl (lv_at hl 0 rfl) ?_
  have hcw : cw G a (modV G a (fun _ => 0)) H14 := (cw.app (n := 1) (cw.one g0) rfl (cw.app (n := 1) (cw.one g1) rfl (cw.app (n := 1) (cw.one g2) rfl (cw.app (n := 1) (cw.one g3) rfl (cw.app (n := 1) (cw.one g4) rfl (cw.app (n := 1) (cw.one g5) rfl (cw.one g6)))))))
  have hT0 : hT G (m_Y (tM (fun v => v = 0)) a) H14 := m_Y_T (fC_M G a) hcw
  refine h_callVv (T := TX11) (rest := []) (As := []) hx hb hml hown hts hK hT0 hZ (fun q hq => m_Y_A q hq) hS14 (c_X11_begins l G (m_Y (tM (fun v => v = 0)) a) _ a m_Y_m) trivial wd_X11_begins wV_X11_begins wL_X11_37 (m_Y_m.o rfl) rfl rfl hl.1 rfl (Nat.le_of_ble_eq_true rfl) dX11_init_66 ⟨Nat.le_of_ble_eq_true rfl, Nat.le_of_ble_eq_true rfl⟩ ⟨Nat.le_of_ble_eq_true rfl, Nat.le_of_ble_eq_true rfl⟩ (fun Hb locs hp hTb hSb hk => ?_)
  exact hret _ _ _ _ ⟨hTb, hp.2.1⟩ hSb dX11_init_69
