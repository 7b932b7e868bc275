/-! methods of a class that has native rows beside them (Math) -/
theorem h_MetF {l : Launch} {y : MethodName} {ws ws' : List Cond} {rm : Room} {Pc : Array Value → State → Prop} {Qc : Array Value → State → Outcome → State → Prop} {mc ms : Nat} {free : Addr → Prop} {cc : ByteArray} {maxL : Nat} {ret : Option FieldType}
    (hy : plainFor y = true) (hw : ws = Cond.code y cc maxL ret :: ws')
    (body : ∀ p e s m args below meth c s₁, BodyLoose p l y (headSpec ws rm) cc maxL ret e s m args below meth c s₁ → c.maxLocals = maxL → Pc args s →
      W p l e (headSpec ws rm).room s m args below meth c s.heap [] 0 0 (MQ below Qc args s mc ms free) (entryFrame m args maxL)) : Met l y ws rm Pc Qc mc ms free := by
  refine MetFree.of_bodySF (code := cc) (maxLocals := maxL) (ret := ret) hy ?_ ?_
  · intro args s m h hn
    obtain ⟨meth, c, h1, h2, h3, h4, h5, h6, -, -⟩ := Cond.code_spec hn (atoms_spec (ws := ws) h _ (by rw [hw]; exact List.mem_cons_self))
    exact ⟨meth, c, h1, h2, h3, h4, h5, h6⟩
  · intro p e s m args below meth c s₁ B hml hP _
    have hh0 : s₁.heap = s.heap := by rw [B.state]; rfl
    obtain ⟨t, a1, o, b1, b2, b3⟩ := body p e s m args below meth c s₁ B hml hP s₁ hh0 (Stand.of_body B)
    exact ⟨t, o, a1, b1, b2, ⟨b3.1, b3.2⟩⟩
section HF
variable {l : Launch} {y : MethodName} {cc : ByteArray} {mL fr lo : Nat} {G : hG} {Y : hW} {av : List Value} {Pr : Heap → Prop}
theorem h_ofiF {Po : Heap → Int32 → Heap → Prop} (hy : plainFor y = true) (hfit : (lg_sl av).length ≤ mL)
    (body : ∀ (p : Program) (e : Env) (s : State) (m : MethodId) (args : Array Value) (below : List Frame) (meth : Method) (c : Code) (H : Heap) (ls : Array Slot) (Q : State → Prop), p.tables.exec = Jvm.exec → c.code = cc → (∀ w ∈ wsL_law, w.before args s = true) → s.vm.findClass y.cls = some m.cls → c.maxLocals = mL → h_K G s → h_Z G (h_A Y) s → hT G Y H → Pr H → va_S (h_A Y) s.heap H [] → lv_has ls mL (lv_args 0 av) →
      (∀ (H1 : Heap) (locs : List Loc) (pc : Nat) (ls : Array Slot) (x : Int32), hT G Y H1 → va_S (h_A Y) s.heap H1 locs → Po H x H1 → decode cc pc = .ok (.ireturn, 1) → W p l e (h_rm fr lo) s m args below meth c H1 locs 0 0 Q (F0 m pc ls [.int x])) →
      W p l e (h_rm fr lo) s m args below meth c H [] 0 0 Q (F0 m 0 ls [])) : hMi l y cc mL (some .int) fr lo G Y av Pr Po := by
  intro H0 hpr
  refine h_MetF (cc := cc) (maxL := mL) (ret := some .int) hy rfl ?_
  intro p e s m args below meth c s₁ B hml hv
  obtain ⟨rfl, hh, hT0, hK, hZ⟩ := hv
  have hts := atoms_spec (ws := .code y cc mL (some .int) :: wsL_law) B.pre
  subst hh
  have hl := lv_entry av (n := mL) hfit
  rw [lg_entry_eq]
  generalize (lg_sl av ++ List.replicate (mL - (lg_sl av).length) Slot.unset).toArray = ls at hl ⊢
  exact body p e s m av.toArray below meth c s.heap ls _ B.exec B.bytes (fun w hw => hts w (List.mem_cons_of_mem _ hw)) (findClass_of_methodNamed B.named) hml hK hZ hT0 hpr va_S.rf hl
    (fun H1 locs pc ls x hT1 hS1 hp hdg => W.iret B.exec B.bytes B.returns (fun t ht hW => ⟨⟨x, H1, rfl, ⟨hp, hT1⟩, ht⟩, hS1.F ht⟩) hS1.2.2 hdg B.notSynchronized)
end HF
