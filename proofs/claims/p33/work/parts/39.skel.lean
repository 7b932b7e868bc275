/-! THE CLAIM OUT OF ONE WALK OF THE LAW'S BODY. Your part is whole_start (and what it stands on); all else here is the same for every law, but numbers. -/
def R_law : String := "RankedRingLaw"
def lw_P (b : Addr) (xs : List Int32) (args : Array Value) (s : State) : Prop := args = #[.ref b] ∧ s.IntsAt b xs ∧ xs.length ≤ 3072 ∧ (Jvm.Cond.and given_1 narrow_1).before args s = true
def lw_Q (_ : Array Value) (s : State) (o : Outcome) (t : State) : Prop := o = .returned (some (.int 1)) ∧ Framed s o t [] 600000 7302250
def lw_Z (below : List Frame) (a : Array Value) (s : State) : State → Prop := fun t => ∃ o, t.status = .running ∧ Ended t below o ∧ lw_Q a s o t
/-- the law's own end, with 1 on the stack, nothing written that was there before, its room as the claim has it -/
theorem lw_ret {p : Program} {l : Launch} {e : Env} {s : State} {m : MethodId} {below : List Frame} {meth : Method} {c : Code} {b : Nat} (hx : p.tables.exec = Jvm.exec) (hb : c.code = code) (hr : meth.sig.returnType = ret) (hlocks : meth.locks = false) {pc : Nat} {H : Heap} {ls : Array Slot} (hdg : decode code pc = .ok (.ireturn, 1)) : W p l e room_1 s m #[Value.ref b] below meth c H [] 600000 7302250 (lw_Z below #[Value.ref b] s) (F0 m pc ls [.int 1]) := by
  intro T hT X
  obtain ⟨fs, hret, hrun, hended, hW, hframe⟩ := X.leave (v := some (.int 1)) (hlocks := hlocks) (fun h => by rw [hr] at h; cases h)
  have hmeth' : T.vm.method? m = some meth := X.method'
  refine ⟨T.setFrames fs, ?_, .returned (some (.int 1)), hrun, hended, rfl, ⟨_, rfl⟩, hW, hframe⟩
  jvm_step X.here [X.here.top, hx, hb, hdg, hmeth', hr, ret, narrow_b1]
  (try refine ⟨rfl, ?_⟩); (try refine ⟨rfl, ?_⟩)
  first | (intro acts; rw [hret _ acts rfl rfl rfl]) | rw [hret _ _ rfl rfl rfl]
  exact Steps.refl _
/-- what holds at the law's entry: the machine, the code, the tables' words (any of lw_tbl by 'hts w (by decide +kernel)'), the script of L ints xs at the cell b, what the Statement gives of the start (any of its parts by flat_of_before) -/
def lw_At (p : Program) (s : State) (m : MethodId) (meth : Method) (c : Code) (b L : Nat) (xs : Nat → Int32) : Prop :=
  p.tables.exec = Jvm.exec ∧ c.code = code ∧ meth.sig.returnType = ret ∧ c.maxLocals = 4 ∧ s.vm.findClass R_law = some m.cls ∧ (∀ w ∈ lw_tbl, w.before #[Value.ref b] s = true) ∧ va_X b L xs s s.heap ∧ b < s.heap.size ∧ meth.locks = false ∧ (Jvm.Cond.and given_1 narrow_1).before #[Value.ref b] s = true

def w_Y (t : hTb) (x : Nat) : hW := fun q => if x ≤ q ∧ q < x + 169 then (wldE t x)[q - x]? else none
theorem w_Y_w {t : hTb} {x : Nat} : h_On (w_Y t x) x (wldE t x) := fun i e hi => by
  have := (List.getElem?_eq_some_iff.mp hi).1
  rw [wldE_len] at this
  unfold w_Y
  rw [if_pos (by omega), Nat.add_sub_cancel_left]
  exact hi
theorem w_Y_T {G : hG} {t : hTb} {x : Nat} {V : List va_E} {H : Heap} (hV : c_all G V (wldE t x)) (h1 : cw G x V H) : hT G (w_Y t x) H := by
  intro q e hq
  unfold w_Y at hq
  by_cases c1 : x ≤ q ∧ q < x + 169
  · rw [if_pos c1] at hq
    have := hV.on h1 _ e hq
    rwa [show x + (q - x) = q by omega] at this
  · rw [if_neg c1] at hq
    cases hq
theorem w_Y_A {t : hTb} {x : Nat} : ∀ q, h_A (w_Y t x) q → x ≤ q ∧ q < x + 169 := by
  intro q ⟨e, hq⟩
  unfold w_Y at hq
  by_cases c1 : x ≤ q ∧ q < x + 169
  · exact c1
  · rw [if_neg c1] at hq
    cases hq
theorem cw.beyond {G : hG} {t : hTb} {x b : Nat} {L : List va_E} {H H1 : Heap} (h : cw G b L H) (hk : ∀ q : Nat, q < H.size → ¬ h_A (w_Y t x) q → H1[q]? = H[q]?) (hb : x + 169 ≤ b) : cw G b L H1 := fun i e hi => by
  have := h i e hi
  refine this.kept (hk _ this.lt (fun ha => ?_))
  have := w_Y_A _ ha
  show False
  have h2 : (b + i : Nat) < x + 169 := this.2
  omega
theorem h_Kt {A : Array Value} {U : State} {ty : FieldType} (h : (Cond.arrayClass ty).before A U = true) : ∃ cA : ClassId, ArrOfT U cA ty ∧ U.vm.findClass ("[" ++ ty.toString) = some cA := by
  obtain ⟨c, k, comp, h1, h2, h3⟩ := Cond.arrayClass_spec h
  exact ⟨c, fun n z => ⟨fun q hq => (by cases hq), k, h2, comp, h3⟩, h1⟩
theorem h_Ko {U : State} {C : String} (h : va_AO C U) : ∃ cA : ClassId, ArrOfT U cA (.object C) ∧ va_RA U cA (.object C) := by
  obtain ⟨comp, c, k, h1, -, h3, h4, h5⟩ := Cond.arrayOver_spec h
  exact ⟨c, fun n z => ⟨fun q hq => (by cases hq), k, h3, comp, h4⟩, k, comp, h3, h4, h1, h5⟩
theorem wldE_tl (P P1 : Int32 → Prop) (x : Nat) : (wldE (tC P) x).tail = (wldE (tC P1) x).tail := rfl
theorem modE_tl (P P1 : Int32 → Prop) (m : Nat) : (modE (tM P) m).tail = (modE (tM P1) m).tail := rfl
theorem l_tail {A : Type} {L M : List A} (h : L.tail = M.tail) {i : Nat} (hi : 0 < i) : L[i]? = M[i]? := by
  obtain ⟨j, rfl⟩ : ∃ j, i = j + 1 := ⟨i - 1, by omega⟩
  rw [← List.getElem?_tail, ← List.getElem?_tail, h]
theorem w_swap {G : hG} {P P1 : Int32 → Prop} {x : Nat} {H : Heap} (h : hT G (w_Y (tC P) x) H) (hp : P1 (h_gi G H 10 x 7)) : hT G (w_Y (tC P1) x) H := by
  intro q e hq
  by_cases c : q = x
  · subst c
    have e0 : w_Y (tC P) q q = some (rrE (tC P) q) := w_Y_w.o rfl
    have e1 : w_Y (tC P1) q q = some (rrE (tC P1) q) := w_Y_w.o rfl
    have g7 := (h.gi e0 7 rfl).2
    obtain ⟨r, V, h1, h2, h3⟩ := h q _ e0
    rw [e1] at hq
    cases hq
    obtain ⟨hk7, x7, hx7, -⟩ := h3 7 _ rfl
    obtain ⟨cell, q1, q2, q3, q4⟩ := h2
    have e7 : h_gi G H 10 q 7 = x7 := by unfold h_gi; rw [h_gv_eq q1 (q4 7 hk7), hx7]; rfl
    refine ⟨r, V, h1, ⟨cell, q1, q2, q3, q4⟩, fun k f hk => ?_⟩
    match k, hk with
    | 0, hk => cases hk; exact h3 0 _ rfl
    | 1, hk => cases hk; exact h3 1 _ rfl
    | 2, hk => cases hk; exact h3 2 _ rfl
    | 3, hk => cases hk; exact h3 3 _ rfl
    | 4, hk => cases hk; exact h3 4 _ rfl
    | 5, hk => cases hk; exact h3 5 _ rfl
    | 6, hk => cases hk; exact h3 6 _ rfl
    | 7, hk => cases hk; exact ⟨hk7, x7, hx7, by rw [← e7]; exact hp⟩
    | 8, hk => cases hk; exact h3 8 _ rfl
    | k + 9, hk => simp at hk
  · refine h q e ?_
    unfold w_Y at hq ⊢
    by_cases c1 : x ≤ q ∧ q < x + 169
    · rw [if_pos c1] at hq ⊢
      rw [l_tail (wldE_tl P P1 x) (by omega)]; exact hq
    · rw [if_neg c1] at hq; cases hq
theorem m_swap {G : hG} {P P1 : Int32 → Prop} {m : Nat} {H : Heap} (h : hT G (m_Y (tM P) m) H) (hp : P1 (h_gi G H 11 m 2)) : hT G (m_Y (tM P1) m) H := by
  intro q e hq
  by_cases c : q = m
  · subst c
    have e0 := (m_Y_m (t := tM P) (m := q)).o rfl
    have e1 := (m_Y_m (t := tM P1) (m := q)).o rfl
    obtain ⟨r, V, h1, h2, h3⟩ := h q _ e0
    rw [e1] at hq
    cases hq
    obtain ⟨hk2, x2, hx2, -⟩ := h3 2 _ rfl
    obtain ⟨cell, q1, q2, q3, q4⟩ := h2
    have e2 : h_gi G H 11 q 2 = x2 := by unfold h_gi; rw [h_gv_eq q1 (q4 2 hk2), hx2]; rfl
    refine ⟨r, V, h1, ⟨cell, q1, q2, q3, q4⟩, fun k f hk => ?_⟩
    match k, hk with
    | 0, hk => cases hk; exact h3 0 _ rfl
    | 1, hk => cases hk; exact h3 1 _ rfl
    | 2, hk => cases hk; exact ⟨hk2, x2, hx2, by rw [← e2]; exact hp⟩
    | 3, hk => cases hk; exact h3 3 _ rfl
    | 4, hk => cases hk; exact h3 4 _ rfl
    | 5, hk => cases hk; exact h3 5 _ rfl
    | 6, hk => cases hk; exact h3 6 _ rfl
    | 7, hk => cases hk; exact h3 7 _ rfl
    | 8, hk => cases hk; exact h3 8 _ rfl
    | 9, hk => cases hk; exact h3 9 _ rfl
    | 10, hk => cases hk; exact h3 10 _ rfl
    | 11, hk => cases hk; exact h3 11 _ rfl
    | 12, hk => cases hk; exact h3 12 _ rfl
    | 13, hk => cases hk; exact h3 13 _ rfl
    | 14, hk => cases hk; exact h3 14 _ rfl
    | 15, hk => cases hk; exact h3 15 _ rfl
    | 16, hk => cases hk; exact h3 16 _ rfl
    | 17, hk => cases hk; exact h3 17 _ rfl
    | 18, hk => cases hk; exact h3 18 _ rfl
    | 19, hk => cases hk; exact h3 19 _ rfl
    | 20, hk => cases hk; exact h3 20 _ rfl
    | 21, hk => cases hk; exact h3 21 _ rfl
    | 22, hk => cases hk; exact h3 22 _ rfl
    | k + 23, hk => simp at hk
  · refine h q e ?_
    unfold m_Y at hq ⊢
    by_cases c1 : m ≤ q ∧ q < m + 7
    · rw [if_pos c1] at hq ⊢
      rw [l_tail (modE_tl P P1 m) (by omega)]; exact hq
    · rw [if_neg c1] at hq; cases hq
theorem h_at.lt {G : hG} {a : Nat} {e : hE} {H : Heap} (h : h_at G a e H) : a < H.size := by
  cases e with
  | inl o => obtain ⟨r, V, h1, ⟨cell, q1, -⟩, h3⟩ := h; exact (Array.getElem?_eq_some_iff.mp q1).1
  | inr o => obtain ⟨V, h1, h2⟩ := h; exact (Array.getElem?_eq_some_iff.mp h1).1
theorem m_in {t : hTb} {m q : Nat} (h1 : m ≤ q) (h2 : q < m + 7) : ∃ e, m_Y t m q = some e := by
  have hl : q - m < (modE t m).length := by show q - m < 7; omega
  exact ⟨(modE t m)[q - m], by unfold m_Y; rw [if_pos ⟨h1, h2⟩]; exact List.getElem?_eq_getElem hl⟩
theorem w_in {t : hTb} {x q : Nat} (h1 : x ≤ q) (h2 : q < x + 169) : ∃ e, w_Y t x q = some e := by
  have hl : q - x < (wldE t x).length := by rw [wldE_len]; omega
  exact ⟨(wldE t x)[q - x], by unfold w_Y; rw [if_pos ⟨h1, h2⟩]; exact List.getElem?_eq_getElem hl⟩
section LK
variable {G : hG} {t t1 : hTb} {x m : Nat} {H H1 : Heap}
/-- a call of the class leaves the reference's cells, and the other way -/
theorem m_keep (h : hT G (m_Y t m) H) (hk : ∀ q : Nat, q < H.size → ¬ h_A (w_Y t1 x) q → H1[q]? = H[q]?) (hm : x + 169 ≤ m) (q : Nat) (h1 : m ≤ q) (h2 : q < m + 7) : H1[q]? = H[q]? := by
  obtain ⟨e, he⟩ := m_in (t := t) h1 h2
  refine hk q (h q e he).lt (fun ha => ?_)
  have := w_Y_A _ ha
  omega
theorem w_keep (h : hT G (w_Y t x) H) (hk : ∀ q : Nat, q < H.size → ¬ h_A (m_Y t1 m) q → H1[q]? = H[q]?) (hm : x + 169 ≤ m) (q : Nat) (h1 : x ≤ q) (h2 : q < x + 169) : H1[q]? = H[q]? := by
  obtain ⟨e, he⟩ := w_in (t := t) h1 h2
  refine hk q (h q e he).lt (fun ha => ?_)
  have := m_Y_A _ ha
  omega
theorem m_Y_B : ∀ q, h_A (m_Y t m) q → m ≤ q ∧ q < m + 7 := by
  intro q ⟨e, hq⟩
  unfold m_Y at hq
  by_cases c2 : m ≤ q ∧ q < m + 7
  · exact c2
  · rw [if_neg c2] at hq
    cases hq
theorem m_hold (h : hT G (m_Y t m) H) (e : ∀ q : Nat, m ≤ q → q < m + 7 → H1[q]? = H[q]?) : hT G (m_Y t m) H1 := fun q e1 hq => (h q e1 hq).kept (e q (m_Y_B q ⟨e1, hq⟩).1 (m_Y_B q ⟨e1, hq⟩).2)
theorem w_hold (h : hT G (w_Y t x) H) (e : ∀ q : Nat, x ≤ q → q < x + 169 → H1[q]? = H[q]?) : hT G (w_Y t x) H1 := fun q e1 hq => (h q e1 hq).kept (e q (w_Y_A q ⟨e1, hq⟩).1 (w_Y_A q ⟨e1, hq⟩).2)
end LK
/-- what holds between two calls: so many marks, both objects fit, the reference's cells and its marks' -/
def lwI (G : hG) (x k : Nat) (H : Heap) : Prop := k ≤ 4 ∧ hT G (w_Y (tC (fun v => v = nI k)) x) H ∧ hT G (m_Y (tM (fun v => v = nI k)) (x + 169)) H ∧ mR (x + 169) H ∧ ∀ i : Nat, i < k → mRa (x + 169) H (600 * (i + 2))
section LI
variable {G : hG} {x k : Nat} {H H1 H2 : Heap}
theorem lwI.C (h : lwI G x k H) (h1 : hT G (w_Y (tC (fun v => v = nI k)) x) H1) (hk : ∀ q : Nat, q < H.size → ¬ h_A (w_Y (tC (fun v => v = nI k)) x) q → H1[q]? = H[q]?) : lwI G x k H1 := by
  obtain ⟨a, -, b, c, d⟩ := h
  have e := m_keep b hk (Nat.le_refl _)
  have e1 := e (x + 169 + 1) (by omega) (by omega)
  exact ⟨a, h1, m_hold b e, c.same e1, fun i hi => (d i hi).kept (fun j _ => h_ai_same e1)⟩
theorem lwI.M (h : lwI G x k H) (h1 : hT G (m_Y (tM (fun v => v = nI k)) (x + 169)) H1) (hR : mR (x + 169) H1) (hV : mV (x + 169) H H1) (hk : ∀ q : Nat, q < H.size → ¬ h_A (m_Y (tM (fun v => v = nI k)) (x + 169)) q → H1[q]? = H[q]?) : lwI G x k H1 := by
  obtain ⟨a, b, -, c, d⟩ := h
  exact ⟨a, w_hold b (w_keep b hk (Nat.le_refl _)), h1, hR, fun i hi => (d i hi).kept (fun j hj => hV _ (by omega))⟩
theorem lwI.cntC (h : lwI G x k H) : h_gi G H 10 x 7 = nI k := (h.2.1.gi (a := x) (w_Y_w.o rfl) 7 rfl).1
theorem lwI.cntM (h : lwI G x k H) : h_gi G H 11 (x + 169) 2 = nI k := (h.2.2.1.gi (a := x + 169) (m_Y_m.o rfl) 2 rfl).1
theorem lwI.wT (h : lwI G x k H) : hT G (w_Y (tC (fun _ => True)) x) H := w_swap h.2.1 trivial
/-- the reference's side stands behind a call of the class -/
theorem lwI.side (h : lwI G x k H) (hk : ∀ q : Nat, q < H.size → ¬ h_A (w_Y (tC (fun _ => True)) x) q → H1[q]? = H[q]?) : ∀ q : Nat, x + 169 ≤ q → q < x + 169 + 7 → H1[q]? = H[q]? := m_keep h.2.2.1 hk (Nat.le_refl _)
theorem lwI.mT (h : lwI G x k H) (e : ∀ q : Nat, x + 169 ≤ q → q < x + 169 + 7 → H1[q]? = H[q]?) : hT G (m_Y (tM (fun _ => True)) (x + 169)) H1 := m_hold (m_swap h.2.2.1 trivial) e
theorem lwI.mC (h : lwI G x k H) (e : ∀ q : Nat, x + 169 ≤ q → q < x + 169 + 7 → H1[q]? = H[q]?) : h_gi G H1 11 (x + 169) 2 = nI k := (h_gi_same (e (x + 169) (by omega) (by omega))).trans h.cntM
theorem lwI.mR1 (h : lwI G x k H) (e : ∀ q : Nat, x + 169 ≤ q → q < x + 169 + 7 → H1[q]? = H[q]?) : mR (x + 169) H1 := h.2.2.2.1.same (e (x + 169 + 1) (by omega) (by omega))
theorem lwI.mA (h : lwI G x k H) (e : ∀ q : Nat, x + 169 ≤ q → q < x + 169 + 7 → H1[q]? = H[q]?) {i : Nat} (hi : i < k) : mRa (x + 169) H1 (600 * (i + 2)) := (h.2.2.2.2 i hi).kept (fun j _ => h_ai_same (e (x + 169 + 1) (by omega) (by omega)))
theorem lwI.mk (k' : Nat) (hk' : k' ≤ 4) (h1 : hT G (w_Y (tC (fun _ => True)) x) H1) (hc : h_gi G H1 10 x 7 = nI k') (hk2 : ∀ q : Nat, q < H1.size → ¬ h_A (m_Y (tM (fun _ => True)) (x + 169)) q → H2[q]? = H1[q]?)
    (h2 : hT G (m_Y (tM (fun _ => True)) (x + 169)) H2) (hm : h_gi G H2 11 (x + 169) 2 = nI k') (hR : mR (x + 169) H2) (hA : ∀ i : Nat, i < k' → mRa (x + 169) H2 (600 * (i + 2))) : lwI G x k' H2 := by
  have e := w_keep h1 hk2 (Nat.le_refl _)
  refine ⟨hk', w_swap (w_hold h1 e) ?_, m_swap h2 hm, hR, hA⟩
  rw [h_gi_same (e x (by omega) (by omega))]; exact hc
/-- a mark more -/
theorem lwI.mark (h : lwI G x k H) (hk4 : k < 4) (hk1 : ∀ q : Nat, q < H.size → ¬ h_A (w_Y (tC (fun _ => True)) x) q → H1[q]? = H[q]?) (h1 : hT G (w_Y (tC (fun _ => True)) x) H1) (hc : h_gi G H1 10 x 7 = nI (k + 1)) (hk2 : ∀ q : Nat, q < H1.size → ¬ h_A (m_Y (tM (fun _ => True)) (x + 169)) q → H2[q]? = H1[q]?)
    (h2 : hT G (m_Y (tM (fun _ => True)) (x + 169)) H2) (hm : h_gi G H2 11 (x + 169) 2 = nI (k + 1)) (hR : mR (x + 169) H2) (hcp : ∀ j : Nat, j < 600 → h_ai H2 (x + 169 + 1) (600 * (k + 2) + j) = h_ai H1 (x + 169 + 1) (600 * 0 + j)) (hs : ∀ j : Nat, (j < 600 * (k + 2) ∨ 600 * (k + 2) + 600 ≤ j) → h_ai H2 (x + 169 + 1) j = h_ai H1 (x + 169 + 1) j) : lwI G x (k + 1) H2 := by
  have e := h.side hk1
  refine lwI.mk (k + 1) (by omega) h1 hc hk2 h2 hm hR fun i hi => ?_
  by_cases c : i = k
  · subst c; exact mR_asidek (h.mR1 e) hcp
  · exact (h.mA e (i := i) (by omega)).kept (fun j hj => hs _ (by omega))
/-- back, or a mark too many: the marks that are left stand -/
theorem lwI.back (h : lwI G x k H) (k' : Nat) (hkk : k' ≤ k) (hk1 : ∀ q : Nat, q < H.size → ¬ h_A (w_Y (tC (fun _ => True)) x) q → H1[q]? = H[q]?) (h1 : hT G (w_Y (tC (fun _ => True)) x) H1) (hc : h_gi G H1 10 x 7 = nI k') (hk2 : ∀ q : Nat, q < H1.size → ¬ h_A (m_Y (tM (fun _ => True)) (x + 169)) q → H2[q]? = H1[q]?)
    (h2 : hT G (m_Y (tM (fun _ => True)) (x + 169)) H2) (hm : h_gi G H2 11 (x + 169) 2 = nI k') (hR : mR (x + 169) H2) (hV : mV (x + 169) H1 H2) : lwI G x k' H2 := by
  have e := h.side hk1
  exact lwI.mk k' (by have := h.1; omega) h1 hc hk2 h2 hm hR fun i hi => (h.mA e (i := i) (by omega)).kept (fun j hj => hV _ (by omega))
end LI
theorem lw_gt {q L : Nat} (hq : q ≤ 4000) (hL : L ≤ 4000) : (Int32.ofNat L - 6 < nI q) ↔ L < q + 6 := by
  have h1 : (Int32.ofNat L).toInt = (L : Int) := nI_toInt (n := L) (by omega)
  have h2 : (Int32.ofNat L - 6).toInt = (L : Int) - 6 := by
    have := Jvm.Kit.i32_sub (x := Int32.ofNat L) (y := 6) (by rw [h1, show (6 : Int32).toInt = 6 from rfl]; omega) (by rw [h1, show (6 : Int32).toInt = 6 from rfl]; omega)
    rw [this, h1]; rfl
  rw [Int32.lt_iff_toInt_lt, h2, nI_toInt (by omega)]
  omega
