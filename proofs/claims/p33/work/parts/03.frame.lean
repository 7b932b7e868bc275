/-! A heap by a static map: which address holds what, each field a reference to a fixed address or an int with a property. -/
abbrev hF : Type := Nat ⊕ (Int32 → Prop)
abbrev hL : Type := (Nat → Int32 → Prop) ⊕ (Unit ⊕ (Nat → Nat))
abbrev hE : Type := (Nat × List hF) ⊕ (Nat × Nat × hL)
abbrev hW : Type := Nat → Option hE
/-- what the walks know of the heap's classes; and where the string constants lie, their bytes -/
abbrev hG : Type := va_G × (Nat → ClassId) × (Nat → Nat) × (Nat → Nat)
/-- the claim's string constants: the class, its entry, the text, the bytes -/
def h_sl : List (String × Nat × String × List Int32) := [("RankedRing$Reader", 66, "station", [115, 116, 97, 116, 105, 111, 110]), ("RankedRing$Reader", 75, "off", [111, 102, 102]), ("RankedRing$Reader", 80, "monitor", [109, 111, 110, 105, 116, 111, 114]), ("RankedRing$Reader", 85, "send", [115, 101, 110, 100]), ("RankedRing$Reader", 90, "break", [98, 114, 101, 97, 107]), ("RankedRingModel", 202, " station off monitor send break ", [32, 115, 116, 97, 116, 105, 111, 110, 32, 111, 102, 102, 32, 109, 111, 110, 105, 116, 111, 114, 32, 115, 101, 110, 100, 32, 98, 114, 101, 97, 107, 32])]
def h_byt : List (List Int32) := h_sl.map fun r => r.2.2.2
def h_len : List Nat := h_byt.map List.length
def h_ty (t : Nat) : FieldType := match t with
  | 0 => .int
  | 1 => .byte
  | 2 => .boolean
  | 3 => .long
  | 4 => .object "RankedRing$Ring"
  | _ => .object "RankedRing$Tape"
def h_fv (f : hF) (v : Value) : Prop := match f with
  | .inl q => v = .ref q
  | .inr P => ∃ x : Int32, v = .int x ∧ P x
def h_ev (ty : FieldType) (el : hL) (j : Nat) (v : Value) : Prop := match el with
  | .inl P => ∃ x : Int32, v = .int x ∧ fits ty (.int x) = true ∧ P j x
  | .inr (.inl _) => ∃ x : Int64, v = .long x
  | .inr (.inr r) => v = .ref (r j)
def h_at (G : hG) (a : Nat) (e : hE) (H : Heap) : Prop := match e with
  | .inl (ci, fs) => ∃ (r : vw_C) (V : Nat → Value), vwCl[ci]? = some r ∧ t_OB a (G.1.1 ci) r.2.2 (G.1.2 ci) H V ∧ ∀ (k : Nat) (f : hF), fs[k]? = some f → k < r.2.2 ∧ h_fv f (V k)
  | .inr (ty, n, el) => ∃ V : Nat → Value, H[a]? = some (arrV (G.2.1 ty) n V) ∧ ∀ j : Nat, j < n → h_ev (h_ty ty) el j (V j)
def hT (G : hG) (Y : hW) (H : Heap) : Prop := ∀ (a : Nat) (e : hE), Y a = some e → h_at G a e H
def h_K (G : hG) (U : State) : Prop := (∀ (c : Nat) (q : vw_C), vwCl[c]? = some q → u_Kn U q.1 q.2.1 q.2.2 (G.1.1 c) (G.1.2 c)) ∧ ∀ t : Nat, t < 6 → ArrOfT U (G.2.1 t) (h_ty t) ∧ va_RA U (G.2.1 t) (h_ty t)
theorem h_K.moved {G : hG} {u U : State} (hvm : u.vm.Alike U.vm) (h : h_K G u) : h_K G U := ⟨fun c q hq => u_Kn_moved hvm (h.1 c q hq), fun t ht => ⟨arrOfT_moved hvm (h.2 t ht).1, (h.2 t ht).2.moved hvm⟩⟩
theorem h_K.va {G : hG} {U : State} (h : h_K G U) : va_K G.1 vwCl [(G.2.1 0, .int), (G.2.1 1, .byte), (G.2.1 2, .boolean), (G.2.1 3, .long)] U := by
  refine ⟨h.1, fun k q hk => ?_⟩
  match k, hk with
  | 0, hk => cases hk; exact h.2 0 (by decide)
  | 1, hk => cases hk; exact h.2 1 (by decide)
  | 2, hk => cases hk; exact h.2 2 (by decide)
  | 3, hk => cases hk; exact h.2 3 (by decide)
  | k + 4, hk => simp at hk
def h_A (Y : hW) : Nat → Prop := fun q => ∃ e, Y q = some e
/-- what an int field, an int element holds -/
def h_i (v : Value) : Int32 := match v with
  | .int x => x
  | _ => 0
def h_gv (G : hG) (H : Heap) (ci a k : Nat) : Value := match H[a]? with
  | some c => (c.slots[G.1.2 ci k]?).getD .null
  | none => .null
def h_av (H : Heap) (a j : Nat) : Value := match H[a]? with
  | some c => (c.slots[j]?).getD .null
  | none => .null
def h_gi (G : hG) (H : Heap) (ci a k : Nat) : Int32 := h_i (h_gv G H ci a k)
def h_ai (H : Heap) (a j : Nat) : Int32 := h_i (h_av H a j)
theorem h_gv_eq {G : hG} {H : Heap} {ci a k : Nat} {cell : Cell} {v : Value} (h1 : H[a]? = some cell) (h2 : cell.slots[G.1.2 ci k]? = some v) : h_gv G H ci a k = v := by
  simp [h_gv, h1, h2]
theorem h_av_eq {H : Heap} {a j : Nat} {cell : Cell} {v : Value} (h1 : H[a]? = some cell) (h2 : cell.slots[j]? = some v) : h_av H a j = v := by
  simp [h_av, h1, h2]
theorem h_gv_same {G : hG} {H H1 : Heap} {ci a k : Nat} (h : H1[a]? = H[a]?) : h_gv G H1 ci a k = h_gv G H ci a k := by simp [h_gv, h]
theorem h_gi_same {G : hG} {H H1 : Heap} {ci a k : Nat} (h : H1[a]? = H[a]?) : h_gi G H1 ci a k = h_gi G H ci a k := by simp [h_gi, h_gv, h]
theorem h_ai_same {H H1 : Heap} {a j : Nat} (h : H1[a]? = H[a]?) : h_ai H1 a j = h_ai H a j := by simp [h_ai, h_av, h]
theorem h_at.kept {G : hG} {a : Nat} {e : hE} {H H1 : Heap} (h : h_at G a e H) (hq : H1[a]? = H[a]?) : h_at G a e H1 := by
  cases e with
  | inl o => obtain ⟨r, V, h1, h2, h3⟩ := h; exact ⟨r, V, h1, h2.kept hq, h3⟩
  | inr o => obtain ⟨V, h1, h2⟩ := h; exact ⟨V, hq.trans h1, h2⟩
/-- a field of ints: what it holds has its property -/
theorem hT.gi {G : hG} {Y : hW} {H : Heap} (h : hT G Y H) {a ci : Nat} {fs : List hF} (ha : Y a = some (.inl (ci, fs))) (k : Nat) {P : Int32 → Prop} (hf : fs[k]? = some (.inr P)) : P (h_gi G H ci a k) ∧ h_gv G H ci a k = .int (h_gi G H ci a k) := by
  obtain ⟨r, V, -, ⟨cell, q1, -, -, q4⟩, hV⟩ := h a _ ha
  obtain ⟨hk, x, hx, hP⟩ := hV k _ hf
  have e := h_gv_eq (G := G) (ci := ci) q1 (q4 k hk)
  have e2 : h_gi G H ci a k = x := by unfold h_gi; rw [e, hx]; rfl
  rw [e2, e, hx]
  exact ⟨hP, rfl⟩
theorem hT.ai {G : hG} {Y : hW} {H : Heap} (h : hT G Y H) {a ty n : Nat} {P : Nat → Int32 → Prop} (ha : Y a = some (.inr (ty, n, .inl P))) {j : Nat} (hj : j < n) : P j (h_ai H a j) ∧ fits (h_ty ty) (.int (h_ai H a j)) = true ∧ h_av H a j = .int (h_ai H a j) := by
  obtain ⟨V, h1, h2⟩ := h a _ ha
  obtain ⟨x, hx, hfit, hP⟩ := h2 j hj
  have e := h_av_eq (j := j) h1 (arrV_read _ V hj)
  have e2 : h_ai H a j = x := by unfold h_ai; rw [e, hx]; rfl
  rw [e2, e, hx]
  exact ⟨hP, hfit, rfl⟩
theorem hT.arr {G : hG} {Y : hW} {H : Heap} (h : hT G Y H) {a ty n : Nat} {P : Nat → Int32 → Prop} (ha : Y a = some (.inr (ty, n, .inl P))) : H[a]? = some (arrV (G.2.1 ty) n (fun j => .int (h_ai H a j))) := by
  obtain ⟨V, h1, h2⟩ := h a _ ha
  rw [h1]
  congr 1
  unfold arrV
  congr 1
  apply Array.ext
  · simp
  · intro i hi1 hi2
    have hi : i < n := by simpa using hi1
    obtain ⟨x, hx, hfit, hP⟩ := h2 i hi
    have e := h_av_eq (j := i) h1 (arrV_read _ V hi)
    have e2 : h_ai H a i = x := by unfold h_ai; rw [e, hx]; rfl
    simp [e2, hx]
/-- a heap that differs in one cell alone -/
def h_put (G : hG) (H H1 : Heap) (ci a k : Nat) (v : Value) : Prop := H1.size = H.size ∧ (∀ q : Nat, q ≠ a → H1[q]? = H[q]?) ∧ h_gv G H1 ci a k = v ∧ ∀ (j : Nat) (r : vw_C), vwCl[ci]? = some r → j < r.2.2 → j ≠ k → h_gv G H1 ci a j = h_gv G H ci a j
def h_apu (H H1 : Heap) (a k : Nat) (v : Value) : Prop := H1.size = H.size ∧ (∀ q : Nat, q ≠ a → H1[q]? = H[q]?) ∧ h_av H1 a k = v ∧ ∀ j : Nat, j ≠ k → h_av H1 a j = h_av H a j
theorem hT.kept {G : hG} {Y : hW} {H H1 : Heap} (h : hT G Y H) {a : Nat} {e : hE} (ha : Y a = some e) (he : h_at G a e H1) (oq : ∀ q : Nat, q ≠ a → H1[q]? = H[q]?) : hT G Y H1 := by
  intro b e' hb
  by_cases hba : b = a
  · subst hba
    rw [ha] at hb
    cases hb
    exact he
  · exact (h b e' hb).kept (oq b hba)
theorem va_S.one {A : Nat → Prop} {H0 H H1 : Heap} {locs : List Loc} {a k : Nat} (h : va_S A H0 H locs) (z : H1.size = H.size) (oq : ∀ q : Nat, q ≠ a → H1[q]? = H[q]?) (ha : A a) : va_S A H0 H1 (locs ++ [⟨a, k⟩]) := h.put z oq ha
section HR
variable {p : Program} {l : Launch} {e : Env} {R : Room} {s : State} {m : MethodId} {args : Array Value} {below : List Frame} {meth : Method} {c : Code} {H : Heap} {locs : List Loc} {cells slots : Nat} {Q : State → Prop}
variable {cc : ByteArray} {pc : Nat} {ls : Array Slot} {rest : List Value} {G : hG} {Y : hW} {A : Nat → Prop} {a : Nat} {H0 : Heap}
/-- getfield -/
theorem h_getv (hexec : p.tables.exec = Jvm.exec) (hb : c.code = cc) (hts : ∀ w ∈ wsL_law, w.before args s = true) {own ref C : String} {T : u_T} {N ci index : Nat} (hin : ∀ w ∈ u_ws C T N, w ∈ wsL_law) (hown : s.vm.findClass own = some m.cls) (hK : h_K G s) (hT : hT G Y H) {fs : List hF} (ha : Y a = some (.inl (ci, fs))) (hc : vwCl[ci]? = some (C, T, N)) (k : Nat) {f : hF} (hf : fs[k]? = some f) (hlink : Cond.fieldLink own index ref (T k).2.1 (T k).2.2.1 ∈ wsL_law) (hsame : (T k).1 = ref) (hdg : decode cc pc = .ok (.getfield index, 3))
    (kk : ∀ v : Value, h_gv G H ci a k = v → h_fv f v → W p l e R s m args below meth c H locs cells slots Q (F0 m (pc + 3) ls (v :: rest))) : W p l e R s m args below meth c H locs cells slots Q (F0 m pc ls (.ref a :: rest)) := by
  obtain ⟨r, V, h1, ⟨cell, q1, q2, q3, q4⟩, hV⟩ := hT a _ ha
  have hr : r = (C, T, N) := Option.some.inj (h1.symm.trans hc)
  subst hr
  obtain ⟨hk, hfv⟩ := hV k _ hf
  obtain ⟨hS, hfc, kC, hkC, hkind⟩ := hK.1 ci _ hc
  obtain ⟨cf, kf, fi, f', hi, hsl⟩ := hS k hk
  have hi2 : s.fieldFound? ref (T k).2.1 (T k).2.2.1 = some (cf, kf, fi, f') := by rw [← hsame]; exact hi
  have hv := q4 k hk
  refine W.getf hexec hb hown (hts _ hlink) hi2 (u_facts hfc hkC (u_lays hts hin hk) hi).1 q1 (by rw [q3]; exact fun h => by cases h) (v := V k) ?_ rfl rfl hdg (kk _ (h_gv_eq q1 hv) hfv)
  rw [hsl]; exact hv
theorem h_geti (hexec : p.tables.exec = Jvm.exec) (hb : c.code = cc) (hts : ∀ w ∈ wsL_law, w.before args s = true) {own ref C : String} {T : u_T} {N ci index : Nat} (hin : ∀ w ∈ u_ws C T N, w ∈ wsL_law) (hown : s.vm.findClass own = some m.cls) (hK : h_K G s) (hT : hT G Y H) {fs : List hF} (ha : Y a = some (.inl (ci, fs))) (hc : vwCl[ci]? = some (C, T, N)) (k : Nat) {P : Int32 → Prop} (hf : fs[k]? = some (.inr P)) (hlink : Cond.fieldLink own index ref (T k).2.1 (T k).2.2.1 ∈ wsL_law) (hsame : (T k).1 = ref) (hdg : decode cc pc = .ok (.getfield index, 3))
    (kk : P (h_gi G H ci a k) → W p l e R s m args below meth c H locs cells slots Q (F0 m (pc + 3) ls (.int (h_gi G H ci a k) :: rest))) : W p l e R s m args below meth c H locs cells slots Q (F0 m pc ls (.ref a :: rest)) :=
  h_getv hexec hb hts hin hown hK hT ha hc k hf hlink hsame hdg (fun v hv hp => by
    obtain ⟨h1, h2⟩ := hT.gi ha k hf
    rw [← hv, h2]
    exact kk h1)
theorem h_getr (hexec : p.tables.exec = Jvm.exec) (hb : c.code = cc) (hts : ∀ w ∈ wsL_law, w.before args s = true) {own ref C : String} {T : u_T} {N ci index : Nat} (hin : ∀ w ∈ u_ws C T N, w ∈ wsL_law) (hown : s.vm.findClass own = some m.cls) (hK : h_K G s) (hT : hT G Y H) {fs : List hF} (ha : Y a = some (.inl (ci, fs))) (hc : vwCl[ci]? = some (C, T, N)) (k : Nat) {q : Nat} (hf : fs[k]? = some (.inl q)) (hlink : Cond.fieldLink own index ref (T k).2.1 (T k).2.2.1 ∈ wsL_law) (hsame : (T k).1 = ref) (hdg : decode cc pc = .ok (.getfield index, 3))
    (kk : W p l e R s m args below meth c H locs cells slots Q (F0 m (pc + 3) ls (.ref q :: rest))) : W p l e R s m args below meth c H locs cells slots Q (F0 m pc ls (.ref a :: rest)) :=
  h_getv hexec hb hts hin hown hK hT ha hc k hf hlink hsame hdg (fun v _ hp => by
    have hp : v = .ref q := hp
    rw [hp]
    exact kk)
theorem h_apart {own C : String} {T : u_T} {N ci : Nat} (hts : ∀ w ∈ wsL_law, w.before args s = true) (hin : ∀ w ∈ u_ws C T N, w ∈ wsL_law) (ty : Nat → FieldType) (hty : ∀ k, k < N → parseFieldDescriptor (T k).2.2.1 = some (ty k)) (hnm : ∀ a, a < N → ∀ b, b < N → a ≠ b → (T a).2.1 ≠ (T b).2.1) (hK : h_K G s) (hc : vwCl[ci]? = some (C, T, N)) : ∀ x y, x < N → y < N → x ≠ y → (G.1.2 ci) x ≠ (G.1.2 ci) y :=
  va_apart (own := own) hts hin ty hty hnm hK.va hc
/-- putfield of an int -/
theorem h_puti (hexec : p.tables.exec = Jvm.exec) (hb : c.code = cc) (hts : ∀ w ∈ wsL_law, w.before args s = true) {own ref C : String} {T : u_T} {N ci index : Nat} (hin : ∀ w ∈ u_ws C T N, w ∈ wsL_law) (ty0 : Nat → FieldType) (hty : ∀ k, k < N → parseFieldDescriptor (T k).2.2.1 = some (ty0 k)) (hnm : ∀ a, a < N → ∀ b, b < N → a ≠ b → (T a).2.1 ≠ (T b).2.1) (hown : s.vm.findClass own = some m.cls) (hK : h_K G s) (hT0 : hT G Y H) (hA : ∀ q, h_A Y q → A q) (hS0 : va_S A H0 H locs) {fs : List hF} (ha : Y a = some (.inl (ci, fs))) (hc : vwCl[ci]? = some (C, T, N)) (k : Nat) {P : Int32 → Prop} (hf : fs[k]? = some (.inr P)) (hlink : Cond.fieldLink own index ref (T k).2.1 (T k).2.2.1 ∈ wsL_law) (hsame : (T k).1 = ref) (hfin : (T k).2.2.2 = false) {x : Int32} (hP : P x) (hn : narrow (ty0 k) (.int x) = .int x) (hfit : fits (ty0 k) (.int x) = true)
    (hdg : decode cc pc = .ok (.putfield index, 3)) (kk : ∀ (H1 : Heap) (locs1 : List Loc), hT G Y H1 → va_S A H0 H1 locs1 → h_put G H H1 ci a k (.int x) → W p l e R s m args below meth c H1 locs1 cells slots Q (F0 m (pc + 3) ls rest)) : W p l e R s m args below meth c H locs cells slots Q (F0 m pc ls (.int x :: .ref a :: rest)) := by
  have hap := h_apart (own := own) hts hin ty0 hty hnm hK hc
  obtain ⟨r, V, h1, ⟨cell, q1, q2, q3, q4⟩, hV⟩ := hT0 a _ ha
  have hr : r = (C, T, N) := Option.some.inj (h1.symm.trans hc)
  subst hr
  obtain ⟨hk, -⟩ := hV k _ hf
  obtain ⟨hS, hfc, kC, hkC, hkind⟩ := hK.1 ci _ hc
  obtain ⟨cf, kf, fi, f', hi, hsl⟩ := hS k hk
  have hi2 : s.fieldFound? ref (T k).2.1 (T k).2.2.1 = some (cf, kf, fi, f') := by rw [← hsame]; exact hi
  have hlay := hts _ (hin _ (u_in_lay hk))
  unfold u_lay at hlay
  rw [if_neg (by rw [hfin]; decide)] at hlay
  have hst := (u_facts hfc hkC (u_lays hts hin hk) hi).1
  have h6 := u_store hfc hkC hkind hlay hi (hty k hk) hn hfit
  refine W.putK hexec hb (f := f') ⟨hown, hts _ hlink, ⟨_, _, _, hi2⟩, hst⟩ (by rw [q2]; exact h6) q1 q3 (by rw [hsl]; exact k2_hasslot (q4 k hk)) rfl rfl hdg fun H' e1 e2 e3 => ?_
  rw [hsl] at e1 ⊢
  have hset := t_set q4 hap hk (.int x)
  refine kk H' _ (hT0.kept ha ⟨_, updV V k (.int x), hc, ⟨_, e1, q2, q3, hset⟩, fun j f hj => ?_⟩ e3) (hS0.one e2 e3 (hA _ ⟨_, ha⟩)) ⟨e2, e3, ?_, fun j r hr hj hjk => ?_⟩
  · obtain ⟨hj1, hj2⟩ := hV j f hj
    refine ⟨hj1, ?_⟩
    by_cases hjk : j = k
    · subst hjk
      rw [hf] at hj
      cases hj
      exact ⟨x, by simp [updV], hP⟩
    · have : updV V k (.int x) j = V j := by simp [updV, hjk]
      rw [this]; exact hj2
  · have := h_gv_eq (G := G) (ci := ci) e1 (hset k hk)
    rw [this]; simp [updV]
  · have hr' : r = (C, T, N) := Option.some.inj (hr.symm.trans hc)
    subst hr'
    rw [h_gv_eq (G := G) (ci := ci) e1 (hset j hj), h_gv_eq (G := G) (ci := ci) q1 (q4 j hj)]
    simp [updV, hjk]
end HR
section HR2
variable {p : Program} {l : Launch} {e : Env} {R : Room} {s : State} {m : MethodId} {args : Array Value} {below : List Frame} {meth : Method} {c : Code} {H : Heap} {locs : List Loc} {cells slots : Nat} {Q : State → Prop}
variable {cc : ByteArray} {pc : Nat} {ls : Array Slot} {rest : List Value} {G : hG} {Y : hW} {A : Nat → Prop} {a : Nat} {H0 : Heap}
theorem h_iald (hexec : p.tables.exec = Jvm.exec) (hb : c.code = cc) (hK : h_K G s) (hT0 : hT G Y H) {n : Nat} {P : Nat → Int32 → Prop} (ha : Y a = some (.inr (0, n, .inl P))) {i : Int32} (hin : vp_in i n) (hdg : decode cc pc = .ok (.iaload, 1))
    (kk : P i.toNatClampNeg (h_ai H a i.toNatClampNeg) → W p l e R s m args below meth c H locs cells slots Q (F0 m (pc + 1) ls (.int (h_ai H a i.toNatClampNeg) :: rest))) : W p l e R s m args below meth c H locs cells slots Q (F0 m pc ls (.int i :: .ref a :: rest)) := by
  have hlt : i.toNatClampNeg < n := Nat.not_le.mp fun q => hin (Or.inr q)
  exact W.iald (v := .int (h_ai H a i.toNatClampNeg)) hexec hb (hT0.arr ha) ((hK.2 0 (by decide)).1 n (fun j => .int (h_ai H a j))) (fun q => by cases q) (by show ¬ (i < 0 ∨ (arrV _ _ _).slots.size ≤ _); rw [arrV_size]; exact hin) (by show (arrV _ _ _).slots[_]? = _; rw [arrV_read _ _ hlt]) rfl rfl hdg (kk (hT0.ai ha hlt).1)
theorem h_bald (hexec : p.tables.exec = Jvm.exec) (hb : c.code = cc) (hK : h_K G s) (hT0 : hT G Y H) {n : Nat} {P : Nat → Int32 → Prop} (ha : Y a = some (.inr (1, n, .inl P))) {i : Int32} (hin : vp_in i n) (hdg : decode cc pc = .ok (.baload, 1))
    (kk : P i.toNatClampNeg (h_ai H a i.toNatClampNeg) → W p l e R s m args below meth c H locs cells slots Q (F0 m (pc + 1) ls (.int (h_ai H a i.toNatClampNeg) :: rest))) : W p l e R s m args below meth c H locs cells slots Q (F0 m pc ls (.int i :: .ref a :: rest)) := by
  have hlt : i.toNatClampNeg < n := Nat.not_le.mp fun q => hin (Or.inr q)
  exact W.bald (v := .int (h_ai H a i.toNatClampNeg)) hexec hb (hT0.arr ha) ((hK.2 1 (by decide)).1 n (fun j => .int (h_ai H a j))) (fun q => by cases q) (by show ¬ (i < 0 ∨ (arrV _ _ _).slots.size ≤ _); rw [arrV_size]; exact hin) (by show (arrV _ _ _).slots[_]? = _; rw [arrV_read _ _ hlt]) rfl rfl hdg (kk (hT0.ai ha hlt).1)
theorem h_zald (hexec : p.tables.exec = Jvm.exec) (hb : c.code = cc) (hK : h_K G s) (hT0 : hT G Y H) {n : Nat} {P : Nat → Int32 → Prop} (ha : Y a = some (.inr (2, n, .inl P))) {i : Int32} (hin : vp_in i n) (hdg : decode cc pc = .ok (.baload, 1))
    (kk : P i.toNatClampNeg (h_ai H a i.toNatClampNeg) → W p l e R s m args below meth c H locs cells slots Q (F0 m (pc + 1) ls (.int (h_ai H a i.toNatClampNeg) :: rest))) : W p l e R s m args below meth c H locs cells slots Q (F0 m pc ls (.int i :: .ref a :: rest)) := by
  have hlt : i.toNatClampNeg < n := Nat.not_le.mp fun q => hin (Or.inr q)
  exact W.zald (v := .int (h_ai H a i.toNatClampNeg)) hexec hb (hT0.arr ha) ((hK.2 2 (by decide)).1 n (fun j => .int (h_ai H a j))) (fun q => by cases q) (by show ¬ (i < 0 ∨ (arrV _ _ _).slots.size ≤ _); rw [arrV_size]; exact hin) (by show (arrV _ _ _).slots[_]? = _; rw [arrV_read _ _ hlt]) rfl rfl hdg (kk (hT0.ai ha hlt).1)
theorem h_arrset {H1 : Heap} {ty n : Nat} {P : Nat → Int32 → Prop} (hT0 : hT G Y H) (ha : Y a = some (.inr (ty, n, .inl P))) {k : Nat} (hk : k < n) {x : Int32} (hfit : fits (h_ty ty) (.int x) = true) (hP : P k x)
    (e1 : H1[a]? = some ((arrV (G.2.1 ty) n (fun j => .int (h_ai H a j))).setSlot k (.int x))) (e2 : H1.size = H.size) (e3 : ∀ q : Nat, q ≠ a → H1[q]? = H[q]?) : hT G Y H1 ∧ h_apu H H1 a k (.int x) := by
  rw [arrV_store] at e1
  have hv : ∀ j : Nat, j < n → h_av H1 a j = updV (fun j => .int (h_ai H a j)) k (.int x) j := fun j hj => h_av_eq e1 (arrV_read _ _ hj)
  refine ⟨hT0.kept ha ⟨_, e1, fun j hj => ?_⟩ e3, e2, e3, ?_, fun j hjk => ?_⟩
  · by_cases hjk : j = k
    · subst hjk
      exact ⟨x, by simp [updV], hfit, hP⟩
    · obtain ⟨h1, h2, -⟩ := hT0.ai ha hj
      exact ⟨h_ai H a j, by simp [updV, hjk], h2, h1⟩
  · rw [hv k hk]; simp [updV]
  · by_cases hj : j < n
    · rw [hv j hj, (hT0.ai ha hj).2.2]
      simp [updV, hjk]
    · have h0 := hT0.arr ha
      have hs : ∀ V : Nat → Value, (arrV (G.2.1 ty) n V).slots[j]? = none := fun V => by
        apply Array.getElem?_eq_none
        rw [arrV_size]; omega
      unfold h_av
      rw [e1, h0]
      simp only [hs]
theorem h_iast (hexec : p.tables.exec = Jvm.exec) (hb : c.code = cc) (hK : h_K G s) (hT0 : hT G Y H) (hA : ∀ q, h_A Y q → A q) (hS0 : va_S A H0 H locs) {n : Nat} {P : Nat → Int32 → Prop} (ha : Y a = some (.inr (0, n, .inl P))) {i x : Int32} (hin : vp_in i n) (hP : P i.toNatClampNeg x) (hdg : decode cc pc = .ok (.iastore, 1))
    (kk : ∀ (H1 : Heap) (locs1 : List Loc), hT G Y H1 → va_S A H0 H1 locs1 → h_apu H H1 a i.toNatClampNeg (.int x) → W p l e R s m args below meth c H1 locs1 cells slots Q (F0 m (pc + 1) ls rest)) : W p l e R s m args below meth c H locs cells slots Q (F0 m pc ls (.int x :: .int i :: .ref a :: rest)) := by
  have hlt : i.toNatClampNeg < n := Nat.not_le.mp fun q => hin (Or.inr q)
  refine W.iast hexec hb (hT0.arr ha) ((hK.2 0 (by decide)).1 n (fun j => .int (h_ai H a j))) (fun q => by cases q) (by show ¬ (i < 0 ∨ (arrV _ _ _).slots.size ≤ _); rw [arrV_size]; exact hin) rfl rfl hdg fun H1 e1 e2 e3 => ?_
  obtain ⟨g1, g2⟩ := h_arrset hT0 ha hlt rfl hP e1 e2 e3
  exact kk H1 _ g1 (hS0.one e2 e3 (hA _ ⟨_, ha⟩)) g2
theorem h_narb (x : Int32) : narrow .byte (.int x) = .int (vp_nar .byte x) ∧ fits .byte (.int (vp_nar .byte x)) = true := ⟨rfl, by rw [vp_nar_byte]; exact pk_fb x⟩
theorem h_bast (hexec : p.tables.exec = Jvm.exec) (hb : c.code = cc) (hK : h_K G s) (hT0 : hT G Y H) (hA : ∀ q, h_A Y q → A q) (hS0 : va_S A H0 H locs) {n : Nat} {P : Nat → Int32 → Prop} (ha : Y a = some (.inr (1, n, .inl P))) {i x : Int32} (hin : vp_in i n) (hP : P i.toNatClampNeg (vp_nar .byte x)) (hdg : decode cc pc = .ok (.bastore, 1))
    (kk : ∀ (H1 : Heap) (locs1 : List Loc), hT G Y H1 → va_S A H0 H1 locs1 → h_apu H H1 a i.toNatClampNeg (.int (vp_nar .byte x)) → W p l e R s m args below meth c H1 locs1 cells slots Q (F0 m (pc + 1) ls rest)) : W p l e R s m args below meth c H locs cells slots Q (F0 m pc ls (.int x :: .int i :: .ref a :: rest)) := by
  have hlt : i.toNatClampNeg < n := Nat.not_le.mp fun q => hin (Or.inr q)
  refine W.bast hexec hb (hT0.arr ha) ((hK.2 1 (by decide)).1 n (fun j => .int (h_ai H a j))) (fun q => by cases q) (by show ¬ (i < 0 ∨ (arrV _ _ _).slots.size ≤ _); rw [arrV_size]; exact hin) rfl rfl hdg fun H1 e1 e2 e3 => ?_
  obtain ⟨g1, g2⟩ := h_arrset hT0 ha hlt (h_narb x).2 hP e1 e2 e3
  exact kk H1 _ g1 (hS0.one e2 e3 (hA _ ⟨_, ha⟩)) g2
theorem h_zast (hexec : p.tables.exec = Jvm.exec) (hb : c.code = cc) (hK : h_K G s) (hT0 : hT G Y H) (hA : ∀ q, h_A Y q → A q) (hS0 : va_S A H0 H locs) {n : Nat} {P : Nat → Int32 → Prop} (ha : Y a = some (.inr (2, n, .inl P))) {i x : Int32} (hin : vp_in i n) (hx01 : x = 0 ∨ x = 1) (hP : P i.toNatClampNeg x) (hdg : decode cc pc = .ok (.bastore, 1))
    (kk : ∀ (H1 : Heap) (locs1 : List Loc), hT G Y H1 → va_S A H0 H1 locs1 → h_apu H H1 a i.toNatClampNeg (.int x) → W p l e R s m args below meth c H1 locs1 cells slots Q (F0 m (pc + 1) ls rest)) : W p l e R s m args below meth c H locs cells slots Q (F0 m pc ls (.int x :: .int i :: .ref a :: rest)) := by
  have hlt : i.toNatClampNeg < n := Nat.not_le.mp fun q => hin (Or.inr q)
  have hnx : narrow .boolean (.int x) = .int x := by rcases hx01 with rfl | rfl <;> rfl
  have hfx : fits .boolean (.int x) = true := by rcases hx01 with rfl | rfl <;> rfl
  refine W.zast hexec hb (hT0.arr ha) ((hK.2 2 (by decide)).1 n (fun j => .int (h_ai H a j))) (fun q => by cases q) (by show ¬ (i < 0 ∨ (arrV _ _ _).slots.size ≤ _); rw [arrV_size]; exact hin) rfl rfl hdg fun H1 e1 e2 e3 => ?_
  rw [hnx] at e1
  obtain ⟨g1, g2⟩ := h_arrset hT0 ha hlt hfx hP e1 e2 e3
  exact kk H1 _ g1 (hS0.one e2 e3 (hA _ ⟨_, ha⟩)) g2
theorem h_aald (hexec : p.tables.exec = Jvm.exec) (hb : c.code = cc) (hK : h_K G s) (hT0 : hT G Y H) {n ty : Nat} (h4 : ty = 4 ∨ ty = 5) {r : Nat → Nat} (ha : Y a = some (.inr (ty, n, .inr (.inr r)))) {i : Int32} (hin : vp_in i n) (hdg : decode cc pc = .ok (.aaload, 1))
    (kk : W p l e R s m args below meth c H locs cells slots Q (F0 m (pc + 1) ls (.ref (r i.toNatClampNeg) :: rest))) : W p l e R s m args below meth c H locs cells slots Q (F0 m pc ls (.int i :: .ref a :: rest)) := by
  have hlt : i.toNatClampNeg < n := Nat.not_le.mp fun q => hin (Or.inr q)
  obtain ⟨V, h1, h2⟩ := hT0 a _ ha
  have hv : V i.toNatClampNeg = .ref (r i.toNatClampNeg) := h2 _ hlt
  refine W.aald (v := .ref (r i.toNatClampNeg)) (ty := h_ty ty) hexec hb h1 ((hK.2 ty (by omega)).1 n V) (by rcases h4 with rfl | rfl <;> rfl) (fun q => by cases q) (by show ¬ (i < 0 ∨ (arrV _ _ _).slots.size ≤ _); rw [arrV_size]; exact hin) (by show (arrV _ _ _).slots[_]? = _; rw [arrV_read _ _ hlt, hv]) rfl rfl hdg kk
theorem h_alen (hexec : p.tables.exec = Jvm.exec) (hb : c.code = cc) (hK : h_K G s) (hT0 : hT G Y H) {n ty : Nat} (h4 : ty < 6) {el : hL} (ha : Y a = some (.inr (ty, n, el))) {v : Int32} (hv : Int32.ofNat n = v) (hdg : decode cc pc = .ok (.arraylength, 1))
    (kk : W p l e R s m args below meth c H locs cells slots Q (F0 m (pc + 1) ls (.int v :: rest))) : W p l e R s m args below meth c H locs cells slots Q (F0 m pc ls (.ref a :: rest)) := by
  obtain ⟨V, h1, h2⟩ := hT0 a _ ha
  refine W.alen (n := v) hexec hb h1 ((hK.2 ty h4).1 n V) ?_ rfl rfl hdg kk
  show (arrV _ _ _).slots.size.toInt32 = v
  rw [arrV_size]
  exact hv
end HR2
theorem h_good : GoodIn wsL_law wsL_law := fun w hw => ⟨hw, good_of_word (List.mem_filter.mp hw).2⟩
theorem h_places {ws : List Cond} (ps : List Nat) (h : ws.map some = ps.map (fun i => tables_1[i]?)) (hg : ws.all goodWord = true) : ∀ w ∈ ws, w ∈ wsL_law := fun w hw => by
  refine List.mem_filter.mpr ⟨List.mem_append_right _ ?_, List.all_eq_true.mp hg w hw⟩
  have h1 : some w ∈ ws.map some := List.mem_map.mpr ⟨w, hw, rfl⟩
  rw [h] at h1
  obtain ⟨i, -, hi⟩ := List.mem_map.mp h1
  exact List.mem_of_getElem? hi
theorem h_inT {w : Cond} (i : Nat) (h : tables_1[i]? = some w) (hg : goodWord w = true) : w ∈ wsL_law := List.mem_filter.mpr ⟨List.mem_append_right _ (List.mem_of_getElem? h), hg⟩
theorem h_inP {w : Cond} (i : Nat) (h : (k2_sels lw_privs)[i]? = some w) (hg : goodWord w = true) : w ∈ wsL_law := List.mem_filter.mpr ⟨List.mem_append_left _ (List.mem_of_getElem? h), hg⟩
theorem h_hts {args : Array Value} {s : State} (h : ∀ w ∈ lw_tbl, w.before args s = true) : ∀ w ∈ wsL_law, w.before args s = true := fun w hw => h w (List.mem_filter.mp hw).1
/-- the string constants and the JDK's statics: they stand, outside of A -/
def h_Z (G : hG) (A : Nat → Prop) (U : State) : Prop := vk_S 6 h_len h_byt G.2.2.1 G.2.2.2 A U U.heap ∧ (∀ (i : Nat) (r : String × Nat × String × List Int32), h_sl[i]? = some r → vk_R r.1 r.2.1 r.2.2.1 (G.2.2.1 i) U) ∧ va_Z "java/lang/String" "COMPACT_STRINGS" "Z" (.int 1) A U U.heap ∧ va_Zq "jdk/internal/util/Preconditions" "SIOOBE_FORMATTER" "Ljava/util/function/BiFunction;" A U U.heap
theorem h_Z.to {G : hG} {A B : Nat → Prop} {s U : State} {H : Heap} {locs : List Loc} (h : h_Z G A s) (hA : ∀ q, B q → A q) (hS : va_S A s.heap H locs) (hU : U.heap = H) (hW : s.WarmedH U.vm) : h_Z G B U := by
  subst hU
  exact ⟨((h.1.kept hS.2.1).moved hW.alike).narrow hA, fun i r hi => (h.2.1 i r hi).warm hW, ((h.2.2.1.kept hS.2.1).moved hW.alike).narrow hA, ((h.2.2.2.kept hS.2.1).moved hW.alike).narrow hA⟩
theorem h_Z.same {G : hG} {A : Nat → Prop} {u U : State} (hv : U.vm = u.vm) (hh : U.heap = u.heap) (h : h_Z G A u) : h_Z G A U := by
  have ha : u.vm.Alike U.vm := by rw [hv]; exact Vm.Alike.refl _
  refine ⟨?_, fun i r hi => (h.2.1 i r hi).same hv, ?_, ?_⟩
  · rw [hh]; exact h.1.moved ha
  · rw [hh]; exact h.2.2.1.moved ha
  · rw [hh]; exact h.2.2.2.moved ha
def h_Pre (G : hG) (Y : hW) (H0 : Heap) (U : State) : Prop := U.heap = H0 ∧ hT G Y H0 ∧ h_K G U ∧ h_Z G (h_A Y) U
theorem h_blind {G : hG} {Y : hW} {H0 : Heap} {av : List Value} : FrameBlind (va_Pc av (h_Pre G Y H0)) := fun a U g mk q => by
  obtain ⟨q0, q1, q2, q3, q4⟩ := q
  exact ⟨q0, q1, q2, h_K.moved (u := U) (U := U.calling g mk a) (Vm.Alike.refl U.vm) q3, q4.same (U := U.calling g mk a) rfl rfl⟩
abbrev h_Qi (G : hG) (Y : hW) (Po : Int32 → Heap → Prop) : Array Value → State → Outcome → State → Prop := va_Qi (S := Heap) (fun r u => Po r u ∧ hT G Y u) (fun u t => t.heap = u) (h_A Y)
abbrev h_Qv (G : hG) (Y : hW) (Po : Heap → Prop) : Array Value → State → Outcome → State → Prop := va_Qv (S := Heap) (fun u => Po u ∧ hT G Y u) (fun u t => t.heap = u) (h_A Y)
abbrev h_rm (fr lo : Nat) : Room := { frames := fr, cells := 0, slots := 0, locals := lo }
/-- a method's contract: its answer and its heap behind, over a static map Y -/
def hMi (l : Launch) (y : MethodName) (cc : ByteArray) (mL : Nat) (ret : Option FieldType) (fr lo : Nat) (G : hG) (Y : hW) (av : List Value) (Pr : Heap → Prop) (Po : Heap → Int32 → Heap → Prop) : Prop :=
  ∀ H0 : Heap, Pr H0 → Met l y (.code y cc mL ret :: wsL_law) (h_rm fr lo) (va_Pc av (h_Pre G Y H0)) (h_Qi G Y (Po H0)) 0 0 (h_A Y)
def hMv (l : Launch) (y : MethodName) (cc : ByteArray) (mL : Nat) (ret : Option FieldType) (fr lo : Nat) (G : hG) (Y : hW) (av : List Value) (Pr : Heap → Prop) (Po : Heap → Heap → Prop) : Prop :=
  ∀ H0 : Heap, Pr H0 → Met l y (.code y cc mL ret :: wsL_law) (h_rm fr lo) (va_Pc av (h_Pre G Y H0)) (h_Qv G Y (Po H0)) 0 0 (h_A Y)
/-- the words of a method, and how many arguments it takes -/
def h_wd (y : MethodName) (cc : ByteArray) (mL : Nat) (ret : Option FieldType) (n : Nat) : Prop :=
  (Cond.code y cc mL ret ∈ wsL_law ∧ Cond.initialized y.cls ∈ wsL_law) ∧ y.cls ≠ "java/lang/invoke/MethodHandle" ∧ y.cls ≠ "java/lang/invoke/VarHandle" ∧ (parseMethodDescriptor y.desc).map (fun d => d.parameters.length) = some n
def h_wV (y : MethodName) : Prop := Cond.instanceMethod y ∈ wsL_law ∧ Cond.selects y.cls y y ∈ wsL_law
def h_wS (y : MethodName) : Prop := Cond.static y ∈ wsL_law
theorem h_ws {y : MethodName} {cc : ByteArray} {mL : Nat} {ret : Option FieldType} {n : Nat} (h : h_wd y cc mL ret n) : GoodIn wsL_law (.code y cc mL ret :: wsL_law) := fun w hw => by
  rcases List.mem_cons.mp hw with rfl | hw
  · exact h_good _ h.1.1
  · exact h_good _ hw
section HC
variable {p : Program} {l : Launch} {e : Env} {R : Room} {s : State} {m : MethodId} {args : Array Value} {below : List Frame} {meth : Method} {c : Code} {H : Heap} {locs : List Loc} {cells slots : Nat} {Q : State → Prop}
variable {cc : ByteArray} {pc nL : Nat} {ls : Array Slot} {rest st0 As : List Value} {G : hG} {Y : hW} {A : Nat → Prop} {b : Nat} {H0 : Heap} {own : String} {index : Nat}
variable {y : MethodName} {bytes : ByteArray} {maxL fr lo n ci N : Nat} {ret : Option FieldType} {T : u_T} {fs : List hF} {Pr : Heap → Prop}
theorem h_cb (hts : ∀ w ∈ wsL_law, w.before args s = true) (hw : h_wd y bytes maxL ret n) (hlink : Cond.methodLink own index y ∈ wsL_law) (hR : fr + 1 ≤ R.frames ∧ 8 + (maxL + 11) + lo ≤ R.locals) : CallB R s args own index y bytes maxL ret (.code y bytes maxL ret :: wsL_law) (h_rm fr lo) 0 0 n :=
  callB_of n hts (h_ws hw) rfl rfl rfl (hts _ hw.1.2) (hts _ hlink) hw.2 hR
theorem h_recv (hK : h_K G s) (hT0 : hT G Y H) (hbY : Y b = some (.inl (ci, fs))) {C : String} (hc : vwCl[ci]? = some (C, T, N)) : ∃ cellB : Cell, H[b]? = some cellB ∧ cellB.vm.isStatics = false ∧ s.vm.findClass C = some cellB.cls := by
  obtain ⟨r, V, h1, ⟨cell, q1, q2, q3, q4⟩, hV⟩ := hT0 b _ hbY
  refine ⟨cell, q1, by rw [q3]; rfl, ?_⟩
  rw [q2]
  exact (hK.1 ci _ hc).2.1
theorem h_callVi (hx : p.tables.exec = Jvm.exec) (hb : c.code = cc) (hml : c.maxLocals = nL) (hown : s.vm.findClass own = some m.cls) (hts : ∀ w ∈ wsL_law, w.before args s = true) (hK : h_K G s) (hT0 : hT G Y H) (hZ : h_Z G A s) (hA : ∀ q, h_A Y q → A q) (hS : va_S A s.heap H locs) {Po : Heap → Int32 → Heap → Prop}
    (hM : hMi l y bytes maxL ret fr lo G Y (.ref b :: As) Pr Po) (hpr : Pr H) (hw : h_wd y bytes maxL ret n) (hwV : h_wV y) (hlink : Cond.methodLink own index y ∈ wsL_law) (hbY : Y b = some (.inl (ci, fs))) (hc : vwCl[ci]? = some (y.cls, T, N)) (hn : As.length = n) (hls : ls.size = nL) (hst : st0 = As.reverse ++ .ref b :: rest) (hroom : (rest.map fun v => v.category).sum ≤ 8) (hdg : decode cc pc = .ok (.invokevirtual index, 3)) (hR : fr + 1 ≤ R.frames ∧ 8 + (maxL + 11) + lo ≤ R.locals) (hf : cells ≤ R.cells ∧ slots ≤ R.slots)
    (kk : ∀ (r : Int32) (H1 : Heap) (locs1 : List Loc), Po H r H1 → hT G Y H1 → va_S A s.heap H1 locs1 → (∀ q : Nat, q < H.size → ¬ h_A Y q → H1[q]? = H[q]?) → W p l e R s m args below meth c H1 locs1 cells slots Q (F0 m (pc + 3) ls (.int r :: rest))) : W p l e R s m args below meth c H locs cells slots Q (F0 m pc ls st0) := by
  refine va_calli (va_runV (C := y.cls) (As := As) (rest := rest) (n := n) ⟨hx, hb, hml, hown, hts⟩ (hM H hpr) ⟨h_cb hts hw hlink hR, hts _ hwV.1, hts _ hwV.2⟩ ⟨h_blind, h_recv hK hT0 hbY hc, fun U hU hW => ⟨rfl, hU, hT0, hK.moved hW.alike, hZ.to hA hS hU hW⟩⟩ rfl hn hls hst (lv_room hroom) hdg hf) hS (fun q _ h => hA q h) (fun q h => hA q h) (fun r u t H1 locs1 ht hvm hp hB hz hk hS1 => ?_)
  have hu : u = H1 := by rw [← hB]; exact ht
  subst hu
  exact kk r u locs1 hp.1 hp.2 hS1 hk
theorem h_callWi (hx : p.tables.exec = Jvm.exec) (hb : c.code = cc) (hml : c.maxLocals = nL) (hown : s.vm.findClass own = some m.cls) (hts : ∀ w ∈ wsL_law, w.before args s = true) (hK : h_K G s) (hT0 : hT G Y H) (hZ : h_Z G A s) (hA : ∀ q, h_A Y q → A q) (hS : va_S A s.heap H locs) {Po : Heap → Int32 → Heap → Prop}
    (hM : hMi l y bytes maxL ret fr lo G Y (.ref b :: As) Pr Po) (hpr : Pr H) (hw : h_wd y bytes maxL ret n) (hwV : h_wV y) (hlink : Cond.methodLink own index y ∈ wsL_law) (hr : ∃ cellB : Cell, H[b]? = some cellB ∧ cellB.vm.isStatics = false ∧ s.vm.findClass y.cls = some cellB.cls) (hn : As.length = n) (hls : ls.size = nL) (hst : st0 = As.reverse ++ .ref b :: rest) (hroom : (rest.map fun v => v.category).sum ≤ 8) (hdg : decode cc pc = .ok (.invokevirtual index, 3)) (hR : fr + 1 ≤ R.frames ∧ 8 + (maxL + 11) + lo ≤ R.locals) (hf : cells ≤ R.cells ∧ slots ≤ R.slots)
    (kk : ∀ (r : Int32) (H1 : Heap) (locs1 : List Loc), Po H r H1 → hT G Y H1 → va_S A s.heap H1 locs1 → (∀ q : Nat, q < H.size → ¬ h_A Y q → H1[q]? = H[q]?) → W p l e R s m args below meth c H1 locs1 cells slots Q (F0 m (pc + 3) ls (.int r :: rest))) : W p l e R s m args below meth c H locs cells slots Q (F0 m pc ls st0) := by
  refine va_calli (va_runV (C := y.cls) (As := As) (rest := rest) (n := n) ⟨hx, hb, hml, hown, hts⟩ (hM H hpr) ⟨h_cb hts hw hlink hR, hts _ hwV.1, hts _ hwV.2⟩ ⟨h_blind, hr, fun U hU hW => ⟨rfl, hU, hT0, hK.moved hW.alike, hZ.to hA hS hU hW⟩⟩ rfl hn hls hst (lv_room hroom) hdg hf) hS (fun q _ h => hA q h) (fun q h => hA q h) (fun r u t H1 locs1 ht hvm hp hB hz hk hS1 => ?_)
  have hu : u = H1 := by rw [← hB]; exact ht
  subst hu
  exact kk r u locs1 hp.1 hp.2 hS1 hk
theorem h_callVv (hx : p.tables.exec = Jvm.exec) (hb : c.code = cc) (hml : c.maxLocals = nL) (hown : s.vm.findClass own = some m.cls) (hts : ∀ w ∈ wsL_law, w.before args s = true) (hK : h_K G s) (hT0 : hT G Y H) (hZ : h_Z G A s) (hA : ∀ q, h_A Y q → A q) (hS : va_S A s.heap H locs) {Po : Heap → Heap → Prop}
    (hM : hMv l y bytes maxL ret fr lo G Y (.ref b :: As) Pr Po) (hpr : Pr H) (hw : h_wd y bytes maxL ret n) (hwV : h_wV y) (hlink : Cond.methodLink own index y ∈ wsL_law) (hbY : Y b = some (.inl (ci, fs))) (hc : vwCl[ci]? = some (y.cls, T, N)) (hn : As.length = n) (hls : ls.size = nL) (hst : st0 = As.reverse ++ .ref b :: rest) (hroom : (rest.map fun v => v.category).sum ≤ 8) (hdg : decode cc pc = .ok (.invokevirtual index, 3)) (hR : fr + 1 ≤ R.frames ∧ 8 + (maxL + 11) + lo ≤ R.locals) (hf : cells ≤ R.cells ∧ slots ≤ R.slots)
    (kk : ∀ (H1 : Heap) (locs1 : List Loc), Po H H1 → hT G Y H1 → va_S A s.heap H1 locs1 → (∀ q : Nat, q < H.size → ¬ h_A Y q → H1[q]? = H[q]?) → W p l e R s m args below meth c H1 locs1 cells slots Q (F0 m (pc + 3) ls rest)) : W p l e R s m args below meth c H locs cells slots Q (F0 m pc ls st0) := by
  refine va_callv (va_runV (C := y.cls) (As := As) (rest := rest) (n := n) ⟨hx, hb, hml, hown, hts⟩ (hM H hpr) ⟨h_cb hts hw hlink hR, hts _ hwV.1, hts _ hwV.2⟩ ⟨h_blind, h_recv hK hT0 hbY hc, fun U hU hW => ⟨rfl, hU, hT0, hK.moved hW.alike, hZ.to hA hS hU hW⟩⟩ rfl hn hls hst (lv_room hroom) hdg hf) hS (fun q _ h => hA q h) (fun q h => hA q h) (fun u t H1 locs1 ht hvm hp hB hz hk hS1 => ?_)
  have hu : u = H1 := by rw [← hB]; exact ht
  subst hu
  exact kk u locs1 hp.1 hp.2 hS1 hk
theorem h_callSi (hx : p.tables.exec = Jvm.exec) (hb : c.code = cc) (hml : c.maxLocals = nL) (hown : s.vm.findClass own = some m.cls) (hts : ∀ w ∈ wsL_law, w.before args s = true) (hK : h_K G s) (hT0 : hT G Y H) (hZ : h_Z G A s) (hA : ∀ q, h_A Y q → A q) (hS : va_S A s.heap H locs) {Po : Heap → Int32 → Heap → Prop}
    (hM : hMi l y bytes maxL ret fr lo G Y As Pr Po) (hpr : Pr H) (hw : h_wd y bytes maxL ret n) (hwS : h_wS y) (hlink : Cond.methodLink own index y ∈ wsL_law) (hn : As.length = n) (hls : ls.size = nL) (hst : st0 = As.reverse ++ rest) (hroom : (rest.map fun v => v.category).sum ≤ 8) (hdg : decode cc pc = .ok (.invokestatic index, 3)) (hR : fr + 1 ≤ R.frames ∧ 8 + (maxL + 11) + lo ≤ R.locals) (hf : cells ≤ R.cells ∧ slots ≤ R.slots)
    (kk : ∀ (r : Int32) (H1 : Heap) (locs1 : List Loc), Po H r H1 → hT G Y H1 → va_S A s.heap H1 locs1 → (∀ q : Nat, q < H.size → ¬ h_A Y q → H1[q]? = H[q]?) → W p l e R s m args below meth c H1 locs1 cells slots Q (F0 m (pc + 3) ls (.int r :: rest))) : W p l e R s m args below meth c H locs cells slots Q (F0 m pc ls st0) := by
  refine va_calli (va_runS (As := As) (rest := rest) (n := n) ⟨hx, hb, hml, hown, hts⟩ (hM H hpr) ⟨h_cb hts hw hlink hR, hts _ hwS⟩ ⟨h_blind, fun U hU hW => ⟨rfl, hU, hT0, hK.moved hW.alike, hZ.to hA hS hU hW⟩⟩ rfl hn hls hst (lv_room hroom) hdg hf) hS (fun q _ h => hA q h) (fun q h => hA q h) (fun r u t H1 locs1 ht hvm hp hB hz hk hS1 => ?_)
  have hu : u = H1 := by rw [← hB]; exact ht
  subst hu
  exact kk r u locs1 hp.1 hp.2 hS1 hk
theorem h_callSv (hx : p.tables.exec = Jvm.exec) (hb : c.code = cc) (hml : c.maxLocals = nL) (hown : s.vm.findClass own = some m.cls) (hts : ∀ w ∈ wsL_law, w.before args s = true) (hK : h_K G s) (hT0 : hT G Y H) (hZ : h_Z G A s) (hA : ∀ q, h_A Y q → A q) (hS : va_S A s.heap H locs) {Po : Heap → Heap → Prop}
    (hM : hMv l y bytes maxL ret fr lo G Y As Pr Po) (hpr : Pr H) (hw : h_wd y bytes maxL ret n) (hwS : h_wS y) (hlink : Cond.methodLink own index y ∈ wsL_law) (hn : As.length = n) (hls : ls.size = nL) (hst : st0 = As.reverse ++ rest) (hroom : (rest.map fun v => v.category).sum ≤ 8) (hdg : decode cc pc = .ok (.invokestatic index, 3)) (hR : fr + 1 ≤ R.frames ∧ 8 + (maxL + 11) + lo ≤ R.locals) (hf : cells ≤ R.cells ∧ slots ≤ R.slots)
    (kk : ∀ (H1 : Heap) (locs1 : List Loc), Po H H1 → hT G Y H1 → va_S A s.heap H1 locs1 → (∀ q : Nat, q < H.size → ¬ h_A Y q → H1[q]? = H[q]?) → W p l e R s m args below meth c H1 locs1 cells slots Q (F0 m (pc + 3) ls rest)) : W p l e R s m args below meth c H locs cells slots Q (F0 m pc ls st0) := by
  refine va_callv (va_runS (As := As) (rest := rest) (n := n) ⟨hx, hb, hml, hown, hts⟩ (hM H hpr) ⟨h_cb hts hw hlink hR, hts _ hwS⟩ ⟨h_blind, fun U hU hW => ⟨rfl, hU, hT0, hK.moved hW.alike, hZ.to hA hS hU hW⟩⟩ rfl hn hls hst (lv_room hroom) hdg hf) hS (fun q _ h => hA q h) (fun q h => hA q h) (fun u t H1 locs1 ht hvm hp hB hz hk hS1 => ?_)
  have hu : u = H1 := by rw [← hB]; exact ht
  subst hu
  exact kk u locs1 hp.1 hp.2 hS1 hk
end HC
section HO
variable {l : Launch} {y : MethodName} {cc : ByteArray} {mL fr lo : Nat} {G : hG} {Y : hW} {av : List Value} {Pr : Heap → Prop}
/-- a contract out of the walk of its body; Q: what the walk comes to; hret: the way there -/
theorem h_ofi {Po : Heap → Int32 → Heap → Prop} (hy : plainName y.cls = true) (hfit : (lg_sl av).length ≤ mL)
    (body : ∀ (p : Program) (e : Env) (s : State) (m : MethodId) (args : Array Value) (below : List Frame) (meth : Method) (c : Code) (H : Heap) (ls : Array Slot) (Q : State → Prop), p.tables.exec = Jvm.exec → c.code = cc → (∀ w ∈ wsL_law, w.before args s = true) → s.vm.findClass y.cls = some m.cls → c.maxLocals = mL → h_K G s → h_Z G (h_A Y) s → hT G Y H → Pr H → va_S (h_A Y) s.heap H [] → lv_has ls mL (lv_args 0 av) →
      (∀ (H1 : Heap) (locs : List Loc) (pc : Nat) (ls : Array Slot) (x : Int32), hT G Y H1 → va_S (h_A Y) s.heap H1 locs → Po H x H1 → decode cc pc = .ok (.ireturn, 1) → W p l e (h_rm fr lo) s m args below meth c H1 locs 0 0 Q (F0 m pc ls [.int x])) →
      W p l e (h_rm fr lo) s m args below meth c H [] 0 0 Q (F0 m 0 ls [])) : hMi l y cc mL (some .int) fr lo G Y av Pr Po := by
  intro H0 hpr
  refine Met.ofW (cc := cc) (maxL := mL) (ret := some .int) hy rfl ?_
  intro p e s m args below meth c s₁ B hml hv
  obtain ⟨rfl, hh, hT0, hK, hZ⟩ := hv
  have hts := atoms_spec (ws := .code y cc mL (some .int) :: wsL_law) B.pre
  subst hh
  have hl := lv_entry av (n := mL) hfit
  rw [lg_entry_eq]
  generalize (lg_sl av ++ List.replicate (mL - (lg_sl av).length) Slot.unset).toArray = ls at hl ⊢
  exact body p e s m av.toArray below meth c s.heap ls _ B.exec B.bytes (fun w hw => hts w (List.mem_cons_of_mem _ hw)) (findClass_of_methodNamed B.named) hml hK hZ hT0 hpr va_S.rf hl
    (fun H1 locs pc ls x hT1 hS1 hp hdg => W.iret B.exec B.bytes B.returns (fun t ht hW => ⟨⟨x, H1, rfl, ⟨hp, hT1⟩, ht⟩, hS1.F ht⟩) hS1.2.2 hdg B.notSynchronized)
theorem h_ofz {Po : Heap → Int32 → Heap → Prop} (hy : plainName y.cls = true) (hfit : (lg_sl av).length ≤ mL)
    (body : ∀ (p : Program) (e : Env) (s : State) (m : MethodId) (args : Array Value) (below : List Frame) (meth : Method) (c : Code) (H : Heap) (ls : Array Slot) (Q : State → Prop), p.tables.exec = Jvm.exec → c.code = cc → (∀ w ∈ wsL_law, w.before args s = true) → s.vm.findClass y.cls = some m.cls → c.maxLocals = mL → h_K G s → h_Z G (h_A Y) s → hT G Y H → Pr H → va_S (h_A Y) s.heap H [] → lv_has ls mL (lv_args 0 av) →
      (∀ (H1 : Heap) (locs : List Loc) (pc : Nat) (ls : Array Slot) (x : Int32), hT G Y H1 → va_S (h_A Y) s.heap H1 locs → (x = 0 ∨ x = 1) ∧ Po H x H1 → decode cc pc = .ok (.ireturn, 1) → W p l e (h_rm fr lo) s m args below meth c H1 locs 0 0 Q (F0 m pc ls [.int x])) →
      W p l e (h_rm fr lo) s m args below meth c H [] 0 0 Q (F0 m 0 ls [])) : hMi l y cc mL (some .boolean) fr lo G Y av Pr Po := by
  intro H0 hpr
  refine Met.ofW (cc := cc) (maxL := mL) (ret := some .boolean) hy rfl ?_
  intro p e s m args below meth c s₁ B hml hv
  obtain ⟨rfl, hh, hT0, hK, hZ⟩ := hv
  have hts := atoms_spec (ws := .code y cc mL (some .boolean) :: wsL_law) B.pre
  subst hh
  have hl := lv_entry av (n := mL) hfit
  rw [lg_entry_eq]
  generalize (lg_sl av ++ List.replicate (mL - (lg_sl av).length) Slot.unset).toArray = ls at hl ⊢
  exact body p e s m av.toArray below meth c s.heap ls _ B.exec B.bytes (fun w hw => hts w (List.mem_cons_of_mem _ hw)) (findClass_of_methodNamed B.named) hml hK hZ hT0 hpr va_S.rf hl
    (fun H1 locs pc ls x hT1 hS1 hp hdg => W.zret B.exec B.bytes B.returns (by rcases hp.1 with rfl | rfl <;> rfl) (fun t ht hW => ⟨⟨x, H1, rfl, ⟨hp.2, hT1⟩, ht⟩, hS1.F ht⟩) hS1.2.2 hdg B.notSynchronized)
theorem h_ofv {Po : Heap → Heap → Prop} (hy : plainName y.cls = true) (hfit : (lg_sl av).length ≤ mL)
    (body : ∀ (p : Program) (e : Env) (s : State) (m : MethodId) (args : Array Value) (below : List Frame) (meth : Method) (c : Code) (H : Heap) (ls : Array Slot) (Q : State → Prop), p.tables.exec = Jvm.exec → c.code = cc → (∀ w ∈ wsL_law, w.before args s = true) → s.vm.findClass y.cls = some m.cls → c.maxLocals = mL → h_K G s → h_Z G (h_A Y) s → hT G Y H → Pr H → va_S (h_A Y) s.heap H [] → lv_has ls mL (lv_args 0 av) →
      (∀ (H1 : Heap) (locs : List Loc) (pc : Nat) (ls : Array Slot), hT G Y H1 → va_S (h_A Y) s.heap H1 locs → Po H H1 → decode cc pc = .ok (.return_, 1) → W p l e (h_rm fr lo) s m args below meth c H1 locs 0 0 Q (F0 m pc ls [])) →
      W p l e (h_rm fr lo) s m args below meth c H [] 0 0 Q (F0 m 0 ls [])) : hMv l y cc mL none fr lo G Y av Pr Po := by
  intro H0 hpr
  refine Met.ofW (cc := cc) (maxL := mL) (ret := none) hy rfl ?_
  intro p e s m args below meth c s₁ B hml hv
  obtain ⟨rfl, hh, hT0, hK, hZ⟩ := hv
  have hts := atoms_spec (ws := .code y cc mL none :: wsL_law) B.pre
  subst hh
  have hl := lv_entry av (n := mL) hfit
  rw [lg_entry_eq]
  generalize (lg_sl av ++ List.replicate (mL - (lg_sl av).length) Slot.unset).toArray = ls at hl ⊢
  exact body p e s m av.toArray below meth c s.heap ls _ B.exec B.bytes (fun w hw => hts w (List.mem_cons_of_mem _ hw)) (findClass_of_methodNamed B.named) hml hK hZ hT0 hpr va_S.rf hl
    (fun H1 locs pc ls hT1 hS1 hp hdg => W.vret B.exec B.bytes B.returns (fun t ht hW => ⟨⟨H1, rfl, ⟨hp, hT1⟩, ht⟩, hS1.F ht⟩) hS1.2.2 hdg B.notSynchronized)
theorem h_ofb {Po : Heap → Int32 → Heap → Prop} (hy : plainName y.cls = true) (hfit : (lg_sl av).length ≤ mL)
    (body : ∀ (p : Program) (e : Env) (s : State) (m : MethodId) (args : Array Value) (below : List Frame) (meth : Method) (c : Code) (H : Heap) (ls : Array Slot) (Q : State → Prop), p.tables.exec = Jvm.exec → c.code = cc → (∀ w ∈ wsL_law, w.before args s = true) → s.vm.findClass y.cls = some m.cls → c.maxLocals = mL → h_K G s → h_Z G (h_A Y) s → hT G Y H → Pr H → va_S (h_A Y) s.heap H [] → lv_has ls mL (lv_args 0 av) →
      (∀ (H1 : Heap) (locs : List Loc) (pc : Nat) (ls : Array Slot) (x : Int32), hT G Y H1 → va_S (h_A Y) s.heap H1 locs → narrow .byte (.int x) = .int x ∧ Po H x H1 → decode cc pc = .ok (.ireturn, 1) → W p l e (h_rm fr lo) s m args below meth c H1 locs 0 0 Q (F0 m pc ls [.int x])) →
      W p l e (h_rm fr lo) s m args below meth c H [] 0 0 Q (F0 m 0 ls [])) : hMi l y cc mL (some .byte) fr lo G Y av Pr Po := by
  intro H0 hpr
  refine Met.ofW (cc := cc) (maxL := mL) (ret := some .byte) hy rfl ?_
  intro p e s m args below meth c s₁ B hml hv
  obtain ⟨rfl, hh, hT0, hK, hZ⟩ := hv
  have hts := atoms_spec (ws := .code y cc mL (some .byte) :: wsL_law) B.pre
  subst hh
  have hl := lv_entry av (n := mL) hfit
  rw [lg_entry_eq]
  generalize (lg_sl av ++ List.replicate (mL - (lg_sl av).length) Slot.unset).toArray = ls at hl ⊢
  exact body p e s m av.toArray below meth c s.heap ls _ B.exec B.bytes (fun w hw => hts w (List.mem_cons_of_mem _ hw)) (findClass_of_methodNamed B.named) hml hK hZ hT0 hpr va_S.rf hl
    (fun H1 locs pc ls x hT1 hS1 hp hdg => W.zret B.exec B.bytes B.returns hp.1 (fun t ht hW => ⟨⟨x, H1, rfl, ⟨hp.2, hT1⟩, ht⟩, hS1.F ht⟩) hS1.2.2 hdg B.notSynchronized)
theorem h_ofc {Po : Heap → Int32 → Heap → Prop} (hy : plainName y.cls = true) (hfit : (lg_sl av).length ≤ mL)
    (body : ∀ (p : Program) (e : Env) (s : State) (m : MethodId) (args : Array Value) (below : List Frame) (meth : Method) (c : Code) (H : Heap) (ls : Array Slot) (Q : State → Prop), p.tables.exec = Jvm.exec → c.code = cc → (∀ w ∈ wsL_law, w.before args s = true) → s.vm.findClass y.cls = some m.cls → c.maxLocals = mL → h_K G s → h_Z G (h_A Y) s → hT G Y H → Pr H → va_S (h_A Y) s.heap H [] → lv_has ls mL (lv_args 0 av) →
      (∀ (H1 : Heap) (locs : List Loc) (pc : Nat) (ls : Array Slot) (x : Int32), hT G Y H1 → va_S (h_A Y) s.heap H1 locs → narrow .char (.int x) = .int x ∧ Po H x H1 → decode cc pc = .ok (.ireturn, 1) → W p l e (h_rm fr lo) s m args below meth c H1 locs 0 0 Q (F0 m pc ls [.int x])) →
      W p l e (h_rm fr lo) s m args below meth c H [] 0 0 Q (F0 m 0 ls [])) : hMi l y cc mL (some .char) fr lo G Y av Pr Po := by
  intro H0 hpr
  refine Met.ofW (cc := cc) (maxL := mL) (ret := some .char) hy rfl ?_
  intro p e s m args below meth c s₁ B hml hv
  obtain ⟨rfl, hh, hT0, hK, hZ⟩ := hv
  have hts := atoms_spec (ws := .code y cc mL (some .char) :: wsL_law) B.pre
  subst hh
  have hl := lv_entry av (n := mL) hfit
  rw [lg_entry_eq]
  generalize (lg_sl av ++ List.replicate (mL - (lg_sl av).length) Slot.unset).toArray = ls at hl ⊢
  exact body p e s m av.toArray below meth c s.heap ls _ B.exec B.bytes (fun w hw => hts w (List.mem_cons_of_mem _ hw)) (findClass_of_methodNamed B.named) hml hK hZ hT0 hpr va_S.rf hl
    (fun H1 locs pc ls x hT1 hS1 hp hdg => W.zret B.exec B.bytes B.returns hp.1 (fun t ht hW => ⟨⟨x, H1, rfl, ⟨hp.2, hT1⟩, ht⟩, hS1.F ht⟩) hS1.2.2 hdg B.notSynchronized)
end HO
