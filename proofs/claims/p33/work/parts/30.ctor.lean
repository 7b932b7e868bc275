/-! constructors: what they make lies in the heap from the object on -/
def cw (G : hG) (b : Nat) (L : List va_E) (H : Heap) : Prop := ∀ (i : Nat) (e : va_E), L[i]? = some e → va_at G.1 vwCl (b + i, e) H
theorem cw.put {G : hG} {b n a : Nat} {L : List va_E} {H H1 : Heap} (h : cw G b L H) (hn : L.length = n) (oq : ∀ q : Nat, q ≠ a → H1[q]? = H[q]?) (ha : a < b ∨ b + n ≤ a) : cw G b L H1 := fun i e hi => (h i e hi).kept (oq _ (by
  have := (List.getElem?_eq_some_iff.mp hi).1
  show b + i ≠ a
  omega))
theorem cw.old {G : hG} {b n z : Nat} {L : List va_E} {H H1 : Heap} (h : cw G b L H) (hn : L.length = n) (oq : ∀ q : Nat, q < z → H1[q]? = H[q]?) (hz : b + n ≤ z) : cw G b L H1 := fun i e hi => (h i e hi).kept (oq _ (by
  have := (List.getElem?_eq_some_iff.mp hi).1
  show b + i < z
  omega))
theorem cw.app {G : hG} {b n : Nat} {L1 L2 : List va_E} {H : Heap} (h1 : cw G b L1 H) (hn : L1.length = n) (h2 : cw G (b + n) L2 H) : cw G b (L1 ++ L2) H := by
  subst hn
  intro i e hi
  by_cases hl : i < L1.length
  · rw [List.getElem?_append_left hl] at hi
    exact h1 i e hi
  · rw [List.getElem?_append_right (by omega)] at hi
    have := h2 _ e hi
    rwa [show b + L1.length + (i - L1.length) = b + i by omega] at this
theorem cw.one {G : hG} {b : Nat} {e : va_E} {H : Heap} (h : va_at G.1 vwCl (b, e) H) : cw G b [e] H := fun i e' hi => by
  have hz : i < 1 := (List.getElem?_eq_some_iff.mp hi).1
  have : i = 0 := by omega
  subst this
  cases hi
  exact h
theorem cw.hd {G : hG} {b : Nat} {e : va_E} {L : List va_E} {H : Heap} (h : cw G b (e :: L) H) : va_at G.1 vwCl (b, e) H := h 0 e rfl
def c_N (U : State) : Prop := (va_Nw (.methodLinkNest RX10 9 yX8_init "RankedRing") U ∧ va_Nw (.methodLinkNest RX10 18 yX5_init "RankedRing") U ∧ va_Nw (.methodLinkNest RX5 11 yX7_init "RankedRing") U ∧ va_Nw (.methodLinkNest RX5 20 yX2_init "RankedRing") U ∧ va_Nw (.methodLinkNest RX5 27 yX3_init "RankedRing") U ∧ va_Nw (.methodLinkNest RX5 34 yX9_init "RankedRing") U ∧ va_Nw (.methodLinkNest RX5 41 yX6_init "RankedRing") U ∧ va_Nw (.methodLinkNest RX5 48 yX0_init "RankedRing") U) ∧ va_AO "RankedRing$Ring" U ∧ va_AO "RankedRing$Tape" U
theorem c_N.warm {s U : State} (hW : s.WarmedH U.vm) (h : c_N s) : c_N U := by
  obtain ⟨⟨h1, h2, h3, h4, h5, h6, h7, h8⟩, h9, h10⟩ := h
  exact ⟨⟨h1.warmM hW, h2.warmM hW, h3.warmM hW, h4.warmM hW, h5.warmM hW, h6.warmM hW, h7.warmM hW, h8.warmM hW⟩, h9.moved hW.alike, h10.moved hW.alike⟩
theorem c_N.same {s U : State} (hv : s.vm = U.vm) (h : c_N s) : c_N U := by
  obtain ⟨⟨h1, h2, h3, h4, h5, h6, h7, h8⟩, h9, h10⟩ := h
  exact ⟨⟨h1.same rfl hv, h2.same rfl hv, h3.same rfl hv, h4.same rfl hv, h5.same rfl hv, h6.same rfl hv, h7.same rfl hv, h8.same rfl hv⟩, va_AO.moved (by rw [hv]; exact Vm.Alike.refl _) h9, va_AO.moved (by rw [hv]; exact Vm.Alike.refl _) h10⟩
section CR
variable {p : Program} {l : Launch} {e : Env} {R : Room} {s : State} {m : MethodId} {args : Array Value} {below : List Frame} {meth : Method} {c : Code} {H : Heap} {locs : List Loc} {cells slots : Nat} {Q : State → Prop}
variable {cc : ByteArray} {pc : Nat} {ls : Array Slot} {rest : List Value} {G : hG} {A : Nat → Prop} {a : Nat} {H0 : Heap}
theorem c_new (hexec : p.tables.exec = Jvm.exec) (hb : c.code = cc) (hts : ∀ w ∈ wsL_law, w.before args s = true) {own C : String} {T : u_T} {N ci index : Nat} (hin : ∀ w ∈ u_ws C T N, w ∈ wsL_law) (ty : Nat → FieldType) (hty : ∀ k, k < N → parseFieldDescriptor (T k).2.2.1 = some (ty k)) (hown : s.vm.findClass own = some m.cls) (hcl : Cond.classLink own index C ∈ wsL_law) (hinst : Cond.instantiable C N ∈ wsL_law) (hini : Cond.initialized C ∈ wsL_law)
    (hK : h_K G s) (hS : va_S A H0 H locs) (hc : vwCl[ci]? = some (C, T, N)) {fs : List Value} (hfs : ∀ j, j < N → defaultValue (ty j) = vp_V fs j) {z : Nat} (hz : H.size = z) (hcells : cells + 1 ≤ R.cells) (hslots : slots + N ≤ R.slots) (hdg : decode cc pc = .ok (.new index, 3))
    (kk : ∀ H1 : Heap, H1.size = z + 1 → va_at G.1 vwCl (z, .inr (ci, fs)) H1 → (∀ q : Nat, q < z → H1[q]? = H[q]?) → va_S A H0 H1 locs → W p l e R s m args below meth c H1 locs (cells + 1) (slots + N) Q (F0 m (pc + 3) ls (.ref z :: rest))) : W p l e R s m args below meth c H locs cells slots Q (F0 m pc ls rest) := by
  have hKn := hK.1 ci _ hc
  refine W.newcK hexec hb hown (hts _ hcl) (hts _ hinst) (hts _ hini) rfl hdg hcells hslots hKn.2.1 hz fun H1 kC hkC e1 z1 o1 => ?_
  exact kk H1 z1 ⟨_, hc, (u_born ty hts hin hKn hkC e1 hty).to hfs⟩ o1 ⟨Nat.le_trans hS.1 (by omega), fun x h1 h2 => (o1 x (by have := hS.1; omega)).trans (hS.2.1 x h1 h2), hS.2.2⟩
theorem c_newa (hexec : p.tables.exec = Jvm.exec) (hb : c.code = cc) (hts : ∀ w ∈ wsL_law, w.before args s = true) {atype : ArrayType} (harr : Cond.arrayClass (newarray.typeOf atype) ∈ wsL_law) (t : Nat) (ht : t < 4) (hty : newarray.typeOf atype = h_ty t) (hK : h_K G s) (hS : va_S A H0 H locs)
    {n : Int32} {N : Nat} {a0 : vp_A} (ha : vp_cell (G.2.1 t) a0 = arrV (G.2.1 t) N (fun _ => defaultValue (h_ty t))) (hn : ¬ n < 0) (hN : n.toNatClampNeg = N) (hbytes : N * componentBytes (h_ty t) ≤ 536870912) {z : Nat} (hz : H.size = z) (hcells : cells + 1 ≤ R.cells) (hslots : slots + N ≤ R.slots) (hdg : decode cc pc = .ok (.newarray atype, 2))
    (kk : ∀ H1 : Heap, H1.size = z + 1 → va_at G.1 vwCl (z, .inl (G.2.1 t, a0)) H1 → (∀ q : Nat, q < z → H1[q]? = H[q]?) → va_S A H0 H1 locs → W p l e R s m args below meth c H1 locs (cells + 1) (slots + N) Q (F0 m (pc + 2) ls (.ref z :: rest))) : W p l e R s m args below meth c H locs cells slots Q (F0 m pc ls (.int n :: rest)) := by
  refine va_newaK hexec hb (hts _ harr) rfl hdg rfl hn hN (by rw [hty]; exact hbytes) hcells hslots hz fun H1 cA e1 z1 o1 hAr hNm => ?_
  have hcA : cA = G.2.1 t := by
    have h2 := (hK.2 t (by omega)).2
    rw [hty] at hNm
    match t, ht with
    | 0, _ => exact Option.some.inj (hNm.symm.trans h2)
    | 1, _ => exact Option.some.inj (hNm.symm.trans h2)
    | 2, _ => exact Option.some.inj (hNm.symm.trans h2)
    | 3, _ => exact Option.some.inj (hNm.symm.trans h2)
  subst hcA
  refine kk H1 z1 ?_ o1 ⟨Nat.le_trans hS.1 (by omega), fun x h1 h2 => (o1 x (by have := hS.1; omega)).trans (hS.2.1 x h1 h2), hS.2.2⟩
  show H1[z]? = some (vp_cell (G.2.1 t) a0)
  rw [ha, e1, hty]
theorem c_newq (hexec : p.tables.exec = Jvm.exec) (hb : c.code = cc) (hts : ∀ w ∈ wsL_law, w.before args s = true) {own C : String} {index : Nat} (hown : s.vm.findClass own = some m.cls) (hclink : Cond.classLink own index C ∈ wsL_law) (hover : va_AO C s) (t : Nat) (ht : t < 6) (hty : h_ty t = .object C) (hK : h_K G s) (hS : va_S A H0 H locs)
    {n : Int32} {N : Nat} (hn : ¬ n < 0) (hN : n.toNatClampNeg = N) (hbytes : N * 4 ≤ 536870912) {z : Nat} (hz : H.size = z) (hcells : cells + 1 ≤ R.cells) (hslots : slots + N ≤ R.slots) (hdg : decode cc pc = .ok (.anewarray index, 3))
    (kk : ∀ H1 : Heap, H1.size = z + 1 → va_at G.1 vwCl (z, .inl (G.2.1 t, N, .inr (.inr (.inr (.inr (fun _ => none)))))) H1 → (∀ q : Nat, q < z → H1[q]? = H[q]?) → va_S A H0 H1 locs → W p l e R s m args below meth c H1 locs (cells + 1) (slots + N) Q (F0 m (pc + 3) ls (.ref z :: rest))) : W p l e R s m args below meth c H locs cells slots Q (F0 m pc ls (.int n :: rest)) := by
  subst hN
  subst hz
  refine W.anew hexec hb hown (hts _ hclink) (va_AO.use hover) rfl hdg rfl hn hbytes hcells hslots fun cA kA comp f1 f2 f3 f4 => ?_
  generalize hH1 : H.push ({ cls := cA, slots := Array.replicate n.toNatClampNeg .null, vm := .none } : Cell) = H1
  have z1 : H1.size = H.size + 1 := by rw [← hH1, Array.size_push]
  have e1 : H1[H.size]? = some (arrV cA n.toNatClampNeg (fun _ => .null)) := by rw [← hH1, Array.getElem?_push_size, ← arrV_new]
  have o1 : ∀ q : Nat, q < H.size → H1[q]? = H[q]? := fun q hq => by rw [← hH1, Array.getElem?_push, if_neg (Nat.ne_of_lt hq)]
  have hcA : cA = G.2.1 t := by
    have h2 := (hK.2 t ht).2
    rw [hty] at h2
    obtain ⟨kA', comp', -, -, -, h5⟩ := h2
    exact Option.some.inj (f1.symm.trans h5)
  subst hcA
  refine kk H1 z1 ?_ o1 ⟨Nat.le_trans hS.1 (by omega), fun x h1 h2 => (o1 x (by have := hS.1; omega)).trans (hS.2.1 x h1 h2), hS.2.2⟩
  show H1[H.size]? = some (vp_cell _ _)
  rw [vp_cell_q]
  exact e1
theorem c_put (hexec : p.tables.exec = Jvm.exec) (hb : c.code = cc) (hts : ∀ w ∈ wsL_law, w.before args s = true) {own ref C : String} {T : u_T} {N ci index : Nat} (hin : ∀ w ∈ u_ws C T N, w ∈ wsL_law) (ty0 : Nat → FieldType) (hty : ∀ k, k < N → parseFieldDescriptor (T k).2.2.1 = some (ty0 k)) (hnm : ∀ a, a < N → ∀ b, b < N → a ≠ b → (T a).2.1 ≠ (T b).2.1) (hown : s.vm.findClass own = some m.cls) (hK : h_K G s) {fs : List Value} (ho : va_at G.1 vwCl (a, .inr (ci, fs)) H) (hA : A a) (hS : va_S A H0 H locs) (hc : vwCl[ci]? = some (C, T, N)) (k : Nat) (hk : k < N) (hlink : Cond.fieldLink own index ref (T k).2.1 (T k).2.2.1 ∈ wsL_law) (hsame : (T k).1 = ref) (hfin : (T k).2.2.2 = false) {v : Value} (hn : narrow (ty0 k) v = v) (hfit : fits (ty0 k) v = true) (hl : k < fs.length)
    (hdg : decode cc pc = .ok (.putfield index, 3)) (kk : ∀ (H1 : Heap) (locs1 : List Loc), H1.size = H.size → va_at G.1 vwCl (a, .inr (ci, fs.set k v)) H1 → (∀ q : Nat, q ≠ a → H1[q]? = H[q]?) → va_S A H0 H1 locs1 → W p l e R s m args below meth c H1 locs1 cells slots Q (F0 m (pc + 3) ls rest)) : W p l e R s m args below meth c H locs cells slots Q (F0 m pc ls (v :: .ref a :: rest)) := by
  have hap := h_apart (own := own) hts hin ty0 hty hnm hK hc
  obtain ⟨r, h1, cell, q1, q2, q3, q4⟩ := ho
  have hr : r = (C, T, N) := Option.some.inj (h1.symm.trans hc)
  subst hr
  obtain ⟨hSl, hfc, kC, hkC, hkind⟩ := hK.1 ci _ hc
  obtain ⟨cf, kf, fi, f, hi, hsl⟩ := hSl k hk
  have hi2 : s.fieldFound? ref (T k).2.1 (T k).2.2.1 = some (cf, kf, fi, f) := by rw [← hsame]; exact hi
  have hlay := hts _ (hin _ (u_in_lay hk))
  unfold u_lay at hlay
  rw [if_neg (by rw [hfin]; decide)] at hlay
  have hst := (u_facts hfc hkC (u_lays hts hin hk) hi).1
  have h6 := u_store hfc hkC hkind hlay hi (hty k hk) hn hfit
  refine W.putK hexec hb (f := f) ⟨hown, hts _ hlink, ⟨_, _, _, hi2⟩, hst⟩ (by rw [q2]; exact h6) q1 q3 (by rw [hsl]; exact k2_hasslot (q4 k hk)) rfl rfl hdg fun H' e1 e2 e3 => ?_
  rw [hsl] at e1 ⊢
  exact kk H' _ e2 ⟨_, hc, t_OB.to (V := updV (vp_V fs) k v) ⟨_, e1, q2, q3, t_set q4 hap hk v⟩ (fun j _ => vp_updV_set hl v j)⟩ e3 (hS.one e2 e3 hA)
theorem c_putF (hexec : p.tables.exec = Jvm.exec) (hb : c.code = cc) (hts : ∀ w ∈ wsL_law, w.before args s = true) {own ref C : String} {T : u_T} {N ci index : Nat} (hin : ∀ w ∈ u_ws C T N, w ∈ wsL_law) (ty0 : Nat → FieldType) (hty : ∀ k, k < N → parseFieldDescriptor (T k).2.2.1 = some (ty0 k)) (hnm : ∀ a, a < N → ∀ b, b < N → a ≠ b → (T a).2.1 ≠ (T b).2.1) (hown : s.vm.findClass own = some m.cls) (hK : h_K G s) {fs : List Value} (ho : va_at G.1 vwCl (a, .inr (ci, fs)) H) (hA : A a) (hS : va_S A H0 H locs) (hc : vwCl[ci]? = some (C, T, N)) (k : Nat) (hk : k < N) (hlink : Cond.fieldLink own index ref (T k).2.1 (T k).2.2.1 ∈ wsL_law) (hsame : (T k).1 = ref) (hfin : (T k).2.2.2 = true) (hin2 : meth.name = "<init>") (hdecl : (T k).1 = own) {v : Value} (hn : narrow (ty0 k) v = v) (hfit : fits (ty0 k) v = true) (hl : k < fs.length)
    (hdg : decode cc pc = .ok (.putfield index, 3)) (kk : ∀ (H1 : Heap) (locs1 : List Loc), H1.size = H.size → va_at G.1 vwCl (a, .inr (ci, fs.set k v)) H1 → (∀ q : Nat, q ≠ a → H1[q]? = H[q]?) → va_S A H0 H1 locs1 → W p l e R s m args below meth c H1 locs1 cells slots Q (F0 m (pc + 3) ls rest)) : W p l e R s m args below meth c H locs cells slots Q (F0 m pc ls (v :: .ref a :: rest)) := by
  have hap := h_apart (own := own) hts hin ty0 hty hnm hK hc
  obtain ⟨r, h1, cell, q1, q2, q3, q4⟩ := ho
  have hr : r = (C, T, N) := Option.some.inj (h1.symm.trans hc)
  subst hr
  obtain ⟨hSl, hfc, kC, hkC, hkind⟩ := hK.1 ci _ hc
  obtain ⟨cf, kf, fi, f, hi, hsl⟩ := hSl k hk
  have hi2 : s.fieldFound? ref (T k).2.1 (T k).2.2.1 = some (cf, kf, fi, f) := by rw [← hsame]; exact hi
  have hlay := hts _ (hin _ (u_in_lay hk))
  unfold u_lay at hlay
  rw [if_pos hfin] at hlay
  have hst := (u_facts hfc hkC (u_lays hts hin hk) hi).1
  have hcf : m.cls = cf := by
    obtain ⟨_, _, c', _, _, _, -, -, hf', -, -, -, hown2, -⟩ := Cond.laysFinal_spec hlay
    have e1 : c' = cf := by have := hi.symm.trans hf'; simp at this; exact this.1.symm
    rw [hdecl] at hown2
    rw [← e1]; exact Option.some.inj (hown.symm.trans hown2)
  have h6 := u_fits hfc hkC hkind (Or.inr hlay) hi (hty k hk) hn hfit
  refine W.putFinK hexec hb hown (hts _ hlink) hi2 hst hcf hin2 (by rw [q2]; exact h6) q1 q3 (by rw [hsl]; exact k2_hasslot (q4 k hk)) rfl rfl hdg fun H' e1 e2 e3 => ?_
  rw [hsl] at e1 ⊢
  exact kk H' _ e2 ⟨_, hc, t_OB.to (V := updV (vp_V fs) k v) ⟨_, e1, q2, q3, t_set q4 hap hk v⟩ (fun j _ => vp_updV_set hl v j)⟩ e3 (hS.one e2 e3 hA)
theorem c_get (hexec : p.tables.exec = Jvm.exec) (hb : c.code = cc) (hts : ∀ w ∈ wsL_law, w.before args s = true) {own ref C : String} {T : u_T} {N ci index : Nat} (hin : ∀ w ∈ u_ws C T N, w ∈ wsL_law) (hown : s.vm.findClass own = some m.cls) (hK : h_K G s) {fs : List Value} (ho : va_at G.1 vwCl (a, .inr (ci, fs)) H) (hc : vwCl[ci]? = some (C, T, N)) (k : Nat) (hk : k < N) (hlink : Cond.fieldLink own index ref (T k).2.1 (T k).2.2.1 ∈ wsL_law) (hsame : (T k).1 = ref) {v : Value} (hv : fs[k]? = some v) (hdg : decode cc pc = .ok (.getfield index, 3))
    (kk : W p l e R s m args below meth c H locs cells slots Q (F0 m (pc + 3) ls (v :: rest))) : W p l e R s m args below meth c H locs cells slots Q (F0 m pc ls (.ref a :: rest)) :=
  va_get (D := G.1) (ws := [(a, .inr (ci, fs))]) hexec hb hts hin hown hK.va (fun k q h => by
    have hz : k < 1 := (List.getElem?_eq_some_iff.mp h).1
    have : k = 0 := by omega
    subst this
    cases h
    exact ho) 0 rfl hc k hk (hts _ hlink) (fun x h => by rw [← hsame]; exact h) hv hdg kk
theorem c_aast (hexec : p.tables.exec = Jvm.exec) (hb : c.code = cc) (hK : h_K G s) {n t : Nat} (ht : t < 6) {f : Nat → Option Nat} (ho : va_at G.1 vwCl (a, .inl (G.2.1 t, n, .inr (.inr (.inr (.inr f))))) H) (hA : A a) (hS : va_S A H0 H locs) {ci v : Nat} {vs : List Value} (hv : va_at G.1 vwCl (v, .inr (ci, vs)) H) {r : vw_C} (hc : vwCl[ci]? = some r) (hty : h_ty t = .object r.1) {i : Int32} (hin : vp_in i n) (hdg : decode cc pc = .ok (.aastore, 1))
    (kk : ∀ (H1 : Heap) (locs1 : List Loc), H1.size = H.size → va_at G.1 vwCl (a, .inl (G.2.1 t, n, .inr (.inr (.inr (.inr (va_up f i.toNatClampNeg (some v))))))) H1 → (∀ q : Nat, q ≠ a → H1[q]? = H[q]?) → va_S A H0 H1 locs1 → W p l e R s m args below meth c H1 locs1 cells slots Q (F0 m (pc + 1) ls rest)) : W p l e R s m args below meth c H locs cells slots Q (F0 m pc ls (.ref v :: .int i :: .ref a :: rest)) := by
  have hlt : i.toNatClampNeg < n := Nat.not_le.mp fun q => hin (Or.inr q)
  have h0 : ¬ i < 0 := fun q => hin (Or.inl q)
  obtain ⟨r', hr', cellV, g1, g2, g3, -⟩ := hv
  have hcls := (hK.1 ci r hc).2
  have hra := (hK.2 t ht).2
  rw [hty] at hra
  obtain ⟨kA, comp, k1, k2, k3, -⟩ := hra
  have hcomp : comp = G.1.1 ci := Option.some.inj (k3.symm.trans hcls.1)
  subst hcomp
  obtain ⟨kC, hkC, -⟩ := hcls.2
  refine W.aast hexec hb ho (fun q h => by cases h) (fun h => by cases h) k1 k2 rfl hkC ⟨h0, by show _ < (arrV _ _ _).slots.size; rw [arrV_size]; exact hlt⟩ g1 (fun q h => by rw [g3] at h; cases h) (by rw [g2]; exact hkC) (by rw [g2]; exact va_assign hcls) rfl rfl hdg fun H1 e z oq => ?_
  refine kk H1 _ z ?_ oq (hS.one z oq hA)
  show H1[a]? = some (vp_cell _ _)
  rw [e]
  rw [vp_cell_q, vp_cell_q, arrV_store]
  congr 2
  funext q
  by_cases hq : q = i.toNatClampNeg
  · subst hq
    simp [updV, va_up, va_rf]
  · simp [updV, va_up, hq]
end CR
/-- a constructor's contract -/
def hI (l : Launch) (y : MethodName) (cc : ByteArray) (mL fr lo mc ms : Nat) (G : hG) (a : Nat) (As : List Value) (d0 : va_E) (ES : List va_E) : Prop :=
  Met l y (.code y cc mL none :: wsL_law) { frames := fr, cells := mc, slots := ms, locals := lo } (va_Pc (.ref a :: As) (fun U => U.heap.size = a + 1 ∧ va_at G.1 vwCl (a, d0) U.heap ∧ h_K G U ∧ c_N U)) (va_Qv (S := Unit) (fun _ => True) (fun _ t => t.heap.size = a + ES.length ∧ cw G a ES t.heap) (fun q => a ≤ q)) mc ms (fun q => a ≤ q)
theorem hI_blind {G : hG} {a : Nat} {As : List Value} {d0 : va_E} : FrameBlind (va_Pc (.ref a :: As) (fun U => U.heap.size = a + 1 ∧ va_at G.1 vwCl (a, d0) U.heap ∧ h_K G U ∧ c_N U)) := fun v U g mk q => by
  obtain ⟨q0, q1, q2, q3, q4⟩ := q
  exact ⟨q0, q1, q2, h_K.moved (u := U) (U := U.calling g mk v) (Vm.Alike.refl U.vm) q3, c_N.same (s := U) (U := U.calling g mk v) rfl q4⟩
theorem hI_of {l : Launch} {y : MethodName} {cc : ByteArray} {mL fr lo mc ms : Nat} {G : hG} {a : Nat} {As : List Value} {d0 : va_E} {ES : List va_E} (hy : plainName y.cls = true) (hfit : (lg_sl (.ref a :: As)).length ≤ mL) (hni : y.name = "<init>")
    (body : ∀ (p : Program) (e : Env) (s : State) (m : MethodId) (args : Array Value) (below : List Frame) (meth : Method) (c : Code) (H : Heap) (ls : Array Slot) (Q : State → Prop), p.tables.exec = Jvm.exec → c.code = cc → (∀ w ∈ wsL_law, w.before args s = true) → s.vm.findClass y.cls = some m.cls → c.maxLocals = mL → meth.name = "<init>" → h_K G s → c_N s → s.heap.size = a + 1 → H.size = a + 1 → va_at G.1 vwCl (a, d0) H → va_S (fun q => a ≤ q) s.heap H [] → lv_has ls mL (lv_args 0 (.ref a :: As)) →
      (∀ (H1 : Heap) (locs : List Loc) (pc : Nat) (ls : Array Slot), H1.size = a + ES.length → cw G a ES H1 → va_S (fun q => a ≤ q) s.heap H1 locs → decode cc pc = .ok (.return_, 1) → W p l e { frames := fr, cells := mc, slots := ms, locals := lo } s m args below meth c H1 locs mc ms Q (F0 m pc ls [])) →
      W p l e { frames := fr, cells := mc, slots := ms, locals := lo } s m args below meth c H [] 0 0 Q (F0 m 0 ls [])) : hI l y cc mL fr lo mc ms G a As d0 ES := by
  refine Met.ofW (cc := cc) (maxL := mL) (ret := none) hy rfl ?_
  intro p e s m args below meth c s₁ B hml hv
  obtain ⟨rfl, hz, ho, hK, hN⟩ := hv
  have hts := atoms_spec (ws := .code y cc mL none :: wsL_law) B.pre
  have hin : meth.name = "<init>" := (name_of_methodNamed B.named B.method).1.trans hni
  have hl := lv_entry (.ref a :: As) (n := mL) hfit
  rw [lg_entry_eq]
  generalize (lg_sl (.ref a :: As) ++ List.replicate (mL - (lg_sl (.ref a :: As)).length) Slot.unset).toArray = ls at hl ⊢
  exact body p e s m _ below meth c s.heap ls _ B.exec B.bytes (fun w hw => hts w (List.mem_cons_of_mem _ hw)) (findClass_of_methodNamed B.named) hml hin hK hN hz hz ho va_S.rf hl
    (fun H1 locs pc ls hz1 hc1 hS1 hdg => W.vret B.exec B.bytes B.returns (fun t ht hW => ⟨⟨(), rfl, trivial, by rw [ht]; exact hz1, by rw [ht]; exact hc1⟩, hS1.F ht⟩) hS1.2.2 hdg B.notSynchronized)
section CC
variable {p : Program} {l : Launch} {e : Env} {R : Room} {s : State} {m : MethodId} {args : Array Value} {below : List Frame} {meth : Method} {c : Code} {H : Heap} {locs : List Loc} {cells slots : Nat} {Q : State → Prop}
variable {cc : ByteArray} {pc nL : Nat} {ls : Array Slot} {rest st0 As : List Value} {G : hG} {A : Nat → Prop} {a : Nat} {H0 : Heap} {own : String} {index : Nat}
variable {y : MethodName} {bytes : ByteArray} {maxL fr lo n mc ms : Nat} {d0 : va_E} {ES : List va_E}
theorem hI_words (h : h_wd y bytes maxL none n) : GoodIn wsL_law (.code y bytes maxL none :: wsL_law) := h_ws h
/-- a constructor is called: a nest mate's, or any -/
theorem c_callN (hx : p.tables.exec = Jvm.exec) (hb : c.code = cc) (hml : c.maxLocals = nL) (hown : s.vm.findClass own = some m.cls) (hts : ∀ w ∈ wsL_law, w.before args s = true) (hK : h_K G s) (hN : c_N s) (hA : ∀ q, a ≤ q → A q) (hS : va_S A H0 H locs)
    (hM : hI l y bytes maxL fr lo mc ms G a As d0 ES) (hz : H.size = a + 1) (ho : va_at G.1 vwCl (a, d0) H) (hw : h_wd y bytes maxL none n) (hni : y.name = "<init>") (hinst : Cond.instanceMethod y ∈ wsL_law) {host : String} (hlink : va_Nw (.methodLinkNest own index y host) s) (hn : As.length = n) (hls : ls.size = nL) (hst : st0 = As.reverse ++ .ref a :: rest) (hroom : (rest.map fun v => v.category).sum ≤ 8) (hdg : decode cc pc = .ok (.invokespecial index, 3)) (hR : fr + 1 ≤ R.frames ∧ 8 + (maxL + 11) + lo ≤ R.locals) (hf : cells + mc ≤ R.cells ∧ slots + ms ≤ R.slots)
    (kk : ∀ (H1 : Heap) (locs1 : List Loc), H1.size = a + ES.length → cw G a ES H1 → (∀ q : Nat, q < a → H1[q]? = H[q]?) → va_S A H0 H1 locs1 → W p l e R s m args below meth c H1 locs1 (cells + mc) (slots + ms) Q (F0 m (pc + 3) ls rest)) : W p l e R s m args below meth c H locs cells slots Q (F0 m pc ls st0) := by
  refine va_callv (va_runIN (As := As) (rest := rest) (n := n) (b := a) ⟨hx, hb, hml, hown, hts⟩ hM ⟨va_cnB n hts (h_ws hw) rfl rfl rfl hlink (hts _ hw.1.2) hw.2 hR, hni, hts _ hinst⟩ ⟨hI_blind, fun U hU hW => ⟨rfl, by rw [hU]; exact hz, by rw [hU]; exact ho, hK.moved hW.alike, hN.warm hW⟩⟩ rfl hn hls hst (lv_room hroom) hdg hf) hS (fun q _ h => hA q h) (fun q h => hA q h) (fun u t H1 locs1 ht hvm hp hB hzz hk hS1 => ?_)
  rw [ht] at hB
  exact kk H1 locs1 hB.1 hB.2 (fun q hq => hk q (by omega) (by omega)) hS1
theorem c_callI (hx : p.tables.exec = Jvm.exec) (hb : c.code = cc) (hml : c.maxLocals = nL) (hown : s.vm.findClass own = some m.cls) (hts : ∀ w ∈ wsL_law, w.before args s = true) (hK : h_K G s) (hN : c_N s) (hA : ∀ q, a ≤ q → A q) (hS : va_S A H0 H locs)
    (hM : hI l y bytes maxL fr lo mc ms G a As d0 ES) (hz : H.size = a + 1) (ho : va_at G.1 vwCl (a, d0) H) (hw : h_wd y bytes maxL none n) (hni : y.name = "<init>") (hinst : Cond.instanceMethod y ∈ wsL_law) (hlink : Cond.methodLink own index y ∈ wsL_law) (hn : As.length = n) (hls : ls.size = nL) (hst : st0 = As.reverse ++ .ref a :: rest) (hroom : (rest.map fun v => v.category).sum ≤ 8) (hdg : decode cc pc = .ok (.invokespecial index, 3)) (hR : fr + 1 ≤ R.frames ∧ 8 + (maxL + 11) + lo ≤ R.locals) (hf : cells + mc ≤ R.cells ∧ slots + ms ≤ R.slots)
    (kk : ∀ (H1 : Heap) (locs1 : List Loc), H1.size = a + ES.length → cw G a ES H1 → (∀ q : Nat, q < a → H1[q]? = H[q]?) → va_S A H0 H1 locs1 → W p l e R s m args below meth c H1 locs1 (cells + mc) (slots + ms) Q (F0 m (pc + 3) ls rest)) : W p l e R s m args below meth c H locs cells slots Q (F0 m pc ls st0) := by
  refine va_callv (va_runI (As := As) (rest := rest) (n := n) (b := a) ⟨hx, hb, hml, hown, hts⟩ hM (cwI n hts (h_ws hw) rfl rfl rfl (hts _ hw.1.2) (hts _ hlink) (hts _ hinst) hni hw.2 hR) ⟨hI_blind, fun U hU hW => ⟨rfl, by rw [hU]; exact hz, by rw [hU]; exact ho, hK.moved hW.alike, hN.warm hW⟩⟩ rfl hn hls hst (lv_room hroom) hdg hf) hS (fun q _ h => hA q h) (fun q h => hA q h) (fun u t H1 locs1 ht hvm hp hB hzz hk hS1 => ?_)
  rw [ht] at hB
  exact kk H1 locs1 hB.1 hB.2 (fun q hq => hk q (by omega) (by omega)) hS1
end CC

