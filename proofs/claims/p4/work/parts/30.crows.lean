-- CONSTRUCTORS: cells come one behind another: node i lies at b + i
def upE (E : Nat → va_E) (i : Nat) (e : va_E) : Nat → va_E := fun j => if j = i then e else E j
theorem upE_at {E : Nat → va_E} {i : Nat} {e : va_E} : upE E i e i = e := by simp [upE]
theorem upE_ne {E : Nat → va_E} {i j : Nat} {e : va_E} (h : j ≠ i) : upE E i e j = E j := by simp [upE, h]
def wE (b : Nat) (E : Nat → va_E) (n : Nat) : va_W := (List.range n).map fun i => (b + i, E i)
theorem wE_get {b n i : Nat} {E : Nat → va_E} {e : va_E} (h : i < n) (he : E i = e) : (wE b E n)[i]? = some (b + i, e) := by subst he; simp [wE, h]
theorem wE_push {b n : Nat} {E : Nat → va_E} {e : va_E} : wE b E n ++ [(b + n, e)] = wE b (upE E n e) (n + 1) := by
  unfold wE
  rw [List.range_succ, List.map_append]
  congr 1
  · apply List.map_congr_left
    intro i hi
    rw [upE_ne (Nat.ne_of_lt (List.mem_range.mp hi))]
  · simp [upE_at]
theorem wE_set {b n i : Nat} {E : Nat → va_E} {e : va_E} : (wE b E n).set i (b + i, e) = wE b (upE E i e) n := by
  apply List.ext_getElem?
  intro j
  rw [List.getElem?_set]
  by_cases hq : i = j
  · subst hq
    rw [if_pos rfl]
    by_cases h92 : i < n
    · rw [if_pos (by simp [wE, h92])]
      simp [wE, h92, upE_at]
    · rw [if_neg (by simp [wE]; omega)]
      simp [wE, Nat.not_lt.mp h92]
  · rw [if_neg hq]
    by_cases h92 : j < n
    · simp [wE, h92, upE_ne (E := E) (e := e) (fun z => hq z.symm)]
    · simp [wE, Nat.not_lt.mp h92]
theorem wE_D {b n : Nat} {E : Nat → va_E} : va_D (fun q => b ≤ q) (wE b E n) := by
  refine ⟨fun i j p q h1 h2 h3 => ?_, fun k q h => ?_⟩
  · have e1 : i < n := by
      have := (List.getElem?_eq_some_iff.mp h1).1
      simpa [wE] using this
    have e2 : j < n := by
      have := (List.getElem?_eq_some_iff.mp h2).1
      simpa [wE] using this
    rw [wE_get e1 rfl] at h1
    rw [wE_get e2 rfl] at h2
    cases h1; cases h2
    dsimp only at h3
    omega
  · have e1 : k < n := by
      have := (List.getElem?_eq_some_iff.mp h).1
      simpa [wE] using this
    rw [wE_get e1 rfl] at h
    cases h
    exact Nat.le_add_right _ _
def PE (D : va_G) (b : Nat) (E : Nat → va_E) (n : Nat) (s : State) (H : Heap) (locs : List Loc) : Prop := va_P D vwCl (wE b E n) H ∧ H.size = b + n ∧ va_S (fun q => b ≤ q) s.heap H locs
section NROWS
variable {p : Program} {l : Launch} {e : Env} {R : Room} {s : State} {m : MethodId} {args : Array Value} {below : List Frame} {meth : Method} {c : Code} {H : Heap} {locs : List Loc} {cells slots : Nat} {Q : State → Prop}
variable {cc : ByteArray} {pc : Nat} {ls : Array Slot} {rest : List Value} {G : Gg} {b n : Nat} {E : Nat → va_E} {own : String}
theorem tn_new (hx : p.tables.exec = Jvm.exec) (hb : c.code = cc) (hts : ∀ w ∈ wsL_law, w.before args s = true) (hown : s.vm.findClass own = some m.cls) (hK : va_K G.1 vwCl (tys0 G) s) (hw : PE G.1 b E n s H locs) {ci index N : Nat} {C : String} {T : u_T} (ty : Nat → FieldType) (hc : vwCl[ci]? = some (C, T, N)) (hin : ∀ w ∈ u_ws C T N, w ∈ wsL_law) (hty : ∀ k, k < N → parseFieldDescriptor (T k).2.2.1 = some (ty k)) (hwd : ∀ w ∈ ([.classLink own index C, .instantiable C N, .initialized C] : List Cond), w ∈ wsL_law) {fs : List Value} (hfs : ∀ j, j < N → defaultValue (ty j) = vp_V fs j) (hcells : cells + 1 ≤ R.cells) (hslots : slots + N ≤ R.slots) (hdg : decode cc pc = .ok (.new index, 3))
    (kk : ∀ H1 : Heap, PE G.1 b (upE E n (.inr (ci, fs))) (n + 1) s H1 locs → W p l e R s m args below meth c H1 locs (cells + 1) (slots + N) Q (F0 m (pc + 3) ls (.ref (b + n) :: rest))) : W p l e R s m args below meth c H locs cells slots Q (F0 m pc ls rest) := by
  obtain ⟨hP, hz, hS⟩ := hw
  have hKn := hK.1 ci _ hc
  refine W.newcK hx hb hown (hts _ (hwd _ (by simp))) (hts _ (hwd _ (by simp))) (hts _ (hwd _ (by simp))) rfl hdg hcells hslots hKn.2.1 hz fun H1 kC hkC e1 z1 o1 => ?_
  have hk : ∀ (k : Nat) (x : Nat × va_E), (wE b E n)[k]? = some x → H1[x.1]? = H[x.1]? := fun k x hx => o1 x.1 (by rw [← hz]; exact (hP k x hx).lt)
  refine kk H1 ⟨?_, by omega, Nat.le_trans hS.1 (by omega), fun x h1 h2 => (o1 x (by have := hS.1; omega)).trans (hS.2.1 x h1 h2), hS.2.2⟩
  rw [← wE_push]
  refine (hP.kept hk).app (fun k x hx => ?_)
  have hz : k < 1 := (List.getElem?_eq_some_iff.mp hx).1
  rw [show k = 0 by omega] at hx
  cases hx
  exact ⟨_, hc, (u_born ty hts hin hKn hkC e1 hty).to hfs⟩
theorem tn_newa (hx : p.tables.exec = Jvm.exec) (hb : c.code = cc) (hts : ∀ w ∈ wsL_law, w.before args s = true) (hK : va_K G.1 vwCl (tys0 G) s) (hw : PE G.1 b E n s H locs) {atype : ArrayType} {ty : FieldType} (hat : newarray.typeOf atype = ty) (hd0 : defaultValue ty = .int 0) (t0 : Nat) {cA : ClassId} (ht : (tys0 G)[t0]? = some (cA, ty)) (hnr : va_RA s cA ty → s.vm.findClass ("[" ++ ty.toString) = some cA) (harr : Cond.arrayClass ty ∈ wsL_law) {nn : Int32} {N : Nat} (hn : ¬ nn < 0) (hN : nn.toNatClampNeg = N) (hbytes : N * componentBytes ty ≤ 536870912) (hcells : cells + 1 ≤ R.cells) (hslots : slots + N ≤ R.slots) (hdg : decode cc pc = .ok (.newarray atype, 2))
    (kk : ∀ H1 : Heap, PE G.1 b (upE E n (.inl (cA, N, .inl (fun _ => 0)))) (n + 1) s H1 locs → W p l e R s m args below meth c H1 locs (cells + 1) (slots + N) Q (F0 m (pc + 2) ls (.ref (b + n) :: rest))) : W p l e R s m args below meth c H locs cells slots Q (F0 m pc ls (.int nn :: rest)) := by
  subst hat
  obtain ⟨hP, hz, hS⟩ := hw
  refine va_newaK hx hb (hts _ harr) rfl hdg rfl hn hN hbytes hcells hslots hz fun H1 cB e1 z1 o1 hAr hNm => ?_
  have hcc : cB = cA := Option.some.inj (hNm.symm.trans (hnr (hK.2 t0 _ ht).2))
  subst hcc
  have hk : ∀ (k : Nat) (x : Nat × va_E), (wE b E n)[k]? = some x → H1[x.1]? = H[x.1]? := fun k x hx => o1 x.1 (by rw [← hz]; exact (hP k x hx).lt)
  refine kk H1 ⟨?_, by omega, Nat.le_trans hS.1 (by omega), fun x h1 h2 => (o1 x (by have := hS.1; omega)).trans (hS.2.1 x h1 h2), hS.2.2⟩
  rw [← wE_push]
  refine (hP.kept hk).app (fun k x hx => ?_)
  have hz : k < 1 := (List.getElem?_eq_some_iff.mp hx).1
  rw [show k = 0 by omega] at hx
  cases hx
  show H1[b + n]? = some (vp_cell _ _)
  rw [vp_cell_i, e1, hd0]
theorem tn_newq (hx : p.tables.exec = Jvm.exec) (hb : c.code = cc) (hts : ∀ w ∈ wsL_law, w.before args s = true) (hown : s.vm.findClass own = some m.cls) (hK : va_K G.1 vwCl (tys0 G) s) (hw : PE G.1 b E n s H locs) {C : String} {index : Nat} (hover : (Cond.arrayOver (.object C)).before args s = true) (hclink : Cond.classLink own index C ∈ wsL_law) (t0 : Nat) {cA : ClassId} (ht : (tys0 G)[t0]? = some (cA, .object C)) {nn : Int32} {N : Nat} (hn : ¬ nn < 0) (hN : nn.toNatClampNeg = N) (hbytes : N * 4 ≤ 536870912) (hcells : cells + 1 ≤ R.cells) (hslots : slots + N ≤ R.slots) (hdg : decode cc pc = .ok (.anewarray index, 3))
    (kk : ∀ H1 : Heap, PE G.1 b (upE E n (.inl (cA, N, .inr (.inr (.inr (.inr (fun _ => none))))))) (n + 1) s H1 locs → W p l e R s m args below meth c H1 locs (cells + 1) (slots + N) Q (F0 m (pc + 3) ls (.ref (b + n) :: rest))) : W p l e R s m args below meth c H locs cells slots Q (F0 m pc ls (.int nn :: rest)) := by
  subst hN
  obtain ⟨hP, hz, hS⟩ := hw
  refine W.anew hx hb hown (hts _ hclink) hover rfl hdg rfl hn hbytes hcells hslots fun cB kA comp f1 f2 f3 f4 => ?_
  obtain ⟨kA', comp', k1, k2, k3, k4⟩ := (hK.2 t0 _ ht).2
  have hcc : cB = cA := Option.some.inj (f1.symm.trans k4)
  subst hcc
  rw [hz]
  generalize hH1 : H.push ({ cls := cB, slots := Array.replicate nn.toNatClampNeg .null, vm := .none } : Cell) = H1
  have z1 : H1.size = H.size + 1 := by rw [← hH1, Array.size_push]
  have e1 : H1[b + n]? = some (arrV cB nn.toNatClampNeg (fun _ => .null)) := by rw [← hz, ← hH1, Array.getElem?_push_size, ← arrV_new]
  have o1 : ∀ q : Nat, q < H.size → H1[q]? = H[q]? := fun q hq => by rw [← hH1, Array.getElem?_push, if_neg (Nat.ne_of_lt hq)]
  have hk : ∀ (k : Nat) (x : Nat × va_E), (wE b E n)[k]? = some x → H1[x.1]? = H[x.1]? := fun k x hx => o1 x.1 ((hP k x hx).lt)
  refine kk H1 ⟨?_, by omega, Nat.le_trans hS.1 (by omega), fun x h1 h2 => (o1 x (by have := hS.1; omega)).trans (hS.2.1 x h1 h2), hS.2.2⟩
  rw [← wE_push]
  refine (hP.kept hk).app (fun k x hx => ?_)
  have hz : k < 1 := (List.getElem?_eq_some_iff.mp hx).1
  rw [show k = 0 by omega] at hx
  cases hx
  show H1[b + n]? = some (vp_cell _ _)
  rw [vp_cell_q]
  exact e1
theorem tn_get (hx : p.tables.exec = Jvm.exec) (hb : c.code = cc) (hts : ∀ w ∈ wsL_law, w.before args s = true) (hown : s.vm.findClass own = some m.cls) (hK : va_K G.1 vwCl (tys0 G) s) (hw : PE G.1 b E n s H locs) {i ci k index N : Nat} {C : String} {T : u_T} {fs : List Value} {v : Value}
    (hi : i < n) (he : E i = .inr (ci, fs)) (hc : vwCl[ci]? = some (C, T, N)) (hin : ∀ w ∈ u_ws C T N, w ∈ wsL_law) (hkN : k < N) (hlink : Cond.fieldLink own index (T k).1 (T k).2.1 (T k).2.2.1 ∈ wsL_law) (hv : fs[k]? = some v) (hdg : decode cc pc = .ok (.getfield index, 3))
    (kk : W p l e R s m args below meth c H locs cells slots Q (F0 m (pc + 3) ls (v :: rest))) : W p l e R s m args below meth c H locs cells slots Q (F0 m pc ls (.ref (b + i) :: rest)) :=
  va_get (D := G.1) hx hb hts hin hown hK hw.1 i (wE_get hi he) hc k hkN (hts _ hlink) (fun _ h => h) hv hdg kk
theorem tn_put (hx : p.tables.exec = Jvm.exec) (hb : c.code = cc) (hts : ∀ w ∈ wsL_law, w.before args s = true) (hown : s.vm.findClass own = some m.cls) (hK : va_K G.1 vwCl (tys0 G) s) (hw : PE G.1 b E n s H locs) {i ci k index N : Nat} {C : String} {T : u_T} {fs : List Value} {v : Value} (ty0 : Nat → FieldType)
    (hi : i < n) (he : E i = .inr (ci, fs)) (hc : vwCl[ci]? = some (C, T, N)) (hin : ∀ w ∈ u_ws C T N, w ∈ wsL_law) (hty : ∀ k, k < N → parseFieldDescriptor (T k).2.2.1 = some (ty0 k)) (hnm : ∀ a, a < N → ∀ b, b < N → a ≠ b → (T a).2.1 ≠ (T b).2.1) (hkN : k < N) (hlink : Cond.fieldLink own index (T k).1 (T k).2.1 (T k).2.2.1 ∈ wsL_law) (hfin : (T k).2.2.2 = false)
    (hn : narrow (ty0 k) v = v) (hfit : fits (ty0 k) v = true) (hl : k < fs.length) (hdg : decode cc pc = .ok (.putfield index, 3))
    (kk : ∀ (H1 : Heap) (locs1 : List Loc), PE G.1 b (upE E i (.inr (ci, fs.set k v))) n s H1 locs1 → W p l e R s m args below meth c H1 locs1 cells slots Q (F0 m (pc + 3) ls rest)) : W p l e R s m args below meth c H locs cells slots Q (F0 m pc ls (v :: .ref (b + i) :: rest)) := by
  obtain ⟨hP, hz, hS0⟩ := hw
  have hap := va_apart (own := own) hts hin ty0 hty hnm hK hc
  obtain ⟨r, h1, cell, q1, q2, q3, q4⟩ := hP i _ (wE_get hi he)
  have hr : r = (C, T, N) := Option.some.inj (h1.symm.trans hc)
  subst hr
  obtain ⟨hS, hfc, kC, hkC, hkind⟩ := hK.1 ci _ hc
  obtain ⟨cf, kf, fi, f, hfi, hsl⟩ := hS k hkN
  have hlay := hts _ (hin _ (u_in_lay hkN))
  unfold u_lay at hlay
  rw [if_neg (by rw [hfin]; decide)] at hlay
  have hst := (u_facts hfc hkC (u_lays hts hin hkN) hfi).1
  have h6 := u_store hfc hkC hkind hlay hfi (hty k hkN) hn hfit
  refine W.putK hx hb (f := f) ⟨hown, hts _ hlink, ⟨_, _, _, hfi⟩, hst⟩ (by rw [q2]; exact h6) q1 q3 (by rw [hsl]; exact k2_hasslot (q4 k hkN)) rfl rfl hdg fun H' e1 e2 e3 => ?_
  rw [hsl] at e1 ⊢
  have hP' := hP.set (wE_D (E := E)) (wE_get hi he) (e := .inr (ci, fs.set k v)) ⟨_, hc, t_OB.to (V := updV (vp_V fs) k v) ⟨_, e1, q2, q3, t_set q4 hap hkN v⟩ (fun j _ => vp_updV_set hl v j)⟩ e3
  rw [wE_set] at hP'
  exact kk H' _ ⟨hP', by omega, hS0.put e2 e3 (Nat.le_add_right _ _)⟩
theorem tn_putF (hx : p.tables.exec = Jvm.exec) (hb : c.code = cc) (hts : ∀ w ∈ wsL_law, w.before args s = true) (hown : s.vm.findClass own = some m.cls) (hK : va_K G.1 vwCl (tys0 G) s) (hw : PE G.1 b E n s H locs) {i ci k index N : Nat} {C : String} {T : u_T} {fs : List Value} {v : Value} (ty0 : Nat → FieldType) (hin2 : meth.name = "<init>") (hdecl : (T k).1 = own)
    (hi : i < n) (he : E i = .inr (ci, fs)) (hc : vwCl[ci]? = some (C, T, N)) (hin : ∀ w ∈ u_ws C T N, w ∈ wsL_law) (hty : ∀ k, k < N → parseFieldDescriptor (T k).2.2.1 = some (ty0 k)) (hnm : ∀ a, a < N → ∀ b, b < N → a ≠ b → (T a).2.1 ≠ (T b).2.1) (hkN : k < N) (hlink : Cond.fieldLink own index (T k).1 (T k).2.1 (T k).2.2.1 ∈ wsL_law) (hfin : (T k).2.2.2 = true)
    (hn : narrow (ty0 k) v = v) (hfit : fits (ty0 k) v = true) (hl : k < fs.length) (hdg : decode cc pc = .ok (.putfield index, 3))
    (kk : ∀ (H1 : Heap) (locs1 : List Loc), PE G.1 b (upE E i (.inr (ci, fs.set k v))) n s H1 locs1 → W p l e R s m args below meth c H1 locs1 cells slots Q (F0 m (pc + 3) ls rest)) : W p l e R s m args below meth c H locs cells slots Q (F0 m pc ls (v :: .ref (b + i) :: rest)) := by
  obtain ⟨hP, hz, hS0⟩ := hw
  have hap := va_apart (own := own) hts hin ty0 hty hnm hK hc
  obtain ⟨r, h1, cell, q1, q2, q3, q4⟩ := hP i _ (wE_get hi he)
  have hr : r = (C, T, N) := Option.some.inj (h1.symm.trans hc)
  subst hr
  obtain ⟨hS, hfc, kC, hkC, hkind⟩ := hK.1 ci _ hc
  obtain ⟨cf, kf, fi, f, hfi, hsl⟩ := hS k hkN
  have hlay := hts _ (hin _ (u_in_lay hkN))
  unfold u_lay at hlay
  rw [if_pos hfin] at hlay
  have hst := (u_facts hfc hkC (u_lays hts hin hkN) hfi).1
  have hcf : m.cls = cf := by
    obtain ⟨_, _, c', _, _, _, -, -, hf', -, -, -, hown2, -⟩ := Cond.laysFinal_spec hlay
    have e1 : c' = cf := by have := hfi.symm.trans hf'; simp at this; exact this.1.symm
    rw [hdecl] at hown2
    rw [← e1]; exact Option.some.inj (hown.symm.trans hown2)
  have h6 := u_fits hfc hkC hkind (Or.inr hlay) hfi (hty k hkN) hn hfit
  refine W.putFinK hx hb hown (hts _ hlink) hfi hst hcf hin2 (by rw [q2]; exact h6) q1 q3 (by rw [hsl]; exact k2_hasslot (q4 k hkN)) rfl rfl hdg fun H' e1 e2 e3 => ?_
  rw [hsl] at e1 ⊢
  have hP' := hP.set (wE_D (E := E)) (wE_get hi he) (e := .inr (ci, fs.set k v)) ⟨_, hc, t_OB.to (V := updV (vp_V fs) k v) ⟨_, e1, q2, q3, t_set q4 hap hkN v⟩ (fun j _ => vp_updV_set hl v j)⟩ e3
  rw [wE_set] at hP'
  exact kk H' _ ⟨hP', by omega, hS0.put e2 e3 (Nat.le_add_right _ _)⟩
theorem tn_iast (hx : p.tables.exec = Jvm.exec) (hb : c.code = cc) (hK : va_K G.1 vwCl (tys0 G) s) (hw : PE G.1 b E n s H locs) {i N : Nat} {f : Nat → Int32} {j x : Int32} (hi : i < n) (he : E i = .inl (G.2.1.1, N, .inl f)) (hin : vp_in j N) (hdg : decode cc pc = .ok (.iastore, 1))
    (kk : ∀ (H1 : Heap) (locs1 : List Loc), PE G.1 b (upE E i (.inl (G.2.1.1, N, .inl (upd f j.toNatClampNeg x)))) n s H1 locs1 → W p l e R s m args below meth c H1 locs1 cells slots Q (F0 m (pc + 1) ls rest)) : W p l e R s m args below meth c H locs cells slots Q (F0 m pc ls (.int x :: .int j :: .ref (b + i) :: rest)) := by
  obtain ⟨hP, hz, hS⟩ := hw
  refine W.iast hx hb (hP i _ (wE_get hi he)) ((hK.2 0 _ rfl).1 N (fun j => .int (f j))) (fun q => by cases q) (by show ¬ (j < 0 ∨ (arrV _ _ _).slots.size ≤ _); rw [arrV_size]; exact hin) rfl rfl hdg fun H1 e z oq => ?_
  have hP' := hP.set (wE_D (E := E)) (wE_get hi he) (H1 := H1) (e := .inl (G.2.1.1, N, .inl (upd f j.toNatClampNeg x))) (by
    show H1[b + i]? = some (vp_cell _ _)
    rw [e]
    rw [vp_cell_i, vp_cell_i, arrV_store]
    congr 2
    funext q
    by_cases hq : q = j.toNatClampNeg
    · subst hq
      simp [updV, upd]
    · simp [updV, upd, hq]) oq
  rw [wE_set] at hP'
  exact kk H1 _ ⟨hP', by omega, hS.put z oq (Nat.le_add_right _ _)⟩
theorem tn_astq (hx : p.tables.exec = Jvm.exec) (hb : c.code = cc) (hK : va_K G.1 vwCl (tys0 G) s) (hw : PE G.1 b E n s H locs) (t0 : Nat) {i k ci N : Nat} {cA : ClassId} {r : vw_C} {f : Nat → Option Nat} {vs : List Value} {j : Int32} (hi : i < n) (he : E i = .inl (cA, N, .inr (.inr (.inr (.inr f))))) (ht : (tys0 G)[t0]? = some (cA, .object r.1)) (hk : k < n) (hv : E k = .inr (ci, vs)) (hc : vwCl[ci]? = some r) (hin : vp_in j N) (hdg : decode cc pc = .ok (.aastore, 1))
    (kk : ∀ (H1 : Heap) (locs1 : List Loc), PE G.1 b (upE E i (.inl (cA, N, .inr (.inr (.inr (.inr (va_up f j.toNatClampNeg (some (b + k))))))))) n s H1 locs1 → W p l e R s m args below meth c H1 locs1 cells slots Q (F0 m (pc + 1) ls rest)) : W p l e R s m args below meth c H locs cells slots Q (F0 m pc ls (.ref (b + k) :: .int j :: .ref (b + i) :: rest)) := by
  obtain ⟨hP, hz, hS⟩ := hw
  have hlt : j.toNatClampNeg < N := Nat.not_le.mp fun q => hin (Or.inr q)
  have h0 : ¬ j < 0 := fun q => hin (Or.inl q)
  obtain ⟨r', hr', cellV, g1, g2, g3, -⟩ := hP k _ (wE_get hk hv)
  have hcls := (hK.1 ci r hc).2
  obtain ⟨kA, comp, k1, k2, k3, -⟩ := (hK.2 t0 _ ht).2
  have hcomp : comp = G.1.1 ci := Option.some.inj (k3.symm.trans hcls.1)
  subst hcomp
  obtain ⟨kC, hkC, -⟩ := hcls.2
  refine W.aast hx hb (hP i _ (wE_get hi he)) (fun q h => by cases h) (fun h => by cases h) k1 k2 rfl hkC ⟨h0, by show _ < (arrV _ _ _).slots.size; rw [arrV_size]; exact hlt⟩ g1 (fun q h => by rw [g3] at h; cases h) (by rw [g2]; exact hkC) (by rw [g2]; exact va_assign hcls) rfl rfl hdg fun H1 e z oq => ?_
  have hP' := hP.set (wE_D (E := E)) (wE_get hi he) (H1 := H1) (e := .inl (cA, N, .inr (.inr (.inr (.inr (va_up f j.toNatClampNeg (some (b + k)))))))) (by
    show H1[b + i]? = some (vp_cell _ _)
    rw [e]
    rw [vp_cell_q, vp_cell_q, arrV_store]
    congr 2
    funext q
    by_cases hq : q = j.toNatClampNeg
    · subst hq
      simp [updV, va_up, va_rf]
    · simp [updV, va_up, hq]) oq
  rw [wE_set] at hP'
  exact kk H1 _ ⟨hP', by omega, hS.put z oq (Nat.le_add_right _ _)⟩
end NROWS
