-- ROWS over the world: a field, an element, a table, a call
section TROWS
variable {p : Program} {l : Launch} {e : Env} {R : Room} {s : State} {m : MethodId} {args : Array Value} {below : List Frame} {meth : Method} {c : Code} {H : Heap} {locs : List Loc} {cells slots : Nat} {Q : State → Prop}
variable {cc : ByteArray} {pc : Nat} {ls : Array Slot} {rest : List Value} {G : Gg} {σ : Sg} {own : String}
theorem tg_get (hx : p.tables.exec = Jvm.exec) (hb : c.code = cc) (hts : ∀ w ∈ wsL_law, w.before args s = true) (hown : s.vm.findClass own = some m.cls) (hk : KK G s) (hw : Wo G σ s H locs) {i ci k index N : Nat} {C : String} {T : u_T} {fs : List Value} {v : Value}
    (he : i < 92 ∧ ent G σ i = .inr (ci, fs)) (hc : vwCl[ci]? = some (C, T, N)) (hin : ∀ w ∈ u_ws C T N, w ∈ wsL_law) (hkN : k < N) (hlink : Cond.fieldLink own index (T k).1 (T k).2.1 (T k).2.2.1 ∈ wsL_law) (hv : fs[k]? = some v) (hdg : decode cc pc = .ok (.getfield index, 3))
    (kk : W p l e R s m args below meth c H locs cells slots Q (F0 m (pc + 3) ls (v :: rest))) : W p l e R s m args below meth c H locs cells slots Q (F0 m pc ls (.ref (ad G i) :: rest)) :=
  va_get (D := G.1) hx hb hts hin hown hk.1 hw.1 i (wld_get he) hc k hkN (hts _ hlink) (fun _ h => h) hv hdg kk
theorem tg_put (hx : p.tables.exec = Jvm.exec) (hb : c.code = cc) (hts : ∀ w ∈ wsL_law, w.before args s = true) (hown : s.vm.findClass own = some m.cls) (hk : KK G s) (hG : Ginj G) (hw : Wo G σ s H locs) {i ci k index N : Nat} {C : String} {T : u_T} {fs : List Value} {v : Value} {σ' : Sg} (ty0 : Nat → FieldType)
    (he : i < 92 ∧ ent G σ i = .inr (ci, fs)) (hc : vwCl[ci]? = some (C, T, N)) (hin : ∀ w ∈ u_ws C T N, w ∈ wsL_law) (hty : ∀ k, k < N → parseFieldDescriptor (T k).2.2.1 = some (ty0 k)) (hnm : ∀ a, a < N → ∀ b, b < N → a ≠ b → (T a).2.1 ≠ (T b).2.1) (hkN : k < N) (hlink : Cond.fieldLink own index (T k).1 (T k).2.1 (T k).2.2.1 ∈ wsL_law) (hfin : (T k).2.2.2 = false)
    (hn : narrow (ty0 k) v = v) (hfit : fits (ty0 k) v = true) (hl : k < fs.length) (he' : ent G σ' i = .inr (ci, fs.set k v)) (hne : ∀ j, j ≠ i → σ' j = σ j) (hdg : decode cc pc = .ok (.putfield index, 3))
    (kk : ∀ (H1 : Heap) (locs1 : List Loc), Wo G σ' s H1 locs1 → W p l e R s m args below meth c H1 locs1 cells slots Q (F0 m (pc + 3) ls rest)) : W p l e R s m args below meth c H locs cells slots Q (F0 m pc ls (v :: .ref (ad G i) :: rest)) := by
  refine va_put (D := G.1) hx hb hts hin ty0 hty hnm hown hk.1 hw.1 (wld_D hG) hw.2 i (wld_get he) hc k hkN (hts _ hlink) (fun _ h => h) hfin (hty k hkN) hn hfit hl hdg (fun H1 locs1 hP hD hS => ?_)
  rw [wld_set he' hne] at hP
  exact kk H1 locs1 ⟨hP, hS⟩
theorem tg_iald (hx : p.tables.exec = Jvm.exec) (hb : c.code = cc) (hk : KK G s) (hw : Wo G σ s H locs) {i n : Nat} {j : Int32} (he : i < 92 ∧ ent G σ i = .inl (G.2.1.1, n, .inl (σ i))) (hin : vp_in j n) (hdg : decode cc pc = .ok (.iaload, 1))
    (kk : W p l e R s m args below meth c H locs cells slots Q (F0 m (pc + 1) ls (.int (σ i j.toNatClampNeg) :: rest))) : W p l e R s m args below meth c H locs cells slots Q (F0 m pc ls (.int j :: .ref (ad G i) :: rest)) :=
  va_iald (D := G.1) hx hb hk.1 hw.1 i 0 (wld_get he) rfl hin hdg kk
theorem tg_zald (hx : p.tables.exec = Jvm.exec) (hb : c.code = cc) (hk : KK G s) (hw : Wo G σ s H locs) {i n : Nat} {j : Int32} (he : i < 92 ∧ ent G σ i = .inl (G.2.1.2.1, n, .inl (σ i))) (hin : vp_in j n) (hdg : decode cc pc = .ok (.baload, 1))
    (kk : W p l e R s m args below meth c H locs cells slots Q (F0 m (pc + 1) ls (.int (σ i j.toNatClampNeg) :: rest))) : W p l e R s m args below meth c H locs cells slots Q (F0 m pc ls (.int j :: .ref (ad G i) :: rest)) :=
  va_zald (D := G.1) hx hb hk.1 hw.1 i 1 (wld_get he) rfl hin hdg kk
theorem tg_iast (hx : p.tables.exec = Jvm.exec) (hb : c.code = cc) (hk : KK G s) (hG : Ginj G) (hw : Wo G σ s H locs) {i n : Nat} {j x : Int32} (he : i < 92 ∧ ∀ σ : Sg, ent G σ i = .inl (G.2.1.1, n, .inl (σ i))) (hin : vp_in j n) (hdg : decode cc pc = .ok (.iastore, 1))
    (kk : ∀ (H1 : Heap) (locs1 : List Loc), Wo G (up2 σ i j.toNatClampNeg x) s H1 locs1 → W p l e R s m args below meth c H1 locs1 cells slots Q (F0 m (pc + 1) ls rest)) : W p l e R s m args below meth c H locs cells slots Q (F0 m pc ls (.int x :: .int j :: .ref (ad G i) :: rest)) := by
  refine va_iast (D := G.1) hx hb hk.1 hw.1 (wld_D hG) hw.2 i 0 (wld_get ⟨he.1, he.2 σ⟩) rfl hin hdg (fun H1 locs1 hP hD hS => ?_)
  rw [wld_set (σ' := up2 σ i j.toNatClampNeg x) (by rw [he.2, up2_at]) (fun _ h => up2_ne h)] at hP
  exact kk H1 locs1 ⟨hP, hS⟩
theorem tg_zast (hx : p.tables.exec = Jvm.exec) (hb : c.code = cc) (hk : KK G s) (hG : Ginj G) (hw : Wo G σ s H locs) {i n : Nat} {j x : Int32} (he : i < 92 ∧ ∀ σ : Sg, ent G σ i = .inl (G.2.1.2.1, n, .inl (σ i))) (hin : vp_in j n) (hdg : decode cc pc = .ok (.bastore, 1))
    (kk : ∀ (H1 : Heap) (locs1 : List Loc), Wo G (up2 σ i j.toNatClampNeg (vp_nar .boolean x)) s H1 locs1 → W p l e R s m args below meth c H1 locs1 cells slots Q (F0 m (pc + 1) ls rest)) : W p l e R s m args below meth c H locs cells slots Q (F0 m pc ls (.int x :: .int j :: .ref (ad G i) :: rest)) := by
  refine va_zast (D := G.1) hx hb hk.1 hw.1 (wld_D hG) hw.2 i 1 (wld_get ⟨he.1, he.2 σ⟩) rfl hin hdg (fun H1 locs1 hP hD hS => ?_)
  rw [wld_set (σ' := up2 σ i j.toNatClampNeg (vp_nar .boolean x)) (by rw [he.2, up2_at]) (fun _ h => up2_ne h)] at hP
  exact kk H1 locs1 ⟨hP, hS⟩
theorem tg_aald14 (hx : p.tables.exec = Jvm.exec) (hb : c.code = cc) (hk : KK G s) (hw : Wo G σ s H locs) {i : Nat} {j : Int32} (he : i < 92 ∧ ent G σ i = .inl (G.2.1.2.2.2, 4, .inr (.inr (.inr (.inr fun k => some (ad G (i + 2 + k))))))) (hin : vp_in j 4) (hdg : decode cc pc = .ok (.aaload, 1))
    (kk : W p l e R s m args below meth c H locs cells slots Q (F0 m (pc + 1) ls (.ref (ad G (i + 2 + j.toNatClampNeg)) :: rest))) : W p l e R s m args below meth c H locs cells slots Q (F0 m pc ls (.int j :: .ref (ad G i) :: rest)) :=
  va_aldq (D := G.1) hx hb hk.1 hw.1 i 3 (wld_get he) rfl hin hdg kk
theorem tg_aald13 (hx : p.tables.exec = Jvm.exec) (hb : c.code = cc) (hk : KK G s) (hw : Wo G σ s H locs) {i : Nat} {j : Int32} (he : i < 92 ∧ ent G σ i = .inl (G.2.1.2.2.1, 2, .inr (.inr (.inr (.inr fun k => some (ad G (i + 1 + 12 * k))))))) (hin : vp_in j 2) (hdg : decode cc pc = .ok (.aaload, 1))
    (kk : W p l e R s m args below meth c H locs cells slots Q (F0 m (pc + 1) ls (.ref (ad G (i + 1 + 12 * j.toNatClampNeg)) :: rest))) : W p l e R s m args below meth c H locs cells slots Q (F0 m pc ls (.int j :: .ref (ad G i) :: rest)) :=
  va_aldq (D := G.1) hx hb hk.1 hw.1 i 2 (wld_get he) rfl hin hdg kk
theorem tg_gets (hx : p.tables.exec = Jvm.exec) (hb : c.code = cc) (hts : ∀ w ∈ wsL_law, w.before args s = true) (hown : s.vm.findClass own = some m.cls) {n : String} {t N index : Nat} {f : Nat → Int32} (hZ : Zt G n t N f s) (hw : Wo G σ s H locs) (hlink : Cond.fieldLink own index "BlindSown" n "[I" ∈ wsL_law) (hdg : decode cc pc = .ok (.getstatic index, 3))
    (kk : W p l e R s m args below meth c H locs cells slots Q (F0 m (pc + 3) ls (.ref t :: rest))) : W p l e R s m args below meth c H locs cells slots Q (F0 m pc ls rest) :=
  va_gets hx hb hZ.1 hw.2 hown (hts _ hlink) (fun _ h => h) hdg kk
theorem tg_getsN (hx : p.tables.exec = Jvm.exec) (hb : c.code = cc) (hown : s.vm.findClass own = some m.cls) (hk : KK G s) {n : String} {t N index : Nat} {f : Nat → Int32} (hZ : Zt G n t N f s) (hw : Wo G σ s H locs) (hnest : (own, index, n) ∈ nestF) (hdg : decode cc pc = .ok (.getstatic index, 3))
    (kk : W p l e R s m args below meth c H locs cells slots Q (F0 m (pc + 3) ls (.ref t :: rest))) : W p l e R s m args below meth c H locs cells slots Q (F0 m pc ls rest) :=
  va_getsN hx hb hZ.1 hw.2 hown (va_Nw.use rfl (hk.2.2.2.2 _ hnest)) (fun _ h => h) hdg kk
theorem tg_ti (hx : p.tables.exec = Jvm.exec) (hb : c.code = cc) {n : String} {t N : Nat} {f : Nat → Int32} (hZ : Zt G n t N f s) (hw : Wo G σ s H locs) {j : Int32} (hin : vp_in j N) (hdg : decode cc pc = .ok (.iaload, 1))
    (kk : W p l e R s m args below meth c H locs cells slots Q (F0 m (pc + 1) ls (.int (f j.toNatClampNeg) :: rest))) : W p l e R s m args below meth c H locs cells slots Q (F0 m pc ls (.int j :: .ref t :: rest)) :=
  va_ti hx hb hZ.2 hw.2 hin rfl hdg kk
variable {y : MethodName} {bytes : ByteArray} {maxL nL index n : Nat} {rm : Room} {As st0 : List Value} {C : String} {i : Nat}
theorem te_vi {post : Int32 → Sg → Prop} {a : Array Value} (hw : Wo G σ s H locs) (hr : va_Run p l e R s m args below meth c H locs cells slots 0 0 (F0 m pc ls st0) rest (va_Qi post (Bw G) (ndA G) a) (ndA G)) (kk : ∀ (r : Int32) (σ' : Sg) (H1 : Heap) (locs1 : List Loc), post r σ' → Wo G σ' s H1 locs1 → W p l e R s m args below meth c H1 locs1 cells slots Q (F0 m (pc + 3) ls (.int r :: rest))) : W p l e R s m args below meth c H locs cells slots Q (F0 m pc ls st0) :=
  va_calli hr hw.2 (fun _ _ h => h) (fun _ h => h) (fun r u t H1 locs1 ht _ hp hB _ _ hS => kk r u H1 locs1 hp ⟨by rw [← ht]; exact hB, hS⟩)
theorem te_vl {post : Int64 → Sg → Prop} {a : Array Value} (hw : Wo G σ s H locs) (hr : va_Run p l e R s m args below meth c H locs cells slots 0 0 (F0 m pc ls st0) rest (va_Ql post (Bw G) (ndA G) a) (ndA G)) (kk : ∀ (r : Int64) (σ' : Sg) (H1 : Heap) (locs1 : List Loc), post r σ' → Wo G σ' s H1 locs1 → W p l e R s m args below meth c H1 locs1 cells slots Q (F0 m (pc + 3) ls (.long r :: rest))) : W p l e R s m args below meth c H locs cells slots Q (F0 m pc ls st0) :=
  va_calll hr hw.2 (fun _ _ h => h) (fun _ h => h) (fun r u t H1 locs1 ht _ hp hB _ _ hS => kk r u H1 locs1 hp ⟨by rw [← ht]; exact hB, hS⟩)
theorem te_vv {post : Sg → Prop} {a : Array Value} (hw : Wo G σ s H locs) (hr : va_Run p l e R s m args below meth c H locs cells slots 0 0 (F0 m pc ls st0) rest (va_Qv post (Bw G) (ndA G) a) (ndA G)) (kk : ∀ (σ' : Sg) (H1 : Heap) (locs1 : List Loc), post σ' → Wo G σ' s H1 locs1 → W p l e R s m args below meth c H1 locs1 cells slots Q (F0 m (pc + 3) ls rest)) : W p l e R s m args below meth c H locs cells slots Q (F0 m pc ls st0) :=
  va_callv hr hw.2 (fun _ _ h => h) (fun _ h => h) (fun u t H1 locs1 ht _ hp hB _ _ hS => kk u H1 locs1 hp ⟨by rw [← ht]; exact hB, hS⟩)
abbrev nMH (y : MethodName) (n : Nat) : Prop := y.cls ≠ "java/lang/invoke/MethodHandle" ∧ y.cls ≠ "java/lang/invoke/VarHandle" ∧ (parseMethodDescriptor y.desc).map (fun d => d.parameters.length) = some n
/-- the run of a call of a method of ours on an object -/
theorem ru_V {ret : Option FieldType} {Qc : Array Value → State → Outcome → State → Prop} (hx : p.tables.exec = Jvm.exec) (hb : c.code = cc) (hml : c.maxLocals = nL) (hts : ∀ w ∈ wsL_law, w.before args s = true) (hown : s.vm.findClass own = some m.cls) (hk : KK G s) (hw : Wo G σ s H locs)
    (hM : Met l y (wsM y bytes maxL ret) rm (PCw G σ (.ref (ad G i) :: As)) Qc 0 0 (ndA G)) (hwd : ∀ w ∈ ([.methodLink own index y, .instanceMethod y, .selects C y y, .initialized C] : List Cond), w ∈ wsL_law) (hcode : Cond.code y bytes maxL ret ∈ wsL_law) {ci : Nat} {q : vw_C} {fs : List Value} (he : i < 92 ∧ ent G σ i = .inr (ci, fs)) (hc : vwCl[ci]? = some q) (hq : q.1 = C) (hyC : y.cls = C) (hd : nMH y n)
    (hrm : rm.cells = 0 ∧ rm.slots = 0) (hR : rm.frames + 1 ≤ R.frames ∧ 8 + (maxL + 11) + rm.locals ≤ R.locals) (hn : As.length = n) (hsize : ls.size = nL) (hst : st0 = As.reverse ++ .ref (ad G i) :: rest) (hW : (rest.map fun v => v.category).sum ≤ 8) (hdg : decode cc pc = .ok (.invokevirtual index, 3)) (hf : cells ≤ R.cells ∧ slots ≤ R.slots) :
    va_Run p l e R s m args below meth c H locs cells slots 0 0 (F0 m pc ls st0) rest (Qc (Value.ref (ad G i) :: As).toArray) (ndA G) := by
  subst hst
  refine va_runV (As := As) (rest := rest) (C := C) ⟨hx, hb, hml, hown, hts⟩ hM (cwV n hts (tb_in hwd hcode) rfl hrm.1 hrm.2 ⟨hyC, hd⟩ hR) ⟨PCw_blind, ?_, PCw_at hk hw⟩ rfl hn hsize rfl (lv_room hW) hdg hf
  have h := va_recv hk.1 hw.1 hc (wld_get he)
  rw [hq] at h
  exact h
/-- the run of a call of a method of ours without an object -/
theorem ru_S {ret : Option FieldType} {Qc : Array Value → State → Outcome → State → Prop} (hx : p.tables.exec = Jvm.exec) (hb : c.code = cc) (hml : c.maxLocals = nL) (hts : ∀ w ∈ wsL_law, w.before args s = true) (hown : s.vm.findClass own = some m.cls) (hk : KK G s) (hw : Wo G σ s H locs)
    (hM : Met l y (wsM y bytes maxL ret) rm (PCw G σ As) Qc 0 0 (ndA G)) (hwd : ∀ w ∈ ([.methodLink own index y, .static y, .initialized y.cls] : List Cond), w ∈ wsL_law) (hcode : Cond.code y bytes maxL ret ∈ wsL_law) (hd : nMH y n)
    (hrm : rm.cells = 0 ∧ rm.slots = 0) (hR : rm.frames + 1 ≤ R.frames ∧ 8 + (maxL + 11) + rm.locals ≤ R.locals) (hn : As.length = n) (hsize : ls.size = nL) (hst : st0 = As.reverse ++ rest) (hW : (rest.map fun v => v.category).sum ≤ 8) (hdg : decode cc pc = .ok (.invokestatic index, 3)) (hf : cells ≤ R.cells ∧ slots ≤ R.slots) :
    va_Run p l e R s m args below meth c H locs cells slots 0 0 (F0 m pc ls st0) rest (Qc As.toArray) (ndA G) := by
  subst hst
  exact va_runS (As := As) (rest := rest) ⟨hx, hb, hml, hown, hts⟩ hM (va_cwS n hts (tb_in hwd hcode) rfl hrm.1 hrm.2 hd hR) ⟨PCw_blind, PCw_at hk hw⟩ rfl hn hsize rfl (lv_room hW) hdg hf
/-- the same, of a mate in the nest -/
theorem ru_N {ret : Option FieldType} {Qc : Array Value → State → Outcome → State → Prop} (hx : p.tables.exec = Jvm.exec) (hb : c.code = cc) (hml : c.maxLocals = nL) (hts : ∀ w ∈ wsL_law, w.before args s = true) (hown : s.vm.findClass own = some m.cls) (hk : KK G s) (hw : Wo G σ s H locs)
    (hM : Met l y (wsM y bytes maxL ret) rm (PCw G σ As) Qc 0 0 (ndA G)) (hwd : ∀ w ∈ ([.static y, .initialized y.cls] : List Cond), w ∈ wsL_law) (hnest : (own, index, y) ∈ nestL) (hcode : Cond.code y bytes maxL ret ∈ wsL_law) (hd : nMH y n)
    (hrm : rm.cells = 0 ∧ rm.slots = 0) (hR : rm.frames + 1 ≤ R.frames ∧ 8 + (maxL + 11) + rm.locals ≤ R.locals) (hn : As.length = n) (hsize : ls.size = nL) (hst : st0 = As.reverse ++ rest) (hW : (rest.map fun v => v.category).sum ≤ 8) (hdg : decode cc pc = .ok (.invokestatic index, 3)) (hf : cells ≤ R.cells ∧ slots ≤ R.slots) :
    va_Run p l e R s m args below meth c H locs cells slots 0 0 (F0 m pc ls st0) rest (Qc As.toArray) (ndA G) := by
  subst hst
  exact va_runSN (As := As) (rest := rest) (host := "BlindSown") ⟨hx, hb, hml, hown, hts⟩ hM ⟨va_cnB n hts (tb_in (extra := []) (fun _ h => by cases h) hcode) rfl hrm.1 hrm.2 (hk.2.2.1 _ hnest) (hts _ (hwd _ (by simp))) hd hR, hts _ (hwd _ (by simp)), trivial⟩ ⟨PCw_blind, PCw_at hk hw⟩ rfl hn hsize rfl (lv_room hW) hdg hf
/-- of Soil.take, by the receiver -/
theorem ru_A {ret : Option FieldType} {x : MethodName} {Qc : Array Value → State → Outcome → State → Prop} (hx : p.tables.exec = Jvm.exec) (hb : c.code = cc) (hml : c.maxLocals = nL) (hts : ∀ w ∈ wsL_law, w.before args s = true) (hown : s.vm.findClass own = some m.cls) (hk : KK G s) (hw : Wo G σ s H locs)
    (hM : Met l y (wsM y bytes maxL ret) rm (PCw G σ (.ref (ad G i) :: As)) Qc 0 0 (ndA G)) (hxe : x = ⟨"BlindSown$Soil", "take", "(II)V"⟩) (hwd : ∀ w ∈ ([.methodLink own index x, .sameMethod x.cls "BlindSown$Soil" x.name x.desc, .selects C x y, .instanceMethod y, .initialized y.cls] : List Cond), w ∈ wsL_law) (hcode : Cond.code y bytes maxL ret ∈ wsL_law) {ci : Nat} {q : vw_C} {fs : List Value} (he : i < 92 ∧ ent G σ i = .inr (ci, fs)) (hc : vwCl[ci]? = some q) (hq : q.1 = C)
    (hrm : rm.cells = 0 ∧ rm.slots = 0) (hR : rm.frames + 1 ≤ R.frames ∧ 8 + (maxL + 11) + rm.locals ≤ R.locals) (hn : As.length = 2) (hsize : ls.size = nL) (hst : st0 = As.reverse ++ .ref (ad G i) :: rest) (hW : (rest.map fun v => v.category).sum ≤ 8) (hdg : decode cc pc = .ok (.invokevirtual index, 3)) (hf : cells ≤ R.cells ∧ slots ≤ R.slots) :
    va_Run p l e R s m args below meth c H locs cells slots 0 0 (F0 m pc ls st0) rest (Qc (Value.ref (ad G i) :: As).toArray) (ndA G) := by
  subst hst
  subst hxe
  refine va_runU (As := As) (rest := rest) (C := C) (owner := "BlindSown$Soil") (x := ⟨"BlindSown$Soil", "take", "(II)V"⟩) (n := 2) ⟨hx, hb, hml, hown, hts⟩ hM (va_cwA 2 hts (tb_in hwd hcode) rfl hrm.1 hrm.2 hk.2.2.2.1 (by decide +kernel) hR) ⟨PCw_blind, ?_, PCw_at hk hw⟩ rfl hn hsize rfl (lv_room hW) hdg hf
  have h := va_recv hk.1 hw.1 hc (wld_get he)
  rw [hq] at h
  exact h
/-- System.arraycopy of a whole row of ints -/
theorem tg_cpy (hx : p.tables.exec = Jvm.exec) (hb : c.code = cc) (hml : c.maxLocals = ls.size) (hts : ∀ w ∈ wsL_law, w.before args s = true) (hown : s.vm.findClass own = some m.cls) (hk : KK G s) (hG : Ginj G) (hw : Wo G σ s H locs) (hwd : ∀ w ∈ ([.methodLink own index arraycopyName, .native arraycopyName, .static arraycopyName, .initialized "java/lang/System"] : List Cond), w ∈ wsL_law)
    {i0 i1 N : Nat} (he0 : i0 < 92 ∧ ent G σ i0 = .inl (G.2.1.1, N, .inl (σ i0))) (he1 : i1 < 92 ∧ ∀ σ : Sg, ent G σ i1 = .inl (G.2.1.1, N, .inl (σ i1))) {nn : Int32} (hnn : nn.toNatClampNeg = N) (hn0 : ¬ nn < 0)
    (hframes : 1 ≤ R.frames) (hlocals : (rest.map fun v => v.category).sum + (nativeFrameWords "java/lang/System" "arraycopy" 5 + 11) ≤ R.locals) (hdg : decode cc pc = .ok (.invokestatic index, 3))
    (kk : ∀ (H1 : Heap) (locs1 : List Loc), Wo G (upr σ i1 (va_cpy (σ i0) (σ i1) 0 0 N)) s H1 locs1 → W p l e R s m args below meth c H1 locs1 cells slots Q (F0 m (pc + 3) ls rest)) : W p l e R s m args below meth c H locs cells slots Q (F0 m pc ls (.int nn :: .int 0 :: .ref (ad G i1) :: .int 0 :: .ref (ad G i0) :: rest)) := by
  refine va_copyi (D := G.1) hx hb hml hown (hts _ (hwd _ (by simp))) (hts _ (hwd _ (by simp))) (hts _ (hwd _ (by simp))) (hts _ (hwd _ (by simp))) hk.1 hw.1 (wld_D hG) hw.2 i0 i1 0 0 (wld_get he0) (wld_get ⟨he1.1, he1.2 σ⟩) rfl rfl rfl (by decide) (by decide) hn0 (by rw [hnn]; simp [sb_cl0]) (by rw [hnn]; simp [sb_cl0]) (fun _ _ => rfl) hframes hlocals hdg (fun H1 locs1 hP hD hS => ?_)
  rw [hnn, sb_cl0] at hP
  rw [wld_set (σ' := upr σ i1 (va_cpy (σ i0) (σ i1) 0 0 N)) (by rw [he1.2, upr_at]) (fun _ h => upr_ne h)] at hP
  exact kk H1 locs1 ⟨hP, hS⟩
end TROWS
