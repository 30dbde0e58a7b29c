-- constructors: how a contract begins and ends, and a call of one
def K2 (G : Gg) (U : State) : Prop := va_K G.1 vwCl (tys0 G) U ∧ (∀ q ∈ nestL, va_Nw (.methodLinkNest q.1 q.2.1 q.2.2 "BlindSown") U) ∧ va_AO "BlindSown$Land" U ∧ va_AO "BlindSown$Sower" U
theorem K2.go {G : Gg} {s U : State} (h : K2 G s) (hW : s.WarmedH U.vm) : K2 G U := ⟨va_K.moved hW.alike h.1, fun q hq => va_Nw.warmM hW (h.2.1 q hq), va_AO.moved hW.alike h.2.2.1, va_AO.moved hW.alike h.2.2.2⟩
abbrev rmC (f n mc ms : Nat) : Room := { frames := f, cells := mc, slots := ms, locals := n }
def PCc (G : Gg) (b : Nat) (E : Nat → va_E) (n : Nat) (av : List Value) : Array Value → State → Prop := va_Pc av (fun U => va_P G.1 vwCl (wE b E n) U.heap ∧ U.heap.size = b + n ∧ K2 G U)
theorem PCc_blind {G : Gg} {b n : Nat} {E : Nat → va_E} {av : List Value} : FrameBlind (PCc G b E n av) := by
  intro a U g mk q
  obtain ⟨q0, qP, qz, qK, qN, qA, qB⟩ := q
  exact ⟨q0, qP, qz, va_K.moved (u := U) (U := U.calling g mk a) (Vm.Alike.refl U.vm) qK, fun w hw => va_Nw.same (u := U) (U := U.calling g mk a) rfl rfl (qN w hw), va_AO.moved (u := U) (U := U.calling g mk a) (Vm.Alike.refl U.vm) qA, va_AO.moved (u := U) (U := U.calling g mk a) (Vm.Alike.refl U.vm) qB⟩
theorem PCc_at {G : Gg} {b n : Nat} {E : Nat → va_E} {av : List Value} {s : State} {H : Heap} {locs : List Loc} (hk : K2 G s) (hw : PE G.1 b E n s H locs) : ∀ U : State, U.heap = H → s.WarmedH U.vm → PCc G b E n av av.toArray U :=
  fun U hU hW => ⟨rfl, by rw [hU]; exact hw.1, by rw [hU]; exact hw.2.1, hk.go hW⟩
def Bc (G : Gg) (b n : Nat) : (Nat → va_E) → State → Prop := fun E t => va_P G.1 vwCl (wE b E n) t.heap ∧ t.heap.size = b + n
def MC (l : Launch) (G : Gg) (y : MethodName) (c : ByteArray) (mL : Nat) (rm : Room) (mc ms b : Nat) (E : Nat → va_E) (o : Nat) (av : List Value) (post : (Nat → va_E) → Prop) : Prop := Met l y (wsM y c mL none) rm (PCc G b E (o + 1) av) (va_Qv post (Bc G b (o + 1 + mc)) (fun q => b ≤ q)) mc ms (fun q => b ≤ q)
theorem MC.of {l : Launch} {G : Gg} {y : MethodName} {cc : ByteArray} {mL : Nat} {rm : Room} {mc ms b o : Nat} {E : Nat → va_E} {av : List Value} {post : (Nat → va_E) → Prop} (hy : plainFor y = true) (hyn : y.name = "<init>") (hlen : (lg_sl av).length ≤ mL)
    (body : ∀ (p : Program) (e : Env) (s : State) (m : MethodId) (a : Array Value) (below : List Frame) (meth : Method) (c : Code) (ls : Array Slot) (Q : State → Prop), p.tables.exec = Jvm.exec → c.code = cc → c.maxLocals = mL → (∀ w ∈ wsL_law, w.before a s = true) → s.vm.findClass y.cls = some m.cls → meth.name = "<init>" → K2 G s → PE G.1 b E (o + 1) s s.heap [] →
      (∀ (E' : Nat → va_E) (H : Heap) (locs : List Loc) (pc : Nat) (ls : Array Slot), post E' → PE G.1 b E' (o + 1 + mc) s H locs → decode cc pc = .ok (.return_, 1) → W p l e rm s m a below meth c H locs mc ms Q (F0 m pc ls [])) → lv_has ls mL (lv_args 0 av) → W p l e rm s m a below meth c s.heap [] 0 0 Q (F0 m 0 ls [])) : MC l G y cc mL rm mc ms b E o av post := by
  refine va_MetF (cc := cc) (maxL := mL) (ret := none) hy rfl ?_
  intro p e s m args below meth c s₁ B hml hv
  obtain ⟨rfl, hP, hz, hk⟩ := hv
  have hts := atoms_spec (ws := wsM y cc mL none) B.pre
  have hl := lv_entry av (n := mL) hlen
  have hlocks := B.notSynchronized
  have hin : meth.name = "<init>" := (name_of_methodNamed B.named B.method).1.trans hyn
  rw [lg_entry_eq]
  generalize (lg_sl av ++ List.replicate (mL - (lg_sl av).length) Slot.unset).toArray = ls at hl ⊢
  refine body p e s m _ below meth c ls _ B.exec B.bytes hml (fun w h => hts w (List.mem_cons_of_mem _ h)) (findClass_of_methodNamed B.named) hin hk ⟨hP, hz, va_S.rf⟩ (fun E' H locs pc ls hp hw hd => ?_) hl
  exact W.vret B.exec B.bytes B.returns (fun t ht hW => ⟨⟨E', rfl, hp, by show va_P _ _ _ t.heap; rw [ht]; exact hw.1, by rw [ht]; exact hw.2.1⟩, hw.2.2.F ht⟩) hw.2.2.2.2 hd
section CROWS
variable {p : Program} {l : Launch} {e : Env} {R : Room} {s : State} {m : MethodId} {args : Array Value} {below : List Frame} {meth : Method} {c : Code} {H : Heap} {locs : List Loc} {cells slots : Nat} {Q : State → Prop}
variable {cc : ByteArray} {pc : Nat} {ls : Array Slot} {rest : List Value} {G : Gg} {b : Nat} {E : Nat → va_E} {own : String} {y : MethodName} {bytes : ByteArray} {maxL nL index n mc ms o : Nat} {rm : Room} {As st0 : List Value} {post : (Nat → va_E) → Prop}
theorem tn_I (hx : p.tables.exec = Jvm.exec) (hb : c.code = cc) (hml : c.maxLocals = nL) (hts : ∀ w ∈ wsL_law, w.before args s = true) (hown : s.vm.findClass own = some m.cls) (hk : K2 G s) (hw : PE G.1 b E (o + 1) s H locs)
    (hM : MC l G y bytes maxL rm mc ms b E o (.ref (b + o) :: As) post) (hwd : ∀ w ∈ ([.initialized y.cls, .methodLink own index y, .instanceMethod y] : List Cond), w ∈ wsL_law) (hcode : Cond.code y bytes maxL none ∈ wsL_law) (hyn : y.name = "<init>") (hd : nMH y n) (hrm : rm.cells = mc ∧ rm.slots = ms) (hR : rm.frames + 1 ≤ R.frames ∧ 8 + (maxL + 11) + rm.locals ≤ R.locals) (hn : As.length = n) (hsize : ls.size = nL) (hst : st0 = As.reverse ++ .ref (b + o) :: rest) (hW : (rest.map fun v => v.category).sum ≤ 8) (hdg : decode cc pc = .ok (.invokespecial index, 3)) (hf : cells + mc ≤ R.cells ∧ slots + ms ≤ R.slots)
    (kk : ∀ (E' : Nat → va_E) (H1 : Heap) (locs1 : List Loc), post E' → PE G.1 b E' (o + 1 + mc) s H1 locs1 → W p l e R s m args below meth c H1 locs1 (cells + mc) (slots + ms) Q (F0 m (pc + 3) ls rest)) : W p l e R s m args below meth c H locs cells slots Q (F0 m pc ls st0) := by
  subst hst
  refine va_callv (va_runI (As := As) (rest := rest) ⟨hx, hb, hml, hown, hts⟩ hM (cwI n hts (tb_in (extra := []) (fun _ h => by cases h) hcode) rfl hrm.1 hrm.2 (hts _ (hwd _ (by simp))) (hts _ (hwd _ (by simp))) (hts _ (hwd _ (by simp))) hyn hd hR) ⟨PCc_blind, PCc_at hk hw⟩ rfl hn hsize rfl (lv_room hW) hdg hf) hw.2.2 (fun _ _ h => h) (fun _ h => h) (fun u t H1 locs1 ht _ hp hB _ _ hS => kk u H1 locs1 hp ⟨by rw [← ht]; exact hB.1, by rw [← ht]; exact hB.2, hS⟩)
theorem tn_IN (hx : p.tables.exec = Jvm.exec) (hb : c.code = cc) (hml : c.maxLocals = nL) (hts : ∀ w ∈ wsL_law, w.before args s = true) (hown : s.vm.findClass own = some m.cls) (hk : K2 G s) (hw : PE G.1 b E (o + 1) s H locs)
    (hM : MC l G y bytes maxL rm mc ms b E o (.ref (b + o) :: As) post) (hwd : ∀ w ∈ ([.initialized y.cls, .instanceMethod y] : List Cond), w ∈ wsL_law) (hnest : (own, index, y) ∈ nestL) (hcode : Cond.code y bytes maxL none ∈ wsL_law) (hyn : y.name = "<init>") (hd : nMH y n) (hrm : rm.cells = mc ∧ rm.slots = ms) (hR : rm.frames + 1 ≤ R.frames ∧ 8 + (maxL + 11) + rm.locals ≤ R.locals) (hn : As.length = n) (hsize : ls.size = nL) (hst : st0 = As.reverse ++ .ref (b + o) :: rest) (hW : (rest.map fun v => v.category).sum ≤ 8) (hdg : decode cc pc = .ok (.invokespecial index, 3)) (hf : cells + mc ≤ R.cells ∧ slots + ms ≤ R.slots)
    (kk : ∀ (E' : Nat → va_E) (H1 : Heap) (locs1 : List Loc), post E' → PE G.1 b E' (o + 1 + mc) s H1 locs1 → W p l e R s m args below meth c H1 locs1 (cells + mc) (slots + ms) Q (F0 m (pc + 3) ls rest)) : W p l e R s m args below meth c H locs cells slots Q (F0 m pc ls st0) := by
  subst hst
  refine va_callv (va_runIN (As := As) (rest := rest) (host := "BlindSown") ⟨hx, hb, hml, hown, hts⟩ hM ⟨va_cnB n hts (tb_in (extra := []) (fun _ h => by cases h) hcode) rfl hrm.1 hrm.2 (hk.2.1 _ hnest) (hts _ (hwd _ (by simp))) hd hR, hyn, hts _ (hwd _ (by simp))⟩ ⟨PCc_blind, PCc_at hk hw⟩ rfl hn hsize rfl (lv_room hW) hdg hf) hw.2.2 (fun _ _ h => h) (fun _ h => h) (fun u t H1 locs1 ht _ hp hB _ _ hS => kk u H1 locs1 hp ⟨by rw [← ht]; exact hB.1, by rw [← ht]; exact hB.2, hS⟩)
end CROWS
def z0 : Nat → Int32 := fun _ => 0
def fillF (v : Int32) (k : Nat) : Nat → Int32 := fun q => if q < k then v else 0
theorem fillF_0 (v : Int32) : fillF v 0 = z0 := by funext q; simp [fillF, z0]
theorem fillF_s (v : Int32) (k : Nat) : upd (fillF v k) k v = fillF v (k + 1) := by
  funext q
  simp only [upd, fillF]
  by_cases h : q = k
  · subst h; simp
  · by_cases h2 : q < k
    · simp [h, h2, Nat.lt_succ_of_lt h2]
    · simp [h, h2, show ¬ q < k + 1 by omega]
theorem upE_up {E : Nat → va_E} {i : Nat} {e e' : va_E} : upE (upE E i e) i e' = upE E i e' := by funext q; by_cases h : q = i <;> simp [upE, h]
