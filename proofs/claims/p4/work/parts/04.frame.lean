-- METHODS over the world: how a contract begins and ends; ranges; what is kept
theorem MI.of {l : Launch} {G : Gg} {y : MethodName} {cc : ByteArray} {n : Nat} {rt : FieldType} {rm : Room} {σ : Sg} {av : List Value} {post : Int32 → Sg → Prop} (hy : plainFor y = true) (hlen : (lg_sl av).length ≤ n)
    (body : ∀ (p : Program) (e : Env) (s : State) (m : MethodId) (a : Array Value) (below : List Frame) (meth : Method) (c : Code) (ls : Array Slot) (Q : State → Prop), p.tables.exec = Jvm.exec → c.code = cc → c.maxLocals = n → (∀ w ∈ wsL_law, w.before a s = true) → s.vm.findClass y.cls = some m.cls → KK G s → Wo G σ s s.heap [] →
      (∀ (v : Int32) (σ' : Sg) (H : Heap) (locs : List Loc) (pc : Nat) (ls : Array Slot), narrow rt (.int v) = .int v → post v σ' → Wo G σ' s H locs → decode cc pc = .ok (.ireturn, 1) → W p l e rm s m a below meth c H locs 0 0 Q (F0 m pc ls [.int v])) → lv_has ls n (lv_args 0 av) → W p l e rm s m a below meth c s.heap [] 0 0 Q (F0 m 0 ls [])) : MI l G y cc n rt rm σ av post := by
  refine va_MetF (cc := cc) (maxL := n) (ret := some rt) hy rfl ?_
  intro p e s m args below meth c s₁ B hml hv
  obtain ⟨rfl, hP, hk⟩ := hv
  have hts := atoms_spec (ws := wsM y cc n (some rt)) B.pre
  have hl := lv_entry av (n := n) hlen
  have hlocks := B.notSynchronized
  rw [lg_entry_eq]
  generalize (lg_sl av ++ List.replicate (n - (lg_sl av).length) Slot.unset).toArray = ls at hl ⊢
  refine body p e s m _ below meth c ls _ B.exec B.bytes hml (fun w h => hts w (List.mem_cons_of_mem _ h)) (findClass_of_methodNamed B.named) hk ⟨hP, va_S.rf⟩ (fun v σ' H locs pc ls hn hp hw hd => ?_) hl
  exact W.zret B.exec B.bytes B.returns hn (fun t ht hW => ⟨⟨v, σ', rfl, hp, by show va_P _ _ _ t.heap; rw [ht]; exact hw.1⟩, hw.2.F ht⟩) hw.2.2.2 hd
theorem ML.of {l : Launch} {G : Gg} {y : MethodName} {cc : ByteArray} {n : Nat} {rm : Room} {σ : Sg} {av : List Value} {post : Int64 → Sg → Prop} (hy : plainFor y = true) (hlen : (lg_sl av).length ≤ n)
    (body : ∀ (p : Program) (e : Env) (s : State) (m : MethodId) (a : Array Value) (below : List Frame) (meth : Method) (c : Code) (ls : Array Slot) (Q : State → Prop), p.tables.exec = Jvm.exec → c.code = cc → c.maxLocals = n → (∀ w ∈ wsL_law, w.before a s = true) → s.vm.findClass y.cls = some m.cls → KK G s → Wo G σ s s.heap [] →
      (∀ (v : Int64) (σ' : Sg) (H : Heap) (locs : List Loc) (pc : Nat) (ls : Array Slot), post v σ' → Wo G σ' s H locs → decode cc pc = .ok (.lreturn, 1) → W p l e rm s m a below meth c H locs 0 0 Q (F0 m pc ls [.long v])) → lv_has ls n (lv_args 0 av) → W p l e rm s m a below meth c s.heap [] 0 0 Q (F0 m 0 ls [])) : ML l G y cc n rm σ av post := by
  refine va_MetF (cc := cc) (maxL := n) (ret := some .long) hy rfl ?_
  intro p e s m args below meth c s₁ B hml hv
  obtain ⟨rfl, hP, hk⟩ := hv
  have hts := atoms_spec (ws := wsM y cc n (some .long)) B.pre
  have hl := lv_entry av (n := n) hlen
  have hlocks := B.notSynchronized
  rw [lg_entry_eq]
  generalize (lg_sl av ++ List.replicate (n - (lg_sl av).length) Slot.unset).toArray = ls at hl ⊢
  refine body p e s m _ below meth c ls _ B.exec B.bytes hml (fun w h => hts w (List.mem_cons_of_mem _ h)) (findClass_of_methodNamed B.named) hk ⟨hP, va_S.rf⟩ (fun v σ' H locs pc ls hp hw hd => ?_) hl
  exact W.lret B.exec B.bytes B.returns (fun t ht hW => ⟨⟨v, σ', rfl, hp, by show va_P _ _ _ t.heap; rw [ht]; exact hw.1⟩, hw.2.F ht⟩) hw.2.2.2 hd
theorem MV.of {l : Launch} {G : Gg} {y : MethodName} {cc : ByteArray} {n : Nat} {rm : Room} {σ : Sg} {av : List Value} {post : Sg → Prop} (hy : plainFor y = true) (hlen : (lg_sl av).length ≤ n)
    (body : ∀ (p : Program) (e : Env) (s : State) (m : MethodId) (a : Array Value) (below : List Frame) (meth : Method) (c : Code) (ls : Array Slot) (Q : State → Prop), p.tables.exec = Jvm.exec → c.code = cc → c.maxLocals = n → (∀ w ∈ wsL_law, w.before a s = true) → s.vm.findClass y.cls = some m.cls → KK G s → Wo G σ s s.heap [] →
      (∀ (σ' : Sg) (H : Heap) (locs : List Loc) (pc : Nat) (ls : Array Slot), post σ' → Wo G σ' s H locs → decode cc pc = .ok (.return_, 1) → W p l e rm s m a below meth c H locs 0 0 Q (F0 m pc ls [])) → lv_has ls n (lv_args 0 av) → W p l e rm s m a below meth c s.heap [] 0 0 Q (F0 m 0 ls [])) : MV l G y cc n rm σ av post := by
  refine va_MetF (cc := cc) (maxL := n) (ret := none) hy rfl ?_
  intro p e s m args below meth c s₁ B hml hv
  obtain ⟨rfl, hP, hk⟩ := hv
  have hts := atoms_spec (ws := wsM y cc n none) B.pre
  have hl := lv_entry av (n := n) hlen
  have hlocks := B.notSynchronized
  rw [lg_entry_eq]
  generalize (lg_sl av ++ List.replicate (n - (lg_sl av).length) Slot.unset).toArray = ls at hl ⊢
  refine body p e s m _ below meth c ls _ B.exec B.bytes hml (fun w h => hts w (List.mem_cons_of_mem _ h)) (findClass_of_methodNamed B.named) hk ⟨hP, va_S.rf⟩ (fun σ' H locs pc ls hp hw hd => ?_) hl
  exact W.vret B.exec B.bytes B.returns (fun t ht hW => ⟨⟨σ', rfl, hp, by show va_P _ _ _ t.heap; rw [ht]; exact hw.1⟩, hw.2.F ht⟩) hw.2.2.2 hd
theorem m2_in {L : List Cond} {a b : Cond} (h1 : a ∈ L) (h2 : b ∈ L) : ∀ w ∈ [a, b], w ∈ L := List.forall_mem_cons.mpr ⟨h1, List.forall_mem_cons.mpr ⟨h2, fun _ h => absurd h List.not_mem_nil⟩⟩
theorem m3_in {L : List Cond} {a b c : Cond} (h1 : a ∈ L) (h2 : b ∈ L) (h3 : c ∈ L) : ∀ w ∈ [a, b, c], w ∈ L := List.forall_mem_cons.mpr ⟨h1, m2_in h2 h3⟩
theorem m4_in {L : List Cond} {a b c d : Cond} (h1 : a ∈ L) (h2 : b ∈ L) (h3 : c ∈ L) (h4 : d ∈ L) : ∀ w ∈ [a, b, c, d], w ∈ L := List.forall_mem_cons.mpr ⟨h1, m3_in h2 h3 h4⟩
theorem m5_in {L : List Cond} {a b c d e : Cond} (h1 : a ∈ L) (h2 : b ∈ L) (h3 : c ∈ L) (h4 : d ∈ L) (h5 : e ∈ L) : ∀ w ∈ [a, b, c, d, e], w ∈ L := List.forall_mem_cons.mpr ⟨h1, m4_in h2 h3 h4 h5⟩
-- ranges, by the kind of a node and the place in it
def rg (kd k : Nat) : Option (Int × Int) :=
  if kd = 4 ∧ k = 1 then some (0, 40) else if kd = 1 ∧ k = 2 then some (0, 4) else if kd = 8 ∧ k = 2 then some (0, 72)
  else if kd = 10 ∧ k = 3 then some (0, 4) else if kd = 10 ∧ k = 7 then some (0, 40) else if kd = 10 ∧ k = 11 then some (0, 4)
  else if kd = 132 ∧ k % 8 = 2 then some (0, 3) else if kd = 900 ∧ k % 400 < 32 ∧ k % 8 = 2 then some (0, 3) else if kd = 900 ∧ k % 400 = 292 then some (0, 4) else none
def Inv (σ : Sg) : Prop := ∀ i k lo hi, rg (nk i) k = some (lo, hi) → lo ≤ (σ i k).toInt ∧ (σ i k).toInt ≤ hi
-- what is tracked: the pad, posts, rows, fruits, images, on both sides
def trn (i : Nat) : Bool := i == 6 || i == 9 || i == 14 || i == 19 || i == 22 || i == 27 || i == 31 || i == 34 || i == 39 || i == 40 || i == 81 || i == 82 || i == 83 || i == 84 || i == 90 || i == 91
def trk (i k : Nat) : Bool := trn i || (i == 7 && k == 2) || (i == 20 && k == 2) || (i == 32 && k == 2) || (i == 78 && k == 3) || (i == 78 && k == 7)
def trq (i : Nat) : Bool := i == 6 || i == 7 || i == 9 || i == 14 || i == 19 || i == 20 || i == 22 || i == 27 || i == 31 || i == 32 || i == 34 || i == 39 || i == 40 || i == 78 || i == 81 || i == 82 || i == 83 || i == 84 || i == 90 || i == 91
def Keep (σ σ' : Sg) : Prop := ∀ i k, trk i k = true → σ' i k = σ i k
def K0 (σ σ' : Sg) : Prop := Inv σ' ∧ Keep σ σ'
theorem K0.rf {σ : Sg} (h : Inv σ) : K0 σ σ := ⟨h, fun _ _ _ => rfl⟩
theorem K0.go {a b c : Sg} (h : K0 a b) (h2 : K0 b c) : K0 a c := ⟨h2.1, fun i k hk => (h2.2 i k hk).trans (h.2 i k hk)⟩
theorem Inv.up {σ : Sg} {i k : Nat} {v : Int32} (h : Inv σ) (hr : ∀ lo hi, rg (nk i) k = some (lo, hi) → lo ≤ v.toInt ∧ v.toInt ≤ hi) : Inv (up2 σ i k v) := by
  intro j q lo hi hq
  by_cases hj : j = i
  · subst hj
    by_cases hqk : q = k
    · subst hqk; rw [up2_self]; exact hr lo hi hq
    · rw [up2_nk hqk]; exact h j q lo hi hq
  · rw [up2_ne hj]; exact h j q lo hi hq
theorem K0.up {σ σ' : Sg} {i k : Nat} {v : Int32} (h : K0 σ σ') (ht : trk i k = false) (hr : ∀ lo hi, rg (nk i) k = some (lo, hi) → lo ≤ v.toInt ∧ v.toInt ≤ hi) : K0 σ (up2 σ' i k v) := by
  refine ⟨h.1.up hr, fun j q hq => ?_⟩
  by_cases hj : j = i
  · subst hj
    by_cases hqk : q = k
    · subst hqk; rw [ht] at hq; cases hq
    · rw [up2_nk hqk]; exact h.2 j q hq
  · rw [up2_ne hj]; exact h.2 j q hq
theorem rg_no {kd k : Nat} {v : Int32} (h : rg kd k = none) : ∀ lo hi, rg kd k = some (lo, hi) → lo ≤ v.toInt ∧ v.toInt ≤ hi := fun lo hi q => by rw [h] at q; cases q
theorem rg_is {kd k : Nat} {v : Int32} {a b : Int} (h : rg kd k = some (a, b)) (h1 : a ≤ v.toInt) (h2 : v.toInt ≤ b) : ∀ lo hi, rg kd k = some (lo, hi) → lo ≤ v.toInt ∧ v.toInt ≤ hi := fun lo hi q => by rw [h] at q; cases q; exact ⟨h1, h2⟩
theorem bz0 {r : Int32} {P : Prop} (h : (r = 1 ∧ P) ∨ (r = 0 ∧ ¬ P)) (h0 : r = 0) : ¬ P := by
  rcases h with ⟨h1, _⟩ | ⟨_, h2⟩
  · rw [h1] at h0; exact absurd h0 (by decide)
  · exact h2
theorem bz1 {r : Int32} {P : Prop} (h : (r = 1 ∧ P) ∨ (r = 0 ∧ ¬ P)) (h0 : ¬ r = 0) : P := by
  rcases h with ⟨_, h2⟩ | ⟨h1, _⟩
  · exact h2
  · exact absurd h1 h0
theorem bzn {r : Int32} {P : Prop} (h : (r = 1 ∧ P) ∨ (r = 0 ∧ ¬ P)) : narrow .boolean (.int r) = .int r := by
  rcases h with ⟨h1, _⟩ | ⟨h1, _⟩ <;> rw [h1] <;> rfl
theorem irem_z (x y : Int32) : (x - x / y * y).toInt = x.toInt.tmod y.toInt := by
  have a := (x % y).toInt_lt; have b := (x % y).le_toInt
  rw [Int32.toInt_mod] at a b
  rw [Int32.toInt_sub, Int32.toInt_mul, Int32.toInt_div, Int.bmod_mul_bmod, Int.sub_bmod_bmod]
  rw [show x.toInt - x.toInt.tdiv y.toInt * y.toInt = x.toInt.tmod y.toInt by rw [Int.tmod_def, Int.mul_comm]]
  exact Jvm.Kit.bmod32 (by omega) (by omega)
theorem irem_nn {x y : Int32} {n : Int} (hn : y.toInt = n) (hx : 0 ≤ x.toInt) : (x - x / y * y).toInt = x.toInt % n := by rw [irem_z, Int.tmod_eq_emod_of_nonneg hx, hn]
theorem irem_bd {x y : Int32} {n : Int} (hn : y.toInt = n) (h0 : 0 < n) : -n < (x - x / y * y).toInt ∧ (x - x / y * y).toInt < n := by
  rw [irem_z, hn]; exact tmod_bounds h0
theorem irem_sg (x y : Int32) : (0 ≤ x.toInt → 0 ≤ (x - x / y * y).toInt) ∧ (x.toInt ≤ 0 → (x - x / y * y).toInt ≤ 0) := by
  rw [irem_z]
  refine ⟨fun h => Int.tmod_nonneg _ h, fun h => ?_⟩
  have q := Int.tmod_nonneg (a := -x.toInt) y.toInt (by omega)
  rw [Int.neg_tmod] at q
  omega
theorem idiv_nn {x y : Int32} {n : Int} (hn : y.toInt = n) (h0 : 0 < n) (hx : 0 ≤ x.toInt) : (x / y).toInt = x.toInt / n := by
  rw [Jvm.Kit.i32_div (by omega), hn, Int.tdiv_eq_ediv_of_nonneg hx]
theorem vin {x : Int32} {n : Nat} (h : 0 ≤ x.toInt ∧ x.toInt < n) : vp_in x n := vp_in_iff.mpr h
theorem vcl {x : Int32} {n : Nat} (h : vp_in x n) : x.toNatClampNeg < n := Nat.not_le.mp fun q => h (Or.inr q)
theorem clI (x : Int32) (h : 0 ≤ x.toInt) : (x.toNatClampNeg : Int) = x.toInt := by show ((x.toInt.toNat : Nat) : Int) = x.toInt; omega
theorem Inv_cpy {σ : Sg} {i kd : Nat} {f : Nat → Int32} (h : Inv σ) (hk : nk i = kd) (hr : ∀ k, rg kd k = none) : Inv (upr σ i f) := by
  intro j q lo hi hq
  by_cases hj : j = i
  · subst hj; rw [hk, hr q] at hq; cases hq
  · rw [upr_ne hj]; exact h j q lo hi hq
theorem i64nz {x : Int32} (h : ¬ x = 0) : ¬ x.toInt64 = 0 := by
  intro z
  have z := congrArg Int64.toInt z
  rw [Int32.toInt_toInt64] at z
  exact h (Int32.toInt_inj.mp z)
theorem K0.put {σ σ' : Sg} {i k : Nat} {v : Int32} (h : K0 σ σ') (hr : ∀ lo hi, rg (nk i) k = some (lo, hi) → lo ≤ v.toInt ∧ v.toInt ≤ hi) : K0 (up2 σ i k v) (up2 σ' i k v) := by
  refine ⟨h.1.up hr, fun j q hq => ?_⟩
  by_cases hj : j = i
  · subst hj
    by_cases hqk : q = k
    · subst hqk; rw [up2_self, up2_self]
    · rw [up2_nk hqk, up2_nk hqk]; exact h.2 j q hq
  · rw [up2_ne hj, up2_ne hj]; exact h.2 j q hq
theorem K0.cpy {σ σ' : Sg} {i kd : Nat} {f : Nat → Int32} (h : K0 σ σ') (ht : ∀ k, trk i k = false) (hk : nk i = kd) (hr : ∀ k, rg kd k = none) : K0 σ (upr σ' i f) := by
  refine ⟨Inv_cpy h.1 hk hr, fun j q hq => ?_⟩
  by_cases hj : j = i
  · subst hj; rw [ht q] at hq; cases hq
  · rw [upr_ne hj]; exact h.2 j q hq
