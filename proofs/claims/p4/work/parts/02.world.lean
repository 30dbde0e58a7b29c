-- THE WORLD: 92 nodes with fixed places to each other; all that changes are ints: a ghost state of rows of ints
abbrev Sg : Type := Nat → Nat → Int32
def upr (σ : Sg) (i : Nat) (f : Nat → Int32) : Sg := fun j => if j = i then f else σ j
def up2 (σ : Sg) (i k : Nat) (v : Int32) : Sg := upr σ i (upd (σ i) k v)
theorem upr_ne {σ : Sg} {i j : Nat} {f : Nat → Int32} (h : j ≠ i) : upr σ i f j = σ j := by simp [upr, h]
theorem upr_at {σ : Sg} {i : Nat} {f : Nat → Int32} : upr σ i f i = f := by simp [upr]
theorem up2_ne {σ : Sg} {i k j : Nat} {v : Int32} (h : j ≠ i) : up2 σ i k v j = σ j := upr_ne h
theorem up2_at {σ : Sg} {i k : Nat} {v : Int32} : up2 σ i k v i = upd (σ i) k v := upr_at
theorem up2_self {σ : Sg} {i k : Nat} {v : Int32} : up2 σ i k v i k = v := by rw [up2_at]; simp [upd]
theorem up2_nk {σ : Sg} {i k j : Nat} {v : Int32} (h : j ≠ k) : up2 σ i k v i j = σ i j := by rw [up2_at]; simp [upd, h]
abbrev Gg : Type := va_G × (ClassId × ClassId × ClassId × ClassId) × (Nat → Nat) × (Nat × Nat × Nat)
abbrev ad (G : Gg) : Nat → Nat := G.2.2.1
def nkL : List Nat := [9, 4, 140, 3, 2, 356, 164, 1, 14, 104, 5, 5, 5, 5, 104, 13, 3, 2, 356, 164, 1, 14, 104, 5, 5, 5, 5, 104, 3, 2, 356, 164, 1, 14, 104, 5, 5, 5, 5, 104, 12, 3, 2, 356, 164, 1, 14, 104, 5, 5, 5, 5, 104, 3, 2, 356, 164, 1, 14, 104, 5, 5, 5, 5, 104, 0, 1, 14, 104, 5, 5, 5, 5, 6, 7, 8, 172, 172, 10, 132, 356, 104, 164, 104, 140, 132, 356, 104, 174, 356, 900, 12]
def nk (i : Nat) : Nat := nkL.getD i 99
theorem nk_lt {i n : Nat} (h : nk i = n) (hn : n ≠ 99) : i < 92 := by
  rcases Nat.lt_or_ge i 92 with q | q
  · exact q
  · exact absurd (h.symm.trans (show nkL.getD i 99 = 99 by rw [List.getD_eq_getElem?_getD, List.getElem?_eq_none (show nkL.length ≤ i from q)]; rfl)) hn
def ent (G : Gg) (σ : Sg) (i : Nat) : va_E := match nk i with
  | 0 => .inr (0, [.ref (ad G (i + 1)), .ref (ad G (i + 8)), .int (σ i 2), .int (σ i 3), .int (σ i 4)])
  | 1 => .inr (1, [.ref (ad G (i + 1)), .ref (ad G (i + 2)), .int (σ i 2), .int (σ i 3)])
  | 2 => .inr (2, [.ref (ad G (i + 1)), .ref (ad G (i + 2))])
  | 3 => .inr (3, [.ref (ad G (i + 1)), .ref (ad G (i + 4)), .ref (ad G (i + 11))])
  | 4 => .inr (4, [.ref (ad G (i + 1)), .int (σ i 1)])
  | 5 => .inr (5, [.int (σ i 0), .int (σ i 1), .int (σ i 2), .int (σ i 3), .int (σ i 4), .int (σ i 5), .int (σ i 6), .int (σ i 7)])
  | 6 => .inr (6, [if σ i 0 = 0 then .null else .ref (ad G 4), .int (σ i 1)])
  | 7 => .inr (7, [.int (σ i 0), .int (σ i 1), .int (σ i 2)])
  | 8 => .inr (8, [.ref (ad G (i + 1)), .ref (ad G (i + 2)), .int (σ i 2)])
  | 9 => .inr (9, [.ref (ad G 1), .ref (ad G 3), .ref (ad G 15), .ref (ad G 40), .ref (ad G 41), .ref (ad G 53), .ref (ad G 65), .ref (ad G 74), .ref (ad G 75)])
  | 10 => .inr (10, [.ref (ad G 79), .ref (ad G 80), .ref (ad G 81), .int (σ i 3), .ref (ad G 82), .ref (ad G 83), .ref (ad G 84), .int (σ i 7), .ref (ad G 85), .ref (ad G 86), .ref (ad G 87), .int (σ i 11), .ref (ad G 88), .int (σ i 13), .int (σ i 14), .int (σ i 15), .int (σ i 16), .int (σ i 17), .int (σ i 18), .int (σ i 19), .ref (ad G 89), .ref (ad G 90), .ref (ad G 91), .int (σ i 23), .int (σ i 24)])
  | 12 => .inl (G.2.1.2.1, 2, .inl (σ i))
  | 13 => .inl (G.2.1.2.2.1, 2, .inr (.inr (.inr (.inr fun k => some (ad G (i + 1 + 12 * k))))))
  | 14 => .inl (G.2.1.2.2.2, 4, .inr (.inr (.inr (.inr fun k => some (ad G (i + 2 + k))))))
  | n => .inl (G.2.1.1, n - 100, .inl (σ i))
theorem ent_same {G : Gg} {σ σ' : Sg} {j : Nat} (h : σ' j = σ j) : ent G σ' j = ent G σ j := by unfold ent; rw [h]
def wld (G : Gg) (σ : Sg) : va_W := (List.range 92).map fun i => (ad G i, ent G σ i)
theorem wld_get {G : Gg} {σ : Sg} {i : Nat} {e : va_E} (h : i < 92 ∧ ent G σ i = e) : (wld G σ)[i]? = some (ad G i, e) := by
  obtain ⟨h1, rfl⟩ := h
  simp [wld, h1]
theorem wld_set {G : Gg} {σ σ' : Sg} {i : Nat} {e : va_E} (h : ent G σ' i = e) (hj : ∀ j, j ≠ i → σ' j = σ j) : (wld G σ).set i (ad G i, e) = wld G σ' := by
  apply List.ext_getElem?
  intro j
  rw [List.getElem?_set]
  by_cases hq : i = j
  · subst hq
    rw [if_pos rfl]
    by_cases h92 : i < 92
    · rw [if_pos (by simp [wld, h92])]
      simp [wld, h92, h]
    · rw [if_neg (by simp [wld]; omega)]
      simp [wld, Nat.not_lt.mp h92]
  · rw [if_neg hq]
    by_cases h92 : j < 92
    · simp [wld, h92, ent_same (G := G) (hj j (fun z => hq z.symm))]
    · simp [wld, Nat.not_lt.mp h92]
def ndA (G : Gg) : Nat → Prop := fun q => ∃ i, i < 92 ∧ q = ad G i
def Ginj (G : Gg) : Prop := ∀ i j, i < 92 → j < 92 → ad G i = ad G j → i = j
theorem wld_D {G : Gg} {σ : Sg} (hG : Ginj G) : va_D (ndA G) (wld G σ) := by
  refine ⟨fun i j p q h1 h2 h3 => ?_, fun k q h => ?_⟩
  · have e1 : i < 92 := by
      have := (List.getElem?_eq_some_iff.mp h1).1
      simpa [wld] using this
    have e2 : j < 92 := by
      have := (List.getElem?_eq_some_iff.mp h2).1
      simpa [wld] using this
    rw [wld_get ⟨e1, rfl⟩] at h1
    rw [wld_get ⟨e2, rfl⟩] at h2
    cases h1; cases h2
    exact hG i j e1 e2 h3
  · have e1 : k < 92 := by
      have := (List.getElem?_eq_some_iff.mp h).1
      simpa [wld] using this
    rw [wld_get ⟨e1, rfl⟩] at h
    cases h
    exact ⟨k, e1, rfl⟩
def Wo (G : Gg) (σ : Sg) (s : State) (H : Heap) (locs : List Loc) : Prop := va_P G.1 vwCl (wld G σ) H ∧ va_S (ndA G) s.heap H locs
abbrev tys0 (G : Gg) : List (ClassId × FieldType) := [(G.2.1.1, .int), (G.2.1.2.1, .boolean), (G.2.1.2.2.1, .object "BlindSown$Land"), (G.2.1.2.2.2, .object "BlindSown$Sower")]
def mostF (k : Nat) : Int32 := [63, 7, 3, 99, 4, 9].getD k 0
def stepXF (k : Nat) : Int32 := [0, 1, 1, 1, 0, -1, -1, -1].getD k 0
def stepYF (k : Nat) : Int32 := [-1, -1, 0, 1, 1, 1, 0, -1].getD k 0
def Zt (G : Gg) (n : String) (t N : Nat) (f : Nat → Int32) (U : State) : Prop := va_Z "BlindSown" n "[I" (.ref t) (ndA G) U U.heap ∧ va_T .int t N (fun k => .int (f k)) (ndA G) U U.heap
def KK (G : Gg) (U : State) : Prop := va_K G.1 vwCl (tys0 G) U ∧ (Zt G "MOST_OF" G.2.2.2.1 6 mostF U ∧ Zt G "STEP_X" G.2.2.2.2.1 8 stepXF U ∧ Zt G "STEP_Y" G.2.2.2.2.2 8 stepYF U) ∧ (∀ q ∈ nestL, va_Nw (.methodLinkNest q.1 q.2.1 q.2.2 "BlindSown") U) ∧ va_Nw (.declares ⟨"BlindSown$Soil", "take", "(II)V"⟩) U ∧ (∀ q ∈ nestF, va_Nw (.fieldLinkNest q.1 q.2.1 "BlindSown" q.2.2 "[I" "BlindSown") U)
theorem Zt.go {G : Gg} {n : String} {t N : Nat} {f : Nat → Int32} {s U : State} {H : Heap} {locs : List Loc} (h : Zt G n t N f s) (hS : va_S (ndA G) s.heap H locs) (hU : U.heap = H) (hW : s.WarmedH U.vm) : Zt G n t N f U := by
  refine ⟨va_Z.moved hW.alike (h.1.kept (fun a h1 h2 => ?_)), va_T.moved hW.alike (h.2.kept (fun a h1 h2 => ?_))⟩
  · rw [hU]; exact hS.2.1 a h1 h2
  · rw [hU]; exact hS.2.1 a h1 h2
theorem KK.go {G : Gg} {s U : State} {H : Heap} {locs : List Loc} (h : KK G s) (hS : va_S (ndA G) s.heap H locs) (hU : U.heap = H) (hW : s.WarmedH U.vm) : KK G U :=
  ⟨va_K.moved hW.alike h.1, ⟨h.2.1.1.go hS hU hW, h.2.1.2.1.go hS hU hW, h.2.1.2.2.go hS hU hW⟩, fun q hq => va_Nw.warmM hW (h.2.2.1 q hq), va_Nw.warmD hW h.2.2.2.1, fun q hq => va_Nw.warmF hW (h.2.2.2.2 q hq)⟩
def PCw (G : Gg) (σ : Sg) (av : List Value) : Array Value → State → Prop := va_Pc av (fun U => va_P G.1 vwCl (wld G σ) U.heap ∧ KK G U)
theorem PCw_blind {G : Gg} {σ : Sg} {av : List Value} : FrameBlind (PCw G σ av) := by
  intro a U g mk q
  obtain ⟨q0, qP, qK, ⟨⟨z1, t1⟩, ⟨z2, t2⟩, ⟨z3, t3⟩⟩, qN, qD, qF⟩ := q
  refine ⟨q0, qP, va_K.moved (u := U) (U := U.calling g mk a) (Vm.Alike.refl U.vm) qK, ⟨⟨va_Z.moved (u := U) (U := U.calling g mk a) (Vm.Alike.refl U.vm) z1, va_T.moved (u := U) (U := U.calling g mk a) (Vm.Alike.refl U.vm) t1⟩, ⟨va_Z.moved (u := U) (U := U.calling g mk a) (Vm.Alike.refl U.vm) z2, va_T.moved (u := U) (U := U.calling g mk a) (Vm.Alike.refl U.vm) t2⟩, ⟨va_Z.moved (u := U) (U := U.calling g mk a) (Vm.Alike.refl U.vm) z3, va_T.moved (u := U) (U := U.calling g mk a) (Vm.Alike.refl U.vm) t3⟩⟩, fun w hw => ?_, ?_, fun w hw => ?_⟩
  · exact va_Nw.same (u := U) (U := U.calling g mk a) rfl rfl (qN w hw)
  · exact va_Nw.same (u := U) (U := U.calling g mk a) rfl rfl qD
  · exact va_Nw.same (u := U) (U := U.calling g mk a) rfl rfl (qF w hw)
theorem PCw_at {G : Gg} {σ : Sg} {av : List Value} {s : State} {H : Heap} {locs : List Loc} (hk : KK G s) (hw : Wo G σ s H locs) : ∀ U : State, U.heap = H → s.WarmedH U.vm → PCw G σ av av.toArray U :=
  fun U hU hW => ⟨rfl, by rw [hU]; exact hw.1, hk.go hw.2 hU hW⟩
def Bw (G : Gg) : Sg → State → Prop := fun σ t => va_P G.1 vwCl (wld G σ) t.heap
abbrev wsM (y : MethodName) (c : ByteArray) (n : Nat) (ret : Option FieldType) : List Cond := Cond.code y c n ret :: wsL_law
abbrev rmO (f n : Nat) : Room := { frames := f, cells := 0, slots := 0, locals := n }
def MI (l : Launch) (G : Gg) (y : MethodName) (c : ByteArray) (n : Nat) (ret : FieldType) (rm : Room) (σ : Sg) (av : List Value) (post : Int32 → Sg → Prop) : Prop := Met l y (wsM y c n (some ret)) rm (PCw G σ av) (va_Qi post (Bw G) (ndA G)) 0 0 (ndA G)
def ML (l : Launch) (G : Gg) (y : MethodName) (c : ByteArray) (n : Nat) (rm : Room) (σ : Sg) (av : List Value) (post : Int64 → Sg → Prop) : Prop := Met l y (wsM y c n (some .long)) rm (PCw G σ av) (va_Ql post (Bw G) (ndA G)) 0 0 (ndA G)
def MV (l : Launch) (G : Gg) (y : MethodName) (c : ByteArray) (n : Nat) (rm : Room) (σ : Sg) (av : List Value) (post : Sg → Prop) : Prop := Met l y (wsM y c n none) rm (PCw G σ av) (va_Qv post (Bw G) (ndA G)) 0 0 (ndA G)
theorem tb_in {extra : List Cond} {y : MethodName} {c : ByteArray} {n : Nat} {ret : Option FieldType} (he : ∀ w ∈ extra, w ∈ wsL_law) (hc : Cond.code y c n ret ∈ wsL_law) : GoodIn wsL_law (extra ++ wsM y c n ret) := by
  intro w hw
  have hm : w ∈ wsL_law := by
    rcases List.mem_append.mp hw with h | h
    · exact he w h
    · rcases List.mem_cons.mp h with rfl | h
      · exact hc
      · exact h
  exact ⟨hm, tb_good w hm⟩
