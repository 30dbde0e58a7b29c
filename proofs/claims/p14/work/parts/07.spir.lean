theorem up2_c {σ : Sg} {i k j q : Nat} {v : Int32} : up2 σ i k v j q = if j = i ∧ q = k then v else σ j q := by
  by_cases h : j = i
  · subst h
    by_cases h2 : q = k
    · subst h2; rw [up2_self, if_pos ⟨rfl, rfl⟩]
    · rw [up2_nk h2, if_neg (fun z => h2 z.2)]
  · rw [up2_ne h, if_neg (fun z => h z.1)]
theorem i32_ofN {x : Int32} (h : 0 ≤ x.toInt) : Int32.ofNat x.toNatClampNeg = x := by
  apply Int32.toInt_inj.mp
  have q := clI x h
  have b := i32b x
  have e : (Int32.ofNat x.toNatClampNeg).toInt = (x.toNatClampNeg : Int) := Int32.toInt_ofNat_of_lt (by omega)
  rw [e]; exact q
-- the class's trail
def visC (l : List (Int32 × Int32)) (x y : Int32) : List (Int32 × Int32) := if l.any (fun c => c.1 == x && c.2 == y) = true then l else if l.length < 72 then l ++ [(x, y)] else l
def TrC (σ : Sg) (l : List (Int32 × Int32)) : Prop := (σ 75 2).toInt = l.length ∧ ∀ k, k < l.length → l[k]? = some (σ 76 k, σ 77 k)
theorem tr_nil {σ : Sg} (h : (σ 75 2).toInt = 0) : TrC σ [] := ⟨h, fun k hk => absurd hk (Nat.not_lt_zero k)⟩
theorem tr_in {σ : Sg} {l : List (Int32 × Int32)} {k : Nat} {x y : Int32} (h : TrC σ l) (hk : (k : Int) < (σ 75 2).toInt) (h1 : σ 76 k = x) (h2 : σ 77 k = y) : visC l x y = l := by
  have e := h.2 k (by have := h.1; omega)
  have m : (σ 76 k, σ 77 k) ∈ l := List.mem_of_getElem? e
  unfold visC; rw [if_pos]
  rw [List.any_eq_true]
  exact ⟨_, m, by rw [h1, h2]; simp⟩
theorem tr_out {σ : Sg} {l : List (Int32 × Int32)} {x y : Int32} (h : TrC σ l) (hn : ∀ k : Nat, (k : Int) < (σ 75 2).toInt → ¬ (σ 76 k = x ∧ σ 77 k = y)) : ¬ l.any (fun c => c.1 == x && c.2 == y) = true := by
  rw [List.any_eq_true]
  rintro ⟨c, hc, e⟩
  obtain ⟨k, hk⟩ := List.getElem?_of_mem hc
  have hl : k < l.length := (List.getElem?_eq_some_iff.mp hk).1
  have e2 := h.2 k hl
  rw [hk] at e2
  cases e2
  simp only [Bool.and_eq_true, beq_iff_eq] at e
  exact hn k (by have := h.1; omega) e
theorem tr_full {σ : Sg} {l : List (Int32 × Int32)} {x y : Int32} (h : TrC σ l) (hn : ∀ k : Nat, (k : Int) < (σ 75 2).toInt → ¬ (σ 76 k = x ∧ σ 77 k = y)) (h72 : 72 ≤ (σ 75 2).toInt) : visC l x y = l := by
  unfold visC; rw [if_neg (tr_out h hn), if_neg (by have := h.1; omega)]
theorem tr_put {σ : Sg} {l : List (Int32 × Int32)} {x y s : Int32} (h : TrC σ l) (hn : ∀ k : Nat, (k : Int) < (σ 75 2).toInt → ¬ (σ 76 k = x ∧ σ 77 k = y)) (h72 : (σ 75 2).toInt < 72) (hs : s = σ 75 2 + 1) :
    TrC (up2 (up2 (up2 σ 76 (σ 75 2).toNatClampNeg x) 77 (σ 75 2).toNatClampNeg y) 75 2 s) (visC l x y) := by
  have e1 := h.1
  have en : (σ 75 2).toNatClampNeg = l.length := by have := clI (σ 75 2) (by omega); omega
  have ev : visC l x y = l ++ [(x, y)] := by unfold visC; rw [if_neg (tr_out h hn), if_pos (by omega)]
  have L1 : (1 : Int32).toInt = 1 := by decide
  rw [ev, en]
  refine ⟨?_, fun k hk => ?_⟩
  · rw [up2_self, hs, Jvm.Kit.i32_add (by rw [L1]; omega) (by rw [L1]; omega), L1, List.length_append, e1] <;> first | rfl | (simp only [List.length_cons, List.length_nil]; omega)
  · rw [up2_ne (by decide), up2_ne (by decide), up2_c, up2_ne (by decide), up2_c, up2_ne (by decide)]
    by_cases z : k = l.length
    · rw [if_pos ⟨rfl, z⟩, if_pos ⟨rfl, z⟩, z, List.getElem?_append_right (Nat.le_refl _), Nat.sub_self] <;> rfl
    · rw [if_neg (fun q => z q.2), if_neg (fun q => z q.2)]
      have hk2 : k < l.length := by rw [List.length_append] at hk; simp only [List.length_cons, List.length_nil] at hk; omega
      rw [List.getElem?_append_left hk2]; exact h.2 k hk2
abbrev SpC : Type := (Int32 × Int32) × List (Int32 × Int32)
def stC (w : Nat) (s : SpC) : SpC := ((s.1.1 + stepXF w, s.1.2 + stepYF w), visC s.2 (s.1.1 + stepXF w) (s.1.2 + stepYF w))
def segC (w : Nat) (s : SpC) : Nat → SpC
  | 0 => s
  | n + 1 => stC w (segC w s n)
def wyC (d t : Int32) : Nat := ((d * t).toInt % 8).toNat
def wlC (f : Nat) (t : Int32) : Nat → SpC
  | 0 => ((0, 0), [])
  | d + 1 => segC (wyC (Int32.ofNat d) t) (wlC f t d) f
theorem segC_x {w n : Nat} {s : SpC} : (segC w s (n + 1)).1.1 = (segC w s n).1.1 + stepXF w := rfl
theorem segC_y {w n : Nat} {s : SpC} : (segC w s (n + 1)).1.2 = (segC w s n).1.2 + stepYF w := rfl
theorem segC_l {w n : Nat} {s : SpC} : (segC w s (n + 1)).2 = visC (segC w s n).2 ((segC w s n).1.1 + stepXF w) ((segC w s n).1.2 + stepYF w) := rfl
theorem wy_of {r x d t : Int32} (hd : 0 ≤ d.toInt) (hr : r.toInt = x.toInt % 8) (hx : x = d * t) : r.toNatClampNeg = wyC (Int32.ofNat d.toNatClampNeg) t := by
  rw [i32_ofN hd]; unfold wyC; rw [← hx, ← hr] <;> rfl
-- the reference's
def visR (l : List Int32) (x : Int32) : List Int32 := if l.any (fun c => c == x) = true then l else l ++ [x]
def BeR (σ : Sg) (l : List Int32) : Prop := (σ 78 13).toInt = l.length ∧ ∀ k, k < l.length → l[k]? = some (σ 88 k)
theorem br_nil {σ : Sg} (h : (σ 78 13).toInt = 0) : BeR σ [] := ⟨h, fun k hk => absurd hk (Nat.not_lt_zero k)⟩
theorem br_in {σ : Sg} {l : List Int32} {k : Nat} {x : Int32} (h : BeR σ l) (hk : (k : Int) < (σ 78 13).toInt) (h1 : σ 88 k = x) : visR l x = l := by
  have e := h.2 k (by have := h.1; omega)
  have m : σ 88 k ∈ l := List.mem_of_getElem? e
  unfold visR; rw [if_pos]
  rw [List.any_eq_true]
  exact ⟨_, m, by rw [h1]; simp⟩
theorem br_out {σ : Sg} {l : List Int32} {x : Int32} (h : BeR σ l) (hn : ∀ k : Nat, (k : Int) < (σ 78 13).toInt → ¬ σ 88 k = x) : ¬ l.any (fun c => c == x) = true := by
  rw [List.any_eq_true]
  rintro ⟨c, hc, e⟩
  obtain ⟨k, hk⟩ := List.getElem?_of_mem hc
  have hl : k < l.length := (List.getElem?_eq_some_iff.mp hk).1
  have e2 := h.2 k hl
  rw [hk] at e2
  cases e2
  simp only [beq_iff_eq] at e
  exact hn k (by have := h.1; omega) e
theorem br_put {σ : Sg} {l : List Int32} {x s : Int32} (h : BeR σ l) (hn : ∀ k : Nat, (k : Int) < (σ 78 13).toInt → ¬ σ 88 k = x) (h72 : (σ 78 13).toInt < 1000) (hs : s = σ 78 13 + 1) :
    BeR (up2 (up2 σ 88 (σ 78 13).toNatClampNeg x) 78 13 s) (visR l x) := by
  have e1 := h.1
  have en : (σ 78 13).toNatClampNeg = l.length := by have := clI (σ 78 13) (by omega); omega
  have ev : visR l x = l ++ [x] := by unfold visR; rw [if_neg (br_out h hn)]
  have L1 : (1 : Int32).toInt = 1 := by decide
  rw [ev, en]
  refine ⟨?_, fun k hk => ?_⟩
  · rw [up2_self, hs, Jvm.Kit.i32_add (by rw [L1]; omega) (by rw [L1]; omega), L1, List.length_append, e1] <;> first | rfl | (simp only [List.length_cons, List.length_nil]; omega)
  · rw [up2_ne (by decide), up2_c]
    by_cases z : k = l.length
    · rw [if_pos ⟨rfl, z⟩, z, List.getElem?_append_right (Nat.le_refl _), Nat.sub_self] <;> rfl
    · rw [if_neg (fun q => z q.2)]
      have hk2 : k < l.length := by rw [List.length_append] at hk; simp only [List.length_cons, List.length_nil] at hk; omega
      rw [List.getElem?_append_left hk2]; exact h.2 k hk2
def cdR (x y : Int32) : Int32 := (1000 : Int32) * (x + (200 : Int32)) + y + (200 : Int32)
abbrev SpR : Type := (Int32 × Int32) × List Int32
def stR (w : Nat) (s : SpR) : SpR := ((s.1.1 + stepXF w, s.1.2 + stepYF w), visR s.2 (cdR (s.1.1 + stepXF w) (s.1.2 + stepYF w)))
def segR (w : Nat) (s : SpR) : Nat → SpR
  | 0 => s
  | n + 1 => stR w (segR w s n)
def wyR (w : Int) (d : Nat) : Nat := (((d : Int) * (w - 1)) % 8).toNat
def wlR (f : Nat) (w : Int) : Nat → SpR
  | 0 => ((0, 0), [cdR 0 0])
  | d + 1 => segR (wyR w d) (wlR f w d) f
theorem segR_x {w n : Nat} {s : SpR} : (segR w s (n + 1)).1.1 = (segR w s n).1.1 + stepXF w := rfl
theorem segR_y {w n : Nat} {s : SpR} : (segR w s (n + 1)).1.2 = (segR w s n).1.2 + stepYF w := rfl
theorem segR_l {w n : Nat} {s : SpR} : (segR w s (n + 1)).2 = visR (segR w s n).2 (cdR ((segR w s n).1.1 + stepXF w) ((segR w s n).1.2 + stepYF w)) := rfl
theorem visR_nil {x : Int32} : visR [] x = [x] := rfl
theorem wyR_of {y : Int32} {w : Int} {d : Nat} (h0 : 0 ≤ y.toInt) (hw : w = 0 ∨ w = 2 ∨ w = 3 ∨ w = 4) (h1 : w = 0 → y.toInt = (64 - (d : Int)) % 8) (h2 : w = 2 → y.toInt = (d : Int) % 8) (h3 : w = 3 → y.toInt = (2 * (d : Int)) % 8) (h4 : w = 4 → y.toInt = (3 * (d : Int)) % 8) : y.toNatClampNeg = wyR w d := by
  have q := clI y h0
  unfold wyR
  rcases hw with rfl | rfl | rfl | rfl
  · have := h1 rfl; omega
  · have := h2 rfl; omega
  · have := h3 rfl; omega
  · have := h4 rfl; omega
theorem sx_eq {w r : Int32} (h0 : 0 ≤ w.toInt ∧ w.toInt ≤ 7) (h : (1 ≤ w.toInt ∧ w.toInt ≤ 3 → r.toInt = 1) ∧ (5 ≤ w.toInt ∧ w.toInt ≤ 7 → r.toInt = -1) ∧ (w.toInt = 0 ∨ w.toInt = 4 → r.toInt = 0) ∧ -1 ≤ r.toInt ∧ r.toInt ≤ 1) : r = stepXF w.toNatClampNeg := by
  apply Int32.toInt_inj.mp
  have q := clI w h0.1
  rcases (by omega : w.toNatClampNeg = 0 ∨ w.toNatClampNeg = 1 ∨ w.toNatClampNeg = 2 ∨ w.toNatClampNeg = 3 ∨ w.toNatClampNeg = 4 ∨ w.toNatClampNeg = 5 ∨ w.toNatClampNeg = 6 ∨ w.toNatClampNeg = 7) with e | e | e | e | e | e | e | e <;> rw [e] <;> rw [e] at q
  · rw [show (stepXF 0).toInt = 0 from by decide]; omega
  · rw [show (stepXF 1).toInt = 1 from by decide]; omega
  · rw [show (stepXF 2).toInt = 1 from by decide]; omega
  · rw [show (stepXF 3).toInt = 1 from by decide]; omega
  · rw [show (stepXF 4).toInt = 0 from by decide]; omega
  · rw [show (stepXF 5).toInt = -1 from by decide]; omega
  · rw [show (stepXF 6).toInt = -1 from by decide]; omega
  · rw [show (stepXF 7).toInt = -1 from by decide]; omega
theorem sy_eq {w r : Int32} (h0 : 0 ≤ w.toInt ∧ w.toInt ≤ 7) (h : (3 ≤ w.toInt ∧ w.toInt ≤ 5 → r.toInt = 1) ∧ (w.toInt = 0 ∨ w.toInt = 1 ∨ w.toInt = 7 → r.toInt = -1) ∧ (w.toInt = 2 ∨ w.toInt = 6 → r.toInt = 0) ∧ -1 ≤ r.toInt ∧ r.toInt ≤ 1) : r = stepYF w.toNatClampNeg := by
  apply Int32.toInt_inj.mp
  have q := clI w h0.1
  rcases (by omega : w.toNatClampNeg = 0 ∨ w.toNatClampNeg = 1 ∨ w.toNatClampNeg = 2 ∨ w.toNatClampNeg = 3 ∨ w.toNatClampNeg = 4 ∨ w.toNatClampNeg = 5 ∨ w.toNatClampNeg = 6 ∨ w.toNatClampNeg = 7) with e | e | e | e | e | e | e | e <;> rw [e] <;> rw [e] at q
  · rw [show (stepYF 0).toInt = -1 from by decide]; omega
  · rw [show (stepYF 1).toInt = -1 from by decide]; omega
  · rw [show (stepYF 2).toInt = 0 from by decide]; omega
  · rw [show (stepYF 3).toInt = 1 from by decide]; omega
  · rw [show (stepYF 4).toInt = 1 from by decide]; omega
  · rw [show (stepYF 5).toInt = 1 from by decide]; omega
  · rw [show (stepYF 6).toInt = 0 from by decide]; omega
  · rw [show (stepYF 7).toInt = -1 from by decide]; omega
-- turns
def tnN (w : Int) : Int := if w = 3 then 4 else 8
def tC (w : Int) : Int32 := if w = 0 then -1 else if w = 2 then 1 else if w = 3 then 2 else 3
theorem tn_w {a w : Int} (h : a = w - 1) : (if a = 2 then (4 : Int) else 8) = tnN w := by
  unfold tnN
  by_cases q : w = 3
  · rw [if_pos (by omega), if_pos q]
  · rw [if_neg (by omega), if_neg q]
theorem tC_of {t : Int32} {w : Int} (h : t.toInt = w - 1) (hw : w = 0 ∨ w = 2 ∨ w = 3 ∨ w = 4) : t = tC w := by
  apply Int32.toInt_inj.mp
  rw [h]
  rcases hw with rfl | rfl | rfl | rfl <;> decide
theorem tnn {s : Int32} {w : Int} (h : s.toInt = tnN w) : s.toNatClampNeg = (tnN w).toNat := by show s.toInt.toNat = _; rw [h]
theorem tn_of {v r : Int32} (hv : v.toInt = -1 ∨ v.toInt = 1 ∨ v.toInt = 2 ∨ v.toInt = 3) (hr : 1 ≤ r.toInt ∧ r.toInt ≤ 8) (h1 : r.toInt < 8 → (r * v).toInt % 8 = 0) (h2 : ∀ k : Nat, 1 ≤ k → (k : Int) < r.toInt → ¬ (Int32.ofNat k * v).toInt % 8 = 0) : r.toInt = if v.toInt = 2 then 4 else 8 := by
  have q := clI r (by omega)
  have er := i32_ofN (x := r) (by omega)
  obtain ⟨n, en⟩ : ∃ n, n = r.toNatClampNeg := ⟨_, rfl⟩
  rw [← en] at q er
  rw [← er] at h1
  have h1' : n < 8 → (Int32.ofNat n * v).toInt % 8 = 0 := fun z => h1 (by rw [er]; omega)
  have h2' : ∀ k, k < n → 1 ≤ k → ¬ (Int32.ofNat k * v).toInt % 8 = 0 := fun k hk hk1 => h2 k hk1 (by omega)
  have hn : n = 1 ∨ n = 2 ∨ n = 3 ∨ n = 4 ∨ n = 5 ∨ n = 6 ∨ n = 7 ∨ n = 8 := by omega
  rcases hv with e | e | e | e
  · have ev : v = -1 := Int32.toInt_inj.mp (by rw [e]; decide)
    rw [if_neg (by omega)]; subst ev
    rcases hn with rfl | rfl | rfl | rfl | rfl | rfl | rfl | rfl
    · exact absurd (h1' (by decide)) (by decide)
    · exact absurd (h1' (by decide)) (by decide)
    · exact absurd (h1' (by decide)) (by decide)
    · exact absurd (h1' (by decide)) (by decide)
    · exact absurd (h1' (by decide)) (by decide)
    · exact absurd (h1' (by decide)) (by decide)
    · exact absurd (h1' (by decide)) (by decide)
    · omega
  · have ev : v = 1 := Int32.toInt_inj.mp (by rw [e]; decide)
    rw [if_neg (by omega)]; subst ev
    rcases hn with rfl | rfl | rfl | rfl | rfl | rfl | rfl | rfl
    · exact absurd (h1' (by decide)) (by decide)
    · exact absurd (h1' (by decide)) (by decide)
    · exact absurd (h1' (by decide)) (by decide)
    · exact absurd (h1' (by decide)) (by decide)
    · exact absurd (h1' (by decide)) (by decide)
    · exact absurd (h1' (by decide)) (by decide)
    · exact absurd (h1' (by decide)) (by decide)
    · omega
  · have ev : v = 2 := Int32.toInt_inj.mp (by rw [e]; decide)
    rw [if_pos e]; subst ev
    rcases hn with rfl | rfl | rfl | rfl | rfl | rfl | rfl | rfl
    · exact absurd (h1' (by decide)) (by decide)
    · exact absurd (h1' (by decide)) (by decide)
    · exact absurd (h1' (by decide)) (by decide)
    · omega
    · exact absurd (by decide) (h2' 4 (by decide) (by decide))
    · exact absurd (by decide) (h2' 4 (by decide) (by decide))
    · exact absurd (by decide) (h2' 4 (by decide) (by decide))
    · exact absurd (by decide) (h2' 4 (by decide) (by decide))
  · have ev : v = 3 := Int32.toInt_inj.mp (by rw [e]; decide)
    rw [if_neg (by omega)]; subst ev
    rcases hn with rfl | rfl | rfl | rfl | rfl | rfl | rfl | rfl
    · exact absurd (h1' (by decide)) (by decide)
    · exact absurd (h1' (by decide)) (by decide)
    · exact absurd (h1' (by decide)) (by decide)
    · exact absurd (h1' (by decide)) (by decide)
    · exact absurd (h1' (by decide)) (by decide)
    · exact absurd (h1' (by decide)) (by decide)
    · exact absurd (h1' (by decide)) (by decide)
    · omega
def cnC (f : Nat) (w : Int) : Nat := (wlC f (tC w) (tnN w).toNat).2.length
def cnR (f : Nat) (w : Int) : Nat := (wlR f w (tnN w).toNat).2.length
set_option maxRecDepth 100000 in
theorem cn_eq0 : ∀ f, f < 9 → cnC (f + 1) 0 = cnR (f + 1) 0 := by decide +kernel
set_option maxRecDepth 100000 in
theorem cn_eq2 : ∀ f, f < 9 → cnC (f + 1) 2 = cnR (f + 1) 2 := by decide +kernel
set_option maxRecDepth 100000 in
theorem cn_eq3 : ∀ f, f < 9 → cnC (f + 1) 3 = cnR (f + 1) 3 := by decide +kernel
set_option maxRecDepth 100000 in
theorem cn_eq4 : ∀ f, f < 9 → cnC (f + 1) 4 = cnR (f + 1) 4 := by decide +kernel
theorem cn_eq {f : Nat} {w : Int} (hf : 1 ≤ f ∧ f ≤ 9) (hw : w = 0 ∨ w = 2 ∨ w = 3 ∨ w = 4) : cnC f w = cnR f w := by
  obtain ⟨g, rfl⟩ : ∃ g, f = g + 1 := ⟨f - 1, by omega⟩
  rcases hw with rfl | rfl | rfl | rfl
  · exact cn_eq0 g (by omega)
  · exact cn_eq2 g (by omega)
  · exact cn_eq3 g (by omega)
  · exact cn_eq4 g (by omega)
def spP (cn : Nat → Int → Nat) (v w u r : Int32) : Prop := (¬ ((1 ≤ v.toInt ∧ v.toInt ≤ 9) ∧ (0 ≤ w.toInt ∧ w.toInt ≤ 4) ∧ (0 ≤ u.toInt ∧ u.toInt ≤ 1)) ∧ r = -2) ∨ (((1 ≤ v.toInt ∧ v.toInt ≤ 9) ∧ (0 ≤ w.toInt ∧ w.toInt ≤ 4) ∧ (0 ≤ u.toInt ∧ u.toInt ≤ 1)) ∧ w.toInt = 1 ∧ r = -6) ∨ (((1 ≤ v.toInt ∧ v.toInt ≤ 9) ∧ (0 ≤ w.toInt ∧ w.toInt ≤ 4) ∧ (0 ≤ u.toInt ∧ u.toInt ≤ 1)) ∧ ¬ w.toInt = 1 ∧ u.toInt = 0 ∧ r.toInt = tnN w.toInt) ∨ (((1 ≤ v.toInt ∧ v.toInt ≤ 9) ∧ (0 ≤ w.toInt ∧ w.toInt ≤ 4) ∧ (0 ≤ u.toInt ∧ u.toInt ≤ 1)) ∧ ¬ w.toInt = 1 ∧ ¬ u.toInt = 0 ∧ r.toInt = (cn v.toNatClampNeg w.toInt : Int))
theorem sp_eq {v w u r r' : Int32} (h1 : spP cnC v w u r) (h2 : spP cnR v w u r') : r = r' := by
  rcases h1 with ⟨a1, a2⟩ | ⟨a1, a2, a3⟩ | ⟨a1, a2, a3, a4⟩ | ⟨a1, a2, a3, a4⟩ <;> rcases h2 with ⟨b1, b2⟩ | ⟨b1, b2, b3⟩ | ⟨b1, b2, b3, b4⟩ | ⟨b1, b2, b3, b4⟩
  · rw [a2, b2]
  · exact absurd b1 a1
  · exact absurd b1 a1
  · exact absurd b1 a1
  · exact absurd a1 b1
  · rw [a3, b3]
  · exact absurd a2 b2
  · exact absurd a2 b2
  · exact absurd a1 b1
  · exact absurd b2 a2
  · exact Int32.toInt_inj.mp (a4.trans b4.symm)
  · exact absurd a3 b3
  · exact absurd a1 b1
  · exact absurd b2 a2
  · exact absurd b3 a3
  · apply Int32.toInt_inj.mp
    rw [a4, b4, cn_eq (by have := clI v (by omega); omega) (by omega)]
