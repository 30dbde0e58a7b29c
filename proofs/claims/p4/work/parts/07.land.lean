theorem tr1_3 {i : Nat} (h : nk i = 1) : trk i 3 = false := (by decide +kernel : ∀ i, i < 92 → nk i = 1 → trk i 3 = false) i (nk_lt h (by decide)) h
theorem ne_kind {i j a b : Nat} (h : nk i = a) (h2 : nk j = b) (hab : a ≠ b) : i ≠ j := fun e => hab (by rw [← h, ← h2, e])
theorem nsw {i a kd : Nat} (hi : nk i = 1) (ha : nk a = kd) (hk : kd ≠ 5) : ¬ (i + 3 ≤ a ∧ a ≤ i + 6) := by
  intro h
  have e := (by decide +kernel : ∀ i, i < 92 → nk i = 1 → ∀ q, q < 4 → nk (i + 3 + q) = 5) i (nk_lt hi (by decide)) hi (a - (i + 3)) (by omega)
  rw [show i + 3 + (a - (i + 3)) = a by omega, ha] at e
  exact hk e
theorem trU {a k : Nat} (h : 41 ≤ a ∧ a ≤ 77) : trk a k = false := tr_of ((by decide +kernel : ∀ a, a < 78 → 41 ≤ a → trq a = false) a (by omega) h.1)
theorem K0.fr {σ τ σ' : Sg} {W : Nat → Prop} (h : K0 σ τ) (hI : Inv σ') (hf : ∀ a, ¬ W a → σ' a = τ a) (ht : ∀ a k, W a → trk a k = false) : K0 σ σ' :=
  ⟨hI, fun i k hk => by
    have hn : ¬ W i := fun w => by rw [ht i k w] at hk; cases hk
    rw [hf i hn]; exact h.2 i k hk⟩
def trr (i k : Nat) : Bool := i == 6 || i == 9 || i == 14 || i == 19 || i == 22 || i == 27 || i == 31 || i == 34 || i == 39 || i == 40 || i == 81 || i == 82 || i == 83 || i == 90 || i == 91 || (i == 7 && k == 2) || (i == 20 && k == 2) || (i == 32 && k == 2) || (i == 78 && k == 3)
theorem trr_k {i k : Nat} (h : trr i k = true) : trk i k = true := by
  unfold trr at h; unfold trk trn
  simp only [Bool.or_eq_true, Bool.and_eq_true, beq_iff_eq] at h ⊢
  omega
def KeepR (σ σ' : Sg) : Prop := ∀ i k, trr i k = true → σ' i k = σ i k
theorem KR.rf {σ : Sg} : KeepR σ σ := fun _ _ _ => rfl
theorem up2_c {σ : Sg} {i k j q : Nat} {v : Int32} : up2 σ i k v j q = if j = i ∧ q = k then v else σ j q := by
  by_cases h : j = i
  · subst h
    by_cases h2 : q = k
    · subst h2; rw [up2_self, if_pos ⟨rfl, rfl⟩]
    · rw [up2_nk h2, if_neg (fun z => h2 z.2)]
  · rw [up2_ne h, if_neg (fun z => h z.1)]
theorem KR.up {σ τ : Sg} {i k : Nat} {v : Int32} (h : KeepR σ τ) (hi : trr i k = false) : KeepR σ (up2 τ i k v) := fun j q hj => by
  rw [up2_c, if_neg (fun z => by rw [z.1, z.2, hi] at hj; cases hj)]; exact h j q hj
theorem KR.of {σ τ σ' : Sg} (h : K0 τ σ') (h2 : KeepR σ τ) : KeepR σ σ' := fun i k hi => (h.2 i k (trr_k hi)).trans (h2 i k hi)
theorem KR.k0 {σ σ' : Sg} (h : K0 σ σ') : KeepR σ σ' := fun i k hi => h.2 i k (trr_k hi)
theorem KR.tr {a b c : Sg} (h : KeepR a b) (h2 : KeepR b c) : KeepR a c := fun i k hi => (h2 i k hi).trans (h i k hi)
theorem KR.put {σ τ : Sg} {i k : Nat} {v : Int32} (h : KeepR σ τ) : KeepR (up2 σ i k v) (up2 τ i k v) := fun j q hj => by
  rw [up2_c, up2_c]; split
  · rfl
  · exact h j q hj
-- the cells of a land, on both sides: 0..3 posts, 4 how many, 5..68 rows, 69..72 fruits
def lo_q (p : Nat) : Nat := if p < 4 then 6 else if p = 4 then 4 else if p < 69 then 3 else 11
def lx_q (p : Nat) : Nat := if p < 4 then p else if p = 4 then 2 else if p < 69 then p - 5 else p - 69
def rn_q (p : Nat) : Nat := if p < 4 then 81 else if p = 4 then 78 else if p < 69 then 82 else 83
def rx_q (p : Nat) : Nat := if p < 4 then p else if p = 4 then 3 else if p < 69 then p - 5 else p - 69
def lc_q (σ : Sg) (i p : Nat) : Int32 := σ (i + lo_q p) (lx_q p)
def rc_q (σ : Sg) (p : Nat) : Int32 := σ (rn_q p) (rx_q p)
theorem lo_b (p : Nat) : 3 ≤ lo_q p ∧ lo_q p ≤ 11 := by
  unfold lo_q; split
  · omega
  split
  · omega
  split <;> omega
theorem rn_b (p : Nat) : rn_q p = 81 ∨ rn_q p = 82 ∨ rn_q p = 83 ∨ (rn_q p = 78 ∧ rx_q p = 3) := by
  unfold rn_q rx_q; split
  · omega
  split
  · omega
  split <;> omega
theorem rn_ch (p : Nat) : (p < 4 ∧ rn_q p = 81 ∧ rx_q p = p) ∨ (p = 4 ∧ rn_q p = 78 ∧ rx_q p = 3) ∨ (5 ≤ p ∧ p < 69 ∧ rn_q p = 82 ∧ rx_q p = p - 5) ∨ (69 ≤ p ∧ rn_q p = 83 ∧ rx_q p = p - 69) := by
  unfold rn_q rx_q; split
  · omega
  split
  · omega
  split <;> omega
theorem lo_ch (p : Nat) : (p < 4 ∧ lo_q p = 6 ∧ lx_q p = p) ∨ (p = 4 ∧ lo_q p = 4 ∧ lx_q p = 2) ∨ (5 ≤ p ∧ p < 69 ∧ lo_q p = 3 ∧ lx_q p = p - 5) ∨ (69 ≤ p ∧ lo_q p = 11 ∧ lx_q p = p - 69) := by
  unfold lo_q lx_q; split
  · omega
  split
  · omega
  split <;> omega
theorem rn_inj {p q : Nat} (hp : p < 73) (hq : q < 73) (h1 : rn_q p = rn_q q) (h2 : rx_q p = rx_q q) : p = q := by have a := rn_ch p; have b := rn_ch q; omega
theorem lo_inj {p q : Nat} (hp : p < 73) (hq : q < 73) (h1 : lo_q p = lo_q q) (h2 : lx_q p = lx_q q) : p = q := by have a := lo_ch p; have b := lo_ch q; omega
theorem trr_l {i : Nat} (hi : i = 3 ∨ i = 16 ∨ i = 28) (p : Nat) : trr (i + lo_q p) (lx_q p) = true := by
  rcases hi with rfl | rfl | rfl <;> unfold lo_q lx_q <;> split
  · rfl
  · split
    · rfl
    · split <;> rfl
  · rfl
  · split
    · rfl
    · split <;> rfl
  · rfl
  · split
    · rfl
    · split <;> rfl
theorem trr_r (p : Nat) : trr (rn_q p) (rx_q p) = true := by
  unfold rn_q rx_q; split
  · rfl
  · split
    · rfl
    · split <;> rfl
theorem lc_kr {σ σ' : Sg} {i p : Nat} (h : KeepR σ σ') (hi : i = 3 ∨ i = 16 ∨ i = 28) : lc_q σ' i p = lc_q σ i p := h _ _ (trr_l hi p)
theorem rc_kr {σ σ' : Sg} {p : Nat} (h : KeepR σ σ') : rc_q σ' p = rc_q σ p := h _ _ (trr_r p)
theorem lc_fr {σ τ : Sg} {i p : Nat} (h : τ (i + lo_q p) = σ (i + lo_q p)) : lc_q τ i p = lc_q σ i p := by unfold lc_q; rw [h]
theorem rc_fr {σ τ : Sg} {p : Nat} (h : ∀ a, 78 ≤ a → a ≤ 83 → τ a = σ a) : rc_q τ p = rc_q σ p := by
  unfold rc_q; rw [h (rn_q p) (by have := rn_b p; omega) (by have := rn_b p; omega)]
theorem rc_up {τ : Sg} {i k p : Nat} {v : Int32} (h : i ≠ 81 ∧ i ≠ 82 ∧ i ≠ 83 ∧ (i = 78 → k ≠ 3)) : rc_q (up2 τ i k v) p = rc_q τ p := by
  unfold rc_q; rw [up2_c, if_neg]
  intro z; have := rn_b p; omega
theorem rc_ne {τ : Sg} {q p : Nat} {v : Int32} (hp : p < 73) (hq : q < 73) (h : p ≠ q) : rc_q (up2 τ (rn_q q) (rx_q q) v) p = rc_q τ p := by
  unfold rc_q; rw [up2_c, if_neg]
  intro z; exact h (rn_inj hp hq z.1 z.2)
theorem rc_at {τ : Sg} {p : Nat} {v : Int32} : rc_q (up2 τ (rn_q p) (rx_q p) v) p = v := up2_self
theorem lc_rn {τ : Sg} {i q p : Nat} {v : Int32} (hi : i ≤ 28) : lc_q (up2 τ (rn_q q) (rx_q q) v) i p = lc_q τ i p := lc_fr (up2_ne (by have := rn_b q; have := lo_b p; omega))
def RelL (σ : Sg) : Prop := (∀ p, p < 73 → lc_q σ 3 p = rc_q σ p) ∧ (∀ k, σ 40 k = σ 91 k) ∧ (∀ n, n < 2 → ¬ σ 40 n = 0 → ∀ p, p < 73 → lc_q σ (16 + 12 * n) p = σ 90 (400 * n + 288 + p))
theorem RelL.gr {σ σ' : Sg} (h : RelL σ) (k : KeepR σ σ') : RelL σ' := by
  refine ⟨fun p hp => by rw [lc_kr k (Or.inl rfl), rc_kr k]; exact h.1 p hp, fun j => by rw [k 40 j rfl, k 91 j rfl]; exact h.2.1 j, fun n hn h0 p hp => ?_⟩
  rw [k 40 n rfl] at h0
  rw [lc_kr k (by omega), k 90 _ rfl]
  exact h.2.2 n hn h0 p hp
theorem RelL.go {σ σ' : Sg} (h : RelL σ) (k : K0 σ σ') : RelL σ' := h.gr (KR.k0 k)
theorem RelL.put {σ : Sg} {c : Nat} {x : Int32} (h : RelL σ) (hc : c < 73) : RelL (up2 (up2 σ (3 + lo_q c) (lx_q c) x) (rn_q c) (rx_q c) x) := by
  have hlo := lo_b c
  have hrn := rn_b c
  refine ⟨fun p hp => ?_, fun j => ?_, fun n hn h0 p hp => ?_⟩
  · rw [lc_rn (by decide)]
    by_cases e : p = c
    · subst e; rw [rc_at]; exact up2_self
    · rw [rc_ne hp hc e, rc_up (by omega)]
      refine Eq.trans ?_ (h.1 p hp)
      unfold lc_q; rw [up2_c, if_neg]
      intro z; exact e (lo_inj hp hc (by omega) z.2)
  · rw [up2_ne (by omega), up2_ne (by omega), up2_ne (i := rn_q c) (by omega), up2_ne (by omega)]; exact h.2.1 j
  · rw [up2_ne (by omega), up2_ne (by omega)] at h0
    rw [lc_rn (by omega), lc_fr (up2_ne (by have := lo_b p; omega)), up2_ne (by omega), up2_ne (by omega)]
    exact h.2.2 n hn h0 p hp
theorem up2_comm {σ : Sg} {i k j q : Nat} {v w : Int32} (h : i ≠ j) : up2 (up2 σ i k v) j q w = up2 (up2 σ j q w) i k v := by
  funext a b
  rw [up2_c, up2_c, up2_c, up2_c]
  by_cases e : a = j ∧ b = q
  · rw [if_pos e, if_neg (fun z => h (z.1.symm.trans e.1)), if_pos e]
  · rw [if_neg e, if_neg e]
-- post
def hpo (f : Nat → Int32) (c v : Int32) : Prop := ∃ k : Nat, (k : Int) < c.toInt ∧ f k = v
def postP (cn ck sn : Nat) (σ σ' : Sg) (v r : Int32) : Prop := (¬ (0 ≤ v.toInt ∧ v.toInt ≤ 63) ∧ K0 σ σ' ∧ r = -2) ∨ ((0 ≤ v.toInt ∧ v.toInt ≤ 63) ∧ hpo (σ sn) (σ cn ck) v ∧ K0 σ σ' ∧ r = -5) ∨ ((0 ≤ v.toInt ∧ v.toInt ≤ 63) ∧ ¬ hpo (σ sn) (σ cn ck) v ∧ 4 ≤ (σ cn ck).toInt ∧ K0 σ σ' ∧ r = -4) ∨ ((0 ≤ v.toInt ∧ v.toInt ≤ 63) ∧ ¬ hpo (σ sn) (σ cn ck) v ∧ (σ cn ck).toInt < 4 ∧ K0 (up2 (up2 σ sn (σ cn ck).toNatClampNeg v) cn ck (σ cn ck + 1)) σ' ∧ r = σ cn ck + 1)
theorem post_inv {cn ck sn : Nat} {σ σ' : Sg} {v r : Int32} (h : postP cn ck sn σ σ' v r) : Inv σ' := by rcases h with ⟨_, h, _⟩ | ⟨_, _, h, _⟩ | ⟨_, _, _, h, _⟩ | ⟨_, _, _, h, _⟩ <;> exact h.1
theorem RelL.c {σ : Sg} (h : RelL σ) : σ 7 2 = σ 78 3 := h.1 4 (by decide)
theorem RelL.p {σ : Sg} (h : RelL σ) {k : Nat} (hk : k < 4) : σ 9 k = σ 81 k := by
  have e := h.1 k (by omega); unfold lc_q rc_q at e
  rw [show lo_q k = 6 from if_pos hk, show lx_q k = k from if_pos hk, show rn_q k = 81 from if_pos hk, show rx_q k = k from if_pos hk] at e; exact e
theorem ad_r {k : Nat} (hk : k < 64) : lo_q (5 + k) = 3 ∧ lx_q (5 + k) = k ∧ rn_q (5 + k) = 82 ∧ rx_q (5 + k) = k := by have a := lo_ch (5 + k); have b := rn_ch (5 + k); omega
theorem ad_f {k : Nat} : lo_q (69 + k) = 11 ∧ lx_q (69 + k) = k ∧ rn_q (69 + k) = 83 ∧ rx_q (69 + k) = k := by have a := lo_ch (69 + k); have b := rn_ch (69 + k); omega
theorem RelL.rw_ {σ : Sg} (h : RelL σ) {k : Nat} (hk : k < 64) : σ 6 k = σ 82 k := by
  have e := h.1 (5 + k) (by omega); unfold lc_q rc_q at e
  rw [(ad_r hk).1, (ad_r hk).2.1, (ad_r hk).2.2.1, (ad_r hk).2.2.2] at e; exact e
theorem RelL.f {σ : Sg} (h : RelL σ) {k : Nat} (hk : k < 4) : σ 14 k = σ 83 k := by
  have e := h.1 (69 + k) (by omega); unfold lc_q rc_q at e
  rw [ad_f.1, ad_f.2.1, ad_f.2.2.1, ad_f.2.2.2] at e; exact e
theorem RelL.put_p {σ : Sg} {k : Nat} {x : Int32} (h : RelL σ) (hk : k < 4) : RelL (up2 (up2 σ 9 k x) 81 k x) := by
  have e := h.put (c := k) (x := x) (by omega)
  rw [show lo_q k = 6 from if_pos hk, show lx_q k = k from if_pos hk, show rn_q k = 81 from if_pos hk, show rx_q k = k from if_pos hk] at e; exact e
theorem RelL.put_c {σ : Sg} {x : Int32} (h : RelL σ) : RelL (up2 (up2 σ 7 2 x) 78 3 x) := h.put (c := 4) (by decide)
theorem RelL.put_r {σ : Sg} {k : Nat} {x : Int32} (h : RelL σ) (hk : k < 64) : RelL (up2 (up2 σ 6 k x) 82 k x) := by
  have e := h.put (c := 5 + k) (x := x) (by omega)
  rw [(ad_r hk).1, (ad_r hk).2.1, (ad_r hk).2.2.1, (ad_r hk).2.2.2] at e; exact e
theorem RelL.put_f {σ : Sg} {k : Nat} {x : Int32} (h : RelL σ) (hk : k < 4) : RelL (up2 (up2 σ 14 k x) 83 k x) := by
  have e := h.put (c := 69 + k) (x := x) (by omega)
  rw [ad_f.1, ad_f.2.1, ad_f.2.2.1, ad_f.2.2.2] at e; exact e
theorem KR.two {σ a b : Sg} {i k j q : Nat} {v w : Int32} (h1 : K0 (up2 σ i k v) a) (h2 : K0 (up2 a j q w) b) : KeepR (up2 (up2 σ i k v) j q w) b := KR.tr (KR.put (KR.k0 h1)) (KR.k0 h2)
theorem hpo_eq {σ a : Sg} {v : Int32} (h : RelL σ) (hI : Inv σ) (k : K0 σ a) : hpo (σ 9) (σ 7 2) v ↔ hpo (a 81) (a 78 3) v := by
  have hc := hI 7 2 0 4 rfl
  rw [k.2 78 3 rfl, ← h.c]
  constructor
  · rintro ⟨j, h1, h2⟩; exact ⟨j, h1, by rw [k.2 81 j rfl, ← h.p (by omega)]; exact h2⟩
  · rintro ⟨j, h1, h2⟩; exact ⟨j, h1, by rw [k.2 81 j rfl, ← h.p (by omega)] at h2; exact h2⟩
theorem post_both {σ a b : Sg} {v r r' : Int32} (h : RelL σ) (hI : Inv σ) (h1 : postP 7 2 9 σ a v r) (h2 : postP 78 3 81 a b v r') : (Inv b ∧ RelL b) ∧ r = r' := by
  have hc := hI 7 2 0 4 rfl
  rcases h1 with ⟨p1, k1, e1⟩ | ⟨p1, p2, k1, e1⟩ | ⟨p1, p2, p3, k1, e1⟩ | ⟨p1, p2, p3, k1, e1⟩
  · rcases h2 with ⟨q1, k2, e2⟩ | ⟨q1, q2, k2, e2⟩ | ⟨q1, q2, q3, k2, e2⟩ | ⟨q1, q2, q3, k2, e2⟩
    · exact ⟨⟨k2.1, (h.go k1).go k2⟩, by rw [e1, e2]⟩
    · exact absurd q1 p1
    · exact absurd q1 p1
    · exact absurd q1 p1
  · have hq := hpo_eq (v := v) h hI k1
    rcases h2 with ⟨q1, k2, e2⟩ | ⟨q1, q2, k2, e2⟩ | ⟨q1, q2, q3, k2, e2⟩ | ⟨q1, q2, q3, k2, e2⟩
    · exact absurd p1 q1
    · exact ⟨⟨k2.1, (h.go k1).go k2⟩, by rw [e1, e2]⟩
    · exact absurd (hq.mp p2) q2
    · exact absurd (hq.mp p2) q2
  · have hq := hpo_eq (v := v) h hI k1
    have e : a 78 3 = σ 7 2 := by rw [k1.2 78 3 rfl]; exact h.c.symm
    rcases h2 with ⟨q1, k2, e2⟩ | ⟨q1, q2, k2, e2⟩ | ⟨q1, q2, q3, k2, e2⟩ | ⟨q1, q2, q3, k2, e2⟩
    · exact absurd p1 q1
    · exact absurd (hq.mpr q2) p2
    · exact ⟨⟨k2.1, (h.go k1).go k2⟩, by rw [e1, e2]⟩
    · rw [e] at q3; exfalso; omega
  · have e : a 78 3 = σ 7 2 := by rw [k1.2 78 3 rfl, up2_ne (by decide), up2_ne (by decide)]; exact h.c.symm
    have e81 : ∀ j, a 81 j = σ 81 j := fun j => by rw [k1.2 81 j rfl, up2_ne (by decide), up2_ne (by decide)]
    have hq : hpo (a 81) (a 78 3) v → hpo (σ 9) (σ 7 2) v := by
      rintro ⟨j, h1, h2⟩; rw [e] at h1; exact ⟨j, h1, by rw [e81, ← h.p (by omega)] at h2; exact h2⟩
    rcases h2 with ⟨q1, k2, e2⟩ | ⟨q1, q2, k2, e2⟩ | ⟨q1, q2, q3, k2, e2⟩ | ⟨q1, q2, q3, k2, e2⟩
    · exact absurd p1 q1
    · exact absurd (hq q2) p2
    · rw [e] at q3; exfalso; omega
    · rw [e] at k2 e2
      refine ⟨⟨k2.1, ?_⟩, by rw [e1, e2]⟩
      have hn : (σ 7 2).toNatClampNeg < 4 := by have := clI (σ 7 2) (by omega); omega
      have kk := KR.tr (KR.put (i := 78) (k := 3) (v := σ 7 2 + 1) (KR.put (i := 81) (k := (σ 7 2).toNatClampNeg) (v := v) (KR.k0 k1))) (KR.k0 k2)
      rw [up2_comm (i := 7) (j := 81) (by decide)] at kk
      exact ((h.put_p hn).put_c).gr kk
-- clear
theorem clear_both {σ a b : Sg} {r r' : Int32} (h : RelL σ) (h1 : K0 (up2 σ 7 2 0) a ∧ r = σ 7 2) (h2 : K0 (up2 a 78 3 0) b ∧ r' = a 78 3) : (Inv b ∧ RelL b) ∧ r = r' :=
  ⟨⟨h2.1.1, h.put_c.gr (KR.two h1.1 h2.1)⟩, by rw [h1.2, h2.2, h1.1.2 78 3 rfl, up2_ne (by decide)]; exact h.c⟩
-- row, fruit
def rowP (nd : Nat) (σ σ' : Sg) (v w r : Int32) : Prop := (¬ (-1 ≤ w.toInt ∧ w.toInt ≤ 3) ∧ K0 σ σ' ∧ r = -1) ∨ ((-1 ≤ w.toInt ∧ w.toInt ≤ 3) ∧ ¬ (0 ≤ v.toInt ∧ v.toInt ≤ 63) ∧ K0 σ σ' ∧ r = -2) ∨ ((-1 ≤ w.toInt ∧ w.toInt ≤ 3) ∧ (0 ≤ v.toInt ∧ v.toInt ≤ 63) ∧ K0 (up2 σ nd v.toNatClampNeg (if w = (-1 : Int32) then (-6 : Int32) else w)) σ' ∧ r = σ nd v.toNatClampNeg)
theorem row_inv {nd : Nat} {σ σ' : Sg} {v w r : Int32} (h : rowP nd σ σ' v w r) : Inv σ' := by rcases h with ⟨_, h, _⟩ | ⟨_, _, h, _⟩ | ⟨_, _, h, _⟩ <;> exact h.1
theorem row_both {σ a b : Sg} {v w r r' : Int32} (h : RelL σ) (h1 : rowP 6 σ a v w r) (h2 : rowP 82 a b v w r') : (Inv b ∧ RelL b) ∧ r = r' := by
  rcases h1 with ⟨p1, k1, e1⟩ | ⟨p1, p2, k1, e1⟩ | ⟨p1, p2, k1, e1⟩ <;> rcases h2 with ⟨q1, k2, e2⟩ | ⟨q1, q2, k2, e2⟩ | ⟨q1, q2, k2, e2⟩
  · exact ⟨⟨k2.1, (h.go k1).go k2⟩, by rw [e1, e2]⟩
  · exact absurd q1 p1
  · exact absurd q1 p1
  · exact absurd p1 q1
  · exact ⟨⟨k2.1, (h.go k1).go k2⟩, by rw [e1, e2]⟩
  · exact absurd q2 p2
  · exact absurd p1 q1
  · exact absurd p2 q2
  · have hn : v.toNatClampNeg < 64 := by have := clI v (by omega); omega
    exact ⟨⟨k2.1, (h.put_r hn).gr (KR.two k1 k2)⟩, by rw [e1, e2, k1.2 82 _ rfl, up2_ne (by decide)]; exact h.rw_ hn⟩
def fruP (nd : Nat) (σ σ' : Sg) (v w r : Int32) : Prop := (¬ (0 ≤ v.toInt ∧ v.toInt ≤ 3) ∧ K0 σ σ' ∧ r = -1) ∨ ((0 ≤ v.toInt ∧ v.toInt ≤ 3) ∧ ¬ (1 ≤ w.toInt ∧ w.toInt ≤ 9) ∧ K0 σ σ' ∧ r = -2) ∨ ((0 ≤ v.toInt ∧ v.toInt ≤ 3) ∧ (1 ≤ w.toInt ∧ w.toInt ≤ 9) ∧ K0 (up2 σ nd v.toNatClampNeg w) σ' ∧ r = σ nd v.toNatClampNeg)
theorem fru_inv {nd : Nat} {σ σ' : Sg} {v w r : Int32} (h : fruP nd σ σ' v w r) : Inv σ' := by rcases h with ⟨_, h, _⟩ | ⟨_, _, h, _⟩ | ⟨_, _, h, _⟩ <;> exact h.1
theorem fru_both {σ a b : Sg} {v w r r' : Int32} (h : RelL σ) (h1 : fruP 14 σ a v w r) (h2 : fruP 83 a b v w r') : (Inv b ∧ RelL b) ∧ r = r' := by
  rcases h1 with ⟨p1, k1, e1⟩ | ⟨p1, p2, k1, e1⟩ | ⟨p1, p2, k1, e1⟩ <;> rcases h2 with ⟨q1, k2, e2⟩ | ⟨q1, q2, k2, e2⟩ | ⟨q1, q2, k2, e2⟩
  · exact ⟨⟨k2.1, (h.go k1).go k2⟩, by rw [e1, e2]⟩
  · exact absurd q1 p1
  · exact absurd q1 p1
  · exact absurd p1 q1
  · exact ⟨⟨k2.1, (h.go k1).go k2⟩, by rw [e1, e2]⟩
  · exact absurd q2 p2
  · exact absurd p1 q1
  · exact absurd p2 q2
  · have hn : v.toNatClampNeg < 4 := by have := clI v (by omega); omega
    exact ⟨⟨k2.1, (h.put_f hn).gr (KR.two k1 k2)⟩, by rw [e1, e2, k1.2 83 _ rfl, up2_ne (by decide)]; exact h.f hn⟩
-- a land is copied
def CpL (i j : Nat) (σ τ : Sg) : Prop := ∀ p, p < 73 → lc_q τ i p = lc_q σ j p
theorem cpL_of {i j : Nat} {σ τ : Sg} (h : τ (i + 3) = va_cpy (σ (j + 3)) (σ (i + 3)) 0 0 64 ∧ τ (i + 6) = va_cpy (σ (j + 6)) (σ (i + 6)) 0 0 4 ∧ τ (i + 4) 2 = σ (j + 4) 2 ∧ τ (i + 11) = va_cpy (σ (j + 11)) (σ (i + 11)) 0 0 4) : CpL i j σ τ := by
  intro p hp
  unfold lc_q lo_q lx_q
  split
  · rename_i hq; rw [h.2.1, sb_cpy0 hq]
  · split
    · exact h.2.2.1
    · split
      · rename_i hq; rw [h.1, sb_cpy0 (by omega)]
      · rw [h.2.2.2, sb_cpy0 (by omega)]
-- the reference passes cells
def tg_q (σ : Sg) (B p : Nat) : Int32 := if σ 78 24 = 0 then σ 90 (B + 288 + p) else rc_q σ p
def PI_q (σ : Sg) (B : Nat) (τ : Sg) (c : Nat) : Prop :=
  (∀ p, p < 73 → 288 + p < c → rc_q τ p = tg_q σ B p ∧ τ 90 (B + 288 + p) = tg_q σ B p) ∧
  (∀ p, p < 73 → c ≤ 288 + p → rc_q τ p = rc_q σ p ∧ τ 90 (B + 288 + p) = σ 90 (B + 288 + p)) ∧
  (∀ k, k < B ∨ B + 361 ≤ k → τ 90 k = σ 90 k) ∧ τ 78 24 = σ 78 24 ∧ τ 78 7 = σ 78 7 ∧ (∀ a, a < 78 ∨ (84 ≤ a ∧ a ≠ 90) → τ a = σ a)
theorem PI_q.zero {σ : Sg} {B : Nat} : PI_q σ B σ 0 := ⟨fun p hp h => by omega, fun p hp h => ⟨rfl, rfl⟩, fun _ _ => rfl, rfl, rfl, fun _ _ => rfl⟩
theorem PI_q.low {σ τ : Sg} {B c a k : Nat} {x r y : Int32} (h : PI_q σ B τ c) (hc : c < 288) (ha : a = 79 ∨ a = 80) : PI_q σ B (up2 (up2 (up2 τ 90 (B + c) r) 78 23 y) a k x) (c + 1) := by
  refine ⟨fun p hp q => by omega, fun p hp q => ?_, fun j hj => ?_, ?_, ?_, fun b hb => ?_⟩
  · have e := h.2.1 p hp (by omega)
    rw [rc_up (by omega), rc_up (by omega), rc_up (by omega), up2_ne (by omega), up2_ne (by decide), up2_nk (by omega)]
    exact e
  · rw [up2_ne (by omega), up2_ne (by decide), up2_nk (by omega)]; exact h.2.2.1 j hj
  · rw [up2_ne (by omega), up2_nk (by decide), up2_ne (by decide)]; exact h.2.2.2.1
  · rw [up2_ne (by omega), up2_nk (by decide), up2_ne (by decide)]; exact h.2.2.2.2.1
  · rw [up2_ne (by omega), up2_ne (by omega), up2_ne (by omega)]; exact h.2.2.2.2.2 b hb
theorem PI_q.high {σ τ : Sg} {B p : Nat} {r y : Int32} (h : PI_q σ B τ (288 + p)) (hp : p < 73) (hr : r = if τ 78 24 = 0 then τ 90 (B + (288 + p)) else rc_q τ p) : PI_q σ B (up2 (up2 (up2 τ 90 (B + (288 + p)) r) 78 23 y) (rn_q p) (rx_q p) r) (288 + p + 1) := by
  have hb := rn_b p
  have e := h.2.1 p hp (Nat.le_refl _)
  have er : r = tg_q σ B p := by
    rw [hr, h.2.2.2.1, e.1, show B + (288 + p) = B + 288 + p by omega, e.2]; rfl
  refine ⟨fun q hq g => ?_, fun q hq g => ?_, fun j hj => ?_, ?_, ?_, fun b hb => ?_⟩
  · by_cases z : q = p
    · subst z
      rw [rc_at, up2_ne (by omega), up2_ne (by decide), show B + (288 + q) = B + 288 + q by omega, up2_self]
      exact ⟨er, er⟩
    · rw [rc_ne hq hp z, rc_up (by omega), rc_up (by omega), up2_ne (by omega), up2_ne (by decide), up2_nk (by omega)]
      exact h.1 q hq (by omega)
  · rw [rc_ne hq hp (by omega), rc_up (by omega), rc_up (by omega), up2_ne (by omega), up2_ne (by decide), up2_nk (by omega)]
    exact h.2.1 q hq (by omega)
  · rw [up2_ne (by omega), up2_ne (by decide), up2_nk (by omega)]; exact h.2.2.1 j hj
  · rw [up2_c, if_neg (by omega), up2_nk (by decide), up2_ne (by decide)]; exact h.2.2.2.1
  · rw [up2_c, if_neg (by omega), up2_nk (by decide), up2_ne (by decide)]; exact h.2.2.2.2.1
  · rw [up2_ne (by omega), up2_ne (by omega), up2_ne (by omega)]; exact h.2.2.2.2.2 b hb
theorem PI_q.posts {σ τ : Sg} {B p : Nat} {r y : Int32} (h : PI_q σ B τ (288 + p)) (hp : p < 4) (hr : r = if τ 78 24 = 0 then τ 90 (B + (288 + p)) else τ 81 p) : PI_q σ B (up2 (up2 (up2 τ 90 (B + (288 + p)) r) 78 23 y) 81 p r) (288 + p + 1) := by
  have e := h.high (r := r) (y := y) (by omega) (by unfold rc_q; rw [show rn_q p = 81 from if_pos hp, show rx_q p = p from if_pos hp]; exact hr)
  rw [show rn_q p = 81 from if_pos hp, show rx_q p = p from if_pos hp] at e; exact e
theorem PI_q.many {σ τ : Sg} {B : Nat} {r y : Int32} (h : PI_q σ B τ (288 + 4)) (hr : r = if τ 78 24 = 0 then τ 90 (B + (288 + 4)) else τ 78 3) : PI_q σ B (up2 (up2 (up2 τ 90 (B + (288 + 4)) r) 78 23 y) 78 3 r) (288 + 4 + 1) := h.high (p := 4) (by decide) hr
theorem PI_q.rows {σ τ : Sg} {B p : Nat} {r y : Int32} (h : PI_q σ B τ (293 + p)) (hp : p < 64) (hr : r = if τ 78 24 = 0 then τ 90 (B + (293 + p)) else τ 82 p) : PI_q σ B (up2 (up2 (up2 τ 90 (B + (293 + p)) r) 78 23 y) 82 p r) (293 + p + 1) := by
  have e1 := (ad_r hp).2.2.1
  have e2 := (ad_r hp).2.2.2
  have e3 : 293 + p = 288 + (5 + p) := by omega
  rw [e3] at h hr ⊢
  have e := h.high (r := r) (y := y) (by omega) (by unfold rc_q; rw [e1, e2]; exact hr)
  rw [e1, e2] at e; exact e
theorem PI_q.fruits {σ τ : Sg} {B p : Nat} {r y : Int32} (h : PI_q σ B τ (357 + p)) (hp : p < 4) (hr : r = if τ 78 24 = 0 then τ 90 (B + (357 + p)) else τ 83 p) : PI_q σ B (up2 (up2 (up2 τ 90 (B + (357 + p)) r) 78 23 y) 83 p r) (357 + p + 1) := by
  have e1 := (ad_f (k := p)).2.2.1
  have e2 := (ad_f (k := p)).2.2.2
  have e3 : 357 + p = 288 + (69 + p) := by omega
  rw [e3] at h hr ⊢
  have e := h.high (r := r) (y := y) (by omega) (by unfold rc_q; rw [e1, e2]; exact hr)
  rw [e1, e2] at e; exact e
-- image, restore
def imgC (σ σ' : Sg) (v r : Int32) : Prop := (¬ (0 ≤ v.toInt ∧ v.toInt ≤ 1) ∧ K0 σ σ' ∧ r = -2) ∨ ((0 ≤ v.toInt ∧ v.toInt ≤ 1) ∧ r = 1 ∧ ∃ τ : Sg, (∀ a, ¬ (15 + 1 + 12 * v.toNatClampNeg ≤ a ∧ a ≤ 15 + 1 + 12 * v.toNatClampNeg + 11) → τ a = σ a) ∧ CpL (15 + 1 + 12 * v.toNatClampNeg) 3 σ τ ∧ K0 (up2 τ 40 v.toNatClampNeg 1) σ')
def imgR (σ σ' : Sg) (v r : Int32) : Prop := (¬ (0 ≤ v.toInt ∧ v.toInt ≤ 1) ∧ K0 σ σ' ∧ r = -2) ∨ ((0 ≤ v.toInt ∧ v.toInt ≤ 1) ∧ r = 1 ∧ ∃ τ0 τ : Sg, K0 σ τ0 ∧ ¬ τ0 78 24 = 0 ∧ PI_q τ0 (400 * v.toNatClampNeg) τ 361 ∧ K0 (up2 τ 91 v.toNatClampNeg 1) σ')
theorem imgC_inv {σ σ' : Sg} {v r : Int32} (h : imgC σ σ' v r) : Inv σ' := by rcases h with ⟨_, h, _⟩ | ⟨_, _, _, _, _, h⟩ <;> exact h.1
theorem imgR_inv {σ σ' : Sg} {v r : Int32} (h : imgR σ σ' v r) : Inv σ' := by rcases h with ⟨_, h, _⟩ | ⟨_, _, _, _, _, _, _, h⟩ <;> exact h.1
theorem rel_image {σ a b : Sg} {v r r' : Int32} (h : RelL σ) (h1 : imgC σ a v r) (h2 : imgR a b v r') : Inv b ∧ RelL b := by
  refine ⟨imgR_inv h2, ?_⟩
  rcases h1 with ⟨p1, k1, _⟩ | ⟨p1, _, t, g, cp, k1⟩ <;> rcases h2 with ⟨q1, k2, _⟩ | ⟨q1, _, t0, t1, k0, w, P, k2⟩
  · exact (h.go k1).go k2
  · exact absurd q1 p1
  · exact absurd p1 q1
  · obtain ⟨n, en⟩ : ∃ n, n = v.toNatClampNeg := ⟨_, rfl⟩
    rw [← en] at g cp k1 P k2
    have hn : n < 2 := by have := clI v (by omega); omega
    have kA : KeepR (up2 t 40 n 1) t0 := KR.tr (KR.k0 k1) (KR.k0 k0)
    have kB := KR.k0 k2
    have e1 : ∀ p, lc_q t0 3 p = lc_q σ 3 p := fun p => by
      have := lo_b p
      rw [lc_kr kA (Or.inl rfl), lc_fr (up2_ne (by omega)), lc_fr (g _ (by omega))]
    have e2 : ∀ p, rc_q t0 p = rc_q σ p := fun p => by
      rw [rc_kr kA, rc_up (by omega), rc_fr (fun a h1 h2 => g a (by omega))]
    have e3 : ∀ k, t0 40 k = if k = n then 1 else σ 40 k := fun k => by
      rw [kA 40 k rfl, up2_c]
      by_cases z : k = n
      · rw [if_pos ⟨rfl, z⟩, if_pos z]
      · rw [if_neg (fun y => z y.2), if_neg z, g 40 (by omega)]
    have e4 : ∀ k, t0 90 k = σ 90 k := fun k => by rw [kA 90 k rfl, up2_ne (by decide), g 90 (by omega)]
    have e6 : ∀ k, t0 91 k = σ 91 k := fun k => by rw [kA 91 k rfl, up2_ne (by decide), g 91 (by omega)]
    have e5 : ∀ i p, i ≤ 28 → lc_q b i p = lc_q t1 i p → lc_q b i p = lc_q t0 i p := fun i p hi z => by
      have := lo_b p
      rw [z, lc_fr (P.2.2.2.2.2 _ (by omega))]
    have f1 : ∀ i p, (i = 3 ∨ i = 16 ∨ i = 28) → lc_q b i p = lc_q t0 i p := fun i p hi => by
      have := lo_b p
      exact e5 i p (by omega) (by rw [lc_kr kB hi, lc_fr (up2_ne (by omega))])
    have f2 : ∀ p, p < 73 → rc_q b p = rc_q σ p := fun p hp => by
      rw [rc_kr kB, rc_up (by omega), (P.1 p hp (by omega)).1, ← e2]
      unfold tg_q; rw [if_neg w]
    have f3 : ∀ k, b 90 k = t1 90 k := fun k => by rw [kB 90 k rfl, up2_ne (by decide)]
    have f4 : ∀ k, b 40 k = t0 40 k := fun k => by rw [kB 40 k rfl, up2_ne (by decide), P.2.2.2.2.2 40 (by omega)]
    refine ⟨fun p hp => by rw [f1 3 p (Or.inl rfl), e1, f2 p hp]; exact h.1 p hp, fun k => ?_, fun m hm h0 p hp => ?_⟩
    · rw [f4, e3, kB 91 k rfl, up2_c, P.2.2.2.2.2 91 (by omega), e6]
      by_cases z : k = n
      · rw [if_pos z, if_pos ⟨rfl, z⟩]
      · rw [if_neg z, if_neg (fun y => z y.2)]; exact h.2.1 k
    · rw [f1 _ p (by omega), f3]
      by_cases z : m = n
      · subst z
        rw [(P.1 p hp (by omega)).2]
        unfold tg_q; rw [if_neg w, e2, ← h.1 p hp, ← cp p hp, lc_kr kA (by omega), lc_fr (up2_ne (by have := lo_b p; omega))]
      · rw [f4, e3, if_neg z] at h0
        have := lo_b p
        rw [P.2.2.1 _ (by omega), e4, lc_kr kA (by omega), lc_fr (up2_ne (by omega)), lc_fr (g _ (by omega))]
        exact h.2.2 m hm h0 p hp
def resC (σ σ' : Sg) (v r : Int32) : Prop := (¬ (0 ≤ v.toInt ∧ v.toInt ≤ 1) ∧ K0 σ σ' ∧ r = -2) ∨ ((0 ≤ v.toInt ∧ v.toInt ≤ 1) ∧ σ 40 v.toNatClampNeg = 0 ∧ K0 σ σ' ∧ r = -3) ∨ ((0 ≤ v.toInt ∧ v.toInt ≤ 1) ∧ ¬ σ 40 v.toNatClampNeg = 0 ∧ r = 1 ∧ Inv σ' ∧ (∀ a, ¬ (3 ≤ a ∧ a ≤ 3 + 11) → σ' a = σ a) ∧ CpL 3 (15 + 1 + 12 * v.toNatClampNeg) σ σ')
def resR (σ σ' : Sg) (v r : Int32) : Prop := (¬ (0 ≤ v.toInt ∧ v.toInt ≤ 1) ∧ K0 σ σ' ∧ r = -2) ∨ ((0 ≤ v.toInt ∧ v.toInt ≤ 1) ∧ σ 91 v.toNatClampNeg = 0 ∧ K0 σ σ' ∧ r = -3) ∨ ((0 ≤ v.toInt ∧ v.toInt ≤ 1) ∧ ¬ σ 91 v.toNatClampNeg = 0 ∧ r = 1 ∧ Inv σ' ∧ ∃ τ0 : Sg, K0 σ τ0 ∧ τ0 78 24 = 0 ∧ PI_q τ0 (400 * v.toNatClampNeg) σ' 361)
theorem resC_inv {σ σ' : Sg} {v r : Int32} (h : resC σ σ' v r) : Inv σ' := by
  rcases h with ⟨_, h, _⟩ | ⟨_, _, h, _⟩ | ⟨_, _, _, h, _⟩
  · exact h.1
  · exact h.1
  · exact h
theorem resR_inv {σ σ' : Sg} {v r : Int32} (h : resR σ σ' v r) : Inv σ' := by
  rcases h with ⟨_, h, _⟩ | ⟨_, _, h, _⟩ | ⟨_, _, _, h, _⟩
  · exact h.1
  · exact h.1
  · exact h
theorem rel_restore {σ a b : Sg} {v r r' : Int32} (h : RelL σ) (h1 : resC σ a v r) (h2 : resR a b v r') : Inv b ∧ RelL b := by
  refine ⟨resR_inv h2, ?_⟩
  rcases h1 with ⟨p1, k1, _⟩ | ⟨p1, p2, k1, _⟩ | ⟨p1, p2, _, _, g, cp⟩
  · rcases h2 with ⟨q1, k2, _⟩ | ⟨q1, q2, k2, _⟩ | ⟨q1, q2, _, _, t0, k0, w, P⟩
    · exact (h.go k1).go k2
    · exact absurd q1 p1
    · exact absurd q1 p1
  · rcases h2 with ⟨q1, k2, _⟩ | ⟨q1, q2, k2, _⟩ | ⟨q1, q2, _, _, t0, k0, w, P⟩
    · exact absurd p1 q1
    · exact (h.go k1).go k2
    · rw [k1.2 91 _ rfl, ← h.2.1] at q2; exact absurd p2 q2
  · rcases h2 with ⟨q1, k2, _⟩ | ⟨q1, q2, k2, _⟩ | ⟨q1, q2, _, _, t0, k0, w, P⟩
    · exact absurd p1 q1
    · rw [g 91 (by omega), ← h.2.1] at q2; exact absurd q2 p2
    · obtain ⟨n, en⟩ : ∃ n, n = v.toNatClampNeg := ⟨_, rfl⟩
      rw [← en] at p2 cp P
      have hn : n < 2 := by have := clI v (by omega); omega
      have kA := KR.k0 k0
      have e4 : ∀ k, t0 90 k = σ 90 k := fun k => by rw [kA 90 k rfl, g 90 (by omega)]
      have f1 : ∀ i p, (i = 3 ∨ i = 16 ∨ i = 28) → lc_q b i p = lc_q a i p := fun i p hi => by
        have := lo_b p
        rw [lc_fr (P.2.2.2.2.2 _ (by omega)), lc_kr kA hi]
      refine ⟨fun p hp => ?_, fun k => ?_, fun m hm h0 p hp => ?_⟩
      · rw [f1 3 p (Or.inl rfl), cp p hp, (P.1 p hp (by omega)).1]
        unfold tg_q; rw [if_pos w, e4]
        exact h.2.2 n hn p2 p hp
      · rw [P.2.2.2.2.2 40 (by omega), P.2.2.2.2.2 91 (by omega), kA 40 k rfl, kA 91 k rfl, g 40 (by omega), g 91 (by omega)]; exact h.2.1 k
      · have := lo_b p
        rw [P.2.2.2.2.2 40 (by omega), kA 40 m rfl, g 40 (by omega)] at h0
        rw [f1 _ p (by omega), lc_fr (g _ (by omega)), h.2.2 m hm h0 p hp]
        by_cases z : m = n
        · subst z; rw [(P.1 p hp (by omega)).2]; unfold tg_q; rw [if_pos w, e4]
        · rw [P.2.2.1 _ (by omega), e4]
