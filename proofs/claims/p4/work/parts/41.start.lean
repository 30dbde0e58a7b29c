def crF : Nat → Int32 := fun k => if k = 3 then -6 else 0
def swF (n : Int32) : Nat → Int32 := fun k => if k = 2 then n else if k = 3 then 20 else if k = 5 then 3 else 0
def s0L : List (Nat → Int32) := [z0, z0, z0, z0, z0, z0, (fillF (-6 : Int32) 64), crF, z0, z0, (swF 0), (swF 1), (swF 2), (swF 3), (upd (upd (upd (upd z0 0 (5 : Int32)) 1 (5 : Int32)) 2 (5 : Int32)) 3 (5 : Int32)), z0, z0, z0, z0, (fillF (-6 : Int32) 64), crF, z0, z0, (swF 0), (swF 1), (swF 2), (swF 3), (upd (upd (upd (upd z0 0 (5 : Int32)) 1 (5 : Int32)) 2 (5 : Int32)) 3 (5 : Int32)), z0, z0, z0, (fillF (-6 : Int32) 64), crF, z0, z0, (swF 0), (swF 1), (swF 2), (swF 3), (upd (upd (upd (upd z0 0 (5 : Int32)) 1 (5 : Int32)) 2 (5 : Int32)) 3 (5 : Int32)), z0, z0, z0, z0, (fillF (-6 : Int32) 64), crF, z0, z0, (swF 0), (swF 1), (swF 2), (swF 3), (upd (upd (upd (upd z0 0 (5 : Int32)) 1 (5 : Int32)) 2 (5 : Int32)) 3 (5 : Int32)), z0, z0, z0, (fillF (-6 : Int32) 64), crF, z0, z0, (swF 0), (swF 1), (swF 2), (swF 3), (upd (upd (upd (upd z0 0 (5 : Int32)) 1 (5 : Int32)) 2 (5 : Int32)) 3 (5 : Int32)), z0, crF, z0, z0, (swF 0), (swF 1), (swF 2), (swF 3), z0, z0, z0, z0, z0, z0, (upd (upd (upd (upd (upd (upd (upd (upd (upd (upd (upd (upd (upd (upd (upd (upd z0 2 (0 : Int32)) 3 (20 : Int32)) 4 (2 : Int32)) 5 (3 : Int32)) 10 (1 : Int32)) 11 (20 : Int32)) 12 (2 : Int32)) 13 (3 : Int32)) 18 (2 : Int32)) 19 (20 : Int32)) 20 (2 : Int32)) 21 (3 : Int32)) 26 (3 : Int32)) 27 (20 : Int32)) 28 (2 : Int32)) 29 (3 : Int32)), z0, z0, (fillF (-6 : Int32) 64), (upd (upd (upd (upd z0 0 (5 : Int32)) 1 (5 : Int32)) 2 (5 : Int32)) 3 (5 : Int32)), z0, z0, z0, z0, z0, z0, z0, z0]
def sig0 : Sg := fun i => s0L.getD i z0
theorem sw79 (k : Nat) (h : k % 8 = 2) : 0 ≤ (sig0 79 k).toInt ∧ (sig0 79 k).toInt ≤ 3 := by
  by_cases hk : k < 32
  · exact (by decide +kernel : ∀ k, k < 32 → k % 8 = 2 → 0 ≤ (sig0 79 k).toInt ∧ (sig0 79 k).toInt ≤ 3) k hk h
  · have e : sig0 79 k = 0 := by
      show (upd (upd (upd (upd (upd (upd (upd (upd (upd (upd (upd (upd (upd (upd (upd (upd z0 2 (0 : Int32)) 3 (20 : Int32)) 4 (2 : Int32)) 5 (3 : Int32)) 10 (1 : Int32)) 11 (20 : Int32)) 12 (2 : Int32)) 13 (3 : Int32)) 18 (2 : Int32)) 19 (20 : Int32)) 20 (2 : Int32)) 21 (3 : Int32)) 26 (3 : Int32)) 27 (20 : Int32)) 28 (2 : Int32)) 29 (3 : Int32)) k = 0
      simp [upd, z0, show k ≠ 2 by omega, show k ≠ 3 by omega, show k ≠ 4 by omega, show k ≠ 5 by omega, show k ≠ 10 by omega, show k ≠ 11 by omega, show k ≠ 12 by omega, show k ≠ 13 by omega, show k ≠ 18 by omega, show k ≠ 19 by omega, show k ≠ 20 by omega, show k ≠ 21 by omega, show k ≠ 26 by omega, show k ≠ 27 by omega, show k ≠ 28 by omega, show k ≠ 29 by omega]
    rw [e]; decide
theorem sig0_inv : Inv sig0 := by
  intro i k lo hi h
  by_cases hi92 : i < 92
  · unfold rg at h
    by_cases g4_1 : nk i = 4 ∧ k = 1
    · rw [if_pos g4_1] at h; cases h; obtain ⟨g1, rfl⟩ := g4_1; exact (by decide +kernel : ∀ i, i < 92 → nk i = 4 → 0 ≤ (sig0 i 1).toInt ∧ (sig0 i 1).toInt ≤ 40) i hi92 g1
    rw [if_neg g4_1] at h
    by_cases g1_2 : nk i = 1 ∧ k = 2
    · rw [if_pos g1_2] at h; cases h; obtain ⟨g1, rfl⟩ := g1_2; exact (by decide +kernel : ∀ i, i < 92 → nk i = 1 → 0 ≤ (sig0 i 2).toInt ∧ (sig0 i 2).toInt ≤ 4) i hi92 g1
    rw [if_neg g1_2] at h
    by_cases g8_2 : nk i = 8 ∧ k = 2
    · rw [if_pos g8_2] at h; cases h; obtain ⟨g1, rfl⟩ := g8_2; exact (by decide +kernel : ∀ i, i < 92 → nk i = 8 → 0 ≤ (sig0 i 2).toInt ∧ (sig0 i 2).toInt ≤ 72) i hi92 g1
    rw [if_neg g8_2] at h
    by_cases g10_3 : nk i = 10 ∧ k = 3
    · rw [if_pos g10_3] at h; cases h; obtain ⟨g1, rfl⟩ := g10_3; exact (by decide +kernel : ∀ i, i < 92 → nk i = 10 → 0 ≤ (sig0 i 3).toInt ∧ (sig0 i 3).toInt ≤ 4) i hi92 g1
    rw [if_neg g10_3] at h
    by_cases g10_7 : nk i = 10 ∧ k = 7
    · rw [if_pos g10_7] at h; cases h; obtain ⟨g1, rfl⟩ := g10_7; exact (by decide +kernel : ∀ i, i < 92 → nk i = 10 → 0 ≤ (sig0 i 7).toInt ∧ (sig0 i 7).toInt ≤ 40) i hi92 g1
    rw [if_neg g10_7] at h
    by_cases g10_11 : nk i = 10 ∧ k = 11
    · rw [if_pos g10_11] at h; cases h; obtain ⟨g1, rfl⟩ := g10_11; exact (by decide +kernel : ∀ i, i < 92 → nk i = 10 → 0 ≤ (sig0 i 11).toInt ∧ (sig0 i 11).toInt ≤ 4) i hi92 g1
    rw [if_neg g10_11] at h
    by_cases g132 : nk i = 132 ∧ k % 8 = 2
    · rw [if_pos g132] at h; cases h; rcases (by decide +kernel : ∀ i, i < 92 → nk i = 132 → i = 79 ∨ i = 85) i hi92 g132.1 with rfl | rfl
      · exact sw79 k g132.2
      · show 0 ≤ (z0 k).toInt ∧ (z0 k).toInt ≤ 3; unfold z0; decide
    rw [if_neg g132] at h
    by_cases g9 : nk i = 900 ∧ k % 400 < 32 ∧ k % 8 = 2
    · rw [if_pos g9] at h; cases h; have e90 := (by decide +kernel : ∀ i, i < 92 → nk i = 900 → i = 90) i hi92 g9.1; subst e90; show 0 ≤ (z0 k).toInt ∧ (z0 k).toInt ≤ 3; unfold z0; decide
    rw [if_neg g9] at h
    clear g9
    by_cases g9 : nk i = 900 ∧ k % 400 = 292
    · rw [if_pos g9] at h; cases h; have e90 := (by decide +kernel : ∀ i, i < 92 → nk i = 900 → i = 90) i hi92 g9.1; subst e90; show 0 ≤ (z0 k).toInt ∧ (z0 k).toInt ≤ 4; unfold z0; decide
    rw [if_neg g9] at h
    clear g9
    cases h
  · have e99 : nk i = 99 := by show nkL.getD i 99 = 99; rw [List.getD_eq_getElem?_getD, List.getElem?_eq_none (show nkL.length ≤ i by exact Nat.not_lt.mp hi92)]; rfl
    rw [e99] at h; simp [rg] at h
theorem arr_q {cA : ClassId} {n : Nat} {f g : Nat → Option Nat} (h : ∀ j, j < n → f j = g j) : vp_cell cA (n, .inr (.inr (.inr (.inr f)))) = vp_cell cA (n, .inr (.inr (.inr (.inr g)))) := by
  rw [vp_cell_q, vp_cell_q]; unfold arrV; congr 2; funext j; show va_rf (f j.1) = va_rf (g j.1); rw [h j.1 j.2]
set_option maxHeartbeats 4000000 in
set_option maxRecDepth 100000 in
theorem fin_P {G : Gg} {b : Nat} {E : Nat → va_E} {H : Heap} (hA : ad G = fun i => b + i) (h1 : atX10 G b E 0) (h2 : atX11 G b E 78) (hP : va_P G.1 vwCl (wE b E 92) H) : va_P G.1 vwCl (wld G sig0) H := by
  obtain ⟨D, cy, A, tt⟩ := G
  have hA : A = fun i => b + i := hA
  subst hA
  obtain ⟨n0, ⟨n1, n2⟩, ⟨n3, ⟨n4, n5, n6⟩, ⟨n7, n8, n9, n10, n11, n12, n13⟩, n14⟩, n15, ⟨n16, ⟨n17, n18, n19⟩, ⟨n20, n21, n22, n23, n24, n25, n26⟩, n27⟩, ⟨n28, ⟨n29, n30, n31⟩, ⟨n32, n33, n34, n35, n36, n37, n38⟩, n39⟩, n40, ⟨n41, ⟨n42, n43, n44⟩, ⟨n45, n46, n47, n48, n49, n50, n51⟩, n52⟩, ⟨n53, ⟨n54, n55, n56⟩, ⟨n57, n58, n59, n60, n61, n62, n63⟩, n64⟩, ⟨n65, ⟨n66, n67, n68, n69, n70, n71, n72⟩, n73⟩, n74, ⟨n75, n76, n77⟩⟩ := h1
  obtain ⟨n78, n79, n80, n81, n82, n83, n84, n85, n86, n87, n88, n89, n90, n91⟩ := h2
  intro k q hq
  have hk : k < 92 := by have := (List.getElem?_eq_some_iff.mp hq).1; simpa [wld] using this
  rw [wld_get ⟨hk, rfl⟩] at hq
  cases hq
  match k, hk with
  | 0, _ => exact hP 0 _ (wE_get (by decide) n0)
  | 1, _ => exact hP 1 _ (wE_get (by decide) n1)
  | 2, _ => exact hP 2 _ (wE_get (by decide) n2)
  | 3, _ => exact hP 3 _ (wE_get (by decide) n3)
  | 4, _ => exact hP 4 _ (wE_get (by decide) n4)
  | 5, _ => exact hP 5 _ (wE_get (by decide) n5)
  | 6, _ => exact hP 6 _ (wE_get (by decide) n6)
  | 7, _ => exact hP 7 _ (wE_get (by decide) n7)
  | 8, _ => have z := hP 8 _ (wE_get (by decide) n8); exact (show H[b + 8]? = _ from z).trans (congrArg some (arr_q (fun j hj => match j, hj with | 0, _ => rfl | 1, _ => rfl | 2, _ => rfl | 3, _ => rfl | j + 4, h => absurd h (by omega))))
  | 9, _ => exact hP 9 _ (wE_get (by decide) n9)
  | 10, _ => exact hP 10 _ (wE_get (by decide) n10)
  | 11, _ => exact hP 11 _ (wE_get (by decide) n11)
  | 12, _ => exact hP 12 _ (wE_get (by decide) n12)
  | 13, _ => exact hP 13 _ (wE_get (by decide) n13)
  | 14, _ => exact hP 14 _ (wE_get (by decide) n14)
  | 15, _ => have z := hP 15 _ (wE_get (by decide) n15); exact (show H[b + 15]? = _ from z).trans (congrArg some (arr_q (fun j hj => match j, hj with | 0, _ => rfl | 1, _ => rfl | j + 2, h => absurd h (by omega))))
  | 16, _ => exact hP 16 _ (wE_get (by decide) n16)
  | 17, _ => exact hP 17 _ (wE_get (by decide) n17)
  | 18, _ => exact hP 18 _ (wE_get (by decide) n18)
  | 19, _ => exact hP 19 _ (wE_get (by decide) n19)
  | 20, _ => exact hP 20 _ (wE_get (by decide) n20)
  | 21, _ => have z := hP 21 _ (wE_get (by decide) n21); exact (show H[b + 21]? = _ from z).trans (congrArg some (arr_q (fun j hj => match j, hj with | 0, _ => rfl | 1, _ => rfl | 2, _ => rfl | 3, _ => rfl | j + 4, h => absurd h (by omega))))
  | 22, _ => exact hP 22 _ (wE_get (by decide) n22)
  | 23, _ => exact hP 23 _ (wE_get (by decide) n23)
  | 24, _ => exact hP 24 _ (wE_get (by decide) n24)
  | 25, _ => exact hP 25 _ (wE_get (by decide) n25)
  | 26, _ => exact hP 26 _ (wE_get (by decide) n26)
  | 27, _ => exact hP 27 _ (wE_get (by decide) n27)
  | 28, _ => exact hP 28 _ (wE_get (by decide) n28)
  | 29, _ => exact hP 29 _ (wE_get (by decide) n29)
  | 30, _ => exact hP 30 _ (wE_get (by decide) n30)
  | 31, _ => exact hP 31 _ (wE_get (by decide) n31)
  | 32, _ => exact hP 32 _ (wE_get (by decide) n32)
  | 33, _ => have z := hP 33 _ (wE_get (by decide) n33); exact (show H[b + 33]? = _ from z).trans (congrArg some (arr_q (fun j hj => match j, hj with | 0, _ => rfl | 1, _ => rfl | 2, _ => rfl | 3, _ => rfl | j + 4, h => absurd h (by omega))))
  | 34, _ => exact hP 34 _ (wE_get (by decide) n34)
  | 35, _ => exact hP 35 _ (wE_get (by decide) n35)
  | 36, _ => exact hP 36 _ (wE_get (by decide) n36)
  | 37, _ => exact hP 37 _ (wE_get (by decide) n37)
  | 38, _ => exact hP 38 _ (wE_get (by decide) n38)
  | 39, _ => exact hP 39 _ (wE_get (by decide) n39)
  | 40, _ => exact hP 40 _ (wE_get (by decide) n40)
  | 41, _ => exact hP 41 _ (wE_get (by decide) n41)
  | 42, _ => exact hP 42 _ (wE_get (by decide) n42)
  | 43, _ => exact hP 43 _ (wE_get (by decide) n43)
  | 44, _ => exact hP 44 _ (wE_get (by decide) n44)
  | 45, _ => exact hP 45 _ (wE_get (by decide) n45)
  | 46, _ => have z := hP 46 _ (wE_get (by decide) n46); exact (show H[b + 46]? = _ from z).trans (congrArg some (arr_q (fun j hj => match j, hj with | 0, _ => rfl | 1, _ => rfl | 2, _ => rfl | 3, _ => rfl | j + 4, h => absurd h (by omega))))
  | 47, _ => exact hP 47 _ (wE_get (by decide) n47)
  | 48, _ => exact hP 48 _ (wE_get (by decide) n48)
  | 49, _ => exact hP 49 _ (wE_get (by decide) n49)
  | 50, _ => exact hP 50 _ (wE_get (by decide) n50)
  | 51, _ => exact hP 51 _ (wE_get (by decide) n51)
  | 52, _ => exact hP 52 _ (wE_get (by decide) n52)
  | 53, _ => exact hP 53 _ (wE_get (by decide) n53)
  | 54, _ => exact hP 54 _ (wE_get (by decide) n54)
  | 55, _ => exact hP 55 _ (wE_get (by decide) n55)
  | 56, _ => exact hP 56 _ (wE_get (by decide) n56)
  | 57, _ => exact hP 57 _ (wE_get (by decide) n57)
  | 58, _ => have z := hP 58 _ (wE_get (by decide) n58); exact (show H[b + 58]? = _ from z).trans (congrArg some (arr_q (fun j hj => match j, hj with | 0, _ => rfl | 1, _ => rfl | 2, _ => rfl | 3, _ => rfl | j + 4, h => absurd h (by omega))))
  | 59, _ => exact hP 59 _ (wE_get (by decide) n59)
  | 60, _ => exact hP 60 _ (wE_get (by decide) n60)
  | 61, _ => exact hP 61 _ (wE_get (by decide) n61)
  | 62, _ => exact hP 62 _ (wE_get (by decide) n62)
  | 63, _ => exact hP 63 _ (wE_get (by decide) n63)
  | 64, _ => exact hP 64 _ (wE_get (by decide) n64)
  | 65, _ => exact hP 65 _ (wE_get (by decide) n65)
  | 66, _ => exact hP 66 _ (wE_get (by decide) n66)
  | 67, _ => have z := hP 67 _ (wE_get (by decide) n67); exact (show H[b + 67]? = _ from z).trans (congrArg some (arr_q (fun j hj => match j, hj with | 0, _ => rfl | 1, _ => rfl | 2, _ => rfl | 3, _ => rfl | j + 4, h => absurd h (by omega))))
  | 68, _ => exact hP 68 _ (wE_get (by decide) n68)
  | 69, _ => exact hP 69 _ (wE_get (by decide) n69)
  | 70, _ => exact hP 70 _ (wE_get (by decide) n70)
  | 71, _ => exact hP 71 _ (wE_get (by decide) n71)
  | 72, _ => exact hP 72 _ (wE_get (by decide) n72)
  | 73, _ => exact hP 73 _ (wE_get (by decide) n73)
  | 74, _ => exact hP 74 _ (wE_get (by decide) n74)
  | 75, _ => exact hP 75 _ (wE_get (by decide) n75)
  | 76, _ => exact hP 76 _ (wE_get (by decide) n76)
  | 77, _ => exact hP 77 _ (wE_get (by decide) n77)
  | 78, _ => exact hP 78 _ (wE_get (by decide) n78)
  | 79, _ => exact hP 79 _ (wE_get (by decide) n79)
  | 80, _ => exact hP 80 _ (wE_get (by decide) n80)
  | 81, _ => exact hP 81 _ (wE_get (by decide) n81)
  | 82, _ => exact hP 82 _ (wE_get (by decide) n82)
  | 83, _ => exact hP 83 _ (wE_get (by decide) n83)
  | 84, _ => exact hP 84 _ (wE_get (by decide) n84)
  | 85, _ => exact hP 85 _ (wE_get (by decide) n85)
  | 86, _ => exact hP 86 _ (wE_get (by decide) n86)
  | 87, _ => exact hP 87 _ (wE_get (by decide) n87)
  | 88, _ => exact hP 88 _ (wE_get (by decide) n88)
  | 89, _ => exact hP 89 _ (wE_get (by decide) n89)
  | 90, _ => exact hP 90 _ (wE_get (by decide) n90)
  | 91, _ => exact hP 91 _ (wE_get (by decide) n91)
  | k + 92, h => exact absurd h (by omega)
theorem arrK {args : Array Value} {s : State} {ty : FieldType} (hp : refKind ty = false) (h : (Cond.arrayClass ty).before args s = true) : ∃ cA : ClassId, ArrOfT s cA ty ∧ s.vm.findClass ("[" ++ ty.toString) = some cA := by
  obtain ⟨cA, kA, comp, h1, h2, h3⟩ := Cond.arrayClass_spec h
  exact ⟨cA, fun n z => ⟨fun k q => (by cases q), kA, h2, comp, h3⟩, h1⟩
theorem arrQ {args : Array Value} {s : State} {C : String} (h : (Cond.arrayOver (.object C)).before args s = true) : ∃ cA : ClassId, ArrOfT s cA (.object C) ∧ va_RA s cA (.object C) := by
  obtain ⟨comp, cA, kA, h1, h2, h3, h4, h5⟩ := Cond.arrayOver_spec h
  exact ⟨cA, fun n z => ⟨fun k q => (by cases q), kA, h3, comp, h4⟩, kA, comp, h3, h4, h1, h5⟩
theorem tb_MOST_OF {args : Array Value} {s : State} {A : Nat → Prop} (hts0 : ∀ w ∈ lw_tbl, w.before args s = true) (hgv : (Jvm.Cond.and given_1 narrow_1).before args s = true) (hA : ∀ a : Nat, a < s.heap.size → ¬ A a) : ∃ t : Nat, va_Z "BlindSown" "MOST_OF" "[I" (.ref t) A s s.heap ∧ va_T .int t 6 (fun k => .int (mostF k)) A s s.heap := by
  have hs := flat_of_before _ hgv
  obtain ⟨t, ht, hT⟩ := va_Tof (tm := .static "BlindSown" "MOST_OF" "[I") (ty := .int) (N := 6) (f := fun k => .int (mostF k)) (A := A) (by decide) (hs _ (by decide +kernel)) (va_eqt (hs _ (by decide +kernel))) (fun j hj => by
    match j, hj with
    | 0, _ => exact va_eqt (z := (63 : Int32)) (hs (.eq (.elem (.static "BlindSown" "MOST_OF" "[I") (.int (0 : Int32))) (.int (63 : Int32))) (by decide +kernel))
    | 1, _ => exact va_eqt (z := (7 : Int32)) (hs (.eq (.elem (.static "BlindSown" "MOST_OF" "[I") (.int (1 : Int32))) (.int (7 : Int32))) (by decide +kernel))
    | 2, _ => exact va_eqt (z := (3 : Int32)) (hs (.eq (.elem (.static "BlindSown" "MOST_OF" "[I") (.int (2 : Int32))) (.int (3 : Int32))) (by decide +kernel))
    | 3, _ => exact va_eqt (z := (99 : Int32)) (hs (.eq (.elem (.static "BlindSown" "MOST_OF" "[I") (.int (3 : Int32))) (.int (99 : Int32))) (by decide +kernel))
    | 4, _ => exact va_eqt (z := (4 : Int32)) (hs (.eq (.elem (.static "BlindSown" "MOST_OF" "[I") (.int (4 : Int32))) (.int (4 : Int32))) (by decide +kernel))
    | 5, _ => exact va_eqt (z := (9 : Int32)) (hs (.eq (.elem (.static "BlindSown" "MOST_OF" "[I") (.int (5 : Int32))) (.int (9 : Int32))) (by decide +kernel))
    | j + 6, h => exact absurd h (by omega)) hA
  exact ⟨t, va_Zref (hts0 _ (List.mem_of_getElem? (i := 295) (by decide +kernel))) (hts0 _ (List.mem_of_getElem? (i := 30) (by decide +kernel))) ht hA, hT⟩
theorem tb_STEP_X {args : Array Value} {s : State} {A : Nat → Prop} (hts0 : ∀ w ∈ lw_tbl, w.before args s = true) (hgv : (Jvm.Cond.and given_1 narrow_1).before args s = true) (hA : ∀ a : Nat, a < s.heap.size → ¬ A a) : ∃ t : Nat, va_Z "BlindSown" "STEP_X" "[I" (.ref t) A s s.heap ∧ va_T .int t 8 (fun k => .int (stepXF k)) A s s.heap := by
  have hs := flat_of_before _ hgv
  obtain ⟨t, ht, hT⟩ := va_Tof (tm := .static "BlindSown" "STEP_X" "[I") (ty := .int) (N := 8) (f := fun k => .int (stepXF k)) (A := A) (by decide) (hs _ (by decide +kernel)) (va_eqt (hs _ (by decide +kernel))) (fun j hj => by
    match j, hj with
    | 0, _ => exact va_eqt (z := (0 : Int32)) (hs (.eq (.elem (.static "BlindSown" "STEP_X" "[I") (.int (0 : Int32))) (.int (0 : Int32))) (by decide +kernel))
    | 1, _ => exact va_eqt (z := (1 : Int32)) (hs (.eq (.elem (.static "BlindSown" "STEP_X" "[I") (.int (1 : Int32))) (.int (1 : Int32))) (by decide +kernel))
    | 2, _ => exact va_eqt (z := (1 : Int32)) (hs (.eq (.elem (.static "BlindSown" "STEP_X" "[I") (.int (2 : Int32))) (.int (1 : Int32))) (by decide +kernel))
    | 3, _ => exact va_eqt (z := (1 : Int32)) (hs (.eq (.elem (.static "BlindSown" "STEP_X" "[I") (.int (3 : Int32))) (.int (1 : Int32))) (by decide +kernel))
    | 4, _ => exact va_eqt (z := (0 : Int32)) (hs (.eq (.elem (.static "BlindSown" "STEP_X" "[I") (.int (4 : Int32))) (.int (0 : Int32))) (by decide +kernel))
    | 5, _ => exact va_eqt (z := (-1 : Int32)) (hs (.eq (.elem (.static "BlindSown" "STEP_X" "[I") (.int (5 : Int32))) (.int (-1 : Int32))) (by decide +kernel))
    | 6, _ => exact va_eqt (z := (-1 : Int32)) (hs (.eq (.elem (.static "BlindSown" "STEP_X" "[I") (.int (6 : Int32))) (.int (-1 : Int32))) (by decide +kernel))
    | 7, _ => exact va_eqt (z := (-1 : Int32)) (hs (.eq (.elem (.static "BlindSown" "STEP_X" "[I") (.int (7 : Int32))) (.int (-1 : Int32))) (by decide +kernel))
    | j + 8, h => exact absurd h (by omega)) hA
  exact ⟨t, va_Zref (hts0 _ (List.mem_of_getElem? (i := 381) (by decide +kernel))) (hts0 _ (List.mem_of_getElem? (i := 30) (by decide +kernel))) ht hA, hT⟩
theorem tb_STEP_Y {args : Array Value} {s : State} {A : Nat → Prop} (hts0 : ∀ w ∈ lw_tbl, w.before args s = true) (hgv : (Jvm.Cond.and given_1 narrow_1).before args s = true) (hA : ∀ a : Nat, a < s.heap.size → ¬ A a) : ∃ t : Nat, va_Z "BlindSown" "STEP_Y" "[I" (.ref t) A s s.heap ∧ va_T .int t 8 (fun k => .int (stepYF k)) A s s.heap := by
  have hs := flat_of_before _ hgv
  obtain ⟨t, ht, hT⟩ := va_Tof (tm := .static "BlindSown" "STEP_Y" "[I") (ty := .int) (N := 8) (f := fun k => .int (stepYF k)) (A := A) (by decide) (hs _ (by decide +kernel)) (va_eqt (hs _ (by decide +kernel))) (fun j hj => by
    match j, hj with
    | 0, _ => exact va_eqt (z := (-1 : Int32)) (hs (.eq (.elem (.static "BlindSown" "STEP_Y" "[I") (.int (0 : Int32))) (.int (-1 : Int32))) (by decide +kernel))
    | 1, _ => exact va_eqt (z := (-1 : Int32)) (hs (.eq (.elem (.static "BlindSown" "STEP_Y" "[I") (.int (1 : Int32))) (.int (-1 : Int32))) (by decide +kernel))
    | 2, _ => exact va_eqt (z := (0 : Int32)) (hs (.eq (.elem (.static "BlindSown" "STEP_Y" "[I") (.int (2 : Int32))) (.int (0 : Int32))) (by decide +kernel))
    | 3, _ => exact va_eqt (z := (1 : Int32)) (hs (.eq (.elem (.static "BlindSown" "STEP_Y" "[I") (.int (3 : Int32))) (.int (1 : Int32))) (by decide +kernel))
    | 4, _ => exact va_eqt (z := (1 : Int32)) (hs (.eq (.elem (.static "BlindSown" "STEP_Y" "[I") (.int (4 : Int32))) (.int (1 : Int32))) (by decide +kernel))
    | 5, _ => exact va_eqt (z := (1 : Int32)) (hs (.eq (.elem (.static "BlindSown" "STEP_Y" "[I") (.int (5 : Int32))) (.int (1 : Int32))) (by decide +kernel))
    | 6, _ => exact va_eqt (z := (0 : Int32)) (hs (.eq (.elem (.static "BlindSown" "STEP_Y" "[I") (.int (6 : Int32))) (.int (0 : Int32))) (by decide +kernel))
    | 7, _ => exact va_eqt (z := (-1 : Int32)) (hs (.eq (.elem (.static "BlindSown" "STEP_Y" "[I") (.int (7 : Int32))) (.int (-1 : Int32))) (by decide +kernel))
    | j + 8, h => exact absurd h (by omega)) hA
  exact ⟨t, va_Zref (hts0 _ (List.mem_of_getElem? (i := 383) (by decide +kernel))) (hts0 _ (List.mem_of_getElem? (i := 30) (by decide +kernel))) ht hA, hT⟩
set_option maxHeartbeats 16000000 in
set_option maxRecDepth 100000 in
theorem whole_start {p : Program} {e : Env} {s : State} {m : MethodId} {below : List Frame} {meth : Method} {c : Code} (l : Launch) {b L : Nat} {xs : Nat → Int32} (hL : L ≤ 2048) (C0 : lw_At p s m meth c b L xs) : W p l e room_1 s m #[Value.ref b] below meth c s.heap [] 0 0 (lw_Z below #[Value.ref b] s) (entryFrame m ([Value.ref b] : List Value).toArray 4) := by
  obtain ⟨hx, hb, hr, hml, hown, hts0, hX, hbl, hlocks, hgv⟩ := C0
  have hown : s.vm.findClass RL = some m.cls := hown
  have hb : c.code = cL_law := hb
  have hts : ∀ w ∈ wsL_law, w.before #[Value.ref b] s = true := fun w h => hts0 w (wsL_law_in w h)
  obtain ⟨c0, iS0, hKn0⟩ := u_known (C := RX0) (T := TX0) (N := 5) (n := 5) hts inlX0 (hts _ wd26)
  obtain ⟨c1, iS1, hKn1⟩ := u_known (C := RX1) (T := TX1) (N := 4) (n := 4) hts inlX1 (hts _ wd51)
  obtain ⟨c2, iS2, hKn2⟩ := u_known (C := RX2) (T := TX2) (N := 2) (n := 2) hts inlX2 (hts _ wd47)
  obtain ⟨c3, iS3, hKn3⟩ := u_known (C := RX3) (T := TX3) (N := 3) (n := 3) hts inlX3 (hts _ wd17)
  obtain ⟨c4, iS4, hKn4⟩ := u_known (C := RX4) (T := TX4) (N := 2) (n := 2) hts inlX4 (hts _ wd13)
  obtain ⟨c5, iS5, hKn5⟩ := u_known (C := RX6) (T := TX6) (N := 8) (n := 8) hts inlX6 (hts _ wd72)
  obtain ⟨c6, iS6, hKn6⟩ := u_known (C := RX7) (T := TX7) (N := 2) (n := 2) hts inlX7 (hts _ wd87)
  obtain ⟨c7, iS7, hKn7⟩ := u_known (C := RX8) (T := TX8) (N := 3) (n := 3) hts inlX8 (hts _ wd30)
  obtain ⟨c8, iS8, hKn8⟩ := u_known (C := RX9) (T := TX9) (N := 3) (n := 3) hts inlX9 (hts _ wd34)
  obtain ⟨c9, iS9, hKn9⟩ := u_known (C := RX10) (T := TX10) (N := 9) (n := 9) hts inlX10 (hts _ wd1)
  obtain ⟨c10, iS10, hKn10⟩ := u_known (C := RX11) (T := TX11) (N := 25) (n := 25) hts inlX11 (hts _ wd4)
  obtain ⟨D, hKc⟩ : ∃ D : va_G, ∀ (k : Nat) (q : vw_C), vwCl[k]? = some q → u_Kn s q.1 q.2.1 q.2.2 (D.1 k) (D.2 k) := by
    refine ⟨(fun k => match k with | 0 => c0 | 1 => c1 | 2 => c2 | 3 => c3 | 4 => c4 | 5 => c5 | 6 => c6 | 7 => c7 | 8 => c8 | 9 => c9 | _ => c10, fun k => match k with | 0 => iS0 | 1 => iS1 | 2 => iS2 | 3 => iS3 | 4 => iS4 | 5 => iS5 | 6 => iS6 | 7 => iS7 | 8 => iS8 | 9 => iS9 | _ => iS10), ?_⟩
    intro k q hq
    match k, hq with
    | 0, hq => cases hq; exact hKn0
    | 1, hq => cases hq; exact hKn1
    | 2, hq => cases hq; exact hKn2
    | 3, hq => cases hq; exact hKn3
    | 4, hq => cases hq; exact hKn4
    | 5, hq => cases hq; exact hKn5
    | 6, hq => cases hq; exact hKn6
    | 7, hq => cases hq; exact hKn7
    | 8, hq => cases hq; exact hKn8
    | 9, hq => cases hq; exact hKn9
    | 10, hq => cases hq; exact hKn10
    | k + 11, hq => simp [vwCl] at hq
  obtain ⟨cyI, aI, nI_⟩ := arrK (ty := .int) rfl (hts _ wd40)
  obtain ⟨cyZ, aZ, nZ_⟩ := arrK (ty := .boolean) rfl (hts _ wd21)
  have oL : (Cond.arrayOver (.object "BlindSown$Land")).before #[Value.ref b] s = true := (hts0 _ (List.mem_of_getElem? (i := 174) (by decide +kernel)))
  have oS : (Cond.arrayOver (.object "BlindSown$Sower")).before #[Value.ref b] s = true := (hts0 _ (List.mem_of_getElem? (i := 100) (by decide +kernel)))
  obtain ⟨cyL, aL, rL⟩ := arrQ oL
  obtain ⟨cyS, aS, rS⟩ := arrQ oS
  have hnd : ∀ a : Nat, a < s.heap.size → ¬ (∃ i, i < 92 ∧ a = s.heap.size + i) := fun a ha ⟨i, _, e⟩ => by omega
  obtain ⟨t0, Z0, T0⟩ := tb_MOST_OF (A := fun q => ∃ i, i < 92 ∧ q = s.heap.size + i) hts0 hgv hnd
  obtain ⟨t1, Z1, T1⟩ := tb_STEP_X (A := fun q => ∃ i, i < 92 ∧ q = s.heap.size + i) hts0 hgv hnd
  obtain ⟨t2, Z2, T2⟩ := tb_STEP_Y (A := fun q => ∃ i, i < 92 ∧ q = s.heap.size + i) hts0 hgv hnd
  obtain ⟨G, eG⟩ : ∃ G : Gg, G = (D, (cyI, cyZ, cyL, cyS), (fun i => s.heap.size + i), (t0, t1, t2)) := ⟨_, rfl⟩
  have hA : ad G = fun i => s.heap.size + i := by rw [eG]
  have hKt : va_K G.1 vwCl (tys0 G) s := by
    rw [eG]
    refine ⟨hKc, fun k q hq => ?_⟩
    match k, hq with
    | 0, hq => cases hq; exact ⟨aI, nI_⟩
    | 1, hq => cases hq; exact ⟨aZ, nZ_⟩
    | 2, hq => cases hq; exact ⟨aL, rL⟩
    | 3, hq => cases hq; exact ⟨aS, rS⟩
    | k + 4, hq => simp at hq
  have hN : ∀ q ∈ nestL, va_Nw (.methodLinkNest q.1 q.2.1 q.2.2 "BlindSown") s := by
    intro q hq
    simp only [nestL, List.mem_cons, List.not_mem_nil, or_false] at hq
    rcases hq with rfl | rfl | rfl | rfl | rfl | rfl | rfl | rfl | rfl | rfl | rfl | rfl | rfl | rfl | rfl | rfl
    · exact va_Nw.of rfl (hts0 _ (List.mem_of_getElem? (i := 54) (by decide +kernel)))
    · exact va_Nw.of rfl (hts0 _ (List.mem_of_getElem? (i := 80) (by decide +kernel)))
    · exact va_Nw.of rfl (hts0 _ (List.mem_of_getElem? (i := 177) (by decide +kernel)))
    · exact va_Nw.of rfl (hts0 _ (List.mem_of_getElem? (i := 185) (by decide +kernel)))
    · exact va_Nw.of rfl (hts0 _ (List.mem_of_getElem? (i := 188) (by decide +kernel)))
    · exact va_Nw.of rfl (hts0 _ (List.mem_of_getElem? (i := 220) (by decide +kernel)))
    · exact va_Nw.of rfl (hts0 _ (List.mem_of_getElem? (i := 239) (by decide +kernel)))
    · exact va_Nw.of rfl (hts0 _ (List.mem_of_getElem? (i := 347) (by decide +kernel)))
    · exact va_Nw.of rfl (hts0 _ (List.mem_of_getElem? (i := 372) (by decide +kernel)))
    · exact va_Nw.of rfl (hts0 _ (List.mem_of_getElem? (i := 377) (by decide +kernel)))
    · exact va_Nw.of rfl (hts0 _ (List.mem_of_getElem? (i := 404) (by decide +kernel)))
    · exact va_Nw.of rfl (hts0 _ (List.mem_of_getElem? (i := 417) (by decide +kernel)))
    · exact va_Nw.of rfl (hts0 _ (List.mem_of_getElem? (i := 452) (by decide +kernel)))
    · exact va_Nw.of rfl (hts0 _ (List.mem_of_getElem? (i := 549) (by decide +kernel)))
    · exact va_Nw.of rfl (hts0 _ (List.mem_of_getElem? (i := 551) (by decide +kernel)))
    · exact va_Nw.of rfl (hts0 _ (List.mem_of_getElem? (i := 635) (by decide +kernel)))
  have hNF : ∀ q ∈ nestF, va_Nw (.fieldLinkNest q.1 q.2.1 "BlindSown" q.2.2 "[I" "BlindSown") s := by
    intro q hq
    simp only [nestF, List.mem_cons, List.not_mem_nil, or_false] at hq
    rcases hq with rfl | rfl
    · exact va_Nw.of rfl (hts0 _ (List.mem_of_getElem? (i := 503) (by decide +kernel)))
    · exact va_Nw.of rfl (hts0 _ (List.mem_of_getElem? (i := 504) (by decide +kernel)))
  have hND : va_Nw (.declares ⟨"BlindSown$Soil", "take", "(II)V"⟩) s := va_Nw.of rfl (hts0 _ (List.mem_of_getElem? (i := 385) (by decide +kernel)))
  have hk2 : K2 G s := ⟨hKt, hN, va_AO.of oL, va_AO.of oS⟩
  have hk : KK G s := by
    refine ⟨hKt, ?_, hN, hND, hNF⟩
    rw [eG]
    exact ⟨⟨Z0, T0⟩, ⟨Z1, T1⟩, ⟨Z2, T2⟩⟩
  have hG : Ginj G := by
    intro i j _ _ h
    rw [hA] at h; dsimp only at h; omega
  have hbn : ∀ i, i < 92 → s.heap.size ≤ ad G i := fun i _ => by rw [hA]; exact Nat.le_add_right _ _
  clear hKn0 hKn1 hKn2 hKn3 hKn4 hKn5 hKn6 hKn7 hKn8 hKn9 hKn10
  have hl := lv_entry ([.ref b]) (n := 4) (Nat.le_of_ble_eq_true rfl)
  rw [lg_entry_eq]
  generalize (lg_sl ([.ref b]) ++ List.replicate (4 - (lg_sl ([.ref b])).length) Slot.unset).toArray = ls at hl ⊢
  have hl : lv_has ls 4 [(0, .ref b)] := hl
  obtain ⟨bb, ebb⟩ : ∃ z, z = s.heap.size := ⟨_, rfl⟩
  obtain ⟨E0, eE0⟩ : ∃ z : Nat → va_E, z = fun _ => .inr (0, []) := ⟨_, rfl⟩
  have hw : PE G.1 bb E0 0 s s.heap [] := ⟨fun k q h => by simp [wE] at h, by rw [ebb]; rfl, va_S.rf⟩
  generalize hHe : s.heap = H at hw ⊢
  rw [hHe] at ebb hX hbl
  refine tn_new (ci := 9) (fs := [.null, .null, .null, .null, .null, .null, .null, .null, .null]) hx hb hts hown hk2.1 hw tyX10 rfl inlX10 tyX10_ok (m3_in wd0 wd1 wd2) (bl9_fs) (Nat.le_of_ble_eq_true rfl) (Nat.le_of_ble_eq_true rfl) dL_law_0 (fun H hw => ?_)
  obtain ⟨E1, eE1⟩ : ∃ zz, zz = upE E0 0 (.inr (9, [.null, .null, .null, .null, .null, .null, .null, .null, .null])) := ⟨_, rfl⟩
  have hw : PE G.1 bb E1 (0 + 1) s H [] := by rw [eE1]; exact hw
  have tO : E1 0 = .inr (9, [.null, .null, .null, .null, .null, .null, .null, .null, .null]) := by rw [eE1]; exact upE_at
  refine lv_dup hx hb dL_law_3 rfl ?_
  refine tn_I (As := []) (rest := [.ref (bb + 0)]) (o := 0) hx hb hml hts hown hk2 hw (c_X10_init l G bb E1 0 tO) (m3_in wd2 wd6 wd7) wd8 rfl nm_yX10_init ⟨rfl, rfl⟩ ⟨by decide, by decide⟩ rfl hl.1 rfl (Nat.le_of_ble_eq_true rfl) dL_law_4 ⟨Nat.le_of_ble_eq_true rfl, Nat.le_of_ble_eq_true rfl⟩ (fun E2 H locs hE2 hw => ?_)
  have hw : PE G.1 bb E2 78 s H locs := hw
  refine lv_astore_n (lv' := [(1, .ref (bb + 0)), (0, .ref b)]) hx hb dL_law_7 rfl hl (by decide) rfl (fun ls hl => ?_)
  refine tn_new (ci := 10) (fs := [.null, .null, .null, .int 0, .null, .null, .null, .int 0, .null, .null, .null, .int 0, .null, .int 0, .int 0, .int 0, .int 0, .int 0, .int 0, .int 0, .null, .null, .null, .int 0, .int 0]) hx hb hts hown hk2.1 hw tyX11 rfl inlX11 tyX11_ok (m3_in wd3 wd4 wd5) (bl10_fs) (Nat.le_of_ble_eq_true rfl) (Nat.le_of_ble_eq_true rfl) dL_law_8 (fun H hw => ?_)
  obtain ⟨E3, eE3⟩ : ∃ zz, zz = upE E2 78 (.inr (10, [.null, .null, .null, .int 0, .null, .null, .null, .int 0, .null, .null, .null, .int 0, .null, .int 0, .int 0, .int 0, .int 0, .int 0, .int 0, .int 0, .null, .null, .null, .int 0, .int 0])) := ⟨_, rfl⟩
  have hw : PE G.1 bb E3 (78 + 1) s H locs := by rw [eE3]; exact hw
  have tO : E3 78 = .inr (10, [.null, .null, .null, .int 0, .null, .null, .null, .int 0, .null, .null, .null, .int 0, .null, .int 0, .int 0, .int 0, .int 0, .int 0, .int 0, .int 0, .null, .null, .null, .int 0, .int 0]) := by rw [eE3]; exact upE_at
  refine lv_dup hx hb dL_law_11 rfl ?_
  refine tn_I (As := []) (rest := [.ref (bb + 78)]) (o := 78) hx hb hml hts hown hk2 hw (c_X11_init l G bb E3 78 tO) (m3_in wd5 wd101 wd102) wd103 rfl nm_yX11_init ⟨rfl, rfl⟩ ⟨by decide, by decide⟩ rfl hl.1 rfl (Nat.le_of_ble_eq_true rfl) dL_law_12 ⟨Nat.le_of_ble_eq_true rfl, Nat.le_of_ble_eq_true rfl⟩ (fun E4 H locs hE4 hw => ?_)
  have hw : PE G.1 bb E4 92 s H locs := hw
  refine lv_astore_n (lv' := [(2, .ref (bb + 78)), (1, .ref (bb + 0)), (0, .ref b)]) hx hb dL_law_15 rfl hl (by decide) rfl (fun ls hl => ?_)
  have a10 : atX10 G bb E4 0 := atX10_cong hE2.2 (fun j h1 h2 => (hE4.1 j (by omega)).trans (show E3 j = E2 j by rw [eE3, upE_ne (by omega)]))
  refine va_forget (fun q hq => ?_) ?_
  · rw [hHe, ← ebb]; exact hw.2.2.2.2 q hq
  have hA2 : ad G = fun i => bb + i := by rw [hA, hHe, ← ebb]
  have hwo : Wo G sig0 s H [] := ⟨fin_P hA2 a10 hE4.2 hw.1, hw.2.2.1, fun q h1 h2 => hw.2.2.2.1 q h1 (by rw [hHe] at h1; omega), fun _ h => by cases h⟩
  refine lv_iconst (v := 0) hx hb dL_law_16 (by decide) ?_
  refine lv_istore_n (lv' := [(3, .int (0 : Int32)), (2, .ref (bb + 78)), (1, .ref (bb + 0)), (0, .ref b)]) hx hb dL_law_17 rfl hl (by decide) rfl (fun ls hl => ?_)
  have hl : lv_has ls 4 [(0, .ref b), (1, .ref (ad G (0))), (2, .ref (ad G (78))), (3, .int (0 : Int32))] := by rw [hA2]; exact lv_sub hl [3, 2, 1, 0] rfl
  have hX : va_X b L xs s s.heap := by rw [hHe]; exact hX
  have hbl : b < s.heap.size := by rw [hHe]; exact hbl
  exact law_loop hL hx hb hr hml hown hts hX hbl hlocks hG hk hbn (L + 1) (0 : Int32) sig0 H [] ls ⟨by decide, by show (0 : Int) ≤ _; omega⟩ sig0_inv ⟨(by decide +kernel), fun k => rfl, fun n hn h0 => absurd rfl h0⟩ (by show (((L : Int) - 0).toNat : Int) < _; omega) hwo hl
