set_option maxHeartbeats 4000000 in
set_option maxRecDepth 100000 in
theorem c_X1_copySowersFrom (l : Launch) (G : Gg) (hG : Ginj G) (σ : Sg) (hI0 : Inv σ) (i : Nat) (hi : nk i = 1) (j : Nat) (hj : nk j = 1) : MV l G yX1_copySowersFrom cX1_copySowersFrom 3 (rmO 1 21) σ [.ref (ad G (i)), .ref (ad G (j))] (fun σ' => Inv σ' ∧ (∀ a, ¬ (i + 3 ≤ a ∧ a ≤ i + 6) → σ' a = σ a) ∧ (True)) := by
  refine MV.of (by decide +kernel) (Nat.le_of_ble_eq_true rfl) ?_
  intro p e s m a below meth c ls Q hx hb hml hts hown hk hw ret hl
  have hown : s.vm.findClass RX1 = some m.cls := hown
  have hl : lv_has ls 3 [(0, .ref (ad G (i))), (1, .ref (ad G (j)))] := hl
  have hI : K0 σ σ := K0.rf hI0
  have L0 : (0 : Int32).toInt = 0 := by decide
  have L1 : (1 : Int32).toInt = 1 := by decide
  have L4 : (4 : Int32).toInt = 4 := by decide
  generalize hHe : s.heap = H at hw ⊢
  generalize hLe : ([] : List Loc) = locs at hw ⊢
  have hFr : ∀ a, ¬ (i + 3 ≤ a ∧ a ≤ i + 6) → σ a = σ a := fun _ _ => rfl
  refine lv_iconst (v := 0) hx hb dX1_copySowersFrom_0 (by decide) ?_
  refine lv_istore_n (lv' := [(2, .int (0 : Int32)), (0, .ref (ad G (i))), (1, .ref (ad G (j)))]) hx hb dX1_copySowersFrom_1 rfl hl (by decide) rfl (fun ls hl => ?_)
  have cut2 : ∀ (n : Nat) (z2_2 : Int32) (σc2 : Sg) (H : Heap) (locs : List Loc) (ls : Array Slot), (0 ≤ z2_2.toInt ∧ z2_2.toInt ≤ 4) → (∀ a, ¬ (i + 3 ≤ a ∧ a ≤ i + 6) → σc2 a = σ a) → K0 σc2 σc2 → ((4 - z2_2.toInt).toNat : Int) < (n : Int) → Wo G σc2 s H locs → lv_has ls 3 [(0, .ref (ad G (i))), (1, .ref (ad G (j))), (2, .int z2_2)] → W p l e (rmO 1 21) s m a below meth c H locs 0 0 Q (F0 m 2 ls []) := by
    intro n2
    induction n2 with
    | zero =>
      intro z2_2 σc2 H locs ls f2_0 f2_1 hI hm2 hw hl
      exfalso; omega
    | succ n2 ih2 =>
      intro z2_2 σc2 H locs ls f2_0 f2_1 hI hm2 hw hl
      have hFr := f2_1
      refine lv_iload_n hx hb dX1_copySowersFrom_2 rfl (lv_at hl 2 rfl) ?_
      refine lv_iconst (v := 4) hx hb dX1_copySowersFrom_3 (by decide) ?_
      refine lv_icmp_ge (tgt := 28) hx hb dX1_copySowersFrom_4 (by decide) (fun c4 => ?_) (fun c4 => ?_)
      · have c4i := Int32.le_iff_toInt_le.mp c4
        exact ret σc2 _ _ 28 _ (⟨hI.1, hFr, trivial⟩) hw dX1_copySowersFrom_28
      · have c4i := mt Int32.le_iff_toInt_le.mpr c4
        refine lv_aload_n hx hb dX1_copySowersFrom_7 rfl (lv_at hl 0 rfl) ?_
        refine tg_get (ci := 1) (k := 0) (v := .ref (ad G (i + 1))) hx hb hts hown hk hw (en1 hi) rfl inlX1 (by decide) wd69 rfl dX1_copySowersFrom_8 ?_
        refine lv_iload_n hx hb dX1_copySowersFrom_11 rfl (lv_at hl 2 rfl) ?_
        have hv12 : vp_in z2_2 4 := vin ⟨by omega, by omega⟩
        refine tg_aald14 hx hb hk hw (en14 (kd1_1 hi)) hv12 dX1_copySowersFrom_12 ?_
        have vl12 := vcl hv12
        refine lv_aload_n hx hb dX1_copySowersFrom_13 rfl (lv_at hl 1 rfl) ?_
        refine tg_get (ci := 1) (k := 0) (v := .ref (ad G (j + 1))) hx hb hts hown hk hw (en1 hj) rfl inlX1 (by decide) wd69 rfl dX1_copySowersFrom_14 ?_
        refine lv_iload_n hx hb dX1_copySowersFrom_17 rfl (lv_at hl 2 rfl) ?_
        have hv18 : vp_in z2_2 4 := vin ⟨by omega, by omega⟩
        refine tg_aald14 hx hb hk hw (en14 (kd1_1 hj)) hv18 dX1_copySowersFrom_18 ?_
        have vl18 := vcl hv18
        refine te_vv hw (ru_V (As := [.ref (ad G (j + 1 + 2 + z2_2.toNatClampNeg))]) (rest := []) (C := RX6) hx hb hml hts hown hk hw (c_X6_copyFrom l G hG σc2 hI.1 (i + 1 + 2 + z2_2.toNatClampNeg) (ke14 (kd1_1 hi) (vcl hv12)) (j + 1 + 2 + z2_2.toNatClampNeg) (ke14 (kd1_1 hj) (vcl hv18))) (m4_in wd461 wd462 wd463 wd73) wd464 (en5 (ke14 (kd1_1 hi) (vcl hv12))) rfl rfl rfl nm_yX6_copyFrom ⟨rfl, rfl⟩ ⟨by decide, by decide⟩ rfl hl.1 rfl (Nat.le_of_ble_eq_true rfl) dX1_copySowersFrom_19 ⟨Nat.zero_le _, Nat.zero_le _⟩) (fun σ1 H locs hr2 hw => ?_)
        have hI : K0 σ1 σ1 := K0.rf hr2.1
        have hFr : ∀ a, ¬ (i + 3 ≤ a ∧ a ≤ i + 6) → σ1 a = σ a := fun a ha => (hr2.2.1 a (by omega)).trans (hFr a ha)
        have ghr2 := hr2.2.1
        have hr2 := hr2.2.2
        obtain ⟨x3, ex3⟩ : ∃ z : Int32, z = z2_2 + (1 : Int32) := ⟨_, rfl⟩
        refine lv_iinc (v := x3) (lv' := [(2, .int x3), (0, .ref (ad G (i))), (1, .ref (ad G (j)))]) hx hb dX1_copySowersFrom_22 hl (k := 2) rfl (by rw [ex3]; rfl) (by decide) rfl (fun ls hl => ?_)
        have tx3 : x3.toInt = z2_2.toInt + 1 := by rw [ex3, Jvm.Kit.i32_add (by omega) (by omega)]; omega
        refine lv_goto (tgt := 2) hx hb dX1_copySowersFrom_25 (by decide) ?_
        exact ih2 x3 σ1 _ _ _ (by omega) (by exact hFr) (K0.rf hI.1) (by omega) hw (lv_sub hl [1, 2, 0] rfl)
  exact cut2 ((((4 - (0 : Int32).toInt).toNat : Int)).toNat + 1) (0 : Int32) σ _ _ _ (by omega) (by exact hFr) (K0.rf hI.1) (by omega) hw (lv_sub hl [1, 2, 0] rfl)
set_option maxHeartbeats 4000000 in
set_option maxRecDepth 100000 in
theorem c_X1_copyFrom (l : Launch) (G : Gg) (hG : Ginj G) (σ : Sg) (hI0 : Inv σ) (i : Nat) (hi : nk i = 1) (j : Nat) (hj : nk j = 1) : MV l G yX1_copyFrom cX1_copyFrom 2 (rmO 2 60) σ [.ref (ad G (i)), .ref (ad G (j))] (fun σ' => Inv σ' ∧ (∀ a, ¬ (i ≤ a ∧ a ≤ i + 6) → σ' a = σ a) ∧ (σ' (i + 2) = va_cpy (σ (j + 2)) (σ (i + 2)) 0 0 4 ∧ σ' i 2 = σ j 2)) := by
  refine MV.of (by decide +kernel) (Nat.le_of_ble_eq_true rfl) ?_
  intro p e s m a below meth c ls Q hx hb hml hts hown hk hw ret hl
  have hown : s.vm.findClass RX1 = some m.cls := hown
  have hl : lv_has ls 2 [(0, .ref (ad G (i))), (1, .ref (ad G (j)))] := hl
  have hI : K0 σ σ := K0.rf hI0
  have L0 : (0 : Int32).toInt = 0 := by decide
  have L4 : (4 : Int32).toInt = 4 := by decide
  generalize hHe : s.heap = H at hw ⊢
  generalize hLe : ([] : List Loc) = locs at hw ⊢
  have hFr : ∀ a, ¬ (i ≤ a ∧ a ≤ i + 6) → σ a = σ a := fun _ _ => rfl
  refine lv_aload_n hx hb dX1_copyFrom_0 rfl (lv_at hl 0 rfl) ?_
  refine lv_aload_n hx hb dX1_copyFrom_1 rfl (lv_at hl 1 rfl) ?_
  refine te_vv hw (ru_V (As := [.ref (ad G (j))]) (rest := []) (C := RX1) hx hb hml hts hown hk hw (c_X1_copySowersFrom l G hG σ hI.1 i hi j hj) (m4_in wd457 wd458 wd459 wd52) wd460 (en1 hi) rfl rfl rfl nm_yX1_copySowersFrom ⟨rfl, rfl⟩ ⟨by decide, by decide⟩ rfl hl.1 rfl (Nat.le_of_ble_eq_true rfl) dX1_copyFrom_2 ⟨Nat.zero_le _, Nat.zero_le _⟩) (fun σ1 H locs hr2 hw => ?_)
  have hI : K0 σ1 σ1 := K0.rf hr2.1
  have hFr : ∀ a, ¬ (i ≤ a ∧ a ≤ i + 6) → σ1 a = σ a := fun a ha => (hr2.2.1 a (by omega)).trans (hFr a ha)
  have ghr2 := hr2.2.1
  have hr2 := hr2.2.2
  have gS := ghr2
  refine lv_aload_n hx hb dX1_copyFrom_5 rfl (lv_at hl 1 rfl) ?_
  refine tg_get (ci := 1) (k := 1) (v := .ref (ad G (j + 2))) hx hb hts hown hk hw (en1 hj) rfl inlX1 (by decide) wd70 rfl dX1_copyFrom_6 ?_
  refine lv_iconst (v := 0) hx hb dX1_copyFrom_9 (by decide) ?_
  refine lv_aload_n hx hb dX1_copyFrom_10 rfl (lv_at hl 0 rfl) ?_
  refine tg_get (ci := 1) (k := 1) (v := .ref (ad G (i + 2))) hx hb hts hown hk hw (en1 hi) rfl inlX1 (by decide) wd70 rfl dX1_copyFrom_11 ?_
  refine lv_iconst (v := 0) hx hb dX1_copyFrom_14 (by decide) ?_
  refine lv_iconst (v := 4) hx hb dX1_copyFrom_15 (by decide) ?_
  refine tg_cpy hx hb (hml.trans hl.1.symm) hts hown hk hG hw (m4_in wd456 wd444 wd445 wd446) (en104 (kd1_2 hj)) (ea104 (kd1_2 hi)) (by decide) (by decide) (by decide) (Nat.le_of_ble_eq_true rfl) dX1_copyFrom_16 (fun H locs hw => ?_)
  obtain ⟨σ3, eσ3⟩ : ∃ z, z = upr σ1 (i + 2) (va_cpy (σ1 (j + 2)) (σ1 (i + 2)) 0 0 4) := ⟨_, rfl⟩
  rw [← eσ3] at hw
  have hFr : ∀ a, ¬ (i ≤ a ∧ a ≤ i + 6) → σ3 a = σ a := fun a ha => (show σ3 a = σ1 a by rw [eσ3, upr_ne (by omega)]).trans (hFr a ha)
  have hI : K0 σ3 σ3 := by rw [eσ3]; exact K0.rf (Inv_cpy hI.1 (kd1_2 hi) (fun k => rfl))
  have eC := eσ3
  refine lv_aload_n hx hb dX1_copyFrom_19 rfl (lv_at hl 0 rfl) ?_
  refine lv_aload_n hx hb dX1_copyFrom_20 rfl (lv_at hl 1 rfl) ?_
  refine tg_get (ci := 1) (k := 2) (v := .int (σ3 (j) 2)) hx hb hts hown hk hw (en1 hj) rfl inlX1 (by decide) wd175 rfl dX1_copyFrom_21 ?_
  refine lv_topi (fun x4 ex4 => ?_)
  have bx4 : 0 ≤ x4.toInt ∧ x4.toInt ≤ 4 := by rw [ex4]; exact hI.1 _ _ _ _ (by rw [hj]; rfl)
  have ux4 : x4.toInt = (σ3 (j) 2).toInt := by rw [ex4]
  have eX := ex4
  refine tg_put (ci := 1) (k := 2) (σ' := up2 σ3 (i) 2 x4) hx hb hts hown hk hG hw tyX1 (en1 hi) rfl inlX1 tyX1_ok nmX1 (by decide) wd175 rfl rfl rfl (Nat.le_of_ble_eq_true rfl) (pu1_2 hi) (fun _ h => up2_ne h) dX1_copyFrom_24 (fun H locs hw => ?_)
  obtain ⟨σ5, eσ5⟩ : ∃ z, z = up2 σ3 (i) 2 x4 := ⟨_, rfl⟩
  rw [← eσ5] at hw
  have hI : K0 σ5 σ5 := by rw [eσ5]; exact K0.rf (hI.1.up (rg_is (by rw [hi]; rfl) (by omega) (by omega)))
  have hFr : ∀ a, ¬ (i ≤ a ∧ a ≤ i + 6) → σ5 a = σ a := fun a ha => (show σ5 a = σ3 a by rw [eσ5, up2_ne (by omega)]).trans (hFr a ha)
  have eW := eσ5
  exact ret σ5 _ _ 27 _ (⟨hI.1, hFr, ⟨by rw [eW, up2_ne (by omega), eC, upr_at, gS _ (nsw hi (kd1_2 hj) (by decide)), gS _ (by omega)], by rw [eW, up2_self, eX, eC, upr_ne (ne_kind hj (kd1_2 hi) (by decide)), gS _ (nsw hi hj (by decide))]⟩⟩) hw dX1_copyFrom_27
set_option maxHeartbeats 4000000 in
set_option maxRecDepth 100000 in
theorem c_X1_addPost (l : Launch) (G : Gg) (hG : Ginj G) (σ : Sg) (hI0 : Inv σ) (v : Int32) (hc : (σ 7 2).toInt < 4) : MV l G yX1_addPost cX1_addPost 2 (rmO 0 0) σ [.ref (ad G (7)), .int v] (fun σ' => K0 (up2 (up2 σ 9 (σ 7 2).toNatClampNeg v) 7 2 (σ 7 2 + 1)) σ') := by
  refine MV.of (by decide +kernel) (Nat.le_of_ble_eq_true rfl) ?_
  intro p e s m a below meth c ls Q hx hb hml hts hown hk hw ret hl
  have hown : s.vm.findClass RX1 = some m.cls := hown
  have hl : lv_has ls 2 [(0, .ref (ad G (7))), (1, .int v)] := hl
  have hI : K0 σ σ := K0.rf hI0
  have L0 : (0 : Int32).toInt = 0 := by decide
  have L1 : (1 : Int32).toInt = 1 := by decide
  have L4 : (4 : Int32).toInt = 4 := by decide
  generalize hHe : s.heap = H at hw ⊢
  generalize hLe : ([] : List Loc) = locs at hw ⊢
  refine lv_aload_n hx hb dX1_addPost_0 rfl (lv_at hl 0 rfl) ?_
  refine tg_get (ci := 1) (k := 2) (v := .int (σ (7) 2)) hx hb hts hown hk hw (en1 (rfl : nk 7 = 1)) rfl inlX1 (by decide) wd175 rfl dX1_addPost_1 ?_
  refine lv_topi (fun x1 ex1 => ?_)
  have bx1 : 0 ≤ x1.toInt ∧ x1.toInt ≤ 4 := by rw [ex1]; exact hI.1 _ _ _ _ (by rw [(rfl : nk 7 = 1)]; rfl)
  have ux1 : x1.toInt = (σ (7) 2).toInt := by rw [ex1]
  refine lv_iconst (v := 4) hx hb dX1_addPost_4 (by decide) ?_
  refine lv_icmp_ge (tgt := 28) hx hb dX1_addPost_5 (by decide) (fun c5 => ?_) (fun c5 => ?_)
  · have c5i := Int32.le_iff_toInt_le.mp c5
    exfalso; omega
  · have c5i := mt Int32.le_iff_toInt_le.mpr c5
    refine lv_aload_n hx hb dX1_addPost_8 rfl (lv_at hl 0 rfl) ?_
    refine tg_get (ci := 1) (k := 1) (v := .ref (ad G (9))) hx hb hts hown hk hw (en1 (rfl : nk 7 = 1)) rfl inlX1 (by decide) wd70 rfl dX1_addPost_9 ?_
    refine lv_aload_n hx hb dX1_addPost_12 rfl (lv_at hl 0 rfl) ?_
    refine tg_get (ci := 1) (k := 2) (v := .int (σ (7) 2)) hx hb hts hown hk hw (en1 (rfl : nk 7 = 1)) rfl inlX1 (by decide) wd175 rfl dX1_addPost_13 ?_
    refine lv_topi (fun x2 ex2 => ?_)
    have qx2 : x2.toInt = x1.toInt := by rw [ex2, ex1]
    have bx2 : 0 ≤ x2.toInt ∧ x2.toInt ≤ 4 := by rw [ex2]; exact hI.1 _ _ _ _ (by rw [(rfl : nk 7 = 1)]; rfl)
    have ux2 : x2.toInt = (σ (7) 2).toInt := by rw [ex2]
    have a13 := ex2
    refine lv_iload_n hx hb dX1_addPost_16 rfl (lv_at hl 1 rfl) ?_
    have hv17 : vp_in x2 4 := vin ⟨by omega, by omega⟩
    refine tg_iast hx hb hk hG hw (ea104 (rfl : nk 9 = 104)) hv17 dX1_addPost_17 (fun H locs hw => ?_)
    obtain ⟨σ3, eσ3⟩ : ∃ z, z = up2 σ (9) x2.toNatClampNeg v := ⟨_, rfl⟩
    rw [← eσ3] at hw
    have hI : K0 (up2 σ 9 x2.toNatClampNeg v) σ3 := by rw [eσ3]; exact hI.put (rg_no (by rw [(rfl : nk 9 = 104)]; rfl))
    refine lv_aload_n hx hb dX1_addPost_18 rfl (lv_at hl 0 rfl) ?_
    refine lv_dup hx hb dX1_addPost_19 rfl ?_
    refine tg_get (ci := 1) (k := 2) (v := .int (σ3 (7) 2)) hx hb hts hown hk hw (en1 (rfl : nk 7 = 1)) rfl inlX1 (by decide) wd175 rfl dX1_addPost_20 ?_
    refine lv_topi (fun x4 ex4 => ?_)
    have bx4 : 0 ≤ x4.toInt ∧ x4.toInt ≤ 4 := by rw [ex4]; exact hI.1 _ _ _ _ (by rw [(rfl : nk 7 = 1)]; rfl)
    have ux4 : x4.toInt = (σ3 (7) 2).toInt := by rw [ex4]
    have qx4 : x4.toInt = x1.toInt := by rw [ex4, eσ3, up2_ne (by omega), ex1]
    have a20 : x4 = σ 7 2 := by rw [ex4, eσ3, up2_ne (by decide)]
    refine lv_iconst (v := 1) hx hb dX1_addPost_23 (by decide) ?_
    refine lv_iadd hx hb dX1_addPost_24 ?_
    refine lv_topi (fun x5 ex5 => ?_)
    have tx5 : x5.toInt = x4.toInt + (1 : Int32).toInt := by rw [ex5]; exact Jvm.Kit.i32_add (by omega) (by omega)
    have a24 : x5 = σ 7 2 + 1 := by rw [ex5, a20]
    refine tg_put (ci := 1) (k := 2) (σ' := up2 σ3 (7) 2 x5) hx hb hts hown hk hG hw tyX1 (en1 (rfl : nk 7 = 1)) rfl inlX1 tyX1_ok nmX1 (by decide) wd175 rfl rfl rfl (Nat.le_of_ble_eq_true rfl) (pu1_2 (rfl : nk 7 = 1)) (fun _ h => up2_ne h) dX1_addPost_25 (fun H locs hw => ?_)
    obtain ⟨σ6, eσ6⟩ : ∃ z, z = up2 σ3 (7) 2 x5 := ⟨_, rfl⟩
    rw [← eσ6] at hw
    have hI : K0 (up2 (up2 σ 9 x2.toNatClampNeg v) 7 2 x5) σ6 := by rw [eσ6]; exact hI.put (rg_is (by rw [(rfl : nk 7 = 1)]; rfl) (by omega) (by omega))
    exact ret σ6 _ _ 28 _ (by rw [a13, a24] at hI; exact hI) hw dX1_addPost_28
set_option maxHeartbeats 4000000 in
set_option maxRecDepth 100000 in
theorem c_X1_hasPost (l : Launch) (G : Gg) (hG : Ginj G) (σ : Sg) (hI0 : Inv σ) (i : Nat) (hi : nk i = 1) (v : Int32) : MI l G yX1_hasPost cX1_hasPost 3 .boolean (rmO 0 0) σ [.ref (ad G (i)), .int v] (fun r σ' => σ' = σ ∧ ((r = 1 ∧ (hpo (σ (i + 2)) (σ i 2) v)) ∨ (r = 0 ∧ ¬ (hpo (σ (i + 2)) (σ i 2) v)))) := by
  refine MI.of (by decide +kernel) (Nat.le_of_ble_eq_true rfl) ?_
  intro p e s m a below meth c ls Q hx hb hml hts hown hk hw ret hl
  have hown : s.vm.findClass RX1 = some m.cls := hown
  have hl : lv_has ls 3 [(0, .ref (ad G (i))), (1, .int v)] := hl
  have hI : K0 σ σ := K0.rf hI0
  have L0 : (0 : Int32).toInt = 0 := by decide
  have L1 : (1 : Int32).toInt = 1 := by decide
  generalize hHe : s.heap = H at hw ⊢
  generalize hLe : ([] : List Loc) = locs at hw ⊢
  refine lv_iconst (v := 0) hx hb dX1_hasPost_0 (by decide) ?_
  refine lv_istore_n (lv' := [(2, .int (0 : Int32)), (0, .ref (ad G (i))), (1, .int v)]) hx hb dX1_hasPost_1 rfl hl (by decide) rfl (fun ls hl => ?_)
  have cut2 : ∀ (n : Nat) (z2_2 : Int32) (H : Heap) (locs : List Loc) (ls : Array Slot), (0 ≤ z2_2.toInt ∧ z2_2.toInt ≤ 4) → (∀ k : Nat, (k : Int) < z2_2.toInt → ¬ σ (i + 2) k = v) → ((4 - z2_2.toInt).toNat : Int) < (n : Int) → Wo G σ s H locs → lv_has ls 3 [(0, .ref (ad G (i))), (1, .int v), (2, .int z2_2)] → W p l e (rmO 0 0) s m a below meth c H locs 0 0 Q (F0 m 2 ls []) := by
    intro n2
    induction n2 with
    | zero =>
      intro z2_2 H locs ls f2_0 f2_1 hm2 hw hl
      exfalso; omega
    | succ n2 ih2 =>
      intro z2_2 H locs ls f2_0 f2_1 hm2 hw hl
      refine lv_iload_n hx hb dX1_hasPost_2 rfl (lv_at hl 2 rfl) ?_
      refine lv_aload_n hx hb dX1_hasPost_3 rfl (lv_at hl 0 rfl) ?_
      refine tg_get (ci := 1) (k := 2) (v := .int (σ (i) 2)) hx hb hts hown hk hw (en1 hi) rfl inlX1 (by decide) wd175 rfl dX1_hasPost_4 ?_
      refine lv_topi (fun x1 ex1 => ?_)
      have bx1 : 0 ≤ x1.toInt ∧ x1.toInt ≤ 4 := by rw [ex1]; exact hI.1 _ _ _ _ (by rw [hi]; rfl)
      have ux1 : x1.toInt = (σ (i) 2).toInt := by rw [ex1]
      refine lv_icmp_ge (tgt := 28) hx hb dX1_hasPost_7 (by decide) (fun c7 => ?_) (fun c7 => ?_)
      · have c7i := Int32.le_iff_toInt_le.mp c7
        refine lv_iconst (v := 0) hx hb dX1_hasPost_28 (by decide) ?_
        exact ret (0 : Int32) σ _ _ 29 _ (rfl) (⟨rfl, Or.inr ⟨rfl, fun ⟨k, q1, q2⟩ => f2_1 k (by omega) q2⟩⟩) hw dX1_hasPost_29
      · have c7i := mt Int32.le_iff_toInt_le.mpr c7
        refine lv_aload_n hx hb dX1_hasPost_10 rfl (lv_at hl 0 rfl) ?_
        refine tg_get (ci := 1) (k := 1) (v := .ref (ad G (i + 2))) hx hb hts hown hk hw (en1 hi) rfl inlX1 (by decide) wd70 rfl dX1_hasPost_11 ?_
        refine lv_iload_n hx hb dX1_hasPost_14 rfl (lv_at hl 2 rfl) ?_
        have hv15 : vp_in z2_2 4 := vin ⟨by omega, by omega⟩
        refine tg_iald hx hb hk hw (en104 (kd1_2 hi)) hv15 dX1_hasPost_15 ?_
        refine lv_topi (fun x2 ex2 => ?_)
        have eL := ex2
        refine lv_iload_n hx hb dX1_hasPost_16 rfl (lv_at hl 1 rfl) ?_
        refine lv_icmp_ne (tgt := 22) hx hb dX1_hasPost_17 (by decide) (fun c17 => ?_) (fun c17 => ?_)
        · have ox2 := i32b x2
          have ov := i32b v
          have c17i := mt Int32.toInt_inj.mp c17
          obtain ⟨x3, ex3⟩ : ∃ z : Int32, z = z2_2 + (1 : Int32) := ⟨_, rfl⟩
          refine lv_iinc (v := x3) (lv' := [(2, .int x3), (0, .ref (ad G (i))), (1, .int v)]) hx hb dX1_hasPost_22 hl (k := 2) rfl (by rw [ex3]; rfl) (by decide) rfl (fun ls hl => ?_)
          have tx3 : x3.toInt = z2_2.toInt + 1 := by rw [ex3, Jvm.Kit.i32_add (by omega) (by omega)]; omega
          refine lv_goto (tgt := 2) hx hb dX1_hasPost_25 (by decide) ?_
          exact ih2 x3 _ _ _ (by omega) (by first | (intro k hk; exfalso; omega) | (intro k hk; have q1 := clI z2_2 (by omega); exact (Nat.lt_or_ge k z2_2.toNatClampNeg).elim (fun q => f2_1 k (by omega)) (fun q => by rw [show k = z2_2.toNatClampNeg from by omega, ← eL]; exact c17))) (by omega) hw (lv_sub hl [1, 2, 0] rfl)
        · have ox2 := i32b x2
          have ov := i32b v
          have c17i := congrArg Int32.toInt c17
          refine lv_iconst (v := 1) hx hb dX1_hasPost_20 (by decide) ?_
          exact ret (1 : Int32) σ _ _ 21 _ (rfl) (⟨rfl, Or.inl ⟨rfl, ⟨z2_2.toNatClampNeg, by have q := clI z2_2 (by omega); omega, by rw [← eL]; exact c17⟩⟩⟩) hw dX1_hasPost_21
  exact cut2 ((((4 - (0 : Int32).toInt).toNat : Int)).toNat + 1) (0 : Int32) _ _ _ (by omega) (by first | (intro k hk; exfalso; omega) | (intro k hk; have q1 := clI z2_2 (by omega); exact (Nat.lt_or_ge k z2_2.toNatClampNeg).elim (fun q => f2_1 k (by omega)) (fun q => by rw [show k = z2_2.toNatClampNeg from by omega, ← eL]; exact c17))) (by omega) hw (lv_sub hl [1, 2, 0] rfl)
set_option maxHeartbeats 4000000 in
set_option maxRecDepth 100000 in
theorem c_X1_postAt (l : Launch) (G : Gg) (hG : Ginj G) (σ : Sg) (hI0 : Inv σ) (i : Nat) (hi : nk i = 1) (v : Int32) : MI l G yX1_postAt cX1_postAt 2 .int (rmO 0 0) σ [.ref (ad G (i)), .int v] (fun r σ' => σ' = σ ∧ (True)) := by
  refine MI.of (by decide +kernel) (Nat.le_of_ble_eq_true rfl) ?_
  intro p e s m a below meth c ls Q hx hb hml hts hown hk hw ret hl
  have hown : s.vm.findClass RX1 = some m.cls := hown
  have hl : lv_has ls 2 [(0, .ref (ad G (i))), (1, .int v)] := hl
  have hI : K0 σ σ := K0.rf hI0
  have Lm6 : (-6 : Int32).toInt = -6 := by decide
  have L0 : (0 : Int32).toInt = 0 := by decide
  generalize hHe : s.heap = H at hw ⊢
  generalize hLe : ([] : List Loc) = locs at hw ⊢
  refine lv_iload_n hx hb dX1_postAt_0 rfl (lv_at hl 1 rfl) ?_
  refine lv_if_lt (tgt := 21) hx hb dX1_postAt_1 (by decide) (fun c1 => ?_) (fun c1 => ?_)
  · have c1i := Int32.lt_iff_toInt_lt.mp c1
    refine lv_bipush (v := -6) hx hb dX1_postAt_21 (by decide) ?_
    exact ret (-6 : Int32) σ _ _ 23 _ (rfl) (⟨rfl, trivial⟩) hw dX1_postAt_23
  · have c1i := mt Int32.lt_iff_toInt_lt.mpr c1
    refine lv_iload_n hx hb dX1_postAt_4 rfl (lv_at hl 1 rfl) ?_
    refine lv_aload_n hx hb dX1_postAt_5 rfl (lv_at hl 0 rfl) ?_
    refine tg_get (ci := 1) (k := 2) (v := .int (σ (i) 2)) hx hb hts hown hk hw (en1 hi) rfl inlX1 (by decide) wd175 rfl dX1_postAt_6 ?_
    refine lv_topi (fun x1 ex1 => ?_)
    have bx1 : 0 ≤ x1.toInt ∧ x1.toInt ≤ 4 := by rw [ex1]; exact hI.1 _ _ _ _ (by rw [hi]; rfl)
    have ux1 : x1.toInt = (σ (i) 2).toInt := by rw [ex1]
    refine lv_icmp_ge (tgt := 21) hx hb dX1_postAt_9 (by decide) (fun c9 => ?_) (fun c9 => ?_)
    · have ov := i32b v
      have c9i := Int32.le_iff_toInt_le.mp c9
      refine lv_bipush (v := -6) hx hb dX1_postAt_21 (by decide) ?_
      exact ret (-6 : Int32) σ _ _ 23 _ (rfl) (⟨rfl, trivial⟩) hw dX1_postAt_23
    · have ov := i32b v
      have c9i := mt Int32.le_iff_toInt_le.mpr c9
      refine lv_aload_n hx hb dX1_postAt_12 rfl (lv_at hl 0 rfl) ?_
      refine tg_get (ci := 1) (k := 1) (v := .ref (ad G (i + 2))) hx hb hts hown hk hw (en1 hi) rfl inlX1 (by decide) wd70 rfl dX1_postAt_13 ?_
      refine lv_iload_n hx hb dX1_postAt_16 rfl (lv_at hl 1 rfl) ?_
      have hv17 : vp_in v 4 := vin ⟨by omega, by omega⟩
      refine tg_iald hx hb hk hw (en104 (kd1_2 hi)) hv17 dX1_postAt_17 ?_
      refine lv_topi (fun x2 ex2 => ?_)
      refine lv_goto (tgt := 23) hx hb dX1_postAt_18 (by decide) ?_
      exact ret x2 σ _ _ 23 _ (rfl) (⟨rfl, trivial⟩) hw dX1_postAt_23
set_option maxHeartbeats 4000000 in
set_option maxRecDepth 100000 in
theorem c_X1_grainsInBags (l : Launch) (G : Gg) (hG : Ginj G) (σ : Sg) (hI0 : Inv σ) (i : Nat) (hi : nk i = 1) : MI l G yX1_grainsInBags cX1_grainsInBags 3 .int (rmO 0 0) σ [.ref (ad G (i))] (fun r σ' => σ' = σ ∧ (True)) := by
  refine MI.of (by decide +kernel) (Nat.le_of_ble_eq_true rfl) ?_
  intro p e s m a below meth c ls Q hx hb hml hts hown hk hw ret hl
  have hown : s.vm.findClass RX1 = some m.cls := hown
  have hl : lv_has ls 3 [(0, .ref (ad G (i)))] := hl
  have hI : K0 σ σ := K0.rf hI0
  have L0 : (0 : Int32).toInt = 0 := by decide
  have L1 : (1 : Int32).toInt = 1 := by decide
  have L4 : (4 : Int32).toInt = 4 := by decide
  generalize hHe : s.heap = H at hw ⊢
  generalize hLe : ([] : List Loc) = locs at hw ⊢
  refine lv_iconst (v := 0) hx hb dX1_grainsInBags_0 (by decide) ?_
  refine lv_istore_n (lv' := [(1, .int (0 : Int32)), (0, .ref (ad G (i)))]) hx hb dX1_grainsInBags_1 rfl hl (by decide) rfl (fun ls hl => ?_)
  refine lv_iconst (v := 0) hx hb dX1_grainsInBags_2 (by decide) ?_
  refine lv_istore_n (lv' := [(2, .int (0 : Int32)), (1, .int (0 : Int32)), (0, .ref (ad G (i)))]) hx hb dX1_grainsInBags_3 rfl hl (by decide) rfl (fun ls hl => ?_)
  have cut4 : ∀ (n : Nat) (z1_4 : Int32) (z2_4 : Int32) (H : Heap) (locs : List Loc) (ls : Array Slot), (0 ≤ z2_4.toInt ∧ z2_4.toInt ≤ 4) → ((4 - z2_4.toInt).toNat : Int) < (n : Int) → Wo G σ s H locs → lv_has ls 3 [(0, .ref (ad G (i))), (1, .int z1_4), (2, .int z2_4)] → W p l e (rmO 0 0) s m a below meth c H locs 0 0 Q (F0 m 4 ls []) := by
    intro n4
    induction n4 with
    | zero =>
      intro z1_4 z2_4 H locs ls f4_0 hm4 hw hl
      exfalso; omega
    | succ n4 ih4 =>
      intro z1_4 z2_4 H locs ls f4_0 hm4 hw hl
      refine lv_iload_n hx hb dX1_grainsInBags_4 rfl (lv_at hl 2 rfl) ?_
      refine lv_iconst (v := 4) hx hb dX1_grainsInBags_5 (by decide) ?_
      refine lv_icmp_ge (tgt := 27) hx hb dX1_grainsInBags_6 (by decide) (fun c6 => ?_) (fun c6 => ?_)
      · have c6i := Int32.le_iff_toInt_le.mp c6
        refine lv_iload_n hx hb dX1_grainsInBags_27 rfl (lv_at hl 1 rfl) ?_
        exact ret z1_4 σ _ _ 28 _ (rfl) (⟨rfl, trivial⟩) hw dX1_grainsInBags_28
      · have c6i := mt Int32.le_iff_toInt_le.mpr c6
        refine lv_iload_n hx hb dX1_grainsInBags_9 rfl (lv_at hl 1 rfl) ?_
        refine lv_aload_n hx hb dX1_grainsInBags_10 rfl (lv_at hl 0 rfl) ?_
        refine tg_get (ci := 1) (k := 0) (v := .ref (ad G (i + 1))) hx hb hts hown hk hw (en1 hi) rfl inlX1 (by decide) wd69 rfl dX1_grainsInBags_11 ?_
        refine lv_iload_n hx hb dX1_grainsInBags_14 rfl (lv_at hl 2 rfl) ?_
        have hv15 : vp_in z2_4 4 := vin ⟨by omega, by omega⟩
        refine tg_aald14 hx hb hk hw (en14 (kd1_1 hi)) hv15 dX1_grainsInBags_15 ?_
        have vl15 := vcl hv15
        refine tg_get (ci := 5) (k := 3) (v := .int (σ (i + 1 + 2 + z2_4.toNatClampNeg) 3)) hx hb hts hown hk hw (en5 (ke14 (kd1_1 hi) (vcl hv15))) rfl inlX6 (by decide) wd630 rfl dX1_grainsInBags_16 ?_
        refine lv_topi (fun x1 ex1 => ?_)
        refine lv_iadd hx hb dX1_grainsInBags_19 ?_
        refine lv_topi (fun x2 ex2 => ?_)
        refine lv_istore_n (lv' := [(1, .int x2), (0, .ref (ad G (i))), (2, .int z2_4)]) hx hb dX1_grainsInBags_20 rfl hl (by decide) rfl (fun ls hl => ?_)
        obtain ⟨x3, ex3⟩ : ∃ z : Int32, z = z2_4 + (1 : Int32) := ⟨_, rfl⟩
        refine lv_iinc (v := x3) (lv' := [(2, .int x3), (1, .int x2), (0, .ref (ad G (i)))]) hx hb dX1_grainsInBags_21 hl (k := 2) rfl (by rw [ex3]; rfl) (by decide) rfl (fun ls hl => ?_)
        have tx3 : x3.toInt = z2_4.toInt + 1 := by rw [ex3, Jvm.Kit.i32_add (by omega) (by omega)]; omega
        refine lv_goto (tgt := 4) hx hb dX1_grainsInBags_24 (by decide) ?_
        exact ih4 x2 x3 _ _ _ (by omega) (by omega) hw (lv_sub hl [2, 1, 0] rfl)
  exact cut4 ((((4 - (0 : Int32).toInt).toNat : Int)).toNat + 1) (0 : Int32) (0 : Int32) _ _ _ (by omega) (by omega) hw (lv_sub hl [2, 1, 0] rfl)
set_option maxHeartbeats 4000000 in
set_option maxRecDepth 100000 in
theorem c_X1_exchangeBags (l : Launch) (G : Gg) (hG : Ginj G) (σ : Sg) (hI0 : Inv σ) (i : Nat) (hi : nk i = 1) (v : Int32) (w : Int32) (g1 : 0 ≤ v.toInt ∧ v.toInt ≤ 3) (g2 : 0 ≤ w.toInt ∧ w.toInt ≤ 3) : MV l G yX1_exchangeBags cX1_exchangeBags 7 (rmO 0 0) σ [.ref (ad G (i)), .int v, .int w] (fun σ' => K0 σ σ' ∧ (True)) := by
  refine MV.of (by decide +kernel) (Nat.le_of_ble_eq_true rfl) ?_
  intro p e s m a below meth c ls Q hx hb hml hts hown hk hw ret hl
  have hown : s.vm.findClass RX1 = some m.cls := hown
  have hl : lv_has ls 7 [(0, .ref (ad G (i))), (1, .int v), (2, .int w)] := hl
  have hI : K0 σ σ := K0.rf hI0
  generalize hHe : s.heap = H at hw ⊢
  generalize hLe : ([] : List Loc) = locs at hw ⊢
  refine lv_aload_n hx hb dX1_exchangeBags_0 rfl (lv_at hl 0 rfl) ?_
  refine tg_get (ci := 1) (k := 0) (v := .ref (ad G (i + 1))) hx hb hts hown hk hw (en1 hi) rfl inlX1 (by decide) wd69 rfl dX1_exchangeBags_1 ?_
  refine lv_iload_n hx hb dX1_exchangeBags_4 rfl (lv_at hl 1 rfl) ?_
  have hv5 : vp_in v 4 := vin ⟨by omega, by omega⟩
  refine tg_aald14 hx hb hk hw (en14 (kd1_1 hi)) hv5 dX1_exchangeBags_5 ?_
  have vl5 := vcl hv5
  refine lv_astore_n (lv' := [(3, .ref (ad G (i + 1 + 2 + v.toNatClampNeg))), (0, .ref (ad G (i))), (1, .int v), (2, .int w)]) hx hb dX1_exchangeBags_6 rfl hl (by decide) rfl (fun ls hl => ?_)
  refine lv_aload_n hx hb dX1_exchangeBags_7 rfl (lv_at hl 1 rfl) ?_
  refine tg_get (ci := 1) (k := 0) (v := .ref (ad G (i + 1))) hx hb hts hown hk hw (en1 hi) rfl inlX1 (by decide) wd69 rfl dX1_exchangeBags_8 ?_
  refine lv_iload_n hx hb dX1_exchangeBags_11 rfl (lv_at hl 3 rfl) ?_
  have hv12 : vp_in w 4 := vin ⟨by omega, by omega⟩
  refine tg_aald14 hx hb hk hw (en14 (kd1_1 hi)) hv12 dX1_exchangeBags_12 ?_
  have vl12 := vcl hv12
  refine lv_astore (lv' := [(4, .ref (ad G (i + 1 + 2 + w.toNatClampNeg))), (3, .ref (ad G (i + 1 + 2 + v.toNatClampNeg))), (0, .ref (ad G (i))), (1, .int v), (2, .int w)]) hx hb dX1_exchangeBags_13 hl (by decide) rfl (fun ls hl => ?_)
  refine lv_aload_n hx hb dX1_exchangeBags_15 rfl (lv_at hl 1 rfl) ?_
  refine tg_get (ci := 5) (k := 2) (v := .int (σ (i + 1 + 2 + v.toNatClampNeg) 2)) hx hb hts hown hk hw (en5 (ke14 (kd1_1 hi) (vcl hv5))) rfl inlX6 (by decide) wd629 rfl dX1_exchangeBags_16 ?_
  refine lv_topi (fun x1 ex1 => ?_)
  refine lv_istore (lv' := [(5, .int x1), (4, .ref (ad G (i + 1 + 2 + w.toNatClampNeg))), (3, .ref (ad G (i + 1 + 2 + v.toNatClampNeg))), (0, .ref (ad G (i))), (1, .int v), (2, .int w)]) hx hb dX1_exchangeBags_19 hl (by decide) rfl (fun ls hl => ?_)
  refine lv_aload_n hx hb dX1_exchangeBags_21 rfl (lv_at hl 2 rfl) ?_
  refine tg_get (ci := 5) (k := 3) (v := .int (σ (i + 1 + 2 + v.toNatClampNeg) 3)) hx hb hts hown hk hw (en5 (ke14 (kd1_1 hi) (vcl hv5))) rfl inlX6 (by decide) wd630 rfl dX1_exchangeBags_22 ?_
  refine lv_topi (fun x2 ex2 => ?_)
  refine lv_istore (lv' := [(6, .int x2), (5, .int x1), (4, .ref (ad G (i + 1 + 2 + w.toNatClampNeg))), (3, .ref (ad G (i + 1 + 2 + v.toNatClampNeg))), (0, .ref (ad G (i))), (1, .int v), (2, .int w)]) hx hb dX1_exchangeBags_25 hl (by decide) rfl (fun ls hl => ?_)
  refine lv_aload_n hx hb dX1_exchangeBags_27 rfl (lv_at hl 3 rfl) ?_
  refine lv_aload hx hb dX1_exchangeBags_28 (lv_at hl 2 rfl) ?_
  refine tg_get (ci := 5) (k := 2) (v := .int (σ (i + 1 + 2 + w.toNatClampNeg) 2)) hx hb hts hown hk hw (en5 (ke14 (kd1_1 hi) (vcl hv12))) rfl inlX6 (by decide) wd629 rfl dX1_exchangeBags_30 ?_
  refine lv_topi (fun x3 ex3 => ?_)
  refine tg_put (ci := 5) (k := 2) (σ' := up2 σ (i + 1 + 2 + v.toNatClampNeg) 2 x3) hx hb hts hown hk hG hw tyX6 (en5 (ke14 (kd1_1 hi) (vcl hv5))) rfl inlX6 tyX6_ok nmX6 (by decide) wd629 rfl rfl rfl (Nat.le_of_ble_eq_true rfl) (pu5_2 (ke14 (kd1_1 hi) (vcl hv5))) (fun _ h => up2_ne h) dX1_exchangeBags_33 (fun H locs hw => ?_)
  obtain ⟨σ4, eσ4⟩ : ∃ z, z = up2 σ (i + 1 + 2 + v.toNatClampNeg) 2 x3 := ⟨_, rfl⟩
  rw [← eσ4] at hw
  have hI : K0 σ σ4 := by rw [eσ4]; exact hI.up (tr5 (ke14 (kd1_1 hi) (vcl hv5))) (rg_no (by rw [(ke14 (kd1_1 hi) (vcl hv5))]; rfl))
  refine lv_aload_n hx hb dX1_exchangeBags_36 rfl (lv_at hl 3 rfl) ?_
  refine lv_aload hx hb dX1_exchangeBags_37 (lv_at hl 2 rfl) ?_
  refine tg_get (ci := 5) (k := 3) (v := .int (σ4 (i + 1 + 2 + w.toNatClampNeg) 3)) hx hb hts hown hk hw (en5 (ke14 (kd1_1 hi) (vcl hv12))) rfl inlX6 (by decide) wd630 rfl dX1_exchangeBags_39 ?_
  refine lv_topi (fun x5 ex5 => ?_)
  refine tg_put (ci := 5) (k := 3) (σ' := up2 σ4 (i + 1 + 2 + v.toNatClampNeg) 3 x5) hx hb hts hown hk hG hw tyX6 (en5 (ke14 (kd1_1 hi) (vcl hv5))) rfl inlX6 tyX6_ok nmX6 (by decide) wd630 rfl rfl rfl (Nat.le_of_ble_eq_true rfl) (pu5_3 (ke14 (kd1_1 hi) (vcl hv5))) (fun _ h => up2_ne h) dX1_exchangeBags_42 (fun H locs hw => ?_)
  obtain ⟨σ6, eσ6⟩ : ∃ z, z = up2 σ4 (i + 1 + 2 + v.toNatClampNeg) 3 x5 := ⟨_, rfl⟩
  rw [← eσ6] at hw
  have hI : K0 σ σ6 := by rw [eσ6]; exact hI.up (tr5 (ke14 (kd1_1 hi) (vcl hv5))) (rg_no (by rw [(ke14 (kd1_1 hi) (vcl hv5))]; rfl))
  refine lv_aload hx hb dX1_exchangeBags_45 (lv_at hl 2 rfl) ?_
  refine lv_iload hx hb dX1_exchangeBags_47 (lv_at hl 1 rfl) ?_
  refine tg_put (ci := 5) (k := 2) (σ' := up2 σ6 (i + 1 + 2 + w.toNatClampNeg) 2 x1) hx hb hts hown hk hG hw tyX6 (en5 (ke14 (kd1_1 hi) (vcl hv12))) rfl inlX6 tyX6_ok nmX6 (by decide) wd629 rfl rfl rfl (Nat.le_of_ble_eq_true rfl) (pu5_2 (ke14 (kd1_1 hi) (vcl hv12))) (fun _ h => up2_ne h) dX1_exchangeBags_49 (fun H locs hw => ?_)
  obtain ⟨σ7, eσ7⟩ : ∃ z, z = up2 σ6 (i + 1 + 2 + w.toNatClampNeg) 2 x1 := ⟨_, rfl⟩
  rw [← eσ7] at hw
  have hI : K0 σ σ7 := by rw [eσ7]; exact hI.up (tr5 (ke14 (kd1_1 hi) (vcl hv12))) (rg_no (by rw [(ke14 (kd1_1 hi) (vcl hv12))]; rfl))
  refine lv_aload hx hb dX1_exchangeBags_52 (lv_at hl 2 rfl) ?_
  refine lv_iload hx hb dX1_exchangeBags_54 (lv_at hl 0 rfl) ?_
  refine tg_put (ci := 5) (k := 3) (σ' := up2 σ7 (i + 1 + 2 + w.toNatClampNeg) 3 x2) hx hb hts hown hk hG hw tyX6 (en5 (ke14 (kd1_1 hi) (vcl hv12))) rfl inlX6 tyX6_ok nmX6 (by decide) wd630 rfl rfl rfl (Nat.le_of_ble_eq_true rfl) (pu5_3 (ke14 (kd1_1 hi) (vcl hv12))) (fun _ h => up2_ne h) dX1_exchangeBags_56 (fun H locs hw => ?_)
  obtain ⟨σ8, eσ8⟩ : ∃ z, z = up2 σ7 (i + 1 + 2 + w.toNatClampNeg) 3 x2 := ⟨_, rfl⟩
  rw [← eσ8] at hw
  have hI : K0 σ σ8 := by rw [eσ8]; exact hI.up (tr5 (ke14 (kd1_1 hi) (vcl hv12))) (rg_no (by rw [(ke14 (kd1_1 hi) (vcl hv12))]; rfl))
  exact ret σ8 _ _ 59 _ (⟨hI, trivial⟩) hw dX1_exchangeBags_59
set_option maxHeartbeats 4000000 in
set_option maxRecDepth 100000 in
theorem c_X1_listener (l : Launch) (G : Gg) (hG : Ginj G) (σ : Sg) (hI0 : Inv σ) (i : Nat) (hi : nk i = 1) (v : Int32) : MI l G yX1_listener cX1_listener 3 .int (rmO 3 65) σ [.ref (ad G (i)), .int v] (fun r σ' => σ' = σ ∧ (True)) := by
  refine MI.of (by decide +kernel) (Nat.le_of_ble_eq_true rfl) ?_
  intro p e s m a below meth c ls Q hx hb hml hts hown hk hw ret hl
  have hown : s.vm.findClass RX1 = some m.cls := hown
  have hl : lv_has ls 3 [(0, .ref (ad G (i))), (1, .int v)] := hl
  have hI : K0 σ σ := K0.rf hI0
  have Lm6 : (-6 : Int32).toInt = -6 := by decide
  have L0 : (0 : Int32).toInt = 0 := by decide
  have L1 : (1 : Int32).toInt = 1 := by decide
  have L4 : (4 : Int32).toInt = 4 := by decide
  generalize hHe : s.heap = H at hw ⊢
  generalize hLe : ([] : List Loc) = locs at hw ⊢
  refine lv_iconst (v := 0) hx hb dX1_listener_0 (by decide) ?_
  refine lv_istore_n (lv' := [(2, .int (0 : Int32)), (0, .ref (ad G (i))), (1, .int v)]) hx hb dX1_listener_1 rfl hl (by decide) rfl (fun ls hl => ?_)
  have cut2 : ∀ (n : Nat) (z2_2 : Int32) (H : Heap) (locs : List Loc) (ls : Array Slot), (0 ≤ z2_2.toInt ∧ z2_2.toInt ≤ 4) → ((4 - z2_2.toInt).toNat : Int) < (n : Int) → Wo G σ s H locs → lv_has ls 3 [(0, .ref (ad G (i))), (1, .int v), (2, .int z2_2)] → W p l e (rmO 3 65) s m a below meth c H locs 0 0 Q (F0 m 2 ls []) := by
    intro n2
    induction n2 with
    | zero =>
      intro z2_2 H locs ls f2_0 hm2 hw hl
      exfalso; omega
    | succ n2 ih2 =>
      intro z2_2 H locs ls f2_0 hm2 hw hl
      refine lv_iload_n hx hb dX1_listener_2 rfl (lv_at hl 2 rfl) ?_
      refine lv_iconst (v := 4) hx hb dX1_listener_3 (by decide) ?_
      refine lv_icmp_ge (tgt := 28) hx hb dX1_listener_4 (by decide) (fun c4 => ?_) (fun c4 => ?_)
      · have c4i := Int32.le_iff_toInt_le.mp c4
        refine lv_bipush (v := -6) hx hb dX1_listener_28 (by decide) ?_
        exact ret (-6 : Int32) σ _ _ 30 _ (rfl) (⟨rfl, trivial⟩) hw dX1_listener_30
      · have c4i := mt Int32.le_iff_toInt_le.mpr c4
        refine lv_aload_n hx hb dX1_listener_7 rfl (lv_at hl 0 rfl) ?_
        refine tg_get (ci := 1) (k := 0) (v := .ref (ad G (i + 1))) hx hb hts hown hk hw (en1 hi) rfl inlX1 (by decide) wd69 rfl dX1_listener_8 ?_
        refine lv_iload_n hx hb dX1_listener_11 rfl (lv_at hl 2 rfl) ?_
        have hv12 : vp_in z2_2 4 := vin ⟨by omega, by omega⟩
        refine tg_aald14 hx hb hk hw (en14 (kd1_1 hi)) hv12 dX1_listener_12 ?_
        have vl12 := vcl hv12
        refine lv_iload_n hx hb dX1_listener_13 rfl (lv_at hl 1 rfl) ?_
        refine te_vi hw (ru_V (As := [.int v]) (rest := []) (C := RX6) hx hb hml hts hown hk hw (c_X6_hears l G hG σ hI.1 (i + 1 + 2 + z2_2.toNatClampNeg) (ke14 (kd1_1 hi) (vcl hv12)) v) (m4_in wd584 wd585 wd586 wd73) wd587 (en5 (ke14 (kd1_1 hi) (vcl hv12))) rfl rfl rfl nm_yX6_hears ⟨rfl, rfl⟩ ⟨by decide, by decide⟩ rfl hl.1 rfl (Nat.le_of_ble_eq_true rfl) dX1_listener_14 ⟨Nat.zero_le _, Nat.zero_le _⟩) (fun r2 σ1 H locs hr2 hw => ?_)
        rw [hr2.1] at hw
        have hr2 := hr2.2
        refine lv_if_eq (tgt := 22) hx hb dX1_listener_17 (by decide) (fun c17 => ?_) (fun c17 => ?_)
        · have c17i := congrArg Int32.toInt c17
          obtain ⟨x3, ex3⟩ : ∃ z : Int32, z = z2_2 + (1 : Int32) := ⟨_, rfl⟩
          refine lv_iinc (v := x3) (lv' := [(2, .int x3), (0, .ref (ad G (i))), (1, .int v)]) hx hb dX1_listener_22 hl (k := 2) rfl (by rw [ex3]; rfl) (by decide) rfl (fun ls hl => ?_)
          have tx3 : x3.toInt = z2_2.toInt + 1 := by rw [ex3, Jvm.Kit.i32_add (by omega) (by omega)]; omega
          refine lv_goto (tgt := 2) hx hb dX1_listener_25 (by decide) ?_
          exact ih2 x3 _ _ _ (by omega) (by omega) hw (lv_sub hl [1, 2, 0] rfl)
        · have c17i := mt Int32.toInt_inj.mp c17
          refine lv_iload_n hx hb dX1_listener_20 rfl (lv_at hl 2 rfl) ?_
          exact ret z2_2 σ _ _ 21 _ (rfl) (⟨rfl, trivial⟩) hw dX1_listener_21
  exact cut2 ((((4 - (0 : Int32).toInt).toNat : Int)).toNat + 1) (0 : Int32) _ _ _ (by omega) (by omega) hw (lv_sub hl [1, 2, 0] rfl)
set_option maxHeartbeats 4000000 in
set_option maxRecDepth 100000 in
theorem c_X1_turnToBell (l : Launch) (G : Gg) (hG : Ginj G) (σ : Sg) (hI0 : Inv σ) (i : Nat) (hi : nk i = 1) (j : Nat) (hj : nk j = 5) : MV l G yX1_turnToBell cX1_turnToBell 7 (rmO 2 49) σ [.ref (ad G (i)), .ref (ad G (j))] (fun σ' => K0 σ σ' ∧ (True)) := by
  refine MV.of (by decide +kernel) (Nat.le_of_ble_eq_true rfl) ?_
  intro p e s m a below meth c ls Q hx hb hml hts hown hk hw ret hl
  have hown : s.vm.findClass RX1 = some m.cls := hown
  have hl : lv_has ls 7 [(0, .ref (ad G (i))), (1, .ref (ad G (j)))] := hl
  have hI : K0 σ σ := K0.rf hI0
  have Lm6 : (-6 : Int32).toInt = -6 := by decide
  have L0 : (0 : Int32).toInt = 0 := by decide
  have L1 : (1 : Int32).toInt = 1 := by decide
  have L8 : (8 : Int32).toInt = 8 := by decide
  generalize hHe : s.heap = H at hw ⊢
  generalize hLe : ([] : List Loc) = locs at hw ⊢
  refine lv_bipush (v := -6) hx hb dX1_turnToBell_0 (by decide) ?_
  refine lv_istore_n (lv' := [(2, .int (-6 : Int32)), (0, .ref (ad G (i))), (1, .ref (ad G (j)))]) hx hb dX1_turnToBell_2 rfl hl (by decide) rfl (fun ls hl => ?_)
  refine lv_bipush (v := 8) hx hb dX1_turnToBell_3 (by decide) ?_
  refine lv_istore_n (lv' := [(3, .int (8 : Int32)), (2, .int (-6 : Int32)), (0, .ref (ad G (i))), (1, .ref (ad G (j)))]) hx hb dX1_turnToBell_5 rfl hl (by decide) rfl (fun ls hl => ?_)
  refine lv_iconst (v := 0) hx hb dX1_turnToBell_6 (by decide) ?_
  refine lv_istore (lv' := [(4, .int (0 : Int32)), (3, .int (8 : Int32)), (2, .int (-6 : Int32)), (0, .ref (ad G (i))), (1, .ref (ad G (j)))]) hx hb dX1_turnToBell_7 hl (by decide) rfl (fun ls hl => ?_)
  have cut9 : ∀ (n : Nat) (z2_9 : Int32) (z3_9 : Int32) (z4_9 : Int32) (H : Heap) (locs : List Loc) (ls : Array Slot), (0 ≤ z4_9.toInt ∧ z4_9.toInt ≤ 4) → ((4 - z4_9.toInt).toNat : Int) < (n : Int) → Wo G σ s H locs → lv_has ls 7 [(0, .ref (ad G (i))), (1, .ref (ad G (j))), (2, .int z2_9), (3, .int z3_9), (4, .int z4_9)] → W p l e (rmO 2 49) s m a below meth c H locs 0 0 Q (F0 m 9 ls []) := by
    intro n9
    induction n9 with
    | zero =>
      intro z2_9 z3_9 z4_9 H locs ls f9_0 hm9 hw hl
      exfalso; omega
    | succ n9 ih9 =>
      intro z2_9 z3_9 z4_9 H locs ls f9_0 hm9 hw hl
      refine lv_iload hx hb dX1_turnToBell_9 (lv_at hl 4 rfl) ?_
      refine lv_aload_n hx hb dX1_turnToBell_11 rfl (lv_at hl 0 rfl) ?_
      refine tg_get (ci := 1) (k := 2) (v := .int (σ (i) 2)) hx hb hts hown hk hw (en1 hi) rfl inlX1 (by decide) wd175 rfl dX1_turnToBell_12 ?_
      refine lv_topi (fun x1 ex1 => ?_)
      have bx1 : 0 ≤ x1.toInt ∧ x1.toInt ≤ 4 := by rw [ex1]; exact hI.1 _ _ _ _ (by rw [hi]; rfl)
      have ux1 : x1.toInt = (σ (i) 2).toInt := by rw [ex1]
      refine lv_icmp_ge (tgt := 95) hx hb dX1_turnToBell_15 (by decide) (fun c15 => ?_) (fun c15 => ?_)
      · have c15i := Int32.le_iff_toInt_le.mp c15
        refine lv_iload_n hx hb dX1_turnToBell_95 rfl (lv_at hl 2 rfl) ?_
        refine lv_bipush (v := -6) hx hb dX1_turnToBell_96 (by decide) ?_
        refine lv_icmp_eq (tgt := 106) hx hb dX1_turnToBell_98 (by decide) (fun c98 => ?_) (fun c98 => ?_)
        · have oz2_9 := i32b z2_9
          have c98i := congrArg Int32.toInt c98
          exact ret σ _ _ 106 _ (⟨hI, trivial⟩) hw dX1_turnToBell_106
        · have oz2_9 := i32b z2_9
          have c98i := mt Int32.toInt_inj.mp c98
          refine lv_aload_n hx hb dX1_turnToBell_101 rfl (lv_at hl 1 rfl) ?_
          refine lv_iload_n hx hb dX1_turnToBell_102 rfl (lv_at hl 2 rfl) ?_
          refine te_vv hw (ru_V (As := [.int z2_9]) (rest := []) (C := RX6) hx hb hml hts hown hk hw (c_X6_turnTo l G hG σ hI.1 j hj z2_9) (m4_in wd319 wd320 wd321 wd73) wd322 (en5 hj) rfl rfl rfl nm_yX6_turnTo ⟨rfl, rfl⟩ ⟨by decide, by decide⟩ rfl hl.1 rfl (Nat.le_of_ble_eq_true rfl) dX1_turnToBell_103 ⟨Nat.zero_le _, Nat.zero_le _⟩) (fun σ2 H locs hr3 hw => ?_)
          have hI := hI.go hr3.1
          have hr3 := hr3.2
          exact ret σ2 _ _ 106 _ (⟨hI, trivial⟩) hw dX1_turnToBell_106
      · have c15i := mt Int32.le_iff_toInt_le.mpr c15
        refine lv_aload_n hx hb dX1_turnToBell_18 rfl (lv_at hl 1 rfl) ?_
        refine tg_get (ci := 5) (k := 0) (v := .int (σ (j) 0)) hx hb hts hown hk hw (en5 hj) rfl inlX6 (by decide) wd308 rfl dX1_turnToBell_19 ?_
        refine lv_topi (fun x4 ex4 => ?_)
        refine lv_aload_n hx hb dX1_turnToBell_22 rfl (lv_at hl 0 rfl) ?_
        refine tg_get (ci := 1) (k := 1) (v := .ref (ad G (i + 2))) hx hb hts hown hk hw (en1 hi) rfl inlX1 (by decide) wd70 rfl dX1_turnToBell_23 ?_
        refine lv_iload hx hb dX1_turnToBell_26 (lv_at hl 4 rfl) ?_
        have hv28 : vp_in z4_9 4 := vin ⟨by omega, by omega⟩
        refine tg_iald hx hb hk hw (en104 (kd1_2 hi)) hv28 dX1_turnToBell_28 ?_
        refine lv_topi (fun x5 ex5 => ?_)
        refine te_vi hw (ru_N (As := [.int x4, .int x5]) (rest := []) hx hb hml hts hown hk hw (c_X10_cellsApart l G hG σ hI.1 x4 x5) (m2_in wd310 wd2) (by decide +kernel) wd311 nm_yX10_cellsApart ⟨rfl, rfl⟩ ⟨by decide, by decide⟩ rfl hl.1 rfl (Nat.le_of_ble_eq_true rfl) dX1_turnToBell_29 ⟨Nat.zero_le _, Nat.zero_le _⟩) (fun r7 σ6 H locs hr7 hw => ?_)
        rw [hr7.1] at hw
        have hr7 := hr7.2
        refine lv_istore (lv' := [(5, .int r7), (0, .ref (ad G (i))), (1, .ref (ad G (j))), (2, .int z2_9), (3, .int z3_9), (4, .int z4_9)]) hx hb dX1_turnToBell_32 hl (by decide) rfl (fun ls hl => ?_)
        refine lv_iload hx hb dX1_turnToBell_34 (lv_at hl 0 rfl) ?_
        refine lv_iload_n hx hb dX1_turnToBell_36 rfl (lv_at hl 4 rfl) ?_
        refine lv_icmp_lt (tgt := 57) hx hb dX1_turnToBell_37 (by decide) (fun c37 => ?_) (fun c37 => ?_)
        · have or7 := i32b r7
          have oz3_9 := i32b z3_9
          have c37i := Int32.lt_iff_toInt_lt.mp c37
          refine lv_iconst (v := 1) hx hb dX1_turnToBell_57 (by decide) ?_
          refine lv_goto (tgt := 62) hx hb dX1_turnToBell_58 (by decide) ?_
          refine lv_istore (lv' := [(6, .int (1 : Int32)), (5, .int r7), (0, .ref (ad G (i))), (1, .ref (ad G (j))), (2, .int z2_9), (3, .int z3_9), (4, .int z4_9)]) hx hb dX1_turnToBell_62 hl (by decide) rfl (fun ls hl => ?_)
          refine lv_iload hx hb dX1_turnToBell_64 (lv_at hl 0 rfl) ?_
          refine lv_if_eq (tgt := 89) hx hb dX1_turnToBell_66 (by decide) (fun c66 => ?_) (fun c66 => ?_)
          · have c66i := congrArg Int32.toInt c66
            exfalso; omega
          · have c66i := mt Int32.toInt_inj.mp c66
            refine lv_iload hx hb dX1_turnToBell_69 (lv_at hl 1 rfl) ?_
            refine lv_aload_n hx hb dX1_turnToBell_71 rfl (lv_at hl 3 rfl) ?_
            refine tg_get (ci := 5) (k := 5) (v := .int (σ (j) 5)) hx hb hts hown hk hw (en5 hj) rfl inlX6 (by decide) wd309 rfl dX1_turnToBell_72 ?_
            refine lv_topi (fun x8 ex8 => ?_)
            refine lv_icmp_gt (tgt := 89) hx hb dX1_turnToBell_75 (by decide) (fun c75 => ?_) (fun c75 => ?_)
            · have or7 := i32b r7
              have ox8 := i32b x8
              have c75i := Int32.lt_iff_toInt_lt.mp c75
              obtain ⟨x9, ex9⟩ : ∃ z : Int32, z = z4_9 + (1 : Int32) := ⟨_, rfl⟩
              refine lv_iinc (v := x9) (lv' := [(4, .int x9), (6, .int (1 : Int32)), (5, .int r7), (0, .ref (ad G (i))), (1, .ref (ad G (j))), (2, .int z2_9), (3, .int z3_9)]) hx hb dX1_turnToBell_89 hl (k := 6) rfl (by rw [ex9]; rfl) (by decide) rfl (fun ls hl => ?_)
              have tx9 : x9.toInt = z4_9.toInt + 1 := by rw [ex9, Jvm.Kit.i32_add (by omega) (by omega)]; omega
              refine lv_goto (tgt := 9) hx hb dX1_turnToBell_92 (by decide) ?_
              exact ih9 z2_9 z3_9 x9 _ _ _ (by omega) (by omega) hw (lv_sub hl [3, 4, 5, 6, 0] rfl)
            · have or7 := i32b r7
              have ox8 := i32b x8
              have c75i := mt Int32.lt_iff_toInt_lt.mpr c75
              refine lv_aload_n hx hb dX1_turnToBell_78 rfl (lv_at hl 2 rfl) ?_
              refine tg_get (ci := 1) (k := 1) (v := .ref (ad G (i + 2))) hx hb hts hown hk hw (en1 hi) rfl inlX1 (by decide) wd70 rfl dX1_turnToBell_79 ?_
              refine lv_iload hx hb dX1_turnToBell_82 (lv_at hl 6 rfl) ?_
              have hv84 : vp_in z4_9 4 := vin ⟨by omega, by omega⟩
              refine tg_iald hx hb hk hw (en104 (kd1_2 hi)) hv84 dX1_turnToBell_84 ?_
              refine lv_topi (fun x10 ex10 => ?_)
              have qx10 : x10.toInt = x5.toInt := by rw [ex10, ex5]
              refine lv_istore_n (lv' := [(2, .int x10), (6, .int (1 : Int32)), (5, .int r7), (0, .ref (ad G (i))), (1, .ref (ad G (j))), (3, .int z3_9), (4, .int z4_9)]) hx hb dX1_turnToBell_85 rfl hl (by decide) rfl (fun ls hl => ?_)
              refine lv_iload hx hb dX1_turnToBell_86 (lv_at hl 2 rfl) ?_
              refine lv_istore_n (lv' := [(3, .int r7), (2, .int x10), (6, .int (1 : Int32)), (5, .int r7), (0, .ref (ad G (i))), (1, .ref (ad G (j))), (4, .int z4_9)]) hx hb dX1_turnToBell_88 rfl hl (by decide) rfl (fun ls hl => ?_)
              obtain ⟨x11, ex11⟩ : ∃ z : Int32, z = z4_9 + (1 : Int32) := ⟨_, rfl⟩
              refine lv_iinc (v := x11) (lv' := [(4, .int x11), (3, .int r7), (2, .int x10), (6, .int (1 : Int32)), (5, .int r7), (0, .ref (ad G (i))), (1, .ref (ad G (j)))]) hx hb dX1_turnToBell_89 hl (k := 6) rfl (by rw [ex11]; rfl) (by decide) rfl (fun ls hl => ?_)
              have tx11 : x11.toInt = z4_9.toInt + 1 := by rw [ex11, Jvm.Kit.i32_add (by omega) (by omega)]; omega
              refine lv_goto (tgt := 9) hx hb dX1_turnToBell_92 (by decide) ?_
              exact ih9 x10 r7 x11 _ _ _ (by omega) (by omega) hw (lv_sub hl [5, 6, 2, 1, 0] rfl)
        · have or7 := i32b r7
          have oz3_9 := i32b z3_9
          have c37i := mt Int32.lt_iff_toInt_lt.mpr c37
          refine lv_iload hx hb dX1_turnToBell_40 (lv_at hl 0 rfl) ?_
          refine lv_iload_n hx hb dX1_turnToBell_42 rfl (lv_at hl 4 rfl) ?_
          refine lv_icmp_ne (tgt := 61) hx hb dX1_turnToBell_43 (by decide) (fun c43 => ?_) (fun c43 => ?_)
          · have or7 := i32b r7
            have oz3_9 := i32b z3_9
            have c43i := mt Int32.toInt_inj.mp c43
            refine lv_iconst (v := 0) hx hb dX1_turnToBell_61 (by decide) ?_
            refine lv_istore (lv' := [(6, .int (0 : Int32)), (5, .int r7), (0, .ref (ad G (i))), (1, .ref (ad G (j))), (2, .int z2_9), (3, .int z3_9), (4, .int z4_9)]) hx hb dX1_turnToBell_62 hl (by decide) rfl (fun ls hl => ?_)
            refine lv_iload hx hb dX1_turnToBell_64 (lv_at hl 0 rfl) ?_
            refine lv_if_eq (tgt := 89) hx hb dX1_turnToBell_66 (by decide) (fun c66 => ?_) (fun c66 => ?_)
            · have c66i := congrArg Int32.toInt c66
              obtain ⟨x12, ex12⟩ : ∃ z : Int32, z = z4_9 + (1 : Int32) := ⟨_, rfl⟩
              refine lv_iinc (v := x12) (lv' := [(4, .int x12), (6, .int (0 : Int32)), (5, .int r7), (0, .ref (ad G (i))), (1, .ref (ad G (j))), (2, .int z2_9), (3, .int z3_9)]) hx hb dX1_turnToBell_89 hl (k := 6) rfl (by rw [ex12]; rfl) (by decide) rfl (fun ls hl => ?_)
              have tx12 : x12.toInt = z4_9.toInt + 1 := by rw [ex12, Jvm.Kit.i32_add (by omega) (by omega)]; omega
              refine lv_goto (tgt := 9) hx hb dX1_turnToBell_92 (by decide) ?_
              exact ih9 z2_9 z3_9 x12 _ _ _ (by omega) (by omega) hw (lv_sub hl [3, 4, 5, 6, 0] rfl)
            · have c66i := mt Int32.toInt_inj.mp c66
              exfalso; omega
          · have or7 := i32b r7
            have oz3_9 := i32b z3_9
            have c43i := congrArg Int32.toInt c43
            refine lv_aload_n hx hb dX1_turnToBell_46 rfl (lv_at hl 1 rfl) ?_
            refine tg_get (ci := 1) (k := 1) (v := .ref (ad G (i + 2))) hx hb hts hown hk hw (en1 hi) rfl inlX1 (by decide) wd70 rfl dX1_turnToBell_47 ?_
            refine lv_iload hx hb dX1_turnToBell_50 (lv_at hl 5 rfl) ?_
            have hv52 : vp_in z4_9 4 := vin ⟨by omega, by omega⟩
            refine tg_iald hx hb hk hw (en104 (kd1_2 hi)) hv52 dX1_turnToBell_52 ?_
            refine lv_topi (fun x13 ex13 => ?_)
            have qx13 : x13.toInt = x5.toInt := by rw [ex13, ex5]
            refine lv_iload_n hx hb dX1_turnToBell_53 rfl (lv_at hl 3 rfl) ?_
            refine lv_icmp_ge (tgt := 61) hx hb dX1_turnToBell_54 (by decide) (fun c54 => ?_) (fun c54 => ?_)
            · have ox13 := i32b x13
              have oz2_9 := i32b z2_9
              have c54i := Int32.le_iff_toInt_le.mp c54
              refine lv_iconst (v := 0) hx hb dX1_turnToBell_61 (by decide) ?_
              refine lv_istore (lv' := [(6, .int (0 : Int32)), (5, .int r7), (0, .ref (ad G (i))), (1, .ref (ad G (j))), (2, .int z2_9), (3, .int z3_9), (4, .int z4_9)]) hx hb dX1_turnToBell_62 hl (by decide) rfl (fun ls hl => ?_)
              refine lv_iload hx hb dX1_turnToBell_64 (lv_at hl 0 rfl) ?_
              refine lv_if_eq (tgt := 89) hx hb dX1_turnToBell_66 (by decide) (fun c66 => ?_) (fun c66 => ?_)
              · have c66i := congrArg Int32.toInt c66
                obtain ⟨x14, ex14⟩ : ∃ z : Int32, z = z4_9 + (1 : Int32) := ⟨_, rfl⟩
                refine lv_iinc (v := x14) (lv' := [(4, .int x14), (6, .int (0 : Int32)), (5, .int r7), (0, .ref (ad G (i))), (1, .ref (ad G (j))), (2, .int z2_9), (3, .int z3_9)]) hx hb dX1_turnToBell_89 hl (k := 6) rfl (by rw [ex14]; rfl) (by decide) rfl (fun ls hl => ?_)
                have tx14 : x14.toInt = z4_9.toInt + 1 := by rw [ex14, Jvm.Kit.i32_add (by omega) (by omega)]; omega
                refine lv_goto (tgt := 9) hx hb dX1_turnToBell_92 (by decide) ?_
                exact ih9 z2_9 z3_9 x14 _ _ _ (by omega) (by omega) hw (lv_sub hl [3, 4, 5, 6, 0] rfl)
              · have c66i := mt Int32.toInt_inj.mp c66
                exfalso; omega
            · have ox13 := i32b x13
              have oz2_9 := i32b z2_9
              have c54i := mt Int32.le_iff_toInt_le.mpr c54
              refine lv_iconst (v := 1) hx hb dX1_turnToBell_57 (by decide) ?_
              refine lv_goto (tgt := 62) hx hb dX1_turnToBell_58 (by decide) ?_
              refine lv_istore (lv' := [(6, .int (1 : Int32)), (5, .int r7), (0, .ref (ad G (i))), (1, .ref (ad G (j))), (2, .int z2_9), (3, .int z3_9), (4, .int z4_9)]) hx hb dX1_turnToBell_62 hl (by decide) rfl (fun ls hl => ?_)
              refine lv_iload hx hb dX1_turnToBell_64 (lv_at hl 0 rfl) ?_
              refine lv_if_eq (tgt := 89) hx hb dX1_turnToBell_66 (by decide) (fun c66 => ?_) (fun c66 => ?_)
              · have c66i := congrArg Int32.toInt c66
                exfalso; omega
              · have c66i := mt Int32.toInt_inj.mp c66
                refine lv_iload hx hb dX1_turnToBell_69 (lv_at hl 1 rfl) ?_
                refine lv_aload_n hx hb dX1_turnToBell_71 rfl (lv_at hl 3 rfl) ?_
                refine tg_get (ci := 5) (k := 5) (v := .int (σ (j) 5)) hx hb hts hown hk hw (en5 hj) rfl inlX6 (by decide) wd309 rfl dX1_turnToBell_72 ?_
                refine lv_topi (fun x15 ex15 => ?_)
                refine lv_icmp_gt (tgt := 89) hx hb dX1_turnToBell_75 (by decide) (fun c75 => ?_) (fun c75 => ?_)
                · have or7 := i32b r7
                  have ox15 := i32b x15
                  have c75i := Int32.lt_iff_toInt_lt.mp c75
                  obtain ⟨x16, ex16⟩ : ∃ z : Int32, z = z4_9 + (1 : Int32) := ⟨_, rfl⟩
                  refine lv_iinc (v := x16) (lv' := [(4, .int x16), (6, .int (1 : Int32)), (5, .int r7), (0, .ref (ad G (i))), (1, .ref (ad G (j))), (2, .int z2_9), (3, .int z3_9)]) hx hb dX1_turnToBell_89 hl (k := 6) rfl (by rw [ex16]; rfl) (by decide) rfl (fun ls hl => ?_)
                  have tx16 : x16.toInt = z4_9.toInt + 1 := by rw [ex16, Jvm.Kit.i32_add (by omega) (by omega)]; omega
                  refine lv_goto (tgt := 9) hx hb dX1_turnToBell_92 (by decide) ?_
                  exact ih9 z2_9 z3_9 x16 _ _ _ (by omega) (by omega) hw (lv_sub hl [3, 4, 5, 6, 0] rfl)
                · have or7 := i32b r7
                  have ox15 := i32b x15
                  have c75i := mt Int32.lt_iff_toInt_lt.mpr c75
                  refine lv_aload_n hx hb dX1_turnToBell_78 rfl (lv_at hl 2 rfl) ?_
                  refine tg_get (ci := 1) (k := 1) (v := .ref (ad G (i + 2))) hx hb hts hown hk hw (en1 hi) rfl inlX1 (by decide) wd70 rfl dX1_turnToBell_79 ?_
                  refine lv_iload hx hb dX1_turnToBell_82 (lv_at hl 6 rfl) ?_
                  have hv84 : vp_in z4_9 4 := vin ⟨by omega, by omega⟩
                  refine tg_iald hx hb hk hw (en104 (kd1_2 hi)) hv84 dX1_turnToBell_84 ?_
                  refine lv_topi (fun x17 ex17 => ?_)
                  have qx17 : x17.toInt = x5.toInt := by rw [ex17, ex5]
                  refine lv_istore_n (lv' := [(2, .int x17), (6, .int (1 : Int32)), (5, .int r7), (0, .ref (ad G (i))), (1, .ref (ad G (j))), (3, .int z3_9), (4, .int z4_9)]) hx hb dX1_turnToBell_85 rfl hl (by decide) rfl (fun ls hl => ?_)
                  refine lv_iload hx hb dX1_turnToBell_86 (lv_at hl 2 rfl) ?_
                  refine lv_istore_n (lv' := [(3, .int r7), (2, .int x17), (6, .int (1 : Int32)), (5, .int r7), (0, .ref (ad G (i))), (1, .ref (ad G (j))), (4, .int z4_9)]) hx hb dX1_turnToBell_88 rfl hl (by decide) rfl (fun ls hl => ?_)
                  obtain ⟨x18, ex18⟩ : ∃ z : Int32, z = z4_9 + (1 : Int32) := ⟨_, rfl⟩
                  refine lv_iinc (v := x18) (lv' := [(4, .int x18), (3, .int r7), (2, .int x17), (6, .int (1 : Int32)), (5, .int r7), (0, .ref (ad G (i))), (1, .ref (ad G (j)))]) hx hb dX1_turnToBell_89 hl (k := 6) rfl (by rw [ex18]; rfl) (by decide) rfl (fun ls hl => ?_)
                  have tx18 : x18.toInt = z4_9.toInt + 1 := by rw [ex18, Jvm.Kit.i32_add (by omega) (by omega)]; omega
                  refine lv_goto (tgt := 9) hx hb dX1_turnToBell_92 (by decide) ?_
                  exact ih9 x17 r7 x18 _ _ _ (by omega) (by omega) hw (lv_sub hl [5, 6, 2, 1, 0] rfl)
  exact cut9 ((((4 - (0 : Int32).toInt).toNat : Int)).toNat + 1) (-6 : Int32) (8 : Int32) (0 : Int32) _ _ _ (by omega) (by omega) hw (lv_sub hl [3, 4, 2, 1, 0] rfl)
set_option maxHeartbeats 4000000 in
set_option maxRecDepth 100000 in
theorem c_X1_goPartF (l : Launch) (G : Gg) (hG : Ginj G) (σ : Sg) (hI0 : Inv σ) (i : Nat) (hi : nk i = 1) (v : Int32) (j : Nat) (hj : nk j = 2) : MV l G yX1_goPart cX1_goPart 6 (rmO 3 75) σ [.ref (ad G (i)), .ref (ad G (1)), .int v, .ref (ad G (j))] (fun σ' => K0 σ σ' ∧ (True)) := by
  refine MV.of (by decide +kernel) (Nat.le_of_ble_eq_true rfl) ?_
  intro p e s m a below meth c ls Q hx hb hml hts hown hk hw ret hl
  have hown : s.vm.findClass RX1 = some m.cls := hown
  have hl : lv_has ls 6 [(0, .ref (ad G (i))), (1, .ref (ad G (1))), (2, .int v), (3, .ref (ad G (j)))] := hl
  have hI : K0 σ σ := K0.rf hI0
  have Lm1 : (-1 : Int32).toInt = -1 := by decide
  have L0 : (0 : Int32).toInt = 0 := by decide
  have L1 : (1 : Int32).toInt = 1 := by decide
  have L48 : (48 : Int32).toInt = 48 := by decide
  have L65 : (65 : Int32).toInt = 65 := by decide
  have L98 : (98 : Int32).toInt = 98 := by decide
  have L102 : (102 : Int32).toInt = 102 := by decide
  have L108 : (108 : Int32).toInt = 108 := by decide
  have L114 : (114 : Int32).toInt = 114 := by decide
  have L119 : (119 : Int32).toInt = 119 := by decide
  generalize hHe : s.heap = H at hw ⊢
  generalize hLe : ([] : List Loc) = locs at hw ⊢
  refine lv_aload_n hx hb dX1_goPart_0 rfl (lv_at hl 1 rfl) ?_
  refine lv_iload_n hx hb dX1_goPart_1 rfl (lv_at hl 2 rfl) ?_
  refine te_vi hw (ru_V (As := [.int v]) (rest := []) (C := RX4) hx hb hml hts hown hk hw (c_X4_signAt l G hG σ hI.1 v) (m4_in wd275 wd231 wd232 wd14) wd233 (en4 (rfl : nk 1 = 4)) rfl rfl rfl nm_yX4_signAt ⟨rfl, rfl⟩ ⟨by decide, by decide⟩ rfl hl.1 rfl (Nat.le_of_ble_eq_true rfl) dX1_goPart_2 ⟨Nat.zero_le _, Nat.zero_le _⟩) (fun r2 σ1 H locs hr2 hw => ?_)
  rw [hr2.1] at hw
  have hr2 := hr2.2
  refine lv_istore (lv' := [(4, .int r2), (0, .ref (ad G (i))), (1, .ref (ad G (1))), (2, .int v), (3, .ref (ad G (j)))]) hx hb dX1_goPart_5 hl (by decide) rfl (fun ls hl => ?_)
  refine lv_iload hx hb dX1_goPart_7 (lv_at hl 0 rfl) ?_
  refine te_vi hw (ru_S (As := [.int r2]) (rest := []) hx hb hml hts hown hk hw (c_X4_isLetter l G hG σ hI.1 r2) (m3_in wd276 wd235 wd14) wd236 nm_yX4_isLetter ⟨rfl, rfl⟩ ⟨by decide, by decide⟩ rfl hl.1 rfl (Nat.le_of_ble_eq_true rfl) dX1_goPart_9 ⟨Nat.zero_le _, Nat.zero_le _⟩) (fun r4 σ3 H locs hr4 hw => ?_)
  rw [hr4.1] at hw
  have hr4 := hr4.2
  refine lv_if_eq (tgt := 25) hx hb dX1_goPart_12 (by decide) (fun c12 => ?_) (fun c12 => ?_)
  · have c12i := congrArg Int32.toInt c12
    have p12 := bz0 hr4 c12
    refine lv_aload_n hx hb dX1_goPart_25 rfl (lv_at hl 1 rfl) ?_
    refine tg_get (ci := 1) (k := 3) (v := .int (σ (i) 3)) hx hb hts hown hk hw (en1 hi) rfl inlX1 (by decide) wd71 rfl dX1_goPart_26 ?_
    refine lv_topi (fun x5 ex5 => ?_)
    refine te_vi hw (ru_N (As := [.int x5]) (rest := []) hx hb hml hts hown hk hw (c_X10_isSower l G hG σ hI.1 x5) (m2_in wd126 wd2) (by decide +kernel) wd127 nm_yX10_isSower ⟨rfl, rfl⟩ ⟨by decide, by decide⟩ rfl hl.1 rfl (Nat.le_of_ble_eq_true rfl) dX1_goPart_29 ⟨Nat.zero_le _, Nat.zero_le _⟩) (fun r7 σ6 H locs hr7 hw => ?_)
    rw [hr7.1] at hw
    have hr7 := hr7.2
    refine lv_if_ne (tgt := 36) hx hb dX1_goPart_32 (by decide) (fun c32 => ?_) (fun c32 => ?_)
    · have c32i := mt Int32.toInt_inj.mp c32
      have p32 := bz1 hr7 c32
      refine lv_aload_n hx hb dX1_goPart_36 rfl (lv_at hl 1 rfl) ?_
      refine tg_get (ci := 1) (k := 0) (v := .ref (ad G (i + 1))) hx hb hts hown hk hw (en1 hi) rfl inlX1 (by decide) wd69 rfl dX1_goPart_37 ?_
      refine lv_aload_n hx hb dX1_goPart_40 rfl (lv_at hl 1 rfl) ?_
      refine tg_get (ci := 1) (k := 3) (v := .int (σ (i) 3)) hx hb hts hown hk hw (en1 hi) rfl inlX1 (by decide) wd71 rfl dX1_goPart_41 ?_
      refine lv_topi (fun x8 ex8 => ?_)
      have qx8 : x8.toInt = x5.toInt := by rw [ex8, ex5]
      have hv44 : vp_in x8 4 := vin ⟨by omega, by omega⟩
      refine tg_aald14 hx hb hk hw (en14 (kd1_1 hi)) hv44 dX1_goPart_44 ?_
      have vl44 := vcl hv44
      refine lv_astore (lv' := [(5, .ref (ad G (i + 1 + 2 + x8.toNatClampNeg))), (4, .int r2), (0, .ref (ad G (i))), (1, .ref (ad G (1))), (2, .int v), (3, .ref (ad G (j)))]) hx hb dX1_goPart_45 hl (by decide) rfl (fun ls hl => ?_)
      refine lv_iload hx hb dX1_goPart_47 (lv_at hl 1 rfl) ?_
      by_cases w49_98 : r2 = (98 : Int32)
      · have w49_98i : r2.toInt = 98 := by rw [w49_98]; decide
        refine lv_lookup (tgt := 156) hx hb dX1_goPart_49 (by decide) (by rw [w49_98i]) (by decide) ?_
        refine lv_aload_n hx hb dX1_goPart_156 rfl (lv_at hl 2 rfl) ?_
        refine lv_aload hx hb dX1_goPart_157 (lv_at hl 0 rfl) ?_
        refine te_vv hw (ru_V (As := [.ref (ad G (i + 1 + 2 + x8.toNatClampNeg))]) (rest := []) (C := RX1) hx hb hml hts hown hk hw (c_X1_turnToBell l G hG σ hI.1 i hi (i + 1 + 2 + x8.toNatClampNeg) (ke14 (kd1_1 hi) (vcl hv44))) (m4_in wd304 wd305 wd306 wd52) wd307 (en1 hi) rfl rfl rfl nm_yX1_turnToBell ⟨rfl, rfl⟩ ⟨by decide, by decide⟩ rfl hl.1 rfl (Nat.le_of_ble_eq_true rfl) dX1_goPart_159 ⟨Nat.zero_le _, Nat.zero_le _⟩) (fun σ9 H locs hr10 hw => ?_)
        have hI := hI.go hr10.1
        have hr10 := hr10.2
        refine lv_goto (tgt := 165) hx hb dX1_goPart_162 (by decide) ?_
        exact ret σ9 _ _ 165 _ (⟨hI, trivial⟩) hw dX1_goPart_165
      have w49_98i : ¬ r2.toInt = 98 := fun z => w49_98 (Int32.toInt_inj.mp (z.trans (by decide)))
      by_cases w49_102 : r2 = (102 : Int32)
      · have w49_102i : r2.toInt = 102 := by rw [w49_102]; decide
        refine lv_lookup (tgt := 100) hx hb dX1_goPart_49 (by decide) (by rw [w49_102i]) (by decide) ?_
        refine lv_aload hx hb dX1_goPart_100 (lv_at hl 0 rfl) ?_
        refine lv_aload_n hx hb dX1_goPart_102 rfl (lv_at hl 3 rfl) ?_
        refine lv_iload_n hx hb dX1_goPart_103 rfl (lv_at hl 4 rfl) ?_
        refine lv_iconst (v := 1) hx hb dX1_goPart_104 (by decide) ?_
        refine lv_iadd hx hb dX1_goPart_105 ?_
        refine lv_topi (fun x11 ex11 => ?_)
        refine te_vi hw (ru_V (As := [.int x11]) (rest := [.ref (ad G (i + 1 + 2 + x8.toNatClampNeg))]) (C := RX4) hx hb hml hts hown hk hw (c_X4_signAt l G hG σ hI.1 x11) (m4_in wd275 wd231 wd232 wd14) wd233 (en4 (rfl : nk 1 = 4)) rfl rfl rfl nm_yX4_signAt ⟨rfl, rfl⟩ ⟨by decide, by decide⟩ rfl hl.1 rfl (Nat.le_of_ble_eq_true rfl) dX1_goPart_106 ⟨Nat.zero_le _, Nat.zero_le _⟩) (fun r13 σ12 H locs hr13 hw => ?_)
        rw [hr13.1] at hw
        have hr13 := hr13.2
        refine lv_bipush (v := 48) hx hb dX1_goPart_109 (by decide) ?_
        refine lv_isub hx hb dX1_goPart_111 ?_
        refine lv_topi (fun x14 ex14 => ?_)
        refine lv_aload_n hx hb dX1_goPart_112 rfl (lv_at hl 5 rfl) ?_
        refine te_vv hw (ru_V (As := [.int x14, .ref (ad G (j))]) (rest := []) (C := RX6) hx hb hml hts hown hk hw (c_X6_walkF l G hG σ hI.1 (i + 1 + 2 + x8.toNatClampNeg) (ke14 (kd1_1 hi) (vcl hv44)) x14 j hj) (m4_in wd277 wd278 wd279 wd73) wd280 (en5 (ke14 (kd1_1 hi) (vcl hv44))) rfl rfl rfl nm_yX6_walk ⟨rfl, rfl⟩ ⟨by decide, by decide⟩ rfl hl.1 rfl (Nat.le_of_ble_eq_true rfl) dX1_goPart_113 ⟨Nat.zero_le _, Nat.zero_le _⟩) (fun σ15 H locs hr16 hw => ?_)
        have hI := hI.go hr16.1
        have hr16 := hr16.2
        refine lv_goto (tgt := 165) hx hb dX1_goPart_116 (by decide) ?_
        exact ret σ15 _ _ 165 _ (⟨hI, trivial⟩) hw dX1_goPart_165
      have w49_102i : ¬ r2.toInt = 102 := fun z => w49_102 (Int32.toInt_inj.mp (z.trans (by decide)))
      by_cases w49_108 : r2 = (108 : Int32)
      · have w49_108i : r2.toInt = 108 := by rw [w49_108]; decide
        refine lv_lookup (tgt := 147) hx hb dX1_goPart_49 (by decide) (by rw [w49_108i]) (by decide) ?_
        refine lv_aload hx hb dX1_goPart_147 (lv_at hl 0 rfl) ?_
        refine lv_iconst (v := -1) hx hb dX1_goPart_149 (by decide) ?_
        refine te_vv hw (ru_V (As := [.int (-1 : Int32)]) (rest := []) (C := RX6) hx hb hml hts hown hk hw (c_X6_turn l G hG σ hI.1 (i + 1 + 2 + x8.toNatClampNeg) (ke14 (kd1_1 hi) (vcl hv44)) (-1 : Int32)) (m4_in wd296 wd297 wd298 wd73) wd299 (en5 (ke14 (kd1_1 hi) (vcl hv44))) rfl rfl rfl nm_yX6_turn ⟨rfl, rfl⟩ ⟨by decide, by decide⟩ rfl hl.1 rfl (Nat.le_of_ble_eq_true rfl) dX1_goPart_150 ⟨Nat.zero_le _, Nat.zero_le _⟩) (fun σ17 H locs hr18 hw => ?_)
        have hI := hI.go hr18.1
        have hr18 := hr18.2
        refine lv_goto (tgt := 165) hx hb dX1_goPart_153 (by decide) ?_
        exact ret σ17 _ _ 165 _ (⟨hI, trivial⟩) hw dX1_goPart_165
      have w49_108i : ¬ r2.toInt = 108 := fun z => w49_108 (Int32.toInt_inj.mp (z.trans (by decide)))
      by_cases w49_114 : r2 = (114 : Int32)
      · have w49_114i : r2.toInt = 114 := by rw [w49_114]; decide
        refine lv_lookup (tgt := 138) hx hb dX1_goPart_49 (by decide) (by rw [w49_114i]) (by decide) ?_
        refine lv_aload hx hb dX1_goPart_138 (lv_at hl 0 rfl) ?_
        refine lv_iconst (v := 1) hx hb dX1_goPart_140 (by decide) ?_
        refine te_vv hw (ru_V (As := [.int (1 : Int32)]) (rest := []) (C := RX6) hx hb hml hts hown hk hw (c_X6_turn l G hG σ hI.1 (i + 1 + 2 + x8.toNatClampNeg) (ke14 (kd1_1 hi) (vcl hv44)) (1 : Int32)) (m4_in wd296 wd297 wd298 wd73) wd299 (en5 (ke14 (kd1_1 hi) (vcl hv44))) rfl rfl rfl nm_yX6_turn ⟨rfl, rfl⟩ ⟨by decide, by decide⟩ rfl hl.1 rfl (Nat.le_of_ble_eq_true rfl) dX1_goPart_141 ⟨Nat.zero_le _, Nat.zero_le _⟩) (fun σ19 H locs hr20 hw => ?_)
        have hI := hI.go hr20.1
        have hr20 := hr20.2
        refine lv_goto (tgt := 165) hx hb dX1_goPart_144 (by decide) ?_
        exact ret σ19 _ _ 165 _ (⟨hI, trivial⟩) hw dX1_goPart_165
      have w49_114i : ¬ r2.toInt = 114 := fun z => w49_114 (Int32.toInt_inj.mp (z.trans (by decide)))
      by_cases w49_119 : r2 = (119 : Int32)
      · have w49_119i : r2.toInt = 119 := by rw [w49_119]; decide
        refine lv_lookup (tgt := 119) hx hb dX1_goPart_49 (by decide) (by rw [w49_119i]) (by decide) ?_
        refine lv_aload hx hb dX1_goPart_119 (lv_at hl 0 rfl) ?_
        refine lv_aload_n hx hb dX1_goPart_121 rfl (lv_at hl 3 rfl) ?_
        refine lv_iload_n hx hb dX1_goPart_122 rfl (lv_at hl 4 rfl) ?_
        refine lv_iconst (v := 1) hx hb dX1_goPart_123 (by decide) ?_
        refine lv_iadd hx hb dX1_goPart_124 ?_
        refine lv_topi (fun x21 ex21 => ?_)
        refine te_vi hw (ru_V (As := [.int x21]) (rest := [.ref (ad G (i + 1 + 2 + x8.toNatClampNeg))]) (C := RX4) hx hb hml hts hown hk hw (c_X4_signAt l G hG σ hI.1 x21) (m4_in wd275 wd231 wd232 wd14) wd233 (en4 (rfl : nk 1 = 4)) rfl rfl rfl nm_yX4_signAt ⟨rfl, rfl⟩ ⟨by decide, by decide⟩ rfl hl.1 rfl (Nat.le_of_ble_eq_true rfl) dX1_goPart_125 ⟨Nat.zero_le _, Nat.zero_le _⟩) (fun r23 σ22 H locs hr23 hw => ?_)
        rw [hr23.1] at hw
        have hr23 := hr23.2
        refine lv_bipush (v := 48) hx hb dX1_goPart_128 (by decide) ?_
        refine lv_isub hx hb dX1_goPart_130 ?_
        refine lv_topi (fun x24 ex24 => ?_)
        refine lv_null hx hb dX1_goPart_131 ?_
        refine te_vv hw (ru_V (As := [.int x24, .null]) (rest := []) (C := RX6) hx hb hml hts hown hk hw (c_X6_walkN l G hG σ hI.1 (i + 1 + 2 + x8.toNatClampNeg) (ke14 (kd1_1 hi) (vcl hv44)) x24) (m4_in wd277 wd278 wd279 wd73) wd280 (en5 (ke14 (kd1_1 hi) (vcl hv44))) rfl rfl rfl nm_yX6_walk ⟨rfl, rfl⟩ ⟨by decide, by decide⟩ rfl hl.1 rfl (Nat.le_of_ble_eq_true rfl) dX1_goPart_132 ⟨Nat.zero_le _, Nat.zero_le _⟩) (fun σ25 H locs hr26 hw => ?_)
        have hI := hI.go hr26.1
        have hr26 := hr26.2
        refine lv_goto (tgt := 165) hx hb dX1_goPart_135 (by decide) ?_
        exact ret σ25 _ _ 165 _ (⟨hI, trivial⟩) hw dX1_goPart_165
      have w49_119i : ¬ r2.toInt = 119 := fun z => w49_119 (Int32.toInt_inj.mp (z.trans (by decide)))
      refine lv_lookup (tgt := 165) hx hb dX1_goPart_49 (by decide) (lk_out (by simp; omega)) (by decide) ?_
      exact ret σ _ _ 165 _ (⟨hI, trivial⟩) hw dX1_goPart_165
    · have c32i := congrArg Int32.toInt c32
      have p32 := bz0 hr7 c32
      exact ret σ _ _ 35 _ (⟨hI, trivial⟩) hw dX1_goPart_35
  · have c12i := mt Int32.toInt_inj.mp c12
    have p12 := bz1 hr4 c12
    refine lv_aload_n hx hb dX1_goPart_15 rfl (lv_at hl 1 rfl) ?_
    refine lv_iload hx hb dX1_goPart_16 (lv_at hl 0 rfl) ?_
    refine lv_bipush (v := 65) hx hb dX1_goPart_18 (by decide) ?_
    refine lv_isub hx hb dX1_goPart_20 ?_
    refine lv_topi (fun x27 ex27 => ?_)
    have tx27 : x27.toInt = r2.toInt - (65 : Int32).toInt := by rw [ex27]; exact Jvm.Kit.i32_sub (by omega) (by omega)
    refine tg_put (ci := 1) (k := 3) (σ' := up2 σ (i) 3 x27) hx hb hts hown hk hG hw tyX1 (en1 hi) rfl inlX1 tyX1_ok nmX1 (by decide) wd71 rfl rfl rfl (Nat.le_of_ble_eq_true rfl) (pu1_3 hi) (fun _ h => up2_ne h) dX1_goPart_21 (fun H locs hw => ?_)
    obtain ⟨σ28, eσ28⟩ : ∃ z, z = up2 σ (i) 3 x27 := ⟨_, rfl⟩
    rw [← eσ28] at hw
    have hI : K0 σ σ28 := by rw [eσ28]; exact hI.up (tr1_3 hi) (rg_no (by rw [hi]; rfl))
    exact ret σ28 _ _ 24 _ (⟨hI, trivial⟩) hw dX1_goPart_24
set_option maxHeartbeats 4000000 in
set_option maxRecDepth 100000 in
theorem c_X1_goPartT (l : Launch) (G : Gg) (hG : Ginj G) (σ : Sg) (hI0 : Inv σ) (i : Nat) (hi : nk i = 1) (v : Int32) : MV l G yX1_goPart cX1_goPart 6 (rmO 3 75) σ [.ref (ad G (i)), .ref (ad G (1)), .int v, .ref (ad G (73))] (fun σ' => K0 σ σ' ∧ (True)) := by
  refine MV.of (by decide +kernel) (Nat.le_of_ble_eq_true rfl) ?_
  intro p e s m a below meth c ls Q hx hb hml hts hown hk hw ret hl
  have hown : s.vm.findClass RX1 = some m.cls := hown
  have hl : lv_has ls 6 [(0, .ref (ad G (i))), (1, .ref (ad G (1))), (2, .int v), (3, .ref (ad G (73)))] := hl
  have hI : K0 σ σ := K0.rf hI0
  have Lm1 : (-1 : Int32).toInt = -1 := by decide
  have L0 : (0 : Int32).toInt = 0 := by decide
  have L1 : (1 : Int32).toInt = 1 := by decide
  have L48 : (48 : Int32).toInt = 48 := by decide
  have L65 : (65 : Int32).toInt = 65 := by decide
  have L98 : (98 : Int32).toInt = 98 := by decide
  have L102 : (102 : Int32).toInt = 102 := by decide
  have L108 : (108 : Int32).toInt = 108 := by decide
  have L114 : (114 : Int32).toInt = 114 := by decide
  have L119 : (119 : Int32).toInt = 119 := by decide
  generalize hHe : s.heap = H at hw ⊢
  generalize hLe : ([] : List Loc) = locs at hw ⊢
  refine lv_aload_n hx hb dX1_goPart_0 rfl (lv_at hl 1 rfl) ?_
  refine lv_iload_n hx hb dX1_goPart_1 rfl (lv_at hl 2 rfl) ?_
  refine te_vi hw (ru_V (As := [.int v]) (rest := []) (C := RX4) hx hb hml hts hown hk hw (c_X4_signAt l G hG σ hI.1 v) (m4_in wd275 wd231 wd232 wd14) wd233 (en4 (rfl : nk 1 = 4)) rfl rfl rfl nm_yX4_signAt ⟨rfl, rfl⟩ ⟨by decide, by decide⟩ rfl hl.1 rfl (Nat.le_of_ble_eq_true rfl) dX1_goPart_2 ⟨Nat.zero_le _, Nat.zero_le _⟩) (fun r2 σ1 H locs hr2 hw => ?_)
  rw [hr2.1] at hw
  have hr2 := hr2.2
  refine lv_istore (lv' := [(4, .int r2), (0, .ref (ad G (i))), (1, .ref (ad G (1))), (2, .int v), (3, .ref (ad G (73)))]) hx hb dX1_goPart_5 hl (by decide) rfl (fun ls hl => ?_)
  refine lv_iload hx hb dX1_goPart_7 (lv_at hl 0 rfl) ?_
  refine te_vi hw (ru_S (As := [.int r2]) (rest := []) hx hb hml hts hown hk hw (c_X4_isLetter l G hG σ hI.1 r2) (m3_in wd276 wd235 wd14) wd236 nm_yX4_isLetter ⟨rfl, rfl⟩ ⟨by decide, by decide⟩ rfl hl.1 rfl (Nat.le_of_ble_eq_true rfl) dX1_goPart_9 ⟨Nat.zero_le _, Nat.zero_le _⟩) (fun r4 σ3 H locs hr4 hw => ?_)
  rw [hr4.1] at hw
  have hr4 := hr4.2
  refine lv_if_eq (tgt := 25) hx hb dX1_goPart_12 (by decide) (fun c12 => ?_) (fun c12 => ?_)
  · have c12i := congrArg Int32.toInt c12
    have p12 := bz0 hr4 c12
    refine lv_aload_n hx hb dX1_goPart_25 rfl (lv_at hl 1 rfl) ?_
    refine tg_get (ci := 1) (k := 3) (v := .int (σ (i) 3)) hx hb hts hown hk hw (en1 hi) rfl inlX1 (by decide) wd71 rfl dX1_goPart_26 ?_
    refine lv_topi (fun x5 ex5 => ?_)
    refine te_vi hw (ru_N (As := [.int x5]) (rest := []) hx hb hml hts hown hk hw (c_X10_isSower l G hG σ hI.1 x5) (m2_in wd126 wd2) (by decide +kernel) wd127 nm_yX10_isSower ⟨rfl, rfl⟩ ⟨by decide, by decide⟩ rfl hl.1 rfl (Nat.le_of_ble_eq_true rfl) dX1_goPart_29 ⟨Nat.zero_le _, Nat.zero_le _⟩) (fun r7 σ6 H locs hr7 hw => ?_)
    rw [hr7.1] at hw
    have hr7 := hr7.2
    refine lv_if_ne (tgt := 36) hx hb dX1_goPart_32 (by decide) (fun c32 => ?_) (fun c32 => ?_)
    · have c32i := mt Int32.toInt_inj.mp c32
      have p32 := bz1 hr7 c32
      refine lv_aload_n hx hb dX1_goPart_36 rfl (lv_at hl 1 rfl) ?_
      refine tg_get (ci := 1) (k := 0) (v := .ref (ad G (i + 1))) hx hb hts hown hk hw (en1 hi) rfl inlX1 (by decide) wd69 rfl dX1_goPart_37 ?_
      refine lv_aload_n hx hb dX1_goPart_40 rfl (lv_at hl 1 rfl) ?_
      refine tg_get (ci := 1) (k := 3) (v := .int (σ (i) 3)) hx hb hts hown hk hw (en1 hi) rfl inlX1 (by decide) wd71 rfl dX1_goPart_41 ?_
      refine lv_topi (fun x8 ex8 => ?_)
      have qx8 : x8.toInt = x5.toInt := by rw [ex8, ex5]
      have hv44 : vp_in x8 4 := vin ⟨by omega, by omega⟩
      refine tg_aald14 hx hb hk hw (en14 (kd1_1 hi)) hv44 dX1_goPart_44 ?_
      have vl44 := vcl hv44
      refine lv_astore (lv' := [(5, .ref (ad G (i + 1 + 2 + x8.toNatClampNeg))), (4, .int r2), (0, .ref (ad G (i))), (1, .ref (ad G (1))), (2, .int v), (3, .ref (ad G (73)))]) hx hb dX1_goPart_45 hl (by decide) rfl (fun ls hl => ?_)
      refine lv_iload hx hb dX1_goPart_47 (lv_at hl 1 rfl) ?_
      by_cases w49_98 : r2 = (98 : Int32)
      · have w49_98i : r2.toInt = 98 := by rw [w49_98]; decide
        refine lv_lookup (tgt := 156) hx hb dX1_goPart_49 (by decide) (by rw [w49_98i]) (by decide) ?_
        refine lv_aload_n hx hb dX1_goPart_156 rfl (lv_at hl 2 rfl) ?_
        refine lv_aload hx hb dX1_goPart_157 (lv_at hl 0 rfl) ?_
        refine te_vv hw (ru_V (As := [.ref (ad G (i + 1 + 2 + x8.toNatClampNeg))]) (rest := []) (C := RX1) hx hb hml hts hown hk hw (c_X1_turnToBell l G hG σ hI.1 i hi (i + 1 + 2 + x8.toNatClampNeg) (ke14 (kd1_1 hi) (vcl hv44))) (m4_in wd304 wd305 wd306 wd52) wd307 (en1 hi) rfl rfl rfl nm_yX1_turnToBell ⟨rfl, rfl⟩ ⟨by decide, by decide⟩ rfl hl.1 rfl (Nat.le_of_ble_eq_true rfl) dX1_goPart_159 ⟨Nat.zero_le _, Nat.zero_le _⟩) (fun σ9 H locs hr10 hw => ?_)
        have hI := hI.go hr10.1
        have hr10 := hr10.2
        refine lv_goto (tgt := 165) hx hb dX1_goPart_162 (by decide) ?_
        exact ret σ9 _ _ 165 _ (⟨hI, trivial⟩) hw dX1_goPart_165
      have w49_98i : ¬ r2.toInt = 98 := fun z => w49_98 (Int32.toInt_inj.mp (z.trans (by decide)))
      by_cases w49_102 : r2 = (102 : Int32)
      · have w49_102i : r2.toInt = 102 := by rw [w49_102]; decide
        refine lv_lookup (tgt := 100) hx hb dX1_goPart_49 (by decide) (by rw [w49_102i]) (by decide) ?_
        refine lv_aload hx hb dX1_goPart_100 (lv_at hl 0 rfl) ?_
        refine lv_aload_n hx hb dX1_goPart_102 rfl (lv_at hl 3 rfl) ?_
        refine lv_iload_n hx hb dX1_goPart_103 rfl (lv_at hl 4 rfl) ?_
        refine lv_iconst (v := 1) hx hb dX1_goPart_104 (by decide) ?_
        refine lv_iadd hx hb dX1_goPart_105 ?_
        refine lv_topi (fun x11 ex11 => ?_)
        refine te_vi hw (ru_V (As := [.int x11]) (rest := [.ref (ad G (i + 1 + 2 + x8.toNatClampNeg))]) (C := RX4) hx hb hml hts hown hk hw (c_X4_signAt l G hG σ hI.1 x11) (m4_in wd275 wd231 wd232 wd14) wd233 (en4 (rfl : nk 1 = 4)) rfl rfl rfl nm_yX4_signAt ⟨rfl, rfl⟩ ⟨by decide, by decide⟩ rfl hl.1 rfl (Nat.le_of_ble_eq_true rfl) dX1_goPart_106 ⟨Nat.zero_le _, Nat.zero_le _⟩) (fun r13 σ12 H locs hr13 hw => ?_)
        rw [hr13.1] at hw
        have hr13 := hr13.2
        refine lv_bipush (v := 48) hx hb dX1_goPart_109 (by decide) ?_
        refine lv_isub hx hb dX1_goPart_111 ?_
        refine lv_topi (fun x14 ex14 => ?_)
        refine lv_aload_n hx hb dX1_goPart_112 rfl (lv_at hl 5 rfl) ?_
        refine te_vv hw (ru_V (As := [.int x14, .ref (ad G (73))]) (rest := []) (C := RX6) hx hb hml hts hown hk hw (c_X6_walkT l G hG σ hI.1 (i + 1 + 2 + x8.toNatClampNeg) (ke14 (kd1_1 hi) (vcl hv44)) x14) (m4_in wd277 wd278 wd279 wd73) wd280 (en5 (ke14 (kd1_1 hi) (vcl hv44))) rfl rfl rfl nm_yX6_walk ⟨rfl, rfl⟩ ⟨by decide, by decide⟩ rfl hl.1 rfl (Nat.le_of_ble_eq_true rfl) dX1_goPart_113 ⟨Nat.zero_le _, Nat.zero_le _⟩) (fun σ15 H locs hr16 hw => ?_)
        have hI := hI.go hr16.1
        have hr16 := hr16.2
        refine lv_goto (tgt := 165) hx hb dX1_goPart_116 (by decide) ?_
        exact ret σ15 _ _ 165 _ (⟨hI, trivial⟩) hw dX1_goPart_165
      have w49_102i : ¬ r2.toInt = 102 := fun z => w49_102 (Int32.toInt_inj.mp (z.trans (by decide)))
      by_cases w49_108 : r2 = (108 : Int32)
      · have w49_108i : r2.toInt = 108 := by rw [w49_108]; decide
        refine lv_lookup (tgt := 147) hx hb dX1_goPart_49 (by decide) (by rw [w49_108i]) (by decide) ?_
        refine lv_aload hx hb dX1_goPart_147 (lv_at hl 0 rfl) ?_
        refine lv_iconst (v := -1) hx hb dX1_goPart_149 (by decide) ?_
        refine te_vv hw (ru_V (As := [.int (-1 : Int32)]) (rest := []) (C := RX6) hx hb hml hts hown hk hw (c_X6_turn l G hG σ hI.1 (i + 1 + 2 + x8.toNatClampNeg) (ke14 (kd1_1 hi) (vcl hv44)) (-1 : Int32)) (m4_in wd296 wd297 wd298 wd73) wd299 (en5 (ke14 (kd1_1 hi) (vcl hv44))) rfl rfl rfl nm_yX6_turn ⟨rfl, rfl⟩ ⟨by decide, by decide⟩ rfl hl.1 rfl (Nat.le_of_ble_eq_true rfl) dX1_goPart_150 ⟨Nat.zero_le _, Nat.zero_le _⟩) (fun σ17 H locs hr18 hw => ?_)
        have hI := hI.go hr18.1
        have hr18 := hr18.2
        refine lv_goto (tgt := 165) hx hb dX1_goPart_153 (by decide) ?_
        exact ret σ17 _ _ 165 _ (⟨hI, trivial⟩) hw dX1_goPart_165
      have w49_108i : ¬ r2.toInt = 108 := fun z => w49_108 (Int32.toInt_inj.mp (z.trans (by decide)))
      by_cases w49_114 : r2 = (114 : Int32)
      · have w49_114i : r2.toInt = 114 := by rw [w49_114]; decide
        refine lv_lookup (tgt := 138) hx hb dX1_goPart_49 (by decide) (by rw [w49_114i]) (by decide) ?_
        refine lv_aload hx hb dX1_goPart_138 (lv_at hl 0 rfl) ?_
        refine lv_iconst (v := 1) hx hb dX1_goPart_140 (by decide) ?_
        refine te_vv hw (ru_V (As := [.int (1 : Int32)]) (rest := []) (C := RX6) hx hb hml hts hown hk hw (c_X6_turn l G hG σ hI.1 (i + 1 + 2 + x8.toNatClampNeg) (ke14 (kd1_1 hi) (vcl hv44)) (1 : Int32)) (m4_in wd296 wd297 wd298 wd73) wd299 (en5 (ke14 (kd1_1 hi) (vcl hv44))) rfl rfl rfl nm_yX6_turn ⟨rfl, rfl⟩ ⟨by decide, by decide⟩ rfl hl.1 rfl (Nat.le_of_ble_eq_true rfl) dX1_goPart_141 ⟨Nat.zero_le _, Nat.zero_le _⟩) (fun σ19 H locs hr20 hw => ?_)
        have hI := hI.go hr20.1
        have hr20 := hr20.2
        refine lv_goto (tgt := 165) hx hb dX1_goPart_144 (by decide) ?_
        exact ret σ19 _ _ 165 _ (⟨hI, trivial⟩) hw dX1_goPart_165
      have w49_114i : ¬ r2.toInt = 114 := fun z => w49_114 (Int32.toInt_inj.mp (z.trans (by decide)))
      by_cases w49_119 : r2 = (119 : Int32)
      · have w49_119i : r2.toInt = 119 := by rw [w49_119]; decide
        refine lv_lookup (tgt := 119) hx hb dX1_goPart_49 (by decide) (by rw [w49_119i]) (by decide) ?_
        refine lv_aload hx hb dX1_goPart_119 (lv_at hl 0 rfl) ?_
        refine lv_aload_n hx hb dX1_goPart_121 rfl (lv_at hl 3 rfl) ?_
        refine lv_iload_n hx hb dX1_goPart_122 rfl (lv_at hl 4 rfl) ?_
        refine lv_iconst (v := 1) hx hb dX1_goPart_123 (by decide) ?_
        refine lv_iadd hx hb dX1_goPart_124 ?_
        refine lv_topi (fun x21 ex21 => ?_)
        refine te_vi hw (ru_V (As := [.int x21]) (rest := [.ref (ad G (i + 1 + 2 + x8.toNatClampNeg))]) (C := RX4) hx hb hml hts hown hk hw (c_X4_signAt l G hG σ hI.1 x21) (m4_in wd275 wd231 wd232 wd14) wd233 (en4 (rfl : nk 1 = 4)) rfl rfl rfl nm_yX4_signAt ⟨rfl, rfl⟩ ⟨by decide, by decide⟩ rfl hl.1 rfl (Nat.le_of_ble_eq_true rfl) dX1_goPart_125 ⟨Nat.zero_le _, Nat.zero_le _⟩) (fun r23 σ22 H locs hr23 hw => ?_)
        rw [hr23.1] at hw
        have hr23 := hr23.2
        refine lv_bipush (v := 48) hx hb dX1_goPart_128 (by decide) ?_
        refine lv_isub hx hb dX1_goPart_130 ?_
        refine lv_topi (fun x24 ex24 => ?_)
        refine lv_null hx hb dX1_goPart_131 ?_
        refine te_vv hw (ru_V (As := [.int x24, .null]) (rest := []) (C := RX6) hx hb hml hts hown hk hw (c_X6_walkN l G hG σ hI.1 (i + 1 + 2 + x8.toNatClampNeg) (ke14 (kd1_1 hi) (vcl hv44)) x24) (m4_in wd277 wd278 wd279 wd73) wd280 (en5 (ke14 (kd1_1 hi) (vcl hv44))) rfl rfl rfl nm_yX6_walk ⟨rfl, rfl⟩ ⟨by decide, by decide⟩ rfl hl.1 rfl (Nat.le_of_ble_eq_true rfl) dX1_goPart_132 ⟨Nat.zero_le _, Nat.zero_le _⟩) (fun σ25 H locs hr26 hw => ?_)
        have hI := hI.go hr26.1
        have hr26 := hr26.2
        refine lv_goto (tgt := 165) hx hb dX1_goPart_135 (by decide) ?_
        exact ret σ25 _ _ 165 _ (⟨hI, trivial⟩) hw dX1_goPart_165
      have w49_119i : ¬ r2.toInt = 119 := fun z => w49_119 (Int32.toInt_inj.mp (z.trans (by decide)))
      refine lv_lookup (tgt := 165) hx hb dX1_goPart_49 (by decide) (lk_out (by simp; omega)) (by decide) ?_
      exact ret σ _ _ 165 _ (⟨hI, trivial⟩) hw dX1_goPart_165
    · have c32i := congrArg Int32.toInt c32
      have p32 := bz0 hr7 c32
      exact ret σ _ _ 35 _ (⟨hI, trivial⟩) hw dX1_goPart_35
  · have c12i := mt Int32.toInt_inj.mp c12
    have p12 := bz1 hr4 c12
    refine lv_aload_n hx hb dX1_goPart_15 rfl (lv_at hl 1 rfl) ?_
    refine lv_iload hx hb dX1_goPart_16 (lv_at hl 0 rfl) ?_
    refine lv_bipush (v := 65) hx hb dX1_goPart_18 (by decide) ?_
    refine lv_isub hx hb dX1_goPart_20 ?_
    refine lv_topi (fun x27 ex27 => ?_)
    have tx27 : x27.toInt = r2.toInt - (65 : Int32).toInt := by rw [ex27]; exact Jvm.Kit.i32_sub (by omega) (by omega)
    refine tg_put (ci := 1) (k := 3) (σ' := up2 σ (i) 3 x27) hx hb hts hown hk hG hw tyX1 (en1 hi) rfl inlX1 tyX1_ok nmX1 (by decide) wd71 rfl rfl rfl (Nat.le_of_ble_eq_true rfl) (pu1_3 hi) (fun _ h => up2_ne h) dX1_goPart_21 (fun H locs hw => ?_)
    obtain ⟨σ28, eσ28⟩ : ∃ z, z = up2 σ (i) 3 x27 := ⟨_, rfl⟩
    rw [← eσ28] at hw
    have hI : K0 σ σ28 := by rw [eσ28]; exact hI.up (tr1_3 hi) (rg_no (by rw [hi]; rfl))
    exact ret σ28 _ _ 24 _ (⟨hI, trivial⟩) hw dX1_goPart_24
set_option maxHeartbeats 4000000 in
set_option maxRecDepth 100000 in
theorem c_X1_goThrough (l : Launch) (G : Gg) (hG : Ginj G) (σ : Sg) (hI0 : Inv σ) (i : Nat) (hi : nk i = 1) (j : Nat) (hj : nk j = 2) : MI l G yX1_goThrough cX1_goThrough 5 .int (rmO 4 100) σ [.ref (ad G (i)), .ref (ad G (1)), .ref (ad G (j))] (fun r σ' => K0 σ σ' ∧ (True)) := by
  refine MI.of (by decide +kernel) (Nat.le_of_ble_eq_true rfl) ?_
  intro p e s m a below meth c ls Q hx hb hml hts hown hk hw ret hl
  have hown : s.vm.findClass RX1 = some m.cls := hown
  have hl : lv_has ls 5 [(0, .ref (ad G (i))), (1, .ref (ad G (1))), (2, .ref (ad G (j)))] := hl
  have hI : K0 σ σ := K0.rf hI0
  have Lm6 : (-6 : Int32).toInt = -6 := by decide
  have L0 : (0 : Int32).toInt = 0 := by decide
  have L1 : (1 : Int32).toInt = 1 := by decide
  generalize hHe : s.heap = H at hw ⊢
  generalize hLe : ([] : List Loc) = locs at hw ⊢
  refine lv_iconst (v := 0) hx hb dX1_goThrough_0 (by decide) ?_
  refine lv_istore_n (lv' := [(3, .int (0 : Int32)), (0, .ref (ad G (i))), (1, .ref (ad G (1))), (2, .ref (ad G (j)))]) hx hb dX1_goThrough_1 rfl hl (by decide) rfl (fun ls hl => ?_)
  refine lv_aload_n hx hb dX1_goThrough_2 rfl (lv_at hl 1 rfl) ?_
  refine lv_bipush (v := -6) hx hb dX1_goThrough_3 (by decide) ?_
  refine tg_put (ci := 1) (k := 3) (σ' := up2 σ (i) 3 (-6 : Int32)) hx hb hts hown hk hG hw tyX1 (en1 hi) rfl inlX1 tyX1_ok nmX1 (by decide) wd71 rfl rfl rfl (Nat.le_of_ble_eq_true rfl) (pu1_3 hi) (fun _ h => up2_ne h) dX1_goThrough_5 (fun H locs hw => ?_)
  obtain ⟨σ1, eσ1⟩ : ∃ z, z = up2 σ (i) 3 (-6 : Int32) := ⟨_, rfl⟩
  rw [← eσ1] at hw
  have hI : K0 σ σ1 := by rw [eσ1]; exact hI.up (tr1_3 hi) (rg_no (by rw [hi]; rfl))
  refine lv_iconst (v := 0) hx hb dX1_goThrough_8 (by decide) ?_
  refine lv_istore (lv' := [(4, .int (0 : Int32)), (3, .int (0 : Int32)), (0, .ref (ad G (i))), (1, .ref (ad G (1))), (2, .ref (ad G (j)))]) hx hb dX1_goThrough_9 hl (by decide) rfl (fun ls hl => ?_)
  have cut11 : ∀ (n : Nat) (z3_11 : Int32) (z4_11 : Int32) (σc11 : Sg) (H : Heap) (locs : List Loc) (ls : Array Slot), (0 ≤ z4_11.toInt ∧ z4_11.toInt ≤ 40) → K0 σ σc11 → ((40 - z4_11.toInt).toNat : Int) < (n : Int) → Wo G σc11 s H locs → lv_has ls 5 [(0, .ref (ad G (i))), (1, .ref (ad G (1))), (2, .ref (ad G (j))), (3, .int z3_11), (4, .int z4_11)] → W p l e (rmO 4 100) s m a below meth c H locs 0 0 Q (F0 m 11 ls []) := by
    intro n11
    induction n11 with
    | zero =>
      intro z3_11 z4_11 σc11 H locs ls f11_0 hI hm11 hw hl
      exfalso; omega
    | succ n11 ih11 =>
      intro z3_11 z4_11 σc11 H locs ls f11_0 hI hm11 hw hl
      refine lv_iload hx hb dX1_goThrough_11 (lv_at hl 4 rfl) ?_
      refine lv_aload_n hx hb dX1_goThrough_13 rfl (lv_at hl 1 rfl) ?_
      refine tg_get (ci := 4) (k := 1) (v := .int (σc11 (1) 1)) hx hb hts hown hk hw (en4 (rfl : nk 1 = 4)) rfl inlX4 (by decide) wd266 rfl dX1_goThrough_14 ?_
      refine lv_topi (fun x2 ex2 => ?_)
      have bx2 : 0 ≤ x2.toInt ∧ x2.toInt ≤ 40 := by rw [ex2]; exact hI.1 _ _ _ _ (by rw [(rfl : nk 1 = 4)]; rfl)
      have ux2 : x2.toInt = (σc11 (1) 1).toInt := by rw [ex2]
      refine lv_icmp_ge (tgt := 46) hx hb dX1_goThrough_17 (by decide) (fun c17 => ?_) (fun c17 => ?_)
      · have c17i := Int32.le_iff_toInt_le.mp c17
        refine lv_iload_n hx hb dX1_goThrough_46 rfl (lv_at hl 3 rfl) ?_
        exact ret z3_11 σc11 _ _ 47 _ (rfl) (⟨hI, trivial⟩) hw dX1_goThrough_47
      · have c17i := mt Int32.le_iff_toInt_le.mpr c17
        refine lv_aload_n hx hb dX1_goThrough_20 rfl (lv_at hl 1 rfl) ?_
        refine lv_iload hx hb dX1_goThrough_21 (lv_at hl 4 rfl) ?_
        refine te_vi hw (ru_V (As := [.int z4_11]) (rest := []) (C := RX4) hx hb hml hts hown hk hw (c_X4_startsPart l G hG σc11 hI.1 z4_11) (m4_in wd267 wd268 wd269 wd14) wd270 (en4 (rfl : nk 1 = 4)) rfl rfl rfl nm_yX4_startsPart ⟨rfl, rfl⟩ ⟨by decide, by decide⟩ rfl hl.1 rfl (Nat.le_of_ble_eq_true rfl) dX1_goThrough_23 ⟨Nat.zero_le _, Nat.zero_le _⟩) (fun r4 σ3 H locs hr4 hw => ?_)
        rw [hr4.1] at hw
        have hr4 := hr4.2
        refine lv_if_eq (tgt := 40) hx hb dX1_goThrough_26 (by decide) (fun c26 => ?_) (fun c26 => ?_)
        · have c26i := congrArg Int32.toInt c26
          obtain ⟨x5, ex5⟩ : ∃ z : Int32, z = z4_11 + (1 : Int32) := ⟨_, rfl⟩
          refine lv_iinc (v := x5) (lv' := [(4, .int x5), (0, .ref (ad G (i))), (1, .ref (ad G (1))), (2, .ref (ad G (j))), (3, .int z3_11)]) hx hb dX1_goThrough_40 hl (k := 4) rfl (by rw [ex5]; rfl) (by decide) rfl (fun ls hl => ?_)
          have tx5 : x5.toInt = z4_11.toInt + 1 := by rw [ex5, Jvm.Kit.i32_add (by omega) (by omega)]; omega
          refine lv_goto (tgt := 11) hx hb dX1_goThrough_43 (by decide) ?_
          exact ih11 z3_11 x5 σc11 _ _ _ (by omega) hI (by omega) hw (lv_sub hl [1, 2, 3, 4, 0] rfl)
        · have c26i := mt Int32.toInt_inj.mp c26
          refine lv_aload_n hx hb dX1_goThrough_29 rfl (lv_at hl 0 rfl) ?_
          refine lv_aload_n hx hb dX1_goThrough_30 rfl (lv_at hl 1 rfl) ?_
          refine lv_iload hx hb dX1_goThrough_31 (lv_at hl 4 rfl) ?_
          refine lv_aload_n hx hb dX1_goThrough_33 rfl (lv_at hl 2 rfl) ?_
          refine te_vv hw (ru_V (As := [.ref (ad G (1)), .int z4_11, .ref (ad G (j))]) (rest := []) (C := RX1) hx hb hml hts hown hk hw (c_X1_goPartF l G hG σc11 hI.1 i hi z4_11 j hj) (m4_in wd271 wd272 wd273 wd52) wd274 (en1 hi) rfl rfl rfl nm_yX1_goPart ⟨rfl, rfl⟩ ⟨by decide, by decide⟩ rfl hl.1 rfl (Nat.le_of_ble_eq_true rfl) dX1_goThrough_34 ⟨Nat.zero_le _, Nat.zero_le _⟩) (fun σ6 H locs hr7 hw => ?_)
          have hI := hI.go hr7.1
          have hr7 := hr7.2
          obtain ⟨x8, ex8⟩ : ∃ z : Int32, z = z3_11 + (1 : Int32) := ⟨_, rfl⟩
          refine lv_iinc (v := x8) (lv' := [(3, .int x8), (0, .ref (ad G (i))), (1, .ref (ad G (1))), (2, .ref (ad G (j))), (4, .int z4_11)]) hx hb dX1_goThrough_37 hl (k := 3) rfl (by rw [ex8]; rfl) (by decide) rfl (fun ls hl => ?_)
          obtain ⟨x9, ex9⟩ : ∃ z : Int32, z = z4_11 + (1 : Int32) := ⟨_, rfl⟩
          refine lv_iinc (v := x9) (lv' := [(4, .int x9), (3, .int x8), (0, .ref (ad G (i))), (1, .ref (ad G (1))), (2, .ref (ad G (j)))]) hx hb dX1_goThrough_40 hl (k := 4) rfl (by rw [ex9]; rfl) (by decide) rfl (fun ls hl => ?_)
          have tx9 : x9.toInt = z4_11.toInt + 1 := by rw [ex9, Jvm.Kit.i32_add (by omega) (by omega)]; omega
          refine lv_goto (tgt := 11) hx hb dX1_goThrough_43 (by decide) ?_
          exact ih11 x8 x9 σ6 _ _ _ (by omega) hI (by omega) hw (lv_sub hl [2, 3, 4, 1, 0] rfl)
  exact cut11 ((((40 - (0 : Int32).toInt).toNat : Int)).toNat + 1) (0 : Int32) (0 : Int32) σ1 _ _ _ (by omega) hI (by omega) hw (lv_sub hl [2, 3, 4, 1, 0] rfl)
