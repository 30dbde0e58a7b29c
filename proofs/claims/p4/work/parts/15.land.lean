set_option maxHeartbeats 4000000 in
set_option maxRecDepth 100000 in
theorem c_X3_copyFrom (l : Launch) (G : Gg) (hG : Ginj G) (σ : Sg) (hI0 : Inv σ) (i : Nat) (hi : nk i = 3) (j : Nat) (hj : nk j = 3) (hd : i + 12 ≤ j ∨ j + 12 ≤ i) : MV l G yX3_copyFrom cX3_copyFrom 2 (rmO 3 81) σ [.ref (ad G (i)), .ref (ad G (j))] (fun σ' => Inv σ' ∧ (∀ a, ¬ (i ≤ a ∧ a ≤ i + 11) → σ' a = σ a) ∧ (σ' (i + 3) = va_cpy (σ (j + 3)) (σ (i + 3)) 0 0 64 ∧ σ' (i + 6) = va_cpy (σ (j + 6)) (σ (i + 6)) 0 0 4 ∧ σ' (i + 4) 2 = σ (j + 4) 2 ∧ σ' (i + 11) = va_cpy (σ (j + 11)) (σ (i + 11)) 0 0 4)) := by
  refine MV.of (by decide +kernel) (Nat.le_of_ble_eq_true rfl) ?_
  intro p e s m a below meth c ls Q hx hb hml hts hown hk hw ret hl
  have hown : s.vm.findClass RX3 = some m.cls := hown
  have hl : lv_has ls 2 [(0, .ref (ad G (i))), (1, .ref (ad G (j)))] := hl
  have hI : K0 σ σ := K0.rf hI0
  have L0 : (0 : Int32).toInt = 0 := by decide
  have L4 : (4 : Int32).toInt = 4 := by decide
  generalize hHe : s.heap = H at hw ⊢
  generalize hLe : ([] : List Loc) = locs at hw ⊢
  have hFr : ∀ a, ¬ (i ≤ a ∧ a ≤ i + 11) → σ a = σ a := fun _ _ => rfl
  refine lv_aload_n hx hb dX3_copyFrom_0 rfl (lv_at hl 0 rfl) ?_
  refine tg_get (ci := 3) (k := 0) (v := .ref (ad G (i + 1))) hx hb hts hown hk hw (en3 hi) rfl inlX3 (by decide) wd49 rfl dX3_copyFrom_1 ?_
  refine lv_aload_n hx hb dX3_copyFrom_4 rfl (lv_at hl 1 rfl) ?_
  refine tg_get (ci := 3) (k := 0) (v := .ref (ad G (j + 1))) hx hb hts hown hk hw (en3 hj) rfl inlX3 (by decide) wd49 rfl dX3_copyFrom_5 ?_
  refine te_vv hw (ru_V (As := [.ref (ad G (j + 1))]) (rest := []) (C := RX2) hx hb hml hts hown hk hw (c_X2_copyFrom l G hG σ hI.1 (i + 1) (kd3_1 hi) (j + 1) (kd3_1 hj)) (m4_in wd447 wd448 wd449 wd48) wd450 (en2 (kd3_1 hi)) rfl rfl rfl nm_yX2_copyFrom ⟨rfl, rfl⟩ ⟨by decide, by decide⟩ rfl hl.1 rfl (Nat.le_of_ble_eq_true rfl) dX3_copyFrom_8 ⟨Nat.zero_le _, Nat.zero_le _⟩) (fun σ1 H locs hr2 hw => ?_)
  have hI : K0 σ1 σ1 := K0.rf hr2.1
  have hFr : ∀ a, ¬ (i ≤ a ∧ a ≤ i + 11) → σ1 a = σ a := fun a ha => (hr2.2.1 a (by omega)).trans (hFr a ha)
  have ghr2 := hr2.2.1
  have hr2 := hr2.2.2
  have fF := hr2
  have qj6 := ghr2 (j + 6) (by omega)
  have qi6 := ghr2 (i + 6) (by omega)
  have qj4 := ghr2 (j + 4) (by omega)
  have qj11 := ghr2 (j + 11) (by omega)
  have qi11 := ghr2 (i + 11) (by omega)
  refine lv_aload_n hx hb dX3_copyFrom_11 rfl (lv_at hl 0 rfl) ?_
  refine tg_get (ci := 3) (k := 1) (v := .ref (ad G (i + 4))) hx hb hts hown hk hw (en3 hi) rfl inlX3 (by decide) wd53 rfl dX3_copyFrom_12 ?_
  refine lv_aload_n hx hb dX3_copyFrom_15 rfl (lv_at hl 1 rfl) ?_
  refine tg_get (ci := 3) (k := 1) (v := .ref (ad G (j + 4))) hx hb hts hown hk hw (en3 hj) rfl inlX3 (by decide) wd53 rfl dX3_copyFrom_16 ?_
  refine te_vv hw (ru_V (As := [.ref (ad G (j + 4))]) (rest := []) (C := RX1) hx hb hml hts hown hk hw (c_X1_copyFrom l G hG σ1 hI.1 (i + 4) (kd3_4 hi) (j + 4) (kd3_4 hj)) (m4_in wd452 wd453 wd454 wd52) wd455 (en1 (kd3_4 hi)) rfl rfl rfl nm_yX1_copyFrom ⟨rfl, rfl⟩ ⟨by decide, by decide⟩ rfl hl.1 rfl (Nat.le_of_ble_eq_true rfl) dX3_copyFrom_19 ⟨Nat.zero_le _, Nat.zero_le _⟩) (fun σ3 H locs hr4 hw => ?_)
  have hI : K0 σ3 σ3 := K0.rf hr4.1
  have hFr : ∀ a, ¬ (i ≤ a ∧ a ≤ i + 11) → σ3 a = σ a := fun a ha => (hr4.2.1 a (by omega)).trans (hFr a ha)
  have ghr4 := hr4.2.1
  have hr4 := hr4.2.2
  have gC := ghr4
  have fC := hr4
  refine lv_aload_n hx hb dX3_copyFrom_22 rfl (lv_at hl 1 rfl) ?_
  refine tg_get (ci := 3) (k := 2) (v := .ref (ad G (j + 11))) hx hb hts hown hk hw (en3 hj) rfl inlX3 (by decide) wd54 rfl dX3_copyFrom_23 ?_
  refine lv_iconst (v := 0) hx hb dX3_copyFrom_26 (by decide) ?_
  refine lv_aload_n hx hb dX3_copyFrom_27 rfl (lv_at hl 0 rfl) ?_
  refine tg_get (ci := 3) (k := 2) (v := .ref (ad G (i + 11))) hx hb hts hown hk hw (en3 hi) rfl inlX3 (by decide) wd54 rfl dX3_copyFrom_28 ?_
  refine lv_iconst (v := 0) hx hb dX3_copyFrom_31 (by decide) ?_
  refine lv_iconst (v := 4) hx hb dX3_copyFrom_32 (by decide) ?_
  refine tg_cpy hx hb (hml.trans hl.1.symm) hts hown hk hG hw (m4_in wd443 wd444 wd445 wd446) (en104 (kd3_11 hj)) (ea104 (kd3_11 hi)) (by decide) (by decide) (by decide) (Nat.le_of_ble_eq_true rfl) dX3_copyFrom_33 (fun H locs hw => ?_)
  obtain ⟨σ5, eσ5⟩ : ∃ z, z = upr σ3 (i + 11) (va_cpy (σ3 (j + 11)) (σ3 (i + 11)) 0 0 4) := ⟨_, rfl⟩
  rw [← eσ5] at hw
  have hFr : ∀ a, ¬ (i ≤ a ∧ a ≤ i + 11) → σ5 a = σ a := fun a ha => (show σ5 a = σ3 a by rw [eσ5, upr_ne (by omega)]).trans (hFr a ha)
  have hI : K0 σ5 σ5 := by rw [eσ5]; exact K0.rf (Inv_cpy hI.1 (kd3_11 hi) (fun k => rfl))
  have eC := eσ5
  exact ret σ5 _ _ 36 _ (⟨hI.1, hFr, ⟨by rw [eC, upr_ne (by omega), gC _ (by omega)]; exact fF, by have z1 := congr (congrArg (fun f g => va_cpy f g 0 0 4) qj6) qi6; rw [eC, upr_ne (by omega)]; exact fC.1.trans z1, by rw [eC, upr_ne (by omega)]; exact fC.2.trans (congrFun qj4 2), by have z2 := congr (congrArg (fun f g => va_cpy f g 0 0 4) ((gC (j + 11) (by omega)).trans qj11)) ((gC (i + 11) (by omega)).trans qi11); rw [eC, upr_at]; exact z2⟩⟩) hw dX3_copyFrom_36
set_option maxHeartbeats 4000000 in
set_option maxRecDepth 100000 in
theorem c_X3_harvest (l : Launch) (G : Gg) (hG : Ginj G) (σ : Sg) (hI0 : Inv σ) (i : Nat) (hi : nk i = 3) : MI l G yX3_harvest cX3_harvest 3 .int (rmO 2 48) σ [.ref (ad G (i))] (fun r σ' => σ' = σ ∧ (True)) := by
  refine MI.of (by decide +kernel) (Nat.le_of_ble_eq_true rfl) ?_
  intro p e s m a below meth c ls Q hx hb hml hts hown hk hw ret hl
  have hown : s.vm.findClass RX3 = some m.cls := hown
  have hl : lv_has ls 3 [(0, .ref (ad G (i)))] := hl
  have hI : K0 σ σ := K0.rf hI0
  have Lm1 : (-1 : Int32).toInt = -1 := by decide
  have L0 : (0 : Int32).toInt = 0 := by decide
  have L1 : (1 : Int32).toInt = 1 := by decide
  have L4 : (4 : Int32).toInt = 4 := by decide
  generalize hHe : s.heap = H at hw ⊢
  generalize hLe : ([] : List Loc) = locs at hw ⊢
  refine lv_iconst (v := 0) hx hb dX3_harvest_0 (by decide) ?_
  refine lv_istore_n (lv' := [(1, .int (0 : Int32)), (0, .ref (ad G (i)))]) hx hb dX3_harvest_1 rfl hl (by decide) rfl (fun ls hl => ?_)
  refine lv_iconst (v := 0) hx hb dX3_harvest_2 (by decide) ?_
  refine lv_istore_n (lv' := [(2, .int (0 : Int32)), (1, .int (0 : Int32)), (0, .ref (ad G (i)))]) hx hb dX3_harvest_3 rfl hl (by decide) rfl (fun ls hl => ?_)
  have cut4 : ∀ (n : Nat) (z1_4 : Int32) (z2_4 : Int32) (H : Heap) (locs : List Loc) (ls : Array Slot), (0 ≤ z2_4.toInt ∧ z2_4.toInt ≤ 4) → ((4 - z2_4.toInt).toNat : Int) < (n : Int) → Wo G σ s H locs → lv_has ls 3 [(0, .ref (ad G (i))), (1, .int z1_4), (2, .int z2_4)] → W p l e (rmO 2 48) s m a below meth c H locs 0 0 Q (F0 m 4 ls []) := by
    intro n4
    induction n4 with
    | zero =>
      intro z1_4 z2_4 H locs ls f4_0 hm4 hw hl
      exfalso; omega
    | succ n4 ih4 =>
      intro z1_4 z2_4 H locs ls f4_0 hm4 hw hl
      refine lv_iload_n hx hb dX3_harvest_4 rfl (lv_at hl 2 rfl) ?_
      refine lv_iconst (v := 4) hx hb dX3_harvest_5 (by decide) ?_
      refine lv_icmp_ge (tgt := 34) hx hb dX3_harvest_6 (by decide) (fun c6 => ?_) (fun c6 => ?_)
      · have c6i := Int32.le_iff_toInt_le.mp c6
        refine lv_iload_n hx hb dX3_harvest_34 rfl (lv_at hl 1 rfl) ?_
        exact ret z1_4 σ _ _ 35 _ (rfl) (⟨rfl, trivial⟩) hw dX3_harvest_35
      · have c6i := mt Int32.le_iff_toInt_le.mpr c6
        refine lv_iload_n hx hb dX3_harvest_9 rfl (lv_at hl 1 rfl) ?_
        refine lv_aload_n hx hb dX3_harvest_10 rfl (lv_at hl 0 rfl) ?_
        refine tg_get (ci := 3) (k := 2) (v := .ref (ad G (i + 11))) hx hb hts hown hk hw (en3 hi) rfl inlX3 (by decide) wd54 rfl dX3_harvest_11 ?_
        refine lv_iload_n hx hb dX3_harvest_14 rfl (lv_at hl 2 rfl) ?_
        have hv15 : vp_in z2_4 4 := vin ⟨by omega, by omega⟩
        refine tg_iald hx hb hk hw (en104 (kd3_11 hi)) hv15 dX3_harvest_15 ?_
        refine lv_topi (fun x1 ex1 => ?_)
        refine lv_aload_n hx hb dX3_harvest_16 rfl (lv_at hl 0 rfl) ?_
        refine tg_get (ci := 3) (k := 0) (v := .ref (ad G (i + 1))) hx hb hts hown hk hw (en3 hi) rfl inlX3 (by decide) wd49 rfl dX3_harvest_17 ?_
        refine lv_iconst (v := -1) hx hb dX3_harvest_20 (by decide) ?_
        refine lv_iload_n hx hb dX3_harvest_21 rfl (lv_at hl 2 rfl) ?_
        refine te_vi hw (ru_V (As := [.int (-1 : Int32), .int z2_4]) (rest := [.int x1, .int z1_4]) (C := RX2) hx hb hml hts hown hk hw (c_X2_grainsBeyond l G hG σ hI.1 (i + 1) (kd3_1 hi) (-1 : Int32) z2_4 (by omega)) (m4_in wd693 wd660 wd661 wd48) wd662 (en2 (kd3_1 hi)) rfl rfl rfl nm_yX2_grainsBeyond ⟨rfl, rfl⟩ ⟨by decide, by decide⟩ rfl hl.1 rfl (Nat.le_of_ble_eq_true rfl) dX3_harvest_22 ⟨Nat.zero_le _, Nat.zero_le _⟩) (fun r3 σ2 H locs hr3 hw => ?_)
        rw [hr3.1] at hw
        have hr3 := hr3.2
        refine lv_imul hx hb dX3_harvest_25 ?_
        refine lv_topi (fun x4 ex4 => ?_)
        refine lv_iadd hx hb dX3_harvest_26 ?_
        refine lv_topi (fun x5 ex5 => ?_)
        refine lv_istore_n (lv' := [(1, .int x5), (0, .ref (ad G (i))), (2, .int z2_4)]) hx hb dX3_harvest_27 rfl hl (by decide) rfl (fun ls hl => ?_)
        obtain ⟨x6, ex6⟩ : ∃ z : Int32, z = z2_4 + (1 : Int32) := ⟨_, rfl⟩
        refine lv_iinc (v := x6) (lv' := [(2, .int x6), (1, .int x5), (0, .ref (ad G (i)))]) hx hb dX3_harvest_28 hl (k := 2) rfl (by rw [ex6]; rfl) (by decide) rfl (fun ls hl => ?_)
        have tx6 : x6.toInt = z2_4.toInt + 1 := by rw [ex6, Jvm.Kit.i32_add (by omega) (by omega)]; omega
        refine lv_goto (tgt := 4) hx hb dX3_harvest_31 (by decide) ?_
        exact ih4 x5 x6 _ _ _ (by omega) (by omega) hw (lv_sub hl [2, 1, 0] rfl)
  exact cut4 ((((4 - (0 : Int32).toInt).toNat : Int)).toNat + 1) (0 : Int32) (0 : Int32) _ _ _ (by omega) (by omega) hw (lv_sub hl [2, 1, 0] rfl)
set_option maxHeartbeats 4000000 in
set_option maxRecDepth 100000 in
theorem c_X3_allSteps (l : Launch) (G : Gg) (hG : Ginj G) (σ : Sg) (hI0 : Inv σ) (i : Nat) (hi : nk i = 3) : MI l G yX3_allSteps cX3_allSteps 3 .int (rmO 0 0) σ [.ref (ad G (i))] (fun r σ' => σ' = σ ∧ (True)) := by
  refine MI.of (by decide +kernel) (Nat.le_of_ble_eq_true rfl) ?_
  intro p e s m a below meth c ls Q hx hb hml hts hown hk hw ret hl
  have hown : s.vm.findClass RX3 = some m.cls := hown
  have hl : lv_has ls 3 [(0, .ref (ad G (i)))] := hl
  have hI : K0 σ σ := K0.rf hI0
  have L0 : (0 : Int32).toInt = 0 := by decide
  have L1 : (1 : Int32).toInt = 1 := by decide
  have L4 : (4 : Int32).toInt = 4 := by decide
  generalize hHe : s.heap = H at hw ⊢
  generalize hLe : ([] : List Loc) = locs at hw ⊢
  refine lv_iconst (v := 0) hx hb dX3_allSteps_0 (by decide) ?_
  refine lv_istore_n (lv' := [(1, .int (0 : Int32)), (0, .ref (ad G (i)))]) hx hb dX3_allSteps_1 rfl hl (by decide) rfl (fun ls hl => ?_)
  refine lv_iconst (v := 0) hx hb dX3_allSteps_2 (by decide) ?_
  refine lv_istore_n (lv' := [(2, .int (0 : Int32)), (1, .int (0 : Int32)), (0, .ref (ad G (i)))]) hx hb dX3_allSteps_3 rfl hl (by decide) rfl (fun ls hl => ?_)
  have cut4 : ∀ (n : Nat) (z1_4 : Int32) (z2_4 : Int32) (H : Heap) (locs : List Loc) (ls : Array Slot), (0 ≤ z2_4.toInt ∧ z2_4.toInt ≤ 4) → ((4 - z2_4.toInt).toNat : Int) < (n : Int) → Wo G σ s H locs → lv_has ls 3 [(0, .ref (ad G (i))), (1, .int z1_4), (2, .int z2_4)] → W p l e (rmO 0 0) s m a below meth c H locs 0 0 Q (F0 m 4 ls []) := by
    intro n4
    induction n4 with
    | zero =>
      intro z1_4 z2_4 H locs ls f4_0 hm4 hw hl
      exfalso; omega
    | succ n4 ih4 =>
      intro z1_4 z2_4 H locs ls f4_0 hm4 hw hl
      refine lv_iload_n hx hb dX3_allSteps_4 rfl (lv_at hl 2 rfl) ?_
      refine lv_iconst (v := 4) hx hb dX3_allSteps_5 (by decide) ?_
      refine lv_icmp_ge (tgt := 30) hx hb dX3_allSteps_6 (by decide) (fun c6 => ?_) (fun c6 => ?_)
      · have c6i := Int32.le_iff_toInt_le.mp c6
        refine lv_iload_n hx hb dX3_allSteps_30 rfl (lv_at hl 1 rfl) ?_
        exact ret z1_4 σ _ _ 31 _ (rfl) (⟨rfl, trivial⟩) hw dX3_allSteps_31
      · have c6i := mt Int32.le_iff_toInt_le.mpr c6
        refine lv_iload_n hx hb dX3_allSteps_9 rfl (lv_at hl 1 rfl) ?_
        refine lv_aload_n hx hb dX3_allSteps_10 rfl (lv_at hl 0 rfl) ?_
        refine tg_get (ci := 3) (k := 1) (v := .ref (ad G (i + 4))) hx hb hts hown hk hw (en3 hi) rfl inlX3 (by decide) wd53 rfl dX3_allSteps_11 ?_
        refine tg_get (ci := 1) (k := 0) (v := .ref (ad G (i + 4 + 1))) hx hb hts hown hk hw (en1 (kd3_4 hi)) rfl inlX1 (by decide) wd704 rfl dX3_allSteps_14 ?_
        refine lv_iload_n hx hb dX3_allSteps_17 rfl (lv_at hl 2 rfl) ?_
        have hv18 : vp_in z2_4 4 := vin ⟨by omega, by omega⟩
        refine tg_aald14 hx hb hk hw (en14 (kd1_1 (kd3_4 hi))) hv18 dX3_allSteps_18 ?_
        have vl18 := vcl hv18
        refine tg_get (ci := 5) (k := 6) (v := .int (σ (i + 4 + 1 + 2 + z2_4.toNatClampNeg) 6)) hx hb hts hown hk hw (en5 (ke14 (kd1_1 (kd3_4 hi)) (vcl hv18))) rfl inlX6 (by decide) wd705 rfl dX3_allSteps_19 ?_
        refine lv_topi (fun x1 ex1 => ?_)
        refine lv_iadd hx hb dX3_allSteps_22 ?_
        refine lv_topi (fun x2 ex2 => ?_)
        refine lv_istore_n (lv' := [(1, .int x2), (0, .ref (ad G (i))), (2, .int z2_4)]) hx hb dX3_allSteps_23 rfl hl (by decide) rfl (fun ls hl => ?_)
        obtain ⟨x3, ex3⟩ : ∃ z : Int32, z = z2_4 + (1 : Int32) := ⟨_, rfl⟩
        refine lv_iinc (v := x3) (lv' := [(2, .int x3), (1, .int x2), (0, .ref (ad G (i)))]) hx hb dX3_allSteps_24 hl (k := 2) rfl (by rw [ex3]; rfl) (by decide) rfl (fun ls hl => ?_)
        have tx3 : x3.toInt = z2_4.toInt + 1 := by rw [ex3, Jvm.Kit.i32_add (by omega) (by omega)]; omega
        refine lv_goto (tgt := 4) hx hb dX3_allSteps_27 (by decide) ?_
        exact ih4 x2 x3 _ _ _ (by omega) (by omega) hw (lv_sub hl [2, 1, 0] rfl)
  exact cut4 ((((4 - (0 : Int32).toInt).toNat : Int)).toNat + 1) (0 : Int32) (0 : Int32) _ _ _ (by omega) (by omega) hw (lv_sub hl [2, 1, 0] rfl)
set_option maxHeartbeats 4000000 in
set_option maxRecDepth 100000 in
theorem c_X3_claim (l : Launch) (G : Gg) (hG : Ginj G) (σ : Sg) (hI0 : Inv σ) (i : Nat) (hi : nk i = 3) (v : Int32) (w : Int32) (g1 : 0 ≤ v.toInt ∧ v.toInt ≤ 3) : MI l G yX3_claim cX3_claim 3 .int (rmO 0 0) σ [.ref (ad G (i)), .int v, .int w] (fun r σ' => σ' = σ ∧ (True)) := by
  refine MI.of (by decide +kernel) (Nat.le_of_ble_eq_true rfl) ?_
  intro p e s m a below meth c ls Q hx hb hml hts hown hk hw ret hl
  have hown : s.vm.findClass RX3 = some m.cls := hown
  have hl : lv_has ls 3 [(0, .ref (ad G (i))), (1, .int v), (2, .int w)] := hl
  have hI : K0 σ σ := K0.rf hI0
  have L0 : (0 : Int32).toInt = 0 := by decide
  have L1 : (1 : Int32).toInt = 1 := by decide
  generalize hHe : s.heap = H at hw ⊢
  generalize hLe : ([] : List Loc) = locs at hw ⊢
  refine lv_iload_n hx hb dX3_claim_0 rfl (lv_at hl 2 rfl) ?_
  refine lv_if_ne (tgt := 8) hx hb dX3_claim_1 (by decide) (fun c1 => ?_) (fun c1 => ?_)
  · have c1i := mt Int32.toInt_inj.mp c1
    refine lv_aload_n hx hb dX3_claim_8 rfl (lv_at hl 0 rfl) ?_
    refine tg_get (ci := 3) (k := 1) (v := .ref (ad G (i + 4))) hx hb hts hown hk hw (en3 hi) rfl inlX3 (by decide) wd53 rfl dX3_claim_9 ?_
    refine tg_get (ci := 1) (k := 0) (v := .ref (ad G (i + 4 + 1))) hx hb hts hown hk hw (en1 (kd3_4 hi)) rfl inlX1 (by decide) wd704 rfl dX3_claim_12 ?_
    refine lv_iload_n hx hb dX3_claim_15 rfl (lv_at hl 1 rfl) ?_
    have hv16 : vp_in v 4 := vin ⟨by omega, by omega⟩
    refine tg_aald14 hx hb hk hw (en14 (kd1_1 (kd3_4 hi))) hv16 dX3_claim_16 ?_
    have vl16 := vcl hv16
    refine tg_get (ci := 5) (k := 6) (v := .int (σ (i + 4 + 1 + 2 + v.toNatClampNeg) 6)) hx hb hts hown hk hw (en5 (ke14 (kd1_1 (kd3_4 hi)) (vcl hv16))) rfl inlX6 (by decide) wd705 rfl dX3_claim_17 ?_
    refine lv_topi (fun x1 ex1 => ?_)
    exact ret x1 σ _ _ 20 _ (rfl) (⟨rfl, trivial⟩) hw dX3_claim_20
  · have c1i := congrArg Int32.toInt c1
    refine lv_iconst (v := 1) hx hb dX3_claim_4 (by decide) ?_
    refine lv_goto (tgt := 20) hx hb dX3_claim_5 (by decide) ?_
    exact ret (1 : Int32) σ _ _ 20 _ (rfl) (⟨rfl, trivial⟩) hw dX3_claim_20
set_option maxHeartbeats 4000000 in
set_option maxRecDepth 100000 in
theorem c_X3_partOfHarvest (l : Launch) (G : Gg) (hG : Ginj G) (σ : Sg) (hI0 : Inv σ) (i : Nat) (hi : nk i = 3) (v : Int32) (g1 : 0 ≤ v.toInt ∧ v.toInt ≤ 3) : MI l G yX3_partOfHarvest cX3_partOfHarvest 17 .int (rmO 3 70) σ [.ref (ad G (i)), .int v] (fun r σ' => σ' = σ ∧ (True)) := by
  refine MI.of (by decide +kernel) (Nat.le_of_ble_eq_true rfl) ?_
  intro p e s m a below meth c ls Q hx hb hml hts hown hk hw ret hl
  have hown : s.vm.findClass RX3 = some m.cls := hown
  have hl : lv_has ls 17 [(0, .ref (ad G (i))), (1, .int v)] := hl
  have hI : K0 σ σ := K0.rf hI0
  have L0 : (0 : Int32).toInt = 0 := by decide
  have L1 : (1 : Int32).toInt = 1 := by decide
  have L4 : (4 : Int32).toInt = 4 := by decide
  generalize hHe : s.heap = H at hw ⊢
  generalize hLe : ([] : List Loc) = locs at hw ⊢
  refine lv_aload_n hx hb dX3_partOfHarvest_0 rfl (lv_at hl 0 rfl) ?_
  refine te_vi hw (ru_V (As := []) (rest := []) (C := RX3) hx hb hml hts hown hk hw (c_X3_harvest l G hG σ hI.1 i hi) (m4_in wd699 wd690 wd691 wd18) wd692 (en3 hi) rfl rfl rfl nm_yX3_harvest ⟨rfl, rfl⟩ ⟨by decide, by decide⟩ rfl hl.1 rfl (Nat.le_of_ble_eq_true rfl) dX3_partOfHarvest_1 ⟨Nat.zero_le _, Nat.zero_le _⟩) (fun r2 σ1 H locs hr2 hw => ?_)
  rw [hr2.1] at hw
  have hr2 := hr2.2
  refine lv_i2l hx hb dX3_partOfHarvest_4 rfl ?_
  refine lv_lstore_n (lv' := [(2, .long r2.toInt64), (0, .ref (ad G (i))), (1, .int v)]) hx hb dX3_partOfHarvest_5 rfl hl (by decide) rfl (fun ls hl => ?_)
  refine lv_aload_n hx hb dX3_partOfHarvest_6 rfl (lv_at hl 1 rfl) ?_
  refine te_vi hw (ru_V (As := []) (rest := []) (C := RX3) hx hb hml hts hown hk hw (c_X3_allSteps l G hG σ hI.1 i hi) (m4_in wd700 wd701 wd702 wd18) wd703 (en3 hi) rfl rfl rfl nm_yX3_allSteps ⟨rfl, rfl⟩ ⟨by decide, by decide⟩ rfl hl.1 rfl (Nat.le_of_ble_eq_true rfl) dX3_partOfHarvest_7 ⟨Nat.zero_le _, Nat.zero_le _⟩) (fun r4 σ3 H locs hr4 hw => ?_)
  rw [hr4.1] at hw
  have hr4 := hr4.2
  refine lv_istore (lv' := [(4, .int r4), (2, .long r2.toInt64), (0, .ref (ad G (i))), (1, .int v)]) hx hb dX3_partOfHarvest_10 hl (by decide) rfl (fun ls hl => ?_)
  have cut26 : ∀ (u0_26 : Int64) (H : Heap) (locs : List Loc) (ls : Array Slot), (¬ u0_26 = 0) → Wo G σ s H locs → lv_has ls 17 [(0, .ref (ad G (i))), (1, .int v), (2, .long r2.toInt64), (4, .int r4)] → W p l e (rmO 3 70) s m a below meth c H locs 0 0 Q (F0 m 26 ls [.long u0_26]) := by
    intro u0_26 H locs ls f26_0 hw hl
    refine lv_lstore (lv' := [(5, .long u0_26), (0, .ref (ad G (i))), (1, .int v), (2, .long r2.toInt64), (4, .int r4)]) hx hb dX3_partOfHarvest_26 hl (by decide) rfl (fun ls hl => ?_)
    refine lv_lload_n hx hb dX3_partOfHarvest_28 rfl (lv_at hl 3 rfl) ?_
    refine lv_aload_n hx hb dX3_partOfHarvest_29 rfl (lv_at hl 1 rfl) ?_
    refine lv_iload_n hx hb dX3_partOfHarvest_30 rfl (lv_at hl 2 rfl) ?_
    refine lv_iload hx hb dX3_partOfHarvest_31 (lv_at hl 4 rfl) ?_
    refine te_vi hw (ru_V (As := [.int v, .int r4]) (rest := [.long r2.toInt64]) (C := RX3) hx hb hml hts hown hk hw (c_X3_claim l G hG σ hI.1 i hi v r4 (by omega)) (m4_in wd706 wd707 wd708 wd18) wd709 (en3 hi) rfl rfl rfl nm_yX3_claim ⟨rfl, rfl⟩ ⟨by decide, by decide⟩ rfl hl.1 rfl (Nat.le_of_ble_eq_true rfl) dX3_partOfHarvest_33 ⟨Nat.zero_le _, Nat.zero_le _⟩) (fun r6 σ5 H locs hr6 hw => ?_)
    rw [hr6.1] at hw
    have hr6 := hr6.2
    refine lv_i2l hx hb dX3_partOfHarvest_36 rfl ?_
    refine lv_lmul hx hb dX3_partOfHarvest_37 ?_
    refine lv_topl (fun g7 eg7 => ?_)
    refine lv_lload hx hb dX3_partOfHarvest_38 (lv_at hl 0 rfl) ?_
    refine lv_ldiv hx hb dX3_partOfHarvest_40 (f26_0) ?_
    refine lv_topl (fun g8 eg8 => ?_)
    refine lv_lstore (lv' := [(7, .long g8), (5, .long u0_26), (0, .ref (ad G (i))), (1, .int v), (2, .long r2.toInt64), (4, .int r4)]) hx hb dX3_partOfHarvest_41 hl (by decide) rfl (fun ls hl => ?_)
    refine lv_lload_n hx hb dX3_partOfHarvest_43 rfl (lv_at hl 4 rfl) ?_
    refine lv_aload_n hx hb dX3_partOfHarvest_44 rfl (lv_at hl 2 rfl) ?_
    refine lv_iload_n hx hb dX3_partOfHarvest_45 rfl (lv_at hl 3 rfl) ?_
    refine lv_iload hx hb dX3_partOfHarvest_46 (lv_at hl 5 rfl) ?_
    refine te_vi hw (ru_V (As := [.int v, .int r4]) (rest := [.long r2.toInt64]) (C := RX3) hx hb hml hts hown hk hw (c_X3_claim l G hG σ hI.1 i hi v r4 (by omega)) (m4_in wd706 wd707 wd708 wd18) wd709 (en3 hi) rfl rfl rfl nm_yX3_claim ⟨rfl, rfl⟩ ⟨by decide, by decide⟩ rfl hl.1 rfl (Nat.le_of_ble_eq_true rfl) dX3_partOfHarvest_48 ⟨Nat.zero_le _, Nat.zero_le _⟩) (fun r10 σ9 H locs hr10 hw => ?_)
    rw [hr10.1] at hw
    have hr10 := hr10.2
    refine lv_i2l hx hb dX3_partOfHarvest_51 rfl ?_
    refine lv_lmul hx hb dX3_partOfHarvest_52 ?_
    refine lv_topl (fun g11 eg11 => ?_)
    refine lv_lload hx hb dX3_partOfHarvest_53 (lv_at hl 1 rfl) ?_
    refine lv_lrem hx hb dX3_partOfHarvest_55 (f26_0) ?_
    refine lv_topl (fun g12 eg12 => ?_)
    refine lv_lstore (lv' := [(9, .long g12), (7, .long g8), (5, .long u0_26), (0, .ref (ad G (i))), (1, .int v), (2, .long r2.toInt64), (4, .int r4)]) hx hb dX3_partOfHarvest_56 hl (by decide) rfl (fun ls hl => ?_)
    refine lv_lload_n hx hb dX3_partOfHarvest_58 rfl (lv_at hl 5 rfl) ?_
    refine lv_lstore (lv' := [(11, .long r2.toInt64), (9, .long g12), (7, .long g8), (5, .long u0_26), (0, .ref (ad G (i))), (1, .int v), (2, .long r2.toInt64), (4, .int r4)]) hx hb dX3_partOfHarvest_59 hl (by decide) rfl (fun ls hl => ?_)
    refine lv_iconst (v := 0) hx hb dX3_partOfHarvest_61 (by decide) ?_
    refine lv_istore (lv' := [(13, .int (0 : Int32)), (11, .long r2.toInt64), (9, .long g12), (7, .long g8), (5, .long u0_26), (0, .ref (ad G (i))), (1, .int v), (2, .long r2.toInt64), (4, .int r4)]) hx hb dX3_partOfHarvest_62 hl (by decide) rfl (fun ls hl => ?_)
    refine lv_iconst (v := 0) hx hb dX3_partOfHarvest_64 (by decide) ?_
    refine lv_istore (lv' := [(14, .int (0 : Int32)), (13, .int (0 : Int32)), (11, .long r2.toInt64), (9, .long g12), (7, .long g8), (5, .long u0_26), (0, .ref (ad G (i))), (1, .int v), (2, .long r2.toInt64), (4, .int r4)]) hx hb dX3_partOfHarvest_65 hl (by decide) rfl (fun ls hl => ?_)
    have cut67 : ∀ (n : Nat) (q11_67 : Int64) (z13_67 : Int32) (z14_67 : Int32) (H : Heap) (locs : List Loc) (ls : Array Slot), (0 ≤ z14_67.toInt ∧ z14_67.toInt ≤ 4) → ((4 - z14_67.toInt).toNat : Int) < (n : Int) → Wo G σ s H locs → lv_has ls 17 [(0, .ref (ad G (i))), (1, .int v), (2, .long r2.toInt64), (4, .int r4), (5, .long u0_26), (7, .long g8), (9, .long g12), (11, .long q11_67), (13, .int z13_67), (14, .int z14_67)] → W p l e (rmO 3 70) s m a below meth c H locs 0 0 Q (F0 m 67 ls []) := by
      intro n67
      induction n67 with
      | zero =>
        intro q11_67 z13_67 z14_67 H locs ls f67_0 hm67 hw hl
        exfalso; omega
      | succ n67 ih67 =>
        intro q11_67 z13_67 z14_67 H locs ls f67_0 hm67 hw hl
        refine lv_iload hx hb dX3_partOfHarvest_67 (lv_at hl 9 rfl) ?_
        refine lv_iconst (v := 4) hx hb dX3_partOfHarvest_69 (by decide) ?_
        refine lv_icmp_ge (tgt := 133) hx hb dX3_partOfHarvest_70 (by decide) (fun c70 => ?_) (fun c70 => ?_)
        · have c70i := Int32.le_iff_toInt_le.mp c70
          refine lv_iload hx hb dX3_partOfHarvest_133 (lv_at hl 8 rfl) ?_
          refine lv_i2l hx hb dX3_partOfHarvest_135 rfl ?_
          refine lv_lload hx hb dX3_partOfHarvest_136 (lv_at hl 7 rfl) ?_
          refine W.lcmp hx hb dX3_partOfHarvest_138 ?_
          refine lv_if_ge (tgt := 149) hx hb dX3_partOfHarvest_139 (by decide) (fun c139 => ?_) (fun c139 => ?_)
          · have c139i := Int64.le_iff_toInt_le.mp ((lg_cmp_ge _ _).mp c139)
            refine lv_lload hx hb dX3_partOfHarvest_149 (lv_at hl 5 rfl) ?_
            refine lv_l2i hx hb dX3_partOfHarvest_151 rfl ?_
            refine lv_topi (fun x13 ex13 => ?_)
            exact ret x13 σ _ _ 152 _ (rfl) (⟨rfl, trivial⟩) hw dX3_partOfHarvest_152
          · have c139i := mt (fun z => (lg_cmp_ge _ _).mpr (Int64.le_iff_toInt_le.mpr z)) c139
            refine lv_lload hx hb dX3_partOfHarvest_142 (lv_at hl 5 rfl) ?_
            refine lv_lconst (v := 1) hx hb dX3_partOfHarvest_144 (by decide) ?_
            refine lv_ladd hx hb dX3_partOfHarvest_145 ?_
            refine lv_topl (fun g14 eg14 => ?_)
            refine lv_goto (tgt := 151) hx hb dX3_partOfHarvest_146 (by decide) ?_
            refine lv_l2i hx hb dX3_partOfHarvest_151 rfl ?_
            refine lv_topi (fun x15 ex15 => ?_)
            exact ret x15 σ _ _ 152 _ (rfl) (⟨rfl, trivial⟩) hw dX3_partOfHarvest_152
        · have c70i := mt Int32.le_iff_toInt_le.mpr c70
          refine lv_lload_n hx hb dX3_partOfHarvest_73 rfl (lv_at hl 2 rfl) ?_
          refine lv_aload_n hx hb dX3_partOfHarvest_74 rfl (lv_at hl 0 rfl) ?_
          refine lv_iload hx hb dX3_partOfHarvest_75 (lv_at hl 9 rfl) ?_
          refine lv_iload hx hb dX3_partOfHarvest_77 (lv_at hl 3 rfl) ?_
          refine te_vi hw (ru_V (As := [.int z14_67, .int r4]) (rest := [.long r2.toInt64]) (C := RX3) hx hb hml hts hown hk hw (c_X3_claim l G hG σ hI.1 i hi z14_67 r4 (by omega)) (m4_in wd706 wd707 wd708 wd18) wd709 (en3 hi) rfl rfl rfl nm_yX3_claim ⟨rfl, rfl⟩ ⟨by decide, by decide⟩ rfl hl.1 rfl (Nat.le_of_ble_eq_true rfl) dX3_partOfHarvest_79 ⟨Nat.zero_le _, Nat.zero_le _⟩) (fun r17 σ16 H locs hr17 hw => ?_)
          rw [hr17.1] at hw
          have hr17 := hr17.2
          refine lv_i2l hx hb dX3_partOfHarvest_82 rfl ?_
          refine lv_lmul hx hb dX3_partOfHarvest_83 ?_
          refine lv_topl (fun g18 eg18 => ?_)
          refine lv_lstore (lv' := [(15, .long g18), (0, .ref (ad G (i))), (1, .int v), (2, .long r2.toInt64), (4, .int r4), (5, .long u0_26), (7, .long g8), (9, .long g12), (11, .long q11_67), (13, .int z13_67), (14, .int z14_67)]) hx hb dX3_partOfHarvest_84 hl (by decide) rfl (fun ls hl => ?_)
          refine lv_lload hx hb dX3_partOfHarvest_86 (lv_at hl 8 rfl) ?_
          refine lv_lload hx hb dX3_partOfHarvest_88 (lv_at hl 0 rfl) ?_
          refine lv_lload hx hb dX3_partOfHarvest_90 (lv_at hl 5 rfl) ?_
          refine lv_ldiv hx hb dX3_partOfHarvest_92 (f26_0) ?_
          refine lv_topl (fun g19 eg19 => ?_)
          refine lv_lsub hx hb dX3_partOfHarvest_93 ?_
          refine lv_topl (fun g20 eg20 => ?_)
          refine lv_lstore (lv' := [(11, .long g20), (15, .long g18), (0, .ref (ad G (i))), (1, .int v), (2, .long r2.toInt64), (4, .int r4), (5, .long u0_26), (7, .long g8), (9, .long g12), (13, .int z13_67), (14, .int z14_67)]) hx hb dX3_partOfHarvest_94 hl (by decide) rfl (fun ls hl => ?_)
          refine lv_lload hx hb dX3_partOfHarvest_96 (lv_at hl 1 rfl) ?_
          refine lv_lload hx hb dX3_partOfHarvest_98 (lv_at hl 6 rfl) ?_
          refine lv_lrem hx hb dX3_partOfHarvest_100 (f26_0) ?_
          refine lv_topl (fun g21 eg21 => ?_)
          refine lv_lload hx hb dX3_partOfHarvest_101 (lv_at hl 8 rfl) ?_
          refine W.lcmp hx hb dX3_partOfHarvest_103 ?_
          refine lv_if_gt (tgt := 124) hx hb dX3_partOfHarvest_104 (by decide) (fun c104 => ?_) (fun c104 => ?_)
          · have c104i := Int64.lt_iff_toInt_lt.mp ((lg_cmp_gt _ _).mp c104)
            obtain ⟨x22, ex22⟩ : ∃ z : Int32, z = z13_67 + (1 : Int32) := ⟨_, rfl⟩
            refine lv_iinc (v := x22) (lv' := [(13, .int x22), (11, .long g20), (15, .long g18), (0, .ref (ad G (i))), (1, .int v), (2, .long r2.toInt64), (4, .int r4), (5, .long u0_26), (7, .long g8), (9, .long g12), (14, .int z14_67)]) hx hb dX3_partOfHarvest_124 hl (k := 9) rfl (by rw [ex22]; rfl) (by decide) rfl (fun ls hl => ?_)
            obtain ⟨x23, ex23⟩ : ∃ z : Int32, z = z14_67 + (1 : Int32) := ⟨_, rfl⟩
            refine lv_iinc (v := x23) (lv' := [(14, .int x23), (13, .int x22), (11, .long g20), (15, .long g18), (0, .ref (ad G (i))), (1, .int v), (2, .long r2.toInt64), (4, .int r4), (5, .long u0_26), (7, .long g8), (9, .long g12)]) hx hb dX3_partOfHarvest_127 hl (k := 10) rfl (by rw [ex23]; rfl) (by decide) rfl (fun ls hl => ?_)
            have tx23 : x23.toInt = z14_67.toInt + 1 := by rw [ex23, Jvm.Kit.i32_add (by omega) (by omega)]; omega
            refine lv_goto (tgt := 67) hx hb dX3_partOfHarvest_130 (by decide) ?_
            exact ih67 g20 x22 x23 _ _ _ (by omega) (by omega) hw (lv_sub hl [4, 5, 6, 7, 8, 9, 10, 2, 1, 0] rfl)
          · have c104i := mt (fun z => (lg_cmp_gt _ _).mpr (Int64.lt_iff_toInt_lt.mpr z)) c104
            refine lv_lload hx hb dX3_partOfHarvest_107 (lv_at hl 1 rfl) ?_
            refine lv_lload hx hb dX3_partOfHarvest_109 (lv_at hl 6 rfl) ?_
            refine lv_lrem hx hb dX3_partOfHarvest_111 (f26_0) ?_
            refine lv_topl (fun g24 eg24 => ?_)
            refine lv_lload hx hb dX3_partOfHarvest_112 (lv_at hl 8 rfl) ?_
            refine W.lcmp hx hb dX3_partOfHarvest_114 ?_
            refine lv_if_ne (tgt := 127) hx hb dX3_partOfHarvest_115 (by decide) (fun c115 => ?_) (fun c115 => ?_)
            · have c115i := mt (fun z => (lg_cmp_eq _ _).mpr (Int64.toInt_inj.symm.mpr z)) c115
              obtain ⟨x25, ex25⟩ : ∃ z : Int32, z = z14_67 + (1 : Int32) := ⟨_, rfl⟩
              refine lv_iinc (v := x25) (lv' := [(14, .int x25), (11, .long g20), (15, .long g18), (0, .ref (ad G (i))), (1, .int v), (2, .long r2.toInt64), (4, .int r4), (5, .long u0_26), (7, .long g8), (9, .long g12), (13, .int z13_67)]) hx hb dX3_partOfHarvest_127 hl (k := 10) rfl (by rw [ex25]; rfl) (by decide) rfl (fun ls hl => ?_)
              have tx25 : x25.toInt = z14_67.toInt + 1 := by rw [ex25, Jvm.Kit.i32_add (by omega) (by omega)]; omega
              refine lv_goto (tgt := 67) hx hb dX3_partOfHarvest_130 (by decide) ?_
              exact ih67 g20 z13_67 x25 _ _ _ (by omega) (by omega) hw (lv_sub hl [3, 4, 5, 6, 7, 8, 9, 1, 10, 0] rfl)
            · have c115i := Int64.toInt_inj.symm.mp ((lg_cmp_eq _ _).mp c115)
              refine lv_iload hx hb dX3_partOfHarvest_118 (lv_at hl 10 rfl) ?_
              refine lv_iload_n hx hb dX3_partOfHarvest_120 rfl (lv_at hl 3 rfl) ?_
              refine lv_icmp_ge (tgt := 127) hx hb dX3_partOfHarvest_121 (by decide) (fun c121 => ?_) (fun c121 => ?_)
              · have c121i := Int32.le_iff_toInt_le.mp c121
                obtain ⟨x26, ex26⟩ : ∃ z : Int32, z = z14_67 + (1 : Int32) := ⟨_, rfl⟩
                refine lv_iinc (v := x26) (lv' := [(14, .int x26), (11, .long g20), (15, .long g18), (0, .ref (ad G (i))), (1, .int v), (2, .long r2.toInt64), (4, .int r4), (5, .long u0_26), (7, .long g8), (9, .long g12), (13, .int z13_67)]) hx hb dX3_partOfHarvest_127 hl (k := 10) rfl (by rw [ex26]; rfl) (by decide) rfl (fun ls hl => ?_)
                have tx26 : x26.toInt = z14_67.toInt + 1 := by rw [ex26, Jvm.Kit.i32_add (by omega) (by omega)]; omega
                refine lv_goto (tgt := 67) hx hb dX3_partOfHarvest_130 (by decide) ?_
                exact ih67 g20 z13_67 x26 _ _ _ (by omega) (by omega) hw (lv_sub hl [3, 4, 5, 6, 7, 8, 9, 1, 10, 0] rfl)
              · have c121i := mt Int32.le_iff_toInt_le.mpr c121
                obtain ⟨x27, ex27⟩ : ∃ z : Int32, z = z13_67 + (1 : Int32) := ⟨_, rfl⟩
                refine lv_iinc (v := x27) (lv' := [(13, .int x27), (11, .long g20), (15, .long g18), (0, .ref (ad G (i))), (1, .int v), (2, .long r2.toInt64), (4, .int r4), (5, .long u0_26), (7, .long g8), (9, .long g12), (14, .int z14_67)]) hx hb dX3_partOfHarvest_124 hl (k := 9) rfl (by rw [ex27]; rfl) (by decide) rfl (fun ls hl => ?_)
                obtain ⟨x28, ex28⟩ : ∃ z : Int32, z = z14_67 + (1 : Int32) := ⟨_, rfl⟩
                refine lv_iinc (v := x28) (lv' := [(14, .int x28), (13, .int x27), (11, .long g20), (15, .long g18), (0, .ref (ad G (i))), (1, .int v), (2, .long r2.toInt64), (4, .int r4), (5, .long u0_26), (7, .long g8), (9, .long g12)]) hx hb dX3_partOfHarvest_127 hl (k := 10) rfl (by rw [ex28]; rfl) (by decide) rfl (fun ls hl => ?_)
                have tx28 : x28.toInt = z14_67.toInt + 1 := by rw [ex28, Jvm.Kit.i32_add (by omega) (by omega)]; omega
                refine lv_goto (tgt := 67) hx hb dX3_partOfHarvest_130 (by decide) ?_
                exact ih67 g20 x27 x28 _ _ _ (by omega) (by omega) hw (lv_sub hl [4, 5, 6, 7, 8, 9, 10, 2, 1, 0] rfl)
    exact cut67 ((((4 - (0 : Int32).toInt).toNat : Int)).toNat + 1) r2.toInt64 (0 : Int32) (0 : Int32) _ _ _ (by omega) (by omega) hw (lv_sub hl [6, 7, 8, 9, 5, 4, 3, 2, 1, 0] rfl)
  refine lv_iload hx hb dX3_partOfHarvest_12 (lv_at hl 0 rfl) ?_
  refine lv_if_ne (tgt := 23) hx hb dX3_partOfHarvest_14 (by decide) (fun c14 => ?_) (fun c14 => ?_)
  · have c14i := mt Int32.toInt_inj.mp c14
    refine lv_iload hx hb dX3_partOfHarvest_23 (lv_at hl 0 rfl) ?_
    refine lv_i2l hx hb dX3_partOfHarvest_25 rfl ?_
    exact cut26 r4.toInt64 _ _ _ (by first | decide | exact i64nz c14) hw (lv_sub hl [2, 3, 1, 0] rfl)
  · have c14i := congrArg Int32.toInt c14
    refine lv_ldc2 hx hb hown (hts _ wd698) dX3_partOfHarvest_17 ?_
    refine lv_goto (tgt := 26) hx hb dX3_partOfHarvest_20 (by decide) ?_
    exact cut26 (4 : Int64) _ _ _ (by first | decide | exact i64nz c14) hw (lv_sub hl [2, 3, 1, 0] rfl)
