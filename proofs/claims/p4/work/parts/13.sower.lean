set_option maxHeartbeats 4000000 in
set_option maxRecDepth 100000 in
theorem c_X7_take (l : Launch) (G : Gg) (hG : Ginj G) (σ : Sg) (hI0 : Inv σ) (v : Int32) (w : Int32) : MV l G yX7_take cX7_take 3 (rmO 0 0) σ [.ref (ad G (73)), .int v, .int w] (fun σ' => K0 σ σ' ∧ (True)) := by
  refine MV.of (by decide +kernel) (Nat.le_of_ble_eq_true rfl) ?_
  intro p e s m a below meth c ls Q hx hb hml hts hown hk hw ret hl
  have hown : s.vm.findClass RX7 = some m.cls := hown
  have hl : lv_has ls 3 [(0, .ref (ad G (73))), (1, .int v), (2, .int w)] := hl
  have hI : K0 σ σ := K0.rf hI0
  have L0 : (0 : Int32).toInt = 0 := by decide
  have L1 : (1 : Int32).toInt = 1 := by decide
  have L64 : (64 : Int32).toInt = 64 := by decide
  generalize hHe : s.heap = H at hw ⊢
  generalize hLe : ([] : List Loc) = locs at hw ⊢
  by_cases hpl : σ 73 0 = 0
  · refine lv_aload_n hx hb dX7_take_0 rfl (lv_at hl 0 rfl) ?_
    refine tg_get (ci := 6) (k := 0) (v := .null) hx hb hts hown hk hw (en6 (rfl : nk 73 = 6)) rfl inlX7 (by decide) wd293 (by rw [if_pos hpl]; rfl) dX7_take_1 ?_
    refine lv_ifnullN (tgt := 40) hx hb dX7_take_4 (by decide) ?_
    exact ret σ _ _ 40 _ (⟨hI, trivial⟩) hw dX7_take_40
  · refine lv_aload_n hx hb dX7_take_0 rfl (lv_at hl 0 rfl) ?_
    refine tg_get (ci := 6) (k := 0) (v := .ref (ad G (4))) hx hb hts hown hk hw (en6 (rfl : nk 73 = 6)) rfl inlX7 (by decide) wd293 (by rw [if_neg hpl]; rfl) dX7_take_1 ?_
    refine lv_ifnull hx hb dX7_take_4 ?_
    refine lv_iload_n hx hb dX7_take_7 rfl (lv_at hl 1 rfl) ?_
    refine lv_if_lt (tgt := 40) hx hb dX7_take_8 (by decide) (fun c8 => ?_) (fun c8 => ?_)
    · have c8i := Int32.lt_iff_toInt_lt.mp c8
      exact ret σ _ _ 40 _ (⟨hI, trivial⟩) hw dX7_take_40
    · have c8i := mt Int32.lt_iff_toInt_lt.mpr c8
      refine lv_iload_n hx hb dX7_take_11 rfl (lv_at hl 1 rfl) ?_
      refine lv_bipush (v := 64) hx hb dX7_take_12 (by decide) ?_
      refine lv_icmp_ge (tgt := 40) hx hb dX7_take_14 (by decide) (fun c14 => ?_) (fun c14 => ?_)
      · have ov := i32b v
        have c14i := Int32.le_iff_toInt_le.mp c14
        exact ret σ _ _ 40 _ (⟨hI, trivial⟩) hw dX7_take_40
      · have ov := i32b v
        have c14i := mt Int32.le_iff_toInt_le.mpr c14
        refine lv_aload_n hx hb dX7_take_17 rfl (lv_at hl 0 rfl) ?_
        refine tg_get (ci := 6) (k := 0) (v := .ref (ad G (4))) hx hb hts hown hk hw (en6 (rfl : nk 73 = 6)) rfl inlX7 (by decide) wd293 (by rw [if_neg hpl]; rfl) dX7_take_18 ?_
        refine tg_get (ci := 2) (k := 1) (v := .ref (ad G (6))) hx hb hts hown hk hw (en2 (rfl : nk 4 = 2)) rfl inlX2 (by decide) wd294 rfl dX7_take_21 ?_
        refine lv_iload_n hx hb dX7_take_24 rfl (lv_at hl 1 rfl) ?_
        have hv25 : vp_in v 64 := vin ⟨by omega, by omega⟩
        refine tg_iald hx hb hk hw (en164 (rfl : nk 6 = 164)) hv25 dX7_take_25 ?_
        refine lv_topi (fun x1 ex1 => ?_)
        refine lv_iload_n hx hb dX7_take_26 rfl (lv_at hl 2 rfl) ?_
        refine lv_icmp_eq (tgt := 40) hx hb dX7_take_27 (by decide) (fun c27 => ?_) (fun c27 => ?_)
        · have ox1 := i32b x1
          have ow := i32b w
          have c27i := congrArg Int32.toInt c27
          exact ret σ _ _ 40 _ (⟨hI, trivial⟩) hw dX7_take_40
        · have ox1 := i32b x1
          have ow := i32b w
          have c27i := mt Int32.toInt_inj.mp c27
          refine lv_aload_n hx hb dX7_take_30 rfl (lv_at hl 0 rfl) ?_
          refine lv_dup hx hb dX7_take_31 rfl ?_
          refine tg_get (ci := 6) (k := 1) (v := .int (σ (73) 1)) hx hb hts hown hk hw (en6 (rfl : nk 73 = 6)) rfl inlX7 (by decide) wd295 rfl dX7_take_32 ?_
          refine lv_topi (fun x2 ex2 => ?_)
          refine lv_iconst (v := 1) hx hb dX7_take_35 (by decide) ?_
          refine lv_iadd hx hb dX7_take_36 ?_
          refine lv_topi (fun x3 ex3 => ?_)
          refine tg_put (ci := 6) (k := 1) (σ' := up2 σ (73) 1 x3) hx hb hts hown hk hG hw tyX7 (en6 (rfl : nk 73 = 6)) rfl inlX7 tyX7_ok nmX7 (by decide) wd295 rfl rfl rfl (Nat.le_of_ble_eq_true rfl) (pu6_1 (rfl : nk 73 = 6)) (fun _ h => up2_ne h) dX7_take_37 (fun H locs hw => ?_)
          obtain ⟨σ4, eσ4⟩ : ∃ z, z = up2 σ (73) 1 x3 := ⟨_, rfl⟩
          rw [← eσ4] at hw
          have hI : K0 σ σ4 := by rw [eσ4]; exact hI.up (rfl) (rg_no (by rw [(rfl : nk 73 = 6)]; rfl))
          exact ret σ4 _ _ 40 _ (⟨hI, trivial⟩) hw dX7_take_40
set_option maxHeartbeats 4000000 in
set_option maxRecDepth 100000 in
theorem c_X6_copyFrom (l : Launch) (G : Gg) (hG : Ginj G) (σ : Sg) (hI0 : Inv σ) (i : Nat) (hi : nk i = 5) (j : Nat) (hj : nk j = 5) : MV l G yX6_copyFrom cX6_copyFrom 2 (rmO 0 0) σ [.ref (ad G (i)), .ref (ad G (j))] (fun σ' => Inv σ' ∧ (∀ a, ¬ (a = i) → σ' a = σ a) ∧ (True)) := by
  refine MV.of (by decide +kernel) (Nat.le_of_ble_eq_true rfl) ?_
  intro p e s m a below meth c ls Q hx hb hml hts hown hk hw ret hl
  have hown : s.vm.findClass RX6 = some m.cls := hown
  have hl : lv_has ls 2 [(0, .ref (ad G (i))), (1, .ref (ad G (j)))] := hl
  have hI : K0 σ σ := K0.rf hI0
  generalize hHe : s.heap = H at hw ⊢
  generalize hLe : ([] : List Loc) = locs at hw ⊢
  have hFr : ∀ a, ¬ (a = i) → σ a = σ a := fun _ _ => rfl
  refine lv_aload_n hx hb dX6_copyFrom_0 rfl (lv_at hl 0 rfl) ?_
  refine lv_aload_n hx hb dX6_copyFrom_1 rfl (lv_at hl 1 rfl) ?_
  refine tg_get (ci := 5) (k := 0) (v := .int (σ (j) 0)) hx hb hts hown hk hw (en5 hj) rfl inlX6 (by decide) wd138 rfl dX6_copyFrom_2 ?_
  refine lv_topi (fun x1 ex1 => ?_)
  refine tg_put (ci := 5) (k := 0) (σ' := up2 σ (i) 0 x1) hx hb hts hown hk hG hw tyX6 (en5 hi) rfl inlX6 tyX6_ok nmX6 (by decide) wd138 rfl rfl rfl (Nat.le_of_ble_eq_true rfl) (pu5_0 hi) (fun _ h => up2_ne h) dX6_copyFrom_5 (fun H locs hw => ?_)
  obtain ⟨σ2, eσ2⟩ : ∃ z, z = up2 σ (i) 0 x1 := ⟨_, rfl⟩
  rw [← eσ2] at hw
  have hI : K0 σ2 σ2 := by rw [eσ2]; exact K0.rf (hI.1.up (rg_no (by rw [hi]; rfl)))
  have hFr : ∀ a, ¬ (a = i) → σ2 a = σ a := fun a ha => (show σ2 a = σ a by rw [eσ2, up2_ne (by omega)]).trans (hFr a ha)
  refine lv_aload_n hx hb dX6_copyFrom_8 rfl (lv_at hl 0 rfl) ?_
  refine lv_aload_n hx hb dX6_copyFrom_9 rfl (lv_at hl 1 rfl) ?_
  refine tg_get (ci := 5) (k := 1) (v := .int (σ2 (j) 1)) hx hb hts hown hk hw (en5 hj) rfl inlX6 (by decide) wd139 rfl dX6_copyFrom_10 ?_
  refine lv_topi (fun x3 ex3 => ?_)
  refine tg_put (ci := 5) (k := 1) (σ' := up2 σ2 (i) 1 x3) hx hb hts hown hk hG hw tyX6 (en5 hi) rfl inlX6 tyX6_ok nmX6 (by decide) wd139 rfl rfl rfl (Nat.le_of_ble_eq_true rfl) (pu5_1 hi) (fun _ h => up2_ne h) dX6_copyFrom_13 (fun H locs hw => ?_)
  obtain ⟨σ4, eσ4⟩ : ∃ z, z = up2 σ2 (i) 1 x3 := ⟨_, rfl⟩
  rw [← eσ4] at hw
  have hI : K0 σ4 σ4 := by rw [eσ4]; exact K0.rf (hI.1.up (rg_no (by rw [hi]; rfl)))
  have hFr : ∀ a, ¬ (a = i) → σ4 a = σ a := fun a ha => (show σ4 a = σ2 a by rw [eσ4, up2_ne (by omega)]).trans (hFr a ha)
  refine lv_aload_n hx hb dX6_copyFrom_16 rfl (lv_at hl 0 rfl) ?_
  refine lv_aload_n hx hb dX6_copyFrom_17 rfl (lv_at hl 1 rfl) ?_
  refine tg_get (ci := 5) (k := 2) (v := .int (σ4 (j) 2)) hx hb hts hown hk hw (en5 hj) rfl inlX6 (by decide) wd78 rfl dX6_copyFrom_18 ?_
  refine lv_topi (fun x5 ex5 => ?_)
  refine tg_put (ci := 5) (k := 2) (σ' := up2 σ4 (i) 2 x5) hx hb hts hown hk hG hw tyX6 (en5 hi) rfl inlX6 tyX6_ok nmX6 (by decide) wd78 rfl rfl rfl (Nat.le_of_ble_eq_true rfl) (pu5_2 hi) (fun _ h => up2_ne h) dX6_copyFrom_21 (fun H locs hw => ?_)
  obtain ⟨σ6, eσ6⟩ : ∃ z, z = up2 σ4 (i) 2 x5 := ⟨_, rfl⟩
  rw [← eσ6] at hw
  have hI : K0 σ6 σ6 := by rw [eσ6]; exact K0.rf (hI.1.up (rg_no (by rw [hi]; rfl)))
  have hFr : ∀ a, ¬ (a = i) → σ6 a = σ a := fun a ha => (show σ6 a = σ4 a by rw [eσ6, up2_ne (by omega)]).trans (hFr a ha)
  refine lv_aload_n hx hb dX6_copyFrom_24 rfl (lv_at hl 0 rfl) ?_
  refine lv_aload_n hx hb dX6_copyFrom_25 rfl (lv_at hl 1 rfl) ?_
  refine tg_get (ci := 5) (k := 3) (v := .int (σ6 (j) 3)) hx hb hts hown hk hw (en5 hj) rfl inlX6 (by decide) wd79 rfl dX6_copyFrom_26 ?_
  refine lv_topi (fun x7 ex7 => ?_)
  refine tg_put (ci := 5) (k := 3) (σ' := up2 σ6 (i) 3 x7) hx hb hts hown hk hG hw tyX6 (en5 hi) rfl inlX6 tyX6_ok nmX6 (by decide) wd79 rfl rfl rfl (Nat.le_of_ble_eq_true rfl) (pu5_3 hi) (fun _ h => up2_ne h) dX6_copyFrom_29 (fun H locs hw => ?_)
  obtain ⟨σ8, eσ8⟩ : ∃ z, z = up2 σ6 (i) 3 x7 := ⟨_, rfl⟩
  rw [← eσ8] at hw
  have hI : K0 σ8 σ8 := by rw [eσ8]; exact K0.rf (hI.1.up (rg_no (by rw [hi]; rfl)))
  have hFr : ∀ a, ¬ (a = i) → σ8 a = σ a := fun a ha => (show σ8 a = σ6 a by rw [eσ8, up2_ne (by omega)]).trans (hFr a ha)
  refine lv_aload_n hx hb dX6_copyFrom_32 rfl (lv_at hl 0 rfl) ?_
  refine lv_aload_n hx hb dX6_copyFrom_33 rfl (lv_at hl 1 rfl) ?_
  refine tg_get (ci := 5) (k := 4) (v := .int (σ8 (j) 4)) hx hb hts hown hk hw (en5 hj) rfl inlX6 (by decide) wd140 rfl dX6_copyFrom_34 ?_
  refine lv_topi (fun x9 ex9 => ?_)
  refine tg_put (ci := 5) (k := 4) (σ' := up2 σ8 (i) 4 x9) hx hb hts hown hk hG hw tyX6 (en5 hi) rfl inlX6 tyX6_ok nmX6 (by decide) wd140 rfl rfl rfl (Nat.le_of_ble_eq_true rfl) (pu5_4 hi) (fun _ h => up2_ne h) dX6_copyFrom_37 (fun H locs hw => ?_)
  obtain ⟨σ10, eσ10⟩ : ∃ z, z = up2 σ8 (i) 4 x9 := ⟨_, rfl⟩
  rw [← eσ10] at hw
  have hI : K0 σ10 σ10 := by rw [eσ10]; exact K0.rf (hI.1.up (rg_no (by rw [hi]; rfl)))
  have hFr : ∀ a, ¬ (a = i) → σ10 a = σ a := fun a ha => (show σ10 a = σ8 a by rw [eσ10, up2_ne (by omega)]).trans (hFr a ha)
  refine lv_aload_n hx hb dX6_copyFrom_40 rfl (lv_at hl 0 rfl) ?_
  refine lv_aload_n hx hb dX6_copyFrom_41 rfl (lv_at hl 1 rfl) ?_
  refine tg_get (ci := 5) (k := 5) (v := .int (σ10 (j) 5)) hx hb hts hown hk hw (en5 hj) rfl inlX6 (by decide) wd80 rfl dX6_copyFrom_42 ?_
  refine lv_topi (fun x11 ex11 => ?_)
  refine tg_put (ci := 5) (k := 5) (σ' := up2 σ10 (i) 5 x11) hx hb hts hown hk hG hw tyX6 (en5 hi) rfl inlX6 tyX6_ok nmX6 (by decide) wd80 rfl rfl rfl (Nat.le_of_ble_eq_true rfl) (pu5_5 hi) (fun _ h => up2_ne h) dX6_copyFrom_45 (fun H locs hw => ?_)
  obtain ⟨σ12, eσ12⟩ : ∃ z, z = up2 σ10 (i) 5 x11 := ⟨_, rfl⟩
  rw [← eσ12] at hw
  have hI : K0 σ12 σ12 := by rw [eσ12]; exact K0.rf (hI.1.up (rg_no (by rw [hi]; rfl)))
  have hFr : ∀ a, ¬ (a = i) → σ12 a = σ a := fun a ha => (show σ12 a = σ10 a by rw [eσ12, up2_ne (by omega)]).trans (hFr a ha)
  refine lv_aload_n hx hb dX6_copyFrom_48 rfl (lv_at hl 0 rfl) ?_
  refine lv_aload_n hx hb dX6_copyFrom_49 rfl (lv_at hl 1 rfl) ?_
  refine tg_get (ci := 5) (k := 6) (v := .int (σ12 (j) 6)) hx hb hts hown hk hw (en5 hj) rfl inlX6 (by decide) wd141 rfl dX6_copyFrom_50 ?_
  refine lv_topi (fun x13 ex13 => ?_)
  refine tg_put (ci := 5) (k := 6) (σ' := up2 σ12 (i) 6 x13) hx hb hts hown hk hG hw tyX6 (en5 hi) rfl inlX6 tyX6_ok nmX6 (by decide) wd141 rfl rfl rfl (Nat.le_of_ble_eq_true rfl) (pu5_6 hi) (fun _ h => up2_ne h) dX6_copyFrom_53 (fun H locs hw => ?_)
  obtain ⟨σ14, eσ14⟩ : ∃ z, z = up2 σ12 (i) 6 x13 := ⟨_, rfl⟩
  rw [← eσ14] at hw
  have hI : K0 σ14 σ14 := by rw [eσ14]; exact K0.rf (hI.1.up (rg_no (by rw [hi]; rfl)))
  have hFr : ∀ a, ¬ (a = i) → σ14 a = σ a := fun a ha => (show σ14 a = σ12 a by rw [eσ14, up2_ne (by omega)]).trans (hFr a ha)
  refine lv_aload_n hx hb dX6_copyFrom_56 rfl (lv_at hl 0 rfl) ?_
  refine lv_aload_n hx hb dX6_copyFrom_57 rfl (lv_at hl 1 rfl) ?_
  refine tg_get (ci := 5) (k := 7) (v := .int (σ14 (j) 7)) hx hb hts hown hk hw (en5 hj) rfl inlX6 (by decide) wd142 rfl dX6_copyFrom_58 ?_
  refine lv_topi (fun x15 ex15 => ?_)
  refine tg_put (ci := 5) (k := 7) (σ' := up2 σ14 (i) 7 x15) hx hb hts hown hk hG hw tyX6 (en5 hi) rfl inlX6 tyX6_ok nmX6 (by decide) wd142 rfl rfl rfl (Nat.le_of_ble_eq_true rfl) (pu5_7 hi) (fun _ h => up2_ne h) dX6_copyFrom_61 (fun H locs hw => ?_)
  obtain ⟨σ16, eσ16⟩ : ∃ z, z = up2 σ14 (i) 7 x15 := ⟨_, rfl⟩
  rw [← eσ16] at hw
  have hI : K0 σ16 σ16 := by rw [eσ16]; exact K0.rf (hI.1.up (rg_no (by rw [hi]; rfl)))
  have hFr : ∀ a, ¬ (a = i) → σ16 a = σ a := fun a ha => (show σ16 a = σ14 a by rw [eσ16, up2_ne (by omega)]).trans (hFr a ha)
  exact ret σ16 _ _ 64 _ (⟨hI.1, hFr, trivial⟩) hw dX6_copyFrom_64
set_option maxHeartbeats 4000000 in
set_option maxRecDepth 100000 in
theorem c_X6_fact (l : Launch) (G : Gg) (hG : Ginj G) (σ : Sg) (hI0 : Inv σ) (i : Nat) (hi : nk i = 5) (v : Int32) : MI l G yX6_fact cX6_fact 2 .int (rmO 0 0) σ [.ref (ad G (i)), .int v] (fun r σ' => σ' = σ ∧ (True)) := by
  refine MI.of (by decide +kernel) (Nat.le_of_ble_eq_true rfl) ?_
  intro p e s m a below meth c ls Q hx hb hml hts hown hk hw ret hl
  have hown : s.vm.findClass RX6 = some m.cls := hown
  have hl : lv_has ls 2 [(0, .ref (ad G (i))), (1, .int v)] := hl
  have hI : K0 σ σ := K0.rf hI0
  have L0 : (0 : Int32).toInt = 0 := by decide
  have L1 : (1 : Int32).toInt = 1 := by decide
  have L2 : (2 : Int32).toInt = 2 := by decide
  have L3 : (3 : Int32).toInt = 3 := by decide
  have L4 : (4 : Int32).toInt = 4 := by decide
  have L5 : (5 : Int32).toInt = 5 := by decide
  have L6 : (6 : Int32).toInt = 6 := by decide
  generalize hHe : s.heap = H at hw ⊢
  generalize hLe : ([] : List Loc) = locs at hw ⊢
  refine lv_iload_n hx hb dX6_fact_0 rfl (lv_at hl 1 rfl) ?_
  by_cases w1_0 : v = (0 : Int32)
  · have w1_0i : v.toInt = 0 := by rw [w1_0]; decide
    refine lv_tableIn (tgt := 44) hx hb dX6_fact_1 (by omega) (by omega) (by rw [w1_0i]; rfl) (by decide) ?_
    refine lv_aload_n hx hb dX6_fact_44 rfl (lv_at hl 0 rfl) ?_
    refine tg_get (ci := 5) (k := 0) (v := .int (σ (i) 0)) hx hb hts hown hk hw (en5 hi) rfl inlX6 (by decide) wd138 rfl dX6_fact_45 ?_
    refine lv_topi (fun x1 ex1 => ?_)
    exact ret x1 σ _ _ 48 _ (rfl) (⟨rfl, trivial⟩) hw dX6_fact_48
  have w1_0i : ¬ v.toInt = 0 := fun z => w1_0 (Int32.toInt_inj.mp (z.trans (by decide)))
  by_cases w1_1 : v = (1 : Int32)
  · have w1_1i : v.toInt = 1 := by rw [w1_1]; decide
    refine lv_tableIn (tgt := 49) hx hb dX6_fact_1 (by omega) (by omega) (by rw [w1_1i]; rfl) (by decide) ?_
    refine lv_aload_n hx hb dX6_fact_49 rfl (lv_at hl 0 rfl) ?_
    refine tg_get (ci := 5) (k := 1) (v := .int (σ (i) 1)) hx hb hts hown hk hw (en5 hi) rfl inlX6 (by decide) wd139 rfl dX6_fact_50 ?_
    refine lv_topi (fun x2 ex2 => ?_)
    exact ret x2 σ _ _ 53 _ (rfl) (⟨rfl, trivial⟩) hw dX6_fact_53
  have w1_1i : ¬ v.toInt = 1 := fun z => w1_1 (Int32.toInt_inj.mp (z.trans (by decide)))
  by_cases w1_2 : v = (2 : Int32)
  · have w1_2i : v.toInt = 2 := by rw [w1_2]; decide
    refine lv_tableIn (tgt := 54) hx hb dX6_fact_1 (by omega) (by omega) (by rw [w1_2i]; rfl) (by decide) ?_
    refine lv_aload_n hx hb dX6_fact_54 rfl (lv_at hl 0 rfl) ?_
    refine tg_get (ci := 5) (k := 2) (v := .int (σ (i) 2)) hx hb hts hown hk hw (en5 hi) rfl inlX6 (by decide) wd78 rfl dX6_fact_55 ?_
    refine lv_topi (fun x3 ex3 => ?_)
    exact ret x3 σ _ _ 58 _ (rfl) (⟨rfl, trivial⟩) hw dX6_fact_58
  have w1_2i : ¬ v.toInt = 2 := fun z => w1_2 (Int32.toInt_inj.mp (z.trans (by decide)))
  by_cases w1_3 : v = (3 : Int32)
  · have w1_3i : v.toInt = 3 := by rw [w1_3]; decide
    refine lv_tableIn (tgt := 59) hx hb dX6_fact_1 (by omega) (by omega) (by rw [w1_3i]; rfl) (by decide) ?_
    refine lv_aload_n hx hb dX6_fact_59 rfl (lv_at hl 0 rfl) ?_
    refine tg_get (ci := 5) (k := 3) (v := .int (σ (i) 3)) hx hb hts hown hk hw (en5 hi) rfl inlX6 (by decide) wd79 rfl dX6_fact_60 ?_
    refine lv_topi (fun x4 ex4 => ?_)
    exact ret x4 σ _ _ 63 _ (rfl) (⟨rfl, trivial⟩) hw dX6_fact_63
  have w1_3i : ¬ v.toInt = 3 := fun z => w1_3 (Int32.toInt_inj.mp (z.trans (by decide)))
  by_cases w1_4 : v = (4 : Int32)
  · have w1_4i : v.toInt = 4 := by rw [w1_4]; decide
    refine lv_tableIn (tgt := 64) hx hb dX6_fact_1 (by omega) (by omega) (by rw [w1_4i]; rfl) (by decide) ?_
    refine lv_aload_n hx hb dX6_fact_64 rfl (lv_at hl 0 rfl) ?_
    refine tg_get (ci := 5) (k := 4) (v := .int (σ (i) 4)) hx hb hts hown hk hw (en5 hi) rfl inlX6 (by decide) wd140 rfl dX6_fact_65 ?_
    refine lv_topi (fun x5 ex5 => ?_)
    refine lv_iconst (v := 2) hx hb dX6_fact_68 (by decide) ?_
    refine lv_iadd hx hb dX6_fact_69 ?_
    refine lv_topi (fun x6 ex6 => ?_)
    exact ret x6 σ _ _ 70 _ (rfl) (⟨rfl, trivial⟩) hw dX6_fact_70
  have w1_4i : ¬ v.toInt = 4 := fun z => w1_4 (Int32.toInt_inj.mp (z.trans (by decide)))
  by_cases w1_5 : v = (5 : Int32)
  · have w1_5i : v.toInt = 5 := by rw [w1_5]; decide
    refine lv_tableIn (tgt := 71) hx hb dX6_fact_1 (by omega) (by omega) (by rw [w1_5i]; rfl) (by decide) ?_
    refine lv_aload_n hx hb dX6_fact_71 rfl (lv_at hl 0 rfl) ?_
    refine tg_get (ci := 5) (k := 5) (v := .int (σ (i) 5)) hx hb hts hown hk hw (en5 hi) rfl inlX6 (by decide) wd80 rfl dX6_fact_72 ?_
    refine lv_topi (fun x7 ex7 => ?_)
    exact ret x7 σ _ _ 75 _ (rfl) (⟨rfl, trivial⟩) hw dX6_fact_75
  have w1_5i : ¬ v.toInt = 5 := fun z => w1_5 (Int32.toInt_inj.mp (z.trans (by decide)))
  by_cases w1_6 : v = (6 : Int32)
  · have w1_6i : v.toInt = 6 := by rw [w1_6]; decide
    refine lv_tableIn (tgt := 76) hx hb dX6_fact_1 (by omega) (by omega) (by rw [w1_6i]; rfl) (by decide) ?_
    refine lv_aload_n hx hb dX6_fact_76 rfl (lv_at hl 0 rfl) ?_
    refine tg_get (ci := 5) (k := 6) (v := .int (σ (i) 6)) hx hb hts hown hk hw (en5 hi) rfl inlX6 (by decide) wd141 rfl dX6_fact_77 ?_
    refine lv_topi (fun x8 ex8 => ?_)
    exact ret x8 σ _ _ 80 _ (rfl) (⟨rfl, trivial⟩) hw dX6_fact_80
  have w1_6i : ¬ v.toInt = 6 := fun z => w1_6 (Int32.toInt_inj.mp (z.trans (by decide)))
  refine lv_tableOut (tgt := 81) hx hb dX6_fact_1 (by omega) (by decide) ?_
  refine lv_aload_n hx hb dX6_fact_81 rfl (lv_at hl 0 rfl) ?_
  refine tg_get (ci := 5) (k := 7) (v := .int (σ (i) 7)) hx hb hts hown hk hw (en5 hi) rfl inlX6 (by decide) wd142 rfl dX6_fact_82 ?_
  refine lv_topi (fun x9 ex9 => ?_)
  exact ret x9 σ _ _ 85 _ (rfl) (⟨rfl, trivial⟩) hw dX6_fact_85
set_option maxHeartbeats 4000000 in
set_option maxRecDepth 100000 in
theorem c_X6_put (l : Launch) (G : Gg) (hG : Ginj G) (σ : Sg) (hI0 : Inv σ) (i : Nat) (hi : nk i = 5) (v : Int32) (w : Int32) : MV l G yX6_put cX6_put 3 (rmO 0 0) σ [.ref (ad G (i)), .int v, .int w] (fun σ' => K0 σ σ' ∧ (True)) := by
  refine MV.of (by decide +kernel) (Nat.le_of_ble_eq_true rfl) ?_
  intro p e s m a below meth c ls Q hx hb hml hts hown hk hw ret hl
  have hown : s.vm.findClass RX6 = some m.cls := hown
  have hl : lv_has ls 3 [(0, .ref (ad G (i))), (1, .int v), (2, .int w)] := hl
  have hI : K0 σ σ := K0.rf hI0
  have L0 : (0 : Int32).toInt = 0 := by decide
  have L1 : (1 : Int32).toInt = 1 := by decide
  have L2 : (2 : Int32).toInt = 2 := by decide
  have L3 : (3 : Int32).toInt = 3 := by decide
  have L4 : (4 : Int32).toInt = 4 := by decide
  have L5 : (5 : Int32).toInt = 5 := by decide
  generalize hHe : s.heap = H at hw ⊢
  generalize hLe : ([] : List Loc) = locs at hw ⊢
  refine lv_iload_n hx hb dX6_put_0 rfl (lv_at hl 1 rfl) ?_
  by_cases w1_0 : v = (0 : Int32)
  · have w1_0i : v.toInt = 0 := by rw [w1_0]; decide
    refine lv_tableIn (tgt := 40) hx hb dX6_put_1 (by omega) (by omega) (by rw [w1_0i]; rfl) (by decide) ?_
    refine lv_aload_n hx hb dX6_put_40 rfl (lv_at hl 0 rfl) ?_
    refine lv_iload_n hx hb dX6_put_41 rfl (lv_at hl 2 rfl) ?_
    refine tg_put (ci := 5) (k := 0) (σ' := up2 σ (i) 0 w) hx hb hts hown hk hG hw tyX6 (en5 hi) rfl inlX6 tyX6_ok nmX6 (by decide) wd138 rfl rfl rfl (Nat.le_of_ble_eq_true rfl) (pu5_0 hi) (fun _ h => up2_ne h) dX6_put_42 (fun H locs hw => ?_)
    obtain ⟨σ1, eσ1⟩ : ∃ z, z = up2 σ (i) 0 w := ⟨_, rfl⟩
    rw [← eσ1] at hw
    have hI : K0 σ σ1 := by rw [eσ1]; exact hI.up (tr5 hi) (rg_no (by rw [hi]; rfl))
    refine lv_goto (tgt := 90) hx hb dX6_put_45 (by decide) ?_
    exact ret σ1 _ _ 90 _ (⟨hI, trivial⟩) hw dX6_put_90
  have w1_0i : ¬ v.toInt = 0 := fun z => w1_0 (Int32.toInt_inj.mp (z.trans (by decide)))
  by_cases w1_1 : v = (1 : Int32)
  · have w1_1i : v.toInt = 1 := by rw [w1_1]; decide
    refine lv_tableIn (tgt := 48) hx hb dX6_put_1 (by omega) (by omega) (by rw [w1_1i]; rfl) (by decide) ?_
    refine lv_aload_n hx hb dX6_put_48 rfl (lv_at hl 0 rfl) ?_
    refine lv_iload_n hx hb dX6_put_49 rfl (lv_at hl 2 rfl) ?_
    refine tg_put (ci := 5) (k := 1) (σ' := up2 σ (i) 1 w) hx hb hts hown hk hG hw tyX6 (en5 hi) rfl inlX6 tyX6_ok nmX6 (by decide) wd139 rfl rfl rfl (Nat.le_of_ble_eq_true rfl) (pu5_1 hi) (fun _ h => up2_ne h) dX6_put_50 (fun H locs hw => ?_)
    obtain ⟨σ2, eσ2⟩ : ∃ z, z = up2 σ (i) 1 w := ⟨_, rfl⟩
    rw [← eσ2] at hw
    have hI : K0 σ σ2 := by rw [eσ2]; exact hI.up (tr5 hi) (rg_no (by rw [hi]; rfl))
    refine lv_goto (tgt := 90) hx hb dX6_put_53 (by decide) ?_
    exact ret σ2 _ _ 90 _ (⟨hI, trivial⟩) hw dX6_put_90
  have w1_1i : ¬ v.toInt = 1 := fun z => w1_1 (Int32.toInt_inj.mp (z.trans (by decide)))
  by_cases w1_2 : v = (2 : Int32)
  · have w1_2i : v.toInt = 2 := by rw [w1_2]; decide
    refine lv_tableIn (tgt := 56) hx hb dX6_put_1 (by omega) (by omega) (by rw [w1_2i]; rfl) (by decide) ?_
    refine lv_aload_n hx hb dX6_put_56 rfl (lv_at hl 0 rfl) ?_
    refine lv_iload_n hx hb dX6_put_57 rfl (lv_at hl 2 rfl) ?_
    refine tg_put (ci := 5) (k := 2) (σ' := up2 σ (i) 2 w) hx hb hts hown hk hG hw tyX6 (en5 hi) rfl inlX6 tyX6_ok nmX6 (by decide) wd78 rfl rfl rfl (Nat.le_of_ble_eq_true rfl) (pu5_2 hi) (fun _ h => up2_ne h) dX6_put_58 (fun H locs hw => ?_)
    obtain ⟨σ3, eσ3⟩ : ∃ z, z = up2 σ (i) 2 w := ⟨_, rfl⟩
    rw [← eσ3] at hw
    have hI : K0 σ σ3 := by rw [eσ3]; exact hI.up (tr5 hi) (rg_no (by rw [hi]; rfl))
    refine lv_goto (tgt := 90) hx hb dX6_put_61 (by decide) ?_
    exact ret σ3 _ _ 90 _ (⟨hI, trivial⟩) hw dX6_put_90
  have w1_2i : ¬ v.toInt = 2 := fun z => w1_2 (Int32.toInt_inj.mp (z.trans (by decide)))
  by_cases w1_3 : v = (3 : Int32)
  · have w1_3i : v.toInt = 3 := by rw [w1_3]; decide
    refine lv_tableIn (tgt := 64) hx hb dX6_put_1 (by omega) (by omega) (by rw [w1_3i]; rfl) (by decide) ?_
    refine lv_aload_n hx hb dX6_put_64 rfl (lv_at hl 0 rfl) ?_
    refine lv_iload_n hx hb dX6_put_65 rfl (lv_at hl 2 rfl) ?_
    refine tg_put (ci := 5) (k := 3) (σ' := up2 σ (i) 3 w) hx hb hts hown hk hG hw tyX6 (en5 hi) rfl inlX6 tyX6_ok nmX6 (by decide) wd79 rfl rfl rfl (Nat.le_of_ble_eq_true rfl) (pu5_3 hi) (fun _ h => up2_ne h) dX6_put_66 (fun H locs hw => ?_)
    obtain ⟨σ4, eσ4⟩ : ∃ z, z = up2 σ (i) 3 w := ⟨_, rfl⟩
    rw [← eσ4] at hw
    have hI : K0 σ σ4 := by rw [eσ4]; exact hI.up (tr5 hi) (rg_no (by rw [hi]; rfl))
    refine lv_goto (tgt := 90) hx hb dX6_put_69 (by decide) ?_
    exact ret σ4 _ _ 90 _ (⟨hI, trivial⟩) hw dX6_put_90
  have w1_3i : ¬ v.toInt = 3 := fun z => w1_3 (Int32.toInt_inj.mp (z.trans (by decide)))
  by_cases w1_4 : v = (4 : Int32)
  · have w1_4i : v.toInt = 4 := by rw [w1_4]; decide
    refine lv_tableIn (tgt := 72) hx hb dX6_put_1 (by omega) (by omega) (by rw [w1_4i]; rfl) (by decide) ?_
    refine lv_aload_n hx hb dX6_put_72 rfl (lv_at hl 0 rfl) ?_
    refine lv_iload_n hx hb dX6_put_73 rfl (lv_at hl 2 rfl) ?_
    refine lv_iconst (v := 2) hx hb dX6_put_74 (by decide) ?_
    refine lv_isub hx hb dX6_put_75 ?_
    refine lv_topi (fun x5 ex5 => ?_)
    refine tg_put (ci := 5) (k := 4) (σ' := up2 σ (i) 4 x5) hx hb hts hown hk hG hw tyX6 (en5 hi) rfl inlX6 tyX6_ok nmX6 (by decide) wd140 rfl rfl rfl (Nat.le_of_ble_eq_true rfl) (pu5_4 hi) (fun _ h => up2_ne h) dX6_put_76 (fun H locs hw => ?_)
    obtain ⟨σ6, eσ6⟩ : ∃ z, z = up2 σ (i) 4 x5 := ⟨_, rfl⟩
    rw [← eσ6] at hw
    have hI : K0 σ σ6 := by rw [eσ6]; exact hI.up (tr5 hi) (rg_no (by rw [hi]; rfl))
    refine lv_goto (tgt := 90) hx hb dX6_put_79 (by decide) ?_
    exact ret σ6 _ _ 90 _ (⟨hI, trivial⟩) hw dX6_put_90
  have w1_4i : ¬ v.toInt = 4 := fun z => w1_4 (Int32.toInt_inj.mp (z.trans (by decide)))
  by_cases w1_5 : v = (5 : Int32)
  · have w1_5i : v.toInt = 5 := by rw [w1_5]; decide
    refine lv_tableIn (tgt := 82) hx hb dX6_put_1 (by omega) (by omega) (by rw [w1_5i]; rfl) (by decide) ?_
    refine lv_aload_n hx hb dX6_put_82 rfl (lv_at hl 0 rfl) ?_
    refine lv_iload_n hx hb dX6_put_83 rfl (lv_at hl 2 rfl) ?_
    refine tg_put (ci := 5) (k := 5) (σ' := up2 σ (i) 5 w) hx hb hts hown hk hG hw tyX6 (en5 hi) rfl inlX6 tyX6_ok nmX6 (by decide) wd80 rfl rfl rfl (Nat.le_of_ble_eq_true rfl) (pu5_5 hi) (fun _ h => up2_ne h) dX6_put_84 (fun H locs hw => ?_)
    obtain ⟨σ7, eσ7⟩ : ∃ z, z = up2 σ (i) 5 w := ⟨_, rfl⟩
    rw [← eσ7] at hw
    have hI : K0 σ σ7 := by rw [eσ7]; exact hI.up (tr5 hi) (rg_no (by rw [hi]; rfl))
    refine lv_goto (tgt := 90) hx hb dX6_put_87 (by decide) ?_
    exact ret σ7 _ _ 90 _ (⟨hI, trivial⟩) hw dX6_put_90
  have w1_5i : ¬ v.toInt = 5 := fun z => w1_5 (Int32.toInt_inj.mp (z.trans (by decide)))
  refine lv_tableOut (tgt := 90) hx hb dX6_put_1 (by omega) (by decide) ?_
  exact ret σ _ _ 90 _ (⟨hI, trivial⟩) hw dX6_put_90
set_option maxHeartbeats 4000000 in
set_option maxRecDepth 100000 in
theorem c_X6_hears (l : Launch) (G : Gg) (hG : Ginj G) (σ : Sg) (hI0 : Inv σ) (i : Nat) (hi : nk i = 5) (v : Int32) : MI l G yX6_hears cX6_hears 2 .boolean (rmO 2 44) σ [.ref (ad G (i)), .int v] (fun r σ' => σ' = σ ∧ (True)) := by
  refine MI.of (by decide +kernel) (Nat.le_of_ble_eq_true rfl) ?_
  intro p e s m a below meth c ls Q hx hb hml hts hown hk hw ret hl
  have hown : s.vm.findClass RX6 = some m.cls := hown
  have hl : lv_has ls 2 [(0, .ref (ad G (i))), (1, .int v)] := hl
  have hI : K0 σ σ := K0.rf hI0
  have L0 : (0 : Int32).toInt = 0 := by decide
  have L1 : (1 : Int32).toInt = 1 := by decide
  generalize hHe : s.heap = H at hw ⊢
  generalize hLe : ([] : List Loc) = locs at hw ⊢
  refine lv_aload_n hx hb dX6_hears_0 rfl (lv_at hl 0 rfl) ?_
  refine tg_get (ci := 5) (k := 0) (v := .int (σ (i) 0)) hx hb hts hown hk hw (en5 hi) rfl inlX6 (by decide) wd138 rfl dX6_hears_1 ?_
  refine lv_topi (fun x1 ex1 => ?_)
  refine lv_iload_n hx hb dX6_hears_4 rfl (lv_at hl 1 rfl) ?_
  refine te_vi hw (ru_N (As := [.int x1, .int v]) (rest := []) hx hb hml hts hown hk hw (c_X10_cellsApart l G hG σ hI.1 x1 v) (m2_in wd310 wd2) (by decide +kernel) wd311 nm_yX10_cellsApart ⟨rfl, rfl⟩ ⟨by decide, by decide⟩ rfl hl.1 rfl (Nat.le_of_ble_eq_true rfl) dX6_hears_5 ⟨Nat.zero_le _, Nat.zero_le _⟩) (fun r3 σ2 H locs hr3 hw => ?_)
  rw [hr3.1] at hw
  have hr3 := hr3.2
  refine lv_aload_n hx hb dX6_hears_8 rfl (lv_at hl 0 rfl) ?_
  refine tg_get (ci := 5) (k := 5) (v := .int (σ (i) 5)) hx hb hts hown hk hw (en5 hi) rfl inlX6 (by decide) wd80 rfl dX6_hears_9 ?_
  refine lv_topi (fun x4 ex4 => ?_)
  refine lv_icmp_gt (tgt := 19) hx hb dX6_hears_12 (by decide) (fun c12 => ?_) (fun c12 => ?_)
  · have or3 := i32b r3
    have ox4 := i32b x4
    have c12i := Int32.lt_iff_toInt_lt.mp c12
    refine lv_iconst (v := 0) hx hb dX6_hears_19 (by decide) ?_
    exact ret (0 : Int32) σ _ _ 20 _ (rfl) (⟨rfl, trivial⟩) hw dX6_hears_20
  · have or3 := i32b r3
    have ox4 := i32b x4
    have c12i := mt Int32.lt_iff_toInt_lt.mpr c12
    refine lv_iconst (v := 1) hx hb dX6_hears_15 (by decide) ?_
    refine lv_goto (tgt := 20) hx hb dX6_hears_16 (by decide) ?_
    exact ret (1 : Int32) σ _ _ 20 _ (rfl) (⟨rfl, trivial⟩) hw dX6_hears_20
set_option maxHeartbeats 4000000 in
set_option maxRecDepth 100000 in
theorem c_X6_turn (l : Launch) (G : Gg) (hG : Ginj G) (σ : Sg) (hI0 : Inv σ) (i : Nat) (hi : nk i = 5) (v : Int32) : MV l G yX6_turn cX6_turn 2 (rmO 1 22) σ [.ref (ad G (i)), .int v] (fun σ' => K0 σ σ' ∧ (True)) := by
  refine MV.of (by decide +kernel) (Nat.le_of_ble_eq_true rfl) ?_
  intro p e s m a below meth c ls Q hx hb hml hts hown hk hw ret hl
  have hown : s.vm.findClass RX6 = some m.cls := hown
  have hl : lv_has ls 2 [(0, .ref (ad G (i))), (1, .int v)] := hl
  have hI : K0 σ σ := K0.rf hI0
  have L8 : (8 : Int32).toInt = 8 := by decide
  generalize hHe : s.heap = H at hw ⊢
  generalize hLe : ([] : List Loc) = locs at hw ⊢
  refine lv_aload_n hx hb dX6_turn_0 rfl (lv_at hl 0 rfl) ?_
  refine lv_aload_n hx hb dX6_turn_1 rfl (lv_at hl 0 rfl) ?_
  refine tg_get (ci := 5) (k := 1) (v := .int (σ (i) 1)) hx hb hts hown hk hw (en5 hi) rfl inlX6 (by decide) wd139 rfl dX6_turn_2 ?_
  refine lv_topi (fun x1 ex1 => ?_)
  refine lv_iload_n hx hb dX6_turn_5 rfl (lv_at hl 1 rfl) ?_
  refine lv_iadd hx hb dX6_turn_6 ?_
  refine lv_topi (fun x2 ex2 => ?_)
  refine lv_aload_n hx hb dX6_turn_7 rfl (lv_at hl 0 rfl) ?_
  refine tg_get (ci := 5) (k := 4) (v := .int (σ (i) 4)) hx hb hts hown hk hw (en5 hi) rfl inlX6 (by decide) wd140 rfl dX6_turn_8 ?_
  refine lv_topi (fun x3 ex3 => ?_)
  refine lv_iadd hx hb dX6_turn_11 ?_
  refine lv_topi (fun x4 ex4 => ?_)
  refine lv_bipush (v := 8) hx hb dX6_turn_12 (by decide) ?_
  refine te_vi hw (ru_S (As := [.int x4, .int (8 : Int32)]) (rest := [.ref (ad G (i))]) hx hb hml hts hown hk hw (c_J9_floorMod_7cf53 l G hG σ hI.1 x4) (m3_in wd300 wd301 wd302) wd303 nm_yJ9_floorMod_7cf53 ⟨rfl, rfl⟩ ⟨by decide, by decide⟩ rfl hl.1 rfl (Nat.le_of_ble_eq_true rfl) dX6_turn_14 ⟨Nat.zero_le _, Nat.zero_le _⟩) (fun r6 σ5 H locs hr6 hw => ?_)
  rw [hr6.1] at hw
  have hr6 := hr6.2
  refine tg_put (ci := 5) (k := 1) (σ' := up2 σ (i) 1 r6) hx hb hts hown hk hG hw tyX6 (en5 hi) rfl inlX6 tyX6_ok nmX6 (by decide) wd139 rfl rfl rfl (Nat.le_of_ble_eq_true rfl) (pu5_1 hi) (fun _ h => up2_ne h) dX6_turn_17 (fun H locs hw => ?_)
  obtain ⟨σ7, eσ7⟩ : ∃ z, z = up2 σ (i) 1 r6 := ⟨_, rfl⟩
  rw [← eσ7] at hw
  have hI : K0 σ σ7 := by rw [eσ7]; exact hI.up (tr5 hi) (rg_no (by rw [hi]; rfl))
  exact ret σ7 _ _ 20 _ (⟨hI, trivial⟩) hw dX6_turn_20
set_option maxHeartbeats 4000000 in
set_option maxRecDepth 100000 in
theorem c_X6_turnTo (l : Launch) (G : Gg) (hG : Ginj G) (σ : Sg) (hI0 : Inv σ) (i : Nat) (hi : nk i = 5) (v : Int32) : MV l G yX6_turnTo cX6_turnTo 2 (rmO 1 28) σ [.ref (ad G (i)), .int v] (fun σ' => K0 σ σ' ∧ (True)) := by
  refine MV.of (by decide +kernel) (Nat.le_of_ble_eq_true rfl) ?_
  intro p e s m a below meth c ls Q hx hb hml hts hown hk hw ret hl
  have hown : s.vm.findClass RX6 = some m.cls := hown
  have hl : lv_has ls 2 [(0, .ref (ad G (i))), (1, .int v)] := hl
  have hI : K0 σ σ := K0.rf hI0
  have L0 : (0 : Int32).toInt = 0 := by decide
  have L8 : (8 : Int32).toInt = 8 := by decide
  generalize hHe : s.heap = H at hw ⊢
  generalize hLe : ([] : List Loc) = locs at hw ⊢
  refine lv_iload_n hx hb dX6_turnTo_0 rfl (lv_at hl 1 rfl) ?_
  refine lv_aload_n hx hb dX6_turnTo_1 rfl (lv_at hl 0 rfl) ?_
  refine tg_get (ci := 5) (k := 0) (v := .int (σ (i) 0)) hx hb hts hown hk hw (en5 hi) rfl inlX6 (by decide) wd138 rfl dX6_turnTo_2 ?_
  refine lv_topi (fun x1 ex1 => ?_)
  refine lv_icmp_eq (tgt := 30) hx hb dX6_turnTo_5 (by decide) (fun c5 => ?_) (fun c5 => ?_)
  · have ov := i32b v
    have ox1 := i32b x1
    have c5i := congrArg Int32.toInt c5
    exact ret σ _ _ 30 _ (⟨hI, trivial⟩) hw dX6_turnTo_30
  · have ov := i32b v
    have ox1 := i32b x1
    have c5i := mt Int32.toInt_inj.mp c5
    refine lv_aload_n hx hb dX6_turnTo_8 rfl (lv_at hl 0 rfl) ?_
    refine lv_aload_n hx hb dX6_turnTo_9 rfl (lv_at hl 0 rfl) ?_
    refine tg_get (ci := 5) (k := 0) (v := .int (σ (i) 0)) hx hb hts hown hk hw (en5 hi) rfl inlX6 (by decide) wd138 rfl dX6_turnTo_10 ?_
    refine lv_topi (fun x2 ex2 => ?_)
    have qx2 : x2.toInt = x1.toInt := by rw [ex2, ex1]
    refine lv_iload_n hx hb dX6_turnTo_13 rfl (lv_at hl 1 rfl) ?_
    refine te_vi hw (ru_N (As := [.int x2, .int v]) (rest := [.ref (ad G (i))]) hx hb hml hts hown hk hw (c_X10_bestWay l G hG σ hI.1 x2 v) (m2_in wd323 wd2) (by decide +kernel) wd324 nm_yX10_bestWay ⟨rfl, rfl⟩ ⟨by decide, by decide⟩ rfl hl.1 rfl (Nat.le_of_ble_eq_true rfl) dX6_turnTo_14 ⟨Nat.zero_le _, Nat.zero_le _⟩) (fun r4 σ3 H locs hr4 hw => ?_)
    rw [hr4.1] at hw
    have hr4 := hr4.2
    refine lv_aload_n hx hb dX6_turnTo_17 rfl (lv_at hl 0 rfl) ?_
    refine tg_get (ci := 5) (k := 4) (v := .int (σ (i) 4)) hx hb hts hown hk hw (en5 hi) rfl inlX6 (by decide) wd140 rfl dX6_turnTo_18 ?_
    refine lv_topi (fun x5 ex5 => ?_)
    refine lv_iadd hx hb dX6_turnTo_21 ?_
    refine lv_topi (fun x6 ex6 => ?_)
    refine lv_bipush (v := 8) hx hb dX6_turnTo_22 (by decide) ?_
    refine te_vi hw (ru_S (As := [.int x6, .int (8 : Int32)]) (rest := [.ref (ad G (i))]) hx hb hml hts hown hk hw (c_J9_floorMod_7cf53 l G hG σ hI.1 x6) (m3_in wd300 wd301 wd302) wd303 nm_yJ9_floorMod_7cf53 ⟨rfl, rfl⟩ ⟨by decide, by decide⟩ rfl hl.1 rfl (Nat.le_of_ble_eq_true rfl) dX6_turnTo_24 ⟨Nat.zero_le _, Nat.zero_le _⟩) (fun r8 σ7 H locs hr8 hw => ?_)
    rw [hr8.1] at hw
    have hr8 := hr8.2
    refine tg_put (ci := 5) (k := 1) (σ' := up2 σ (i) 1 r8) hx hb hts hown hk hG hw tyX6 (en5 hi) rfl inlX6 tyX6_ok nmX6 (by decide) wd139 rfl rfl rfl (Nat.le_of_ble_eq_true rfl) (pu5_1 hi) (fun _ h => up2_ne h) dX6_turnTo_27 (fun H locs hw => ?_)
    obtain ⟨σ9, eσ9⟩ : ∃ z, z = up2 σ (i) 1 r8 := ⟨_, rfl⟩
    rw [← eσ9] at hw
    have hI : K0 σ σ9 := by rw [eσ9]; exact hI.up (tr5 hi) (rg_no (by rw [hi]; rfl))
    exact ret σ9 _ _ 30 _ (⟨hI, trivial⟩) hw dX6_turnTo_30
set_option maxHeartbeats 4000000 in
set_option maxRecDepth 100000 in
theorem c_X6_walkN (l : Launch) (G : Gg) (hG : Ginj G) (σ : Sg) (hI0 : Inv σ) (i : Nat) (hi : nk i = 5) (v : Int32) : MV l G yX6_walk cX6_walk 5 (rmO 2 45) σ [.ref (ad G (i)), .int v, .null] (fun σ' => K0 σ σ' ∧ (True)) := by
  refine MV.of (by decide +kernel) (Nat.le_of_ble_eq_true rfl) ?_
  intro p e s m a below meth c ls Q hx hb hml hts hown hk hw ret hl
  have hown : s.vm.findClass RX6 = some m.cls := hown
  have hl : lv_has ls 5 [(0, .ref (ad G (i))), (1, .int v), (2, .null)] := hl
  have hI : K0 σ σ := K0.rf hI0
  have Lm6 : (-6 : Int32).toInt = -6 := by decide
  have L0 : (0 : Int32).toInt = 0 := by decide
  have L1 : (1 : Int32).toInt = 1 := by decide
  generalize hHe : s.heap = H at hw ⊢
  generalize hLe : ([] : List Loc) = locs at hw ⊢
  refine lv_iconst (v := 0) hx hb dX6_walk_0 (by decide) ?_
  refine lv_istore_n (lv' := [(3, .int (0 : Int32)), (0, .ref (ad G (i))), (1, .int v), (2, .null)]) hx hb dX6_walk_1 rfl hl (by decide) rfl (fun ls hl => ?_)
  have cut2 : ∀ (n : Nat) (z3_2 : Int32) (σc2 : Sg) (H : Heap) (locs : List Loc) (ls : Array Slot), (0 ≤ z3_2.toInt ∧ z3_2.toInt ≤ 2147483647) → K0 σ σc2 → ((v.toInt - z3_2.toInt).toNat : Int) < (n : Int) → Wo G σc2 s H locs → lv_has ls 5 [(0, .ref (ad G (i))), (1, .int v), (2, .null), (3, .int z3_2)] → W p l e (rmO 2 45) s m a below meth c H locs 0 0 Q (F0 m 2 ls []) := by
    intro n2
    induction n2 with
    | zero =>
      intro z3_2 σc2 H locs ls f2_0 hI hm2 hw hl
      exfalso; omega
    | succ n2 ih2 =>
      intro z3_2 σc2 H locs ls f2_0 hI hm2 hw hl
      refine lv_iload_n hx hb dX6_walk_2 rfl (lv_at hl 3 rfl) ?_
      refine lv_iload_n hx hb dX6_walk_3 rfl (lv_at hl 1 rfl) ?_
      refine lv_icmp_ge (tgt := 95) hx hb dX6_walk_4 (by decide) (fun c4 => ?_) (fun c4 => ?_)
      · have oz3_2 := i32b z3_2
        have ov := i32b v
        have c4i := Int32.le_iff_toInt_le.mp c4
        exact ret σc2 _ _ 95 _ (⟨hI, trivial⟩) hw dX6_walk_95
      · have oz3_2 := i32b z3_2
        have ov := i32b v
        have c4i := mt Int32.le_iff_toInt_le.mpr c4
        refine lv_aload_n hx hb dX6_walk_7 rfl (lv_at hl 0 rfl) ?_
        refine tg_get (ci := 5) (k := 0) (v := .int (σc2 (i) 0)) hx hb hts hown hk hw (en5 hi) rfl inlX6 (by decide) wd138 rfl dX6_walk_8 ?_
        refine lv_topi (fun x1 ex1 => ?_)
        refine lv_aload_n hx hb dX6_walk_11 rfl (lv_at hl 0 rfl) ?_
        refine tg_get (ci := 5) (k := 1) (v := .int (σc2 (i) 1)) hx hb hts hown hk hw (en5 hi) rfl inlX6 (by decide) wd139 rfl dX6_walk_12 ?_
        refine lv_topi (fun x2 ex2 => ?_)
        refine te_vi hw (ru_N (As := [.int x1, .int x2]) (rest := []) hx hb hml hts hown hk hw (c_X10_stepFrom l G hG σc2 hI.1 x1 x2) (m2_in wd281 wd2) (by decide +kernel) wd282 nm_yX10_stepFrom ⟨rfl, rfl⟩ ⟨by decide, by decide⟩ rfl hl.1 rfl (Nat.le_of_ble_eq_true rfl) dX6_walk_15 ⟨Nat.zero_le _, Nat.zero_le _⟩) (fun r4 σ3 H locs hr4 hw => ?_)
        rw [hr4.1] at hw
        have hr4 := hr4.2
        refine lv_istore (lv' := [(4, .int r4), (0, .ref (ad G (i))), (1, .int v), (2, .null), (3, .int z3_2)]) hx hb dX6_walk_18 hl (by decide) rfl (fun ls hl => ?_)
        refine lv_iload hx hb dX6_walk_20 (lv_at hl 0 rfl) ?_
        refine lv_bipush (v := -6) hx hb dX6_walk_22 (by decide) ?_
        refine lv_icmp_ne (tgt := 40) hx hb dX6_walk_24 (by decide) (fun c24 => ?_) (fun c24 => ?_)
        · have c24i := mt Int32.toInt_inj.mp c24
          refine lv_aload_n hx hb dX6_walk_40 rfl (lv_at hl 1 rfl) ?_
          refine lv_iload hx hb dX6_walk_41 (lv_at hl 0 rfl) ?_
          refine tg_put (ci := 5) (k := 0) (σ' := up2 σc2 (i) 0 r4) hx hb hts hown hk hG hw tyX6 (en5 hi) rfl inlX6 tyX6_ok nmX6 (by decide) wd138 rfl rfl rfl (Nat.le_of_ble_eq_true rfl) (pu5_0 hi) (fun _ h => up2_ne h) dX6_walk_43 (fun H locs hw => ?_)
          obtain ⟨σ5, eσ5⟩ : ∃ z, z = up2 σc2 (i) 0 r4 := ⟨_, rfl⟩
          rw [← eσ5] at hw
          have hI : K0 σ σ5 := by rw [eσ5]; exact hI.up (tr5 hi) (rg_no (by rw [hi]; rfl))
          refine lv_aload_n hx hb dX6_walk_46 rfl (lv_at hl 1 rfl) ?_
          refine lv_dup hx hb dX6_walk_47 rfl ?_
          refine tg_get (ci := 5) (k := 6) (v := .int (σ5 (i) 6)) hx hb hts hown hk hw (en5 hi) rfl inlX6 (by decide) wd141 rfl dX6_walk_48 ?_
          refine lv_topi (fun x6 ex6 => ?_)
          refine lv_iconst (v := 1) hx hb dX6_walk_51 (by decide) ?_
          refine lv_iadd hx hb dX6_walk_52 ?_
          refine lv_topi (fun x7 ex7 => ?_)
          refine tg_put (ci := 5) (k := 6) (σ' := up2 σ5 (i) 6 x7) hx hb hts hown hk hG hw tyX6 (en5 hi) rfl inlX6 tyX6_ok nmX6 (by decide) wd141 rfl rfl rfl (Nat.le_of_ble_eq_true rfl) (pu5_6 hi) (fun _ h => up2_ne h) dX6_walk_53 (fun H locs hw => ?_)
          obtain ⟨σ8, eσ8⟩ : ∃ z, z = up2 σ5 (i) 6 x7 := ⟨_, rfl⟩
          rw [← eσ8] at hw
          have hI : K0 σ σ8 := by rw [eσ8]; exact hI.up (tr5 hi) (rg_no (by rw [hi]; rfl))
          refine lv_aload_nN hx hb dX6_walk_56 rfl (lv_at hl 3 rfl) ?_
          refine lv_ifnullN (tgt := 89) hx hb dX6_walk_57 (by decide) ?_
          obtain ⟨x9, ex9⟩ : ∃ z : Int32, z = z3_2 + (1 : Int32) := ⟨_, rfl⟩
          refine lv_iinc (v := x9) (lv' := [(3, .int x9), (4, .int r4), (0, .ref (ad G (i))), (1, .int v), (2, .null)]) hx hb dX6_walk_89 hl (k := 4) rfl (by rw [ex9]; rfl) (by decide) rfl (fun ls hl => ?_)
          have tx9 : x9.toInt = z3_2.toInt + 1 := by rw [ex9, Jvm.Kit.i32_add (by omega) (by omega)]; omega
          refine lv_goto (tgt := 2) hx hb dX6_walk_92 (by decide) ?_
          exact ih2 x9 σ8 _ _ _ (by omega) hI (by omega) hw (lv_sub hl [2, 3, 4, 0] rfl)
        · have c24i := congrArg Int32.toInt c24
          refine lv_aload_n hx hb dX6_walk_27 rfl (lv_at hl 1 rfl) ?_
          refine lv_dup hx hb dX6_walk_28 rfl ?_
          refine tg_get (ci := 5) (k := 7) (v := .int (σc2 (i) 7)) hx hb hts hown hk hw (en5 hi) rfl inlX6 (by decide) wd142 rfl dX6_walk_29 ?_
          refine lv_topi (fun x10 ex10 => ?_)
          refine lv_iload_n hx hb dX6_walk_32 rfl (lv_at hl 2 rfl) ?_
          refine lv_iload_n hx hb dX6_walk_33 rfl (lv_at hl 4 rfl) ?_
          refine lv_isub hx hb dX6_walk_34 ?_
          refine lv_topi (fun x11 ex11 => ?_)
          have ov := i32b v
          have tx11 : x11.toInt = v.toInt - z3_2.toInt := by rw [ex11]; exact Jvm.Kit.i32_sub (by omega) (by omega)
          refine lv_iadd hx hb dX6_walk_35 ?_
          refine lv_topi (fun x12 ex12 => ?_)
          refine tg_put (ci := 5) (k := 7) (σ' := up2 σc2 (i) 7 x12) hx hb hts hown hk hG hw tyX6 (en5 hi) rfl inlX6 tyX6_ok nmX6 (by decide) wd142 rfl rfl rfl (Nat.le_of_ble_eq_true rfl) (pu5_7 hi) (fun _ h => up2_ne h) dX6_walk_36 (fun H locs hw => ?_)
          obtain ⟨σ13, eσ13⟩ : ∃ z, z = up2 σc2 (i) 7 x12 := ⟨_, rfl⟩
          rw [← eσ13] at hw
          have hI : K0 σ σ13 := by rw [eσ13]; exact hI.up (tr5 hi) (rg_no (by rw [hi]; rfl))
          exact ret σ13 _ _ 39 _ (⟨hI, trivial⟩) hw dX6_walk_39
  exact cut2 ((((v.toInt - (0 : Int32).toInt).toNat : Int)).toNat + 1) (0 : Int32) σ _ _ _ (by omega) hI (by omega) hw (lv_sub hl [1, 2, 3, 0] rfl)
set_option maxHeartbeats 4000000 in
set_option maxRecDepth 100000 in
theorem c_X6_walkF (l : Launch) (G : Gg) (hG : Ginj G) (σ : Sg) (hI0 : Inv σ) (i : Nat) (hi : nk i = 5) (v : Int32) (j : Nat) (hj : nk j = 2) : MV l G yX6_walk cX6_walk 5 (rmO 2 45) σ [.ref (ad G (i)), .int v, .ref (ad G (j))] (fun σ' => K0 σ σ' ∧ (True)) := by
  refine MV.of (by decide +kernel) (Nat.le_of_ble_eq_true rfl) ?_
  intro p e s m a below meth c ls Q hx hb hml hts hown hk hw ret hl
  have hown : s.vm.findClass RX6 = some m.cls := hown
  have hl : lv_has ls 5 [(0, .ref (ad G (i))), (1, .int v), (2, .ref (ad G (j)))] := hl
  have hI : K0 σ σ := K0.rf hI0
  have Lm6 : (-6 : Int32).toInt = -6 := by decide
  have L0 : (0 : Int32).toInt = 0 := by decide
  have L1 : (1 : Int32).toInt = 1 := by decide
  generalize hHe : s.heap = H at hw ⊢
  generalize hLe : ([] : List Loc) = locs at hw ⊢
  refine lv_iconst (v := 0) hx hb dX6_walk_0 (by decide) ?_
  refine lv_istore_n (lv' := [(3, .int (0 : Int32)), (0, .ref (ad G (i))), (1, .int v), (2, .ref (ad G (j)))]) hx hb dX6_walk_1 rfl hl (by decide) rfl (fun ls hl => ?_)
  have cut2 : ∀ (n : Nat) (z3_2 : Int32) (σc2 : Sg) (H : Heap) (locs : List Loc) (ls : Array Slot), (0 ≤ z3_2.toInt ∧ z3_2.toInt ≤ 2147483647) → K0 σ σc2 → ((v.toInt - z3_2.toInt).toNat : Int) < (n : Int) → Wo G σc2 s H locs → lv_has ls 5 [(0, .ref (ad G (i))), (1, .int v), (2, .ref (ad G (j))), (3, .int z3_2)] → W p l e (rmO 2 45) s m a below meth c H locs 0 0 Q (F0 m 2 ls []) := by
    intro n2
    induction n2 with
    | zero =>
      intro z3_2 σc2 H locs ls f2_0 hI hm2 hw hl
      exfalso; omega
    | succ n2 ih2 =>
      intro z3_2 σc2 H locs ls f2_0 hI hm2 hw hl
      refine lv_iload_n hx hb dX6_walk_2 rfl (lv_at hl 3 rfl) ?_
      refine lv_iload_n hx hb dX6_walk_3 rfl (lv_at hl 1 rfl) ?_
      refine lv_icmp_ge (tgt := 95) hx hb dX6_walk_4 (by decide) (fun c4 => ?_) (fun c4 => ?_)
      · have oz3_2 := i32b z3_2
        have ov := i32b v
        have c4i := Int32.le_iff_toInt_le.mp c4
        exact ret σc2 _ _ 95 _ (⟨hI, trivial⟩) hw dX6_walk_95
      · have oz3_2 := i32b z3_2
        have ov := i32b v
        have c4i := mt Int32.le_iff_toInt_le.mpr c4
        refine lv_aload_n hx hb dX6_walk_7 rfl (lv_at hl 0 rfl) ?_
        refine tg_get (ci := 5) (k := 0) (v := .int (σc2 (i) 0)) hx hb hts hown hk hw (en5 hi) rfl inlX6 (by decide) wd138 rfl dX6_walk_8 ?_
        refine lv_topi (fun x1 ex1 => ?_)
        refine lv_aload_n hx hb dX6_walk_11 rfl (lv_at hl 0 rfl) ?_
        refine tg_get (ci := 5) (k := 1) (v := .int (σc2 (i) 1)) hx hb hts hown hk hw (en5 hi) rfl inlX6 (by decide) wd139 rfl dX6_walk_12 ?_
        refine lv_topi (fun x2 ex2 => ?_)
        refine te_vi hw (ru_N (As := [.int x1, .int x2]) (rest := []) hx hb hml hts hown hk hw (c_X10_stepFrom l G hG σc2 hI.1 x1 x2) (m2_in wd281 wd2) (by decide +kernel) wd282 nm_yX10_stepFrom ⟨rfl, rfl⟩ ⟨by decide, by decide⟩ rfl hl.1 rfl (Nat.le_of_ble_eq_true rfl) dX6_walk_15 ⟨Nat.zero_le _, Nat.zero_le _⟩) (fun r4 σ3 H locs hr4 hw => ?_)
        rw [hr4.1] at hw
        have hr4 := hr4.2
        refine lv_istore (lv' := [(4, .int r4), (0, .ref (ad G (i))), (1, .int v), (2, .ref (ad G (j))), (3, .int z3_2)]) hx hb dX6_walk_18 hl (by decide) rfl (fun ls hl => ?_)
        refine lv_iload hx hb dX6_walk_20 (lv_at hl 0 rfl) ?_
        refine lv_bipush (v := -6) hx hb dX6_walk_22 (by decide) ?_
        refine lv_icmp_ne (tgt := 40) hx hb dX6_walk_24 (by decide) (fun c24 => ?_) (fun c24 => ?_)
        · have c24i := mt Int32.toInt_inj.mp c24
          refine lv_aload_n hx hb dX6_walk_40 rfl (lv_at hl 1 rfl) ?_
          refine lv_iload hx hb dX6_walk_41 (lv_at hl 0 rfl) ?_
          refine tg_put (ci := 5) (k := 0) (σ' := up2 σc2 (i) 0 r4) hx hb hts hown hk hG hw tyX6 (en5 hi) rfl inlX6 tyX6_ok nmX6 (by decide) wd138 rfl rfl rfl (Nat.le_of_ble_eq_true rfl) (pu5_0 hi) (fun _ h => up2_ne h) dX6_walk_43 (fun H locs hw => ?_)
          obtain ⟨σ5, eσ5⟩ : ∃ z, z = up2 σc2 (i) 0 r4 := ⟨_, rfl⟩
          rw [← eσ5] at hw
          have hI : K0 σ σ5 := by rw [eσ5]; exact hI.up (tr5 hi) (rg_no (by rw [hi]; rfl))
          refine lv_aload_n hx hb dX6_walk_46 rfl (lv_at hl 1 rfl) ?_
          refine lv_dup hx hb dX6_walk_47 rfl ?_
          refine tg_get (ci := 5) (k := 6) (v := .int (σ5 (i) 6)) hx hb hts hown hk hw (en5 hi) rfl inlX6 (by decide) wd141 rfl dX6_walk_48 ?_
          refine lv_topi (fun x6 ex6 => ?_)
          refine lv_iconst (v := 1) hx hb dX6_walk_51 (by decide) ?_
          refine lv_iadd hx hb dX6_walk_52 ?_
          refine lv_topi (fun x7 ex7 => ?_)
          refine tg_put (ci := 5) (k := 6) (σ' := up2 σ5 (i) 6 x7) hx hb hts hown hk hG hw tyX6 (en5 hi) rfl inlX6 tyX6_ok nmX6 (by decide) wd141 rfl rfl rfl (Nat.le_of_ble_eq_true rfl) (pu5_6 hi) (fun _ h => up2_ne h) dX6_walk_53 (fun H locs hw => ?_)
          obtain ⟨σ8, eσ8⟩ : ∃ z, z = up2 σ5 (i) 6 x7 := ⟨_, rfl⟩
          rw [← eσ8] at hw
          have hI : K0 σ σ8 := by rw [eσ8]; exact hI.up (tr5 hi) (rg_no (by rw [hi]; rfl))
          refine lv_aload_n hx hb dX6_walk_56 rfl (lv_at hl 3 rfl) ?_
          refine lv_ifnull hx hb dX6_walk_57 ?_
          refine lv_aload_n hx hb dX6_walk_60 rfl (lv_at hl 1 rfl) ?_
          refine tg_get (ci := 5) (k := 3) (v := .int (σ8 (i) 3)) hx hb hts hown hk hw (en5 hi) rfl inlX6 (by decide) wd79 rfl dX6_walk_61 ?_
          refine lv_topi (fun x9 ex9 => ?_)
          refine lv_if_le (tgt := 89) hx hb dX6_walk_64 (by decide) (fun c64 => ?_) (fun c64 => ?_)
          · have c64i := Int32.le_iff_toInt_le.mp c64
            obtain ⟨x10, ex10⟩ : ∃ z : Int32, z = z3_2 + (1 : Int32) := ⟨_, rfl⟩
            refine lv_iinc (v := x10) (lv' := [(3, .int x10), (4, .int r4), (0, .ref (ad G (i))), (1, .int v), (2, .ref (ad G (j)))]) hx hb dX6_walk_89 hl (k := 4) rfl (by rw [ex10]; rfl) (by decide) rfl (fun ls hl => ?_)
            have tx10 : x10.toInt = z3_2.toInt + 1 := by rw [ex10, Jvm.Kit.i32_add (by omega) (by omega)]; omega
            refine lv_goto (tgt := 2) hx hb dX6_walk_92 (by decide) ?_
            exact ih2 x10 σ8 _ _ _ (by omega) hI (by omega) hw (lv_sub hl [2, 3, 4, 0] rfl)
          · have c64i := mt Int32.le_iff_toInt_le.mpr c64
            refine lv_aload_n hx hb dX6_walk_67 rfl (lv_at hl 1 rfl) ?_
            refine lv_dup hx hb dX6_walk_68 rfl ?_
            refine tg_get (ci := 5) (k := 3) (v := .int (σ8 (i) 3)) hx hb hts hown hk hw (en5 hi) rfl inlX6 (by decide) wd79 rfl dX6_walk_69 ?_
            refine lv_topi (fun x11 ex11 => ?_)
            have qx11 : x11.toInt = x9.toInt := by rw [ex11, ex9]
            refine lv_iconst (v := 1) hx hb dX6_walk_72 (by decide) ?_
            refine lv_isub hx hb dX6_walk_73 ?_
            refine lv_topi (fun x12 ex12 => ?_)
            have ox11 := i32b x11
            have tx12 : x12.toInt = x11.toInt - (1 : Int32).toInt := by rw [ex12]; exact Jvm.Kit.i32_sub (by omega) (by omega)
            refine tg_put (ci := 5) (k := 3) (σ' := up2 σ8 (i) 3 x12) hx hb hts hown hk hG hw tyX6 (en5 hi) rfl inlX6 tyX6_ok nmX6 (by decide) wd79 rfl rfl rfl (Nat.le_of_ble_eq_true rfl) (pu5_3 hi) (fun _ h => up2_ne h) dX6_walk_74 (fun H locs hw => ?_)
            obtain ⟨σ13, eσ13⟩ : ∃ z, z = up2 σ8 (i) 3 x12 := ⟨_, rfl⟩
            rw [← eσ13] at hw
            have hI : K0 σ σ13 := by rw [eσ13]; exact hI.up (tr5 hi) (rg_no (by rw [hi]; rfl))
            refine lv_aload_n hx hb dX6_walk_77 rfl (lv_at hl 3 rfl) ?_
            refine lv_aload_n hx hb dX6_walk_78 rfl (lv_at hl 1 rfl) ?_
            refine tg_get (ci := 5) (k := 0) (v := .int (σ13 (i) 0)) hx hb hts hown hk hw (en5 hi) rfl inlX6 (by decide) wd138 rfl dX6_walk_79 ?_
            refine lv_topi (fun x14 ex14 => ?_)
            have zx14 : x14 = r4 := by rw [ex14, eσ13, up2_nk (by decide), eσ8, up2_nk (by decide), eσ5, up2_self]
            have yx14 : x14.toInt = r4.toInt := by rw [zx14]
            refine lv_aload_n hx hb dX6_walk_82 rfl (lv_at hl 1 rfl) ?_
            refine tg_get (ci := 5) (k := 2) (v := .int (σ13 (i) 2)) hx hb hts hown hk hw (en5 hi) rfl inlX6 (by decide) wd78 rfl dX6_walk_83 ?_
            refine lv_topi (fun x15 ex15 => ?_)
            refine te_vv hw (ru_A (As := [.int x14, .int x15]) (rest := []) (C := RX2) (x := ⟨"BlindSown$Soil", "take", "(II)V"⟩) hx hb hml hts hown hk hw (c_X2_take l G hG σ13 hI.1 j hj x14 x15) rfl (m5_in wd285 wd286 wd287 wd288 wd48) wd289 (en2 hj) rfl rfl ⟨rfl, rfl⟩ ⟨by decide, by decide⟩ rfl hl.1 rfl (Nat.le_of_ble_eq_true rfl) dX6_walk_86 ⟨Nat.zero_le _, Nat.zero_le _⟩) (fun σ16 H locs hr17 hw => ?_)
            have hI := hI.go hr17.1
            have hr17 := hr17.2
            obtain ⟨x18, ex18⟩ : ∃ z : Int32, z = z3_2 + (1 : Int32) := ⟨_, rfl⟩
            refine lv_iinc (v := x18) (lv' := [(3, .int x18), (4, .int r4), (0, .ref (ad G (i))), (1, .int v), (2, .ref (ad G (j)))]) hx hb dX6_walk_89 hl (k := 4) rfl (by rw [ex18]; rfl) (by decide) rfl (fun ls hl => ?_)
            have tx18 : x18.toInt = z3_2.toInt + 1 := by rw [ex18, Jvm.Kit.i32_add (by omega) (by omega)]; omega
            refine lv_goto (tgt := 2) hx hb dX6_walk_92 (by decide) ?_
            exact ih2 x18 σ16 _ _ _ (by omega) hI (by omega) hw (lv_sub hl [2, 3, 4, 0] rfl)
        · have c24i := congrArg Int32.toInt c24
          refine lv_aload_n hx hb dX6_walk_27 rfl (lv_at hl 1 rfl) ?_
          refine lv_dup hx hb dX6_walk_28 rfl ?_
          refine tg_get (ci := 5) (k := 7) (v := .int (σc2 (i) 7)) hx hb hts hown hk hw (en5 hi) rfl inlX6 (by decide) wd142 rfl dX6_walk_29 ?_
          refine lv_topi (fun x19 ex19 => ?_)
          refine lv_iload_n hx hb dX6_walk_32 rfl (lv_at hl 2 rfl) ?_
          refine lv_iload_n hx hb dX6_walk_33 rfl (lv_at hl 4 rfl) ?_
          refine lv_isub hx hb dX6_walk_34 ?_
          refine lv_topi (fun x20 ex20 => ?_)
          have ov := i32b v
          have tx20 : x20.toInt = v.toInt - z3_2.toInt := by rw [ex20]; exact Jvm.Kit.i32_sub (by omega) (by omega)
          refine lv_iadd hx hb dX6_walk_35 ?_
          refine lv_topi (fun x21 ex21 => ?_)
          refine tg_put (ci := 5) (k := 7) (σ' := up2 σc2 (i) 7 x21) hx hb hts hown hk hG hw tyX6 (en5 hi) rfl inlX6 tyX6_ok nmX6 (by decide) wd142 rfl rfl rfl (Nat.le_of_ble_eq_true rfl) (pu5_7 hi) (fun _ h => up2_ne h) dX6_walk_36 (fun H locs hw => ?_)
          obtain ⟨σ22, eσ22⟩ : ∃ z, z = up2 σc2 (i) 7 x21 := ⟨_, rfl⟩
          rw [← eσ22] at hw
          have hI : K0 σ σ22 := by rw [eσ22]; exact hI.up (tr5 hi) (rg_no (by rw [hi]; rfl))
          exact ret σ22 _ _ 39 _ (⟨hI, trivial⟩) hw dX6_walk_39
  exact cut2 ((((v.toInt - (0 : Int32).toInt).toNat : Int)).toNat + 1) (0 : Int32) σ _ _ _ (by omega) hI (by omega) hw (lv_sub hl [1, 2, 3, 0] rfl)
set_option maxHeartbeats 4000000 in
set_option maxRecDepth 100000 in
theorem c_X6_walkT (l : Launch) (G : Gg) (hG : Ginj G) (σ : Sg) (hI0 : Inv σ) (i : Nat) (hi : nk i = 5) (v : Int32) : MV l G yX6_walk cX6_walk 5 (rmO 2 45) σ [.ref (ad G (i)), .int v, .ref (ad G (73))] (fun σ' => K0 σ σ' ∧ (True)) := by
  refine MV.of (by decide +kernel) (Nat.le_of_ble_eq_true rfl) ?_
  intro p e s m a below meth c ls Q hx hb hml hts hown hk hw ret hl
  have hown : s.vm.findClass RX6 = some m.cls := hown
  have hl : lv_has ls 5 [(0, .ref (ad G (i))), (1, .int v), (2, .ref (ad G (73)))] := hl
  have hI : K0 σ σ := K0.rf hI0
  have Lm6 : (-6 : Int32).toInt = -6 := by decide
  have L0 : (0 : Int32).toInt = 0 := by decide
  have L1 : (1 : Int32).toInt = 1 := by decide
  generalize hHe : s.heap = H at hw ⊢
  generalize hLe : ([] : List Loc) = locs at hw ⊢
  refine lv_iconst (v := 0) hx hb dX6_walk_0 (by decide) ?_
  refine lv_istore_n (lv' := [(3, .int (0 : Int32)), (0, .ref (ad G (i))), (1, .int v), (2, .ref (ad G (73)))]) hx hb dX6_walk_1 rfl hl (by decide) rfl (fun ls hl => ?_)
  have cut2 : ∀ (n : Nat) (z3_2 : Int32) (σc2 : Sg) (H : Heap) (locs : List Loc) (ls : Array Slot), (0 ≤ z3_2.toInt ∧ z3_2.toInt ≤ 2147483647) → K0 σ σc2 → ((v.toInt - z3_2.toInt).toNat : Int) < (n : Int) → Wo G σc2 s H locs → lv_has ls 5 [(0, .ref (ad G (i))), (1, .int v), (2, .ref (ad G (73))), (3, .int z3_2)] → W p l e (rmO 2 45) s m a below meth c H locs 0 0 Q (F0 m 2 ls []) := by
    intro n2
    induction n2 with
    | zero =>
      intro z3_2 σc2 H locs ls f2_0 hI hm2 hw hl
      exfalso; omega
    | succ n2 ih2 =>
      intro z3_2 σc2 H locs ls f2_0 hI hm2 hw hl
      refine lv_iload_n hx hb dX6_walk_2 rfl (lv_at hl 3 rfl) ?_
      refine lv_iload_n hx hb dX6_walk_3 rfl (lv_at hl 1 rfl) ?_
      refine lv_icmp_ge (tgt := 95) hx hb dX6_walk_4 (by decide) (fun c4 => ?_) (fun c4 => ?_)
      · have oz3_2 := i32b z3_2
        have ov := i32b v
        have c4i := Int32.le_iff_toInt_le.mp c4
        exact ret σc2 _ _ 95 _ (⟨hI, trivial⟩) hw dX6_walk_95
      · have oz3_2 := i32b z3_2
        have ov := i32b v
        have c4i := mt Int32.le_iff_toInt_le.mpr c4
        refine lv_aload_n hx hb dX6_walk_7 rfl (lv_at hl 0 rfl) ?_
        refine tg_get (ci := 5) (k := 0) (v := .int (σc2 (i) 0)) hx hb hts hown hk hw (en5 hi) rfl inlX6 (by decide) wd138 rfl dX6_walk_8 ?_
        refine lv_topi (fun x1 ex1 => ?_)
        refine lv_aload_n hx hb dX6_walk_11 rfl (lv_at hl 0 rfl) ?_
        refine tg_get (ci := 5) (k := 1) (v := .int (σc2 (i) 1)) hx hb hts hown hk hw (en5 hi) rfl inlX6 (by decide) wd139 rfl dX6_walk_12 ?_
        refine lv_topi (fun x2 ex2 => ?_)
        refine te_vi hw (ru_N (As := [.int x1, .int x2]) (rest := []) hx hb hml hts hown hk hw (c_X10_stepFrom l G hG σc2 hI.1 x1 x2) (m2_in wd281 wd2) (by decide +kernel) wd282 nm_yX10_stepFrom ⟨rfl, rfl⟩ ⟨by decide, by decide⟩ rfl hl.1 rfl (Nat.le_of_ble_eq_true rfl) dX6_walk_15 ⟨Nat.zero_le _, Nat.zero_le _⟩) (fun r4 σ3 H locs hr4 hw => ?_)
        rw [hr4.1] at hw
        have hr4 := hr4.2
        refine lv_istore (lv' := [(4, .int r4), (0, .ref (ad G (i))), (1, .int v), (2, .ref (ad G (73))), (3, .int z3_2)]) hx hb dX6_walk_18 hl (by decide) rfl (fun ls hl => ?_)
        refine lv_iload hx hb dX6_walk_20 (lv_at hl 0 rfl) ?_
        refine lv_bipush (v := -6) hx hb dX6_walk_22 (by decide) ?_
        refine lv_icmp_ne (tgt := 40) hx hb dX6_walk_24 (by decide) (fun c24 => ?_) (fun c24 => ?_)
        · have c24i := mt Int32.toInt_inj.mp c24
          refine lv_aload_n hx hb dX6_walk_40 rfl (lv_at hl 1 rfl) ?_
          refine lv_iload hx hb dX6_walk_41 (lv_at hl 0 rfl) ?_
          refine tg_put (ci := 5) (k := 0) (σ' := up2 σc2 (i) 0 r4) hx hb hts hown hk hG hw tyX6 (en5 hi) rfl inlX6 tyX6_ok nmX6 (by decide) wd138 rfl rfl rfl (Nat.le_of_ble_eq_true rfl) (pu5_0 hi) (fun _ h => up2_ne h) dX6_walk_43 (fun H locs hw => ?_)
          obtain ⟨σ5, eσ5⟩ : ∃ z, z = up2 σc2 (i) 0 r4 := ⟨_, rfl⟩
          rw [← eσ5] at hw
          have hI : K0 σ σ5 := by rw [eσ5]; exact hI.up (tr5 hi) (rg_no (by rw [hi]; rfl))
          refine lv_aload_n hx hb dX6_walk_46 rfl (lv_at hl 1 rfl) ?_
          refine lv_dup hx hb dX6_walk_47 rfl ?_
          refine tg_get (ci := 5) (k := 6) (v := .int (σ5 (i) 6)) hx hb hts hown hk hw (en5 hi) rfl inlX6 (by decide) wd141 rfl dX6_walk_48 ?_
          refine lv_topi (fun x6 ex6 => ?_)
          refine lv_iconst (v := 1) hx hb dX6_walk_51 (by decide) ?_
          refine lv_iadd hx hb dX6_walk_52 ?_
          refine lv_topi (fun x7 ex7 => ?_)
          refine tg_put (ci := 5) (k := 6) (σ' := up2 σ5 (i) 6 x7) hx hb hts hown hk hG hw tyX6 (en5 hi) rfl inlX6 tyX6_ok nmX6 (by decide) wd141 rfl rfl rfl (Nat.le_of_ble_eq_true rfl) (pu5_6 hi) (fun _ h => up2_ne h) dX6_walk_53 (fun H locs hw => ?_)
          obtain ⟨σ8, eσ8⟩ : ∃ z, z = up2 σ5 (i) 6 x7 := ⟨_, rfl⟩
          rw [← eσ8] at hw
          have hI : K0 σ σ8 := by rw [eσ8]; exact hI.up (tr5 hi) (rg_no (by rw [hi]; rfl))
          refine lv_aload_n hx hb dX6_walk_56 rfl (lv_at hl 3 rfl) ?_
          refine lv_ifnull hx hb dX6_walk_57 ?_
          refine lv_aload_n hx hb dX6_walk_60 rfl (lv_at hl 1 rfl) ?_
          refine tg_get (ci := 5) (k := 3) (v := .int (σ8 (i) 3)) hx hb hts hown hk hw (en5 hi) rfl inlX6 (by decide) wd79 rfl dX6_walk_61 ?_
          refine lv_topi (fun x9 ex9 => ?_)
          refine lv_if_le (tgt := 89) hx hb dX6_walk_64 (by decide) (fun c64 => ?_) (fun c64 => ?_)
          · have c64i := Int32.le_iff_toInt_le.mp c64
            obtain ⟨x10, ex10⟩ : ∃ z : Int32, z = z3_2 + (1 : Int32) := ⟨_, rfl⟩
            refine lv_iinc (v := x10) (lv' := [(3, .int x10), (4, .int r4), (0, .ref (ad G (i))), (1, .int v), (2, .ref (ad G (73)))]) hx hb dX6_walk_89 hl (k := 4) rfl (by rw [ex10]; rfl) (by decide) rfl (fun ls hl => ?_)
            have tx10 : x10.toInt = z3_2.toInt + 1 := by rw [ex10, Jvm.Kit.i32_add (by omega) (by omega)]; omega
            refine lv_goto (tgt := 2) hx hb dX6_walk_92 (by decide) ?_
            exact ih2 x10 σ8 _ _ _ (by omega) hI (by omega) hw (lv_sub hl [2, 3, 4, 0] rfl)
          · have c64i := mt Int32.le_iff_toInt_le.mpr c64
            refine lv_aload_n hx hb dX6_walk_67 rfl (lv_at hl 1 rfl) ?_
            refine lv_dup hx hb dX6_walk_68 rfl ?_
            refine tg_get (ci := 5) (k := 3) (v := .int (σ8 (i) 3)) hx hb hts hown hk hw (en5 hi) rfl inlX6 (by decide) wd79 rfl dX6_walk_69 ?_
            refine lv_topi (fun x11 ex11 => ?_)
            have qx11 : x11.toInt = x9.toInt := by rw [ex11, ex9]
            refine lv_iconst (v := 1) hx hb dX6_walk_72 (by decide) ?_
            refine lv_isub hx hb dX6_walk_73 ?_
            refine lv_topi (fun x12 ex12 => ?_)
            have ox11 := i32b x11
            have tx12 : x12.toInt = x11.toInt - (1 : Int32).toInt := by rw [ex12]; exact Jvm.Kit.i32_sub (by omega) (by omega)
            refine tg_put (ci := 5) (k := 3) (σ' := up2 σ8 (i) 3 x12) hx hb hts hown hk hG hw tyX6 (en5 hi) rfl inlX6 tyX6_ok nmX6 (by decide) wd79 rfl rfl rfl (Nat.le_of_ble_eq_true rfl) (pu5_3 hi) (fun _ h => up2_ne h) dX6_walk_74 (fun H locs hw => ?_)
            obtain ⟨σ13, eσ13⟩ : ∃ z, z = up2 σ8 (i) 3 x12 := ⟨_, rfl⟩
            rw [← eσ13] at hw
            have hI : K0 σ σ13 := by rw [eσ13]; exact hI.up (tr5 hi) (rg_no (by rw [hi]; rfl))
            refine lv_aload_n hx hb dX6_walk_77 rfl (lv_at hl 3 rfl) ?_
            refine lv_aload_n hx hb dX6_walk_78 rfl (lv_at hl 1 rfl) ?_
            refine tg_get (ci := 5) (k := 0) (v := .int (σ13 (i) 0)) hx hb hts hown hk hw (en5 hi) rfl inlX6 (by decide) wd138 rfl dX6_walk_79 ?_
            refine lv_topi (fun x14 ex14 => ?_)
            have zx14 : x14 = r4 := by rw [ex14, eσ13, up2_nk (by decide), eσ8, up2_nk (by decide), eσ5, up2_self]
            have yx14 : x14.toInt = r4.toInt := by rw [zx14]
            refine lv_aload_n hx hb dX6_walk_82 rfl (lv_at hl 1 rfl) ?_
            refine tg_get (ci := 5) (k := 2) (v := .int (σ13 (i) 2)) hx hb hts hown hk hw (en5 hi) rfl inlX6 (by decide) wd78 rfl dX6_walk_83 ?_
            refine lv_topi (fun x15 ex15 => ?_)
            refine te_vv hw (ru_A (As := [.int x14, .int x15]) (rest := []) (C := RX7) (x := ⟨"BlindSown$Soil", "take", "(II)V"⟩) hx hb hml hts hown hk hw (c_X7_take l G hG σ13 hI.1 x14 x15) rfl (m5_in wd285 wd286 wd290 wd291 wd88) wd292 (en6 (rfl : nk 73 = 6)) rfl rfl ⟨rfl, rfl⟩ ⟨by decide, by decide⟩ rfl hl.1 rfl (Nat.le_of_ble_eq_true rfl) dX6_walk_86 ⟨Nat.zero_le _, Nat.zero_le _⟩) (fun σ16 H locs hr17 hw => ?_)
            have hI := hI.go hr17.1
            have hr17 := hr17.2
            obtain ⟨x18, ex18⟩ : ∃ z : Int32, z = z3_2 + (1 : Int32) := ⟨_, rfl⟩
            refine lv_iinc (v := x18) (lv' := [(3, .int x18), (4, .int r4), (0, .ref (ad G (i))), (1, .int v), (2, .ref (ad G (73)))]) hx hb dX6_walk_89 hl (k := 4) rfl (by rw [ex18]; rfl) (by decide) rfl (fun ls hl => ?_)
            have tx18 : x18.toInt = z3_2.toInt + 1 := by rw [ex18, Jvm.Kit.i32_add (by omega) (by omega)]; omega
            refine lv_goto (tgt := 2) hx hb dX6_walk_92 (by decide) ?_
            exact ih2 x18 σ16 _ _ _ (by omega) hI (by omega) hw (lv_sub hl [2, 3, 4, 0] rfl)
        · have c24i := congrArg Int32.toInt c24
          refine lv_aload_n hx hb dX6_walk_27 rfl (lv_at hl 1 rfl) ?_
          refine lv_dup hx hb dX6_walk_28 rfl ?_
          refine tg_get (ci := 5) (k := 7) (v := .int (σc2 (i) 7)) hx hb hts hown hk hw (en5 hi) rfl inlX6 (by decide) wd142 rfl dX6_walk_29 ?_
          refine lv_topi (fun x19 ex19 => ?_)
          refine lv_iload_n hx hb dX6_walk_32 rfl (lv_at hl 2 rfl) ?_
          refine lv_iload_n hx hb dX6_walk_33 rfl (lv_at hl 4 rfl) ?_
          refine lv_isub hx hb dX6_walk_34 ?_
          refine lv_topi (fun x20 ex20 => ?_)
          have ov := i32b v
          have tx20 : x20.toInt = v.toInt - z3_2.toInt := by rw [ex20]; exact Jvm.Kit.i32_sub (by omega) (by omega)
          refine lv_iadd hx hb dX6_walk_35 ?_
          refine lv_topi (fun x21 ex21 => ?_)
          refine tg_put (ci := 5) (k := 7) (σ' := up2 σc2 (i) 7 x21) hx hb hts hown hk hG hw tyX6 (en5 hi) rfl inlX6 tyX6_ok nmX6 (by decide) wd142 rfl rfl rfl (Nat.le_of_ble_eq_true rfl) (pu5_7 hi) (fun _ h => up2_ne h) dX6_walk_36 (fun H locs hw => ?_)
          obtain ⟨σ22, eσ22⟩ : ∃ z, z = up2 σc2 (i) 7 x21 := ⟨_, rfl⟩
          rw [← eσ22] at hw
          have hI : K0 σ σ22 := by rw [eσ22]; exact hI.up (tr5 hi) (rg_no (by rw [hi]; rfl))
          exact ret σ22 _ _ 39 _ (⟨hI, trivial⟩) hw dX6_walk_39
  exact cut2 ((((v.toInt - (0 : Int32).toInt).toNat : Int)).toNat + 1) (0 : Int32) σ _ _ _ (by omega) hI (by omega) hw (lv_sub hl [1, 2, 3, 0] rfl)
set_option maxHeartbeats 4000000 in
set_option maxRecDepth 100000 in
theorem c_X6_turnsToFace (l : Launch) (G : Gg) (hG : Ginj G) (σ : Sg) (hI0 : Inv σ) (i : Nat) (hi : nk i = 5) (v : Int32) : MI l G yX6_turnsToFace cX6_turnsToFace 5 .int (rmO 1 22) σ [.ref (ad G (i)), .int v] (fun r σ' => σ' = σ ∧ (True)) := by
  refine MI.of (by decide +kernel) (Nat.le_of_ble_eq_true rfl) ?_
  intro p e s m a below meth c ls Q hx hb hml hts hown hk hw ret hl
  have hown : s.vm.findClass RX6 = some m.cls := hown
  have hl : lv_has ls 5 [(0, .ref (ad G (i))), (1, .int v)] := hl
  have hI : K0 σ σ := K0.rf hI0
  have Lm6 : (-6 : Int32).toInt = -6 := by decide
  have L0 : (0 : Int32).toInt = 0 := by decide
  have L1 : (1 : Int32).toInt = 1 := by decide
  have L8 : (8 : Int32).toInt = 8 := by decide
  generalize hHe : s.heap = H at hw ⊢
  generalize hLe : ([] : List Loc) = locs at hw ⊢
  refine lv_iconst (v := 0) hx hb dX6_turnsToFace_0 (by decide) ?_
  refine lv_istore_n (lv' := [(2, .int (0 : Int32)), (0, .ref (ad G (i))), (1, .int v)]) hx hb dX6_turnsToFace_1 rfl hl (by decide) rfl (fun ls hl => ?_)
  have cut2 : ∀ (n : Nat) (z2_2 : Int32) (H : Heap) (locs : List Loc) (ls : Array Slot), (0 ≤ z2_2.toInt ∧ z2_2.toInt ≤ 8) → ((8 - z2_2.toInt).toNat : Int) < (n : Int) → Wo G σ s H locs → lv_has ls 5 [(0, .ref (ad G (i))), (1, .int v), (2, .int z2_2)] → W p l e (rmO 1 22) s m a below meth c H locs 0 0 Q (F0 m 2 ls []) := by
    intro n2
    induction n2 with
    | zero =>
      intro z2_2 H locs ls f2_0 hm2 hw hl
      exfalso; omega
    | succ n2 ih2 =>
      intro z2_2 H locs ls f2_0 hm2 hw hl
      refine lv_iload_n hx hb dX6_turnsToFace_2 rfl (lv_at hl 2 rfl) ?_
      refine lv_bipush (v := 8) hx hb dX6_turnsToFace_3 (by decide) ?_
      refine lv_icmp_ge (tgt := 59) hx hb dX6_turnsToFace_5 (by decide) (fun c5 => ?_) (fun c5 => ?_)
      · have c5i := Int32.le_iff_toInt_le.mp c5
        refine lv_bipush (v := -6) hx hb dX6_turnsToFace_59 (by decide) ?_
        exact ret (-6 : Int32) σ _ _ 61 _ (rfl) (⟨rfl, trivial⟩) hw dX6_turnsToFace_61
      · have c5i := mt Int32.le_iff_toInt_le.mpr c5
        refine lv_iconst (v := 0) hx hb dX6_turnsToFace_8 (by decide) ?_
        refine lv_istore_n (lv' := [(3, .int (0 : Int32)), (0, .ref (ad G (i))), (1, .int v), (2, .int z2_2)]) hx hb dX6_turnsToFace_9 rfl hl (by decide) rfl (fun ls hl => ?_)
        have cut10 : ∀ (n : Nat) (z3_10 : Int32) (H : Heap) (locs : List Loc) (ls : Array Slot), (0 ≤ z3_10.toInt ∧ z3_10.toInt ≤ 2147483647) → ((z2_2.toInt + 1 - z3_10.toInt).toNat : Int) < (n : Int) → Wo G σ s H locs → lv_has ls 5 [(0, .ref (ad G (i))), (1, .int v), (2, .int z2_2), (3, .int z3_10)] → W p l e (rmO 1 22) s m a below meth c H locs 0 0 Q (F0 m 10 ls []) := by
          intro n10
          induction n10 with
          | zero =>
            intro z3_10 H locs ls f10_0 hm10 hw hl
            exfalso; omega
          | succ n10 ih10 =>
            intro z3_10 H locs ls f10_0 hm10 hw hl
            refine lv_iload_n hx hb dX6_turnsToFace_10 rfl (lv_at hl 3 rfl) ?_
            refine lv_iload_n hx hb dX6_turnsToFace_11 rfl (lv_at hl 2 rfl) ?_
            refine lv_icmp_gt (tgt := 53) hx hb dX6_turnsToFace_12 (by decide) (fun c12 => ?_) (fun c12 => ?_)
            · have oz3_10 := i32b z3_10
              have c12i := Int32.lt_iff_toInt_lt.mp c12
              obtain ⟨x1, ex1⟩ : ∃ z : Int32, z = z2_2 + (1 : Int32) := ⟨_, rfl⟩
              refine lv_iinc (v := x1) (lv' := [(2, .int x1), (0, .ref (ad G (i))), (1, .int v), (3, .int z3_10)]) hx hb dX6_turnsToFace_53 hl (k := 2) rfl (by rw [ex1]; rfl) (by decide) rfl (fun ls hl => ?_)
              have tx1 : x1.toInt = z2_2.toInt + 1 := by rw [ex1, Jvm.Kit.i32_add (by omega) (by omega)]; omega
              refine lv_goto (tgt := 2) hx hb dX6_turnsToFace_56 (by decide) ?_
              exact ih2 x1 _ _ _ (by omega) (by omega) hw (lv_sub hl [1, 2, 0] rfl)
            · have oz3_10 := i32b z3_10
              have c12i := mt Int32.lt_iff_toInt_lt.mpr c12
              refine lv_iload_n hx hb dX6_turnsToFace_15 rfl (lv_at hl 2 rfl) ?_
              refine lv_iload_n hx hb dX6_turnsToFace_16 rfl (lv_at hl 3 rfl) ?_
              refine lv_isub hx hb dX6_turnsToFace_17 ?_
              refine lv_topi (fun x2 ex2 => ?_)
              have tx2 : x2.toInt = z2_2.toInt - z3_10.toInt := by rw [ex2]; exact Jvm.Kit.i32_sub (by omega) (by omega)
              refine lv_istore (lv' := [(4, .int x2), (0, .ref (ad G (i))), (1, .int v), (2, .int z2_2), (3, .int z3_10)]) hx hb dX6_turnsToFace_18 hl (by decide) rfl (fun ls hl => ?_)
              refine lv_aload_n hx hb dX6_turnsToFace_20 rfl (lv_at hl 1 rfl) ?_
              refine tg_get (ci := 5) (k := 1) (v := .int (σ (i) 1)) hx hb hts hown hk hw (en5 hi) rfl inlX6 (by decide) wd139 rfl dX6_turnsToFace_21 ?_
              refine lv_topi (fun x3 ex3 => ?_)
              refine lv_iload_n hx hb dX6_turnsToFace_24 rfl (lv_at hl 4 rfl) ?_
              refine lv_iadd hx hb dX6_turnsToFace_25 ?_
              refine lv_topi (fun x4 ex4 => ?_)
              refine lv_iload hx hb dX6_turnsToFace_26 (lv_at hl 0 rfl) ?_
              refine lv_isub hx hb dX6_turnsToFace_28 ?_
              refine lv_topi (fun x5 ex5 => ?_)
              refine lv_iload_n hx hb dX6_turnsToFace_29 rfl (lv_at hl 3 rfl) ?_
              refine lv_aload_n hx hb dX6_turnsToFace_30 rfl (lv_at hl 1 rfl) ?_
              refine tg_get (ci := 5) (k := 4) (v := .int (σ (i) 4)) hx hb hts hown hk hw (en5 hi) rfl inlX6 (by decide) wd140 rfl dX6_turnsToFace_31 ?_
              refine lv_topi (fun x6 ex6 => ?_)
              refine lv_imul hx hb dX6_turnsToFace_34 ?_
              refine lv_topi (fun x7 ex7 => ?_)
              refine lv_iadd hx hb dX6_turnsToFace_35 ?_
              refine lv_topi (fun x8 ex8 => ?_)
              refine lv_bipush (v := 8) hx hb dX6_turnsToFace_36 (by decide) ?_
              refine te_vi hw (ru_S (As := [.int x8, .int (8 : Int32)]) (rest := []) hx hb hml hts hown hk hw (c_J9_floorMod_7cf53 l G hG σ hI.1 x8) (m3_in wd300 wd301 wd302) wd303 nm_yJ9_floorMod_7cf53 ⟨rfl, rfl⟩ ⟨by decide, by decide⟩ rfl hl.1 rfl (Nat.le_of_ble_eq_true rfl) dX6_turnsToFace_38 ⟨Nat.zero_le _, Nat.zero_le _⟩) (fun r10 σ9 H locs hr10 hw => ?_)
              rw [hr10.1] at hw
              have hr10 := hr10.2
              refine lv_iload_n hx hb dX6_turnsToFace_41 rfl (lv_at hl 2 rfl) ?_
              refine lv_icmp_ne (tgt := 47) hx hb dX6_turnsToFace_42 (by decide) (fun c42 => ?_) (fun c42 => ?_)
              · have ov := i32b v
                have c42i := mt Int32.toInt_inj.mp c42
                obtain ⟨x11, ex11⟩ : ∃ z : Int32, z = z3_10 + (1 : Int32) := ⟨_, rfl⟩
                refine lv_iinc (v := x11) (lv' := [(3, .int x11), (4, .int x2), (0, .ref (ad G (i))), (1, .int v), (2, .int z2_2)]) hx hb dX6_turnsToFace_47 hl (k := 4) rfl (by rw [ex11]; rfl) (by decide) rfl (fun ls hl => ?_)
                have tx11 : x11.toInt = z3_10.toInt + 1 := by rw [ex11, Jvm.Kit.i32_add (by omega) (by omega)]; omega
                refine lv_goto (tgt := 10) hx hb dX6_turnsToFace_50 (by decide) ?_
                exact ih10 x11 _ _ _ (by omega) (by omega) hw (lv_sub hl [2, 3, 4, 0] rfl)
              · have ov := i32b v
                have c42i := congrArg Int32.toInt c42
                refine lv_iload_n hx hb dX6_turnsToFace_45 rfl (lv_at hl 3 rfl) ?_
                exact ret z2_2 σ _ _ 46 _ (rfl) (⟨rfl, trivial⟩) hw dX6_turnsToFace_46
        exact cut10 ((((z2_2.toInt + 1 - (0 : Int32).toInt).toNat : Int)).toNat + 1) (0 : Int32) _ _ _ (by omega) (by omega) hw (lv_sub hl [1, 2, 3, 0] rfl)
  exact cut2 ((((8 - (0 : Int32).toInt).toNat : Int)).toNat + 1) (0 : Int32) _ _ _ (by omega) (by omega) hw (lv_sub hl [1, 2, 0] rfl)
