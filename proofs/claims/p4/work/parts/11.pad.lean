set_option maxHeartbeats 4000000 in
set_option maxRecDepth 100000 in
theorem c_X4_signAt (l : Launch) (G : Gg) (hG : Ginj G) (σ : Sg) (hI0 : Inv σ) (v : Int32) : MI l G yX4_signAt cX4_signAt 2 .int (rmO 0 0) σ [.ref (ad G (1)), .int v] (fun r σ' => σ' = σ ∧ (True)) := by
  refine MI.of (by decide +kernel) (Nat.le_of_ble_eq_true rfl) ?_
  intro p e s m a below meth c ls Q hx hb hml hts hown hk hw ret hl
  have hown : s.vm.findClass RX4 = some m.cls := hown
  have hl : lv_has ls 2 [(0, .ref (ad G (1))), (1, .int v)] := hl
  have hI : K0 σ σ := K0.rf hI0
  have L0 : (0 : Int32).toInt = 0 := by decide
  have L40 : (40 : Int32).toInt = 40 := by decide
  generalize hHe : s.heap = H at hw ⊢
  generalize hLe : ([] : List Loc) = locs at hw ⊢
  refine lv_iload_n hx hb dX4_signAt_0 rfl (lv_at hl 1 rfl) ?_
  refine lv_if_lt (tgt := 27) hx hb dX4_signAt_1 (by decide) (fun c1 => ?_) (fun c1 => ?_)
  · have c1i := Int32.lt_iff_toInt_lt.mp c1
    refine lv_iconst (v := 0) hx hb dX4_signAt_27 (by decide) ?_
    exact ret (0 : Int32) σ _ _ 28 _ (rfl) (⟨rfl, trivial⟩) hw dX4_signAt_28
  · have c1i := mt Int32.lt_iff_toInt_lt.mpr c1
    refine lv_iload_n hx hb dX4_signAt_4 rfl (lv_at hl 1 rfl) ?_
    refine lv_aload_n hx hb dX4_signAt_5 rfl (lv_at hl 0 rfl) ?_
    refine tg_get (ci := 4) (k := 1) (v := .int (σ (1) 1)) hx hb hts hown hk hw (en4 (rfl : nk 1 = 4)) rfl inlX4 (by decide) wd206 rfl dX4_signAt_6 ?_
    refine lv_topi (fun x1 ex1 => ?_)
    have bx1 : 0 ≤ x1.toInt ∧ x1.toInt ≤ 40 := by rw [ex1]; exact hI.1 _ _ _ _ (by rw [(rfl : nk 1 = 4)]; rfl)
    have ux1 : x1.toInt = (σ (1) 1).toInt := by rw [ex1]
    refine lv_icmp_ge (tgt := 27) hx hb dX4_signAt_9 (by decide) (fun c9 => ?_) (fun c9 => ?_)
    · have ov := i32b v
      have c9i := Int32.le_iff_toInt_le.mp c9
      refine lv_iconst (v := 0) hx hb dX4_signAt_27 (by decide) ?_
      exact ret (0 : Int32) σ _ _ 28 _ (rfl) (⟨rfl, trivial⟩) hw dX4_signAt_28
    · have ov := i32b v
      have c9i := mt Int32.le_iff_toInt_le.mpr c9
      refine lv_iload_n hx hb dX4_signAt_12 rfl (lv_at hl 1 rfl) ?_
      refine lv_bipush (v := 40) hx hb dX4_signAt_13 (by decide) ?_
      refine lv_icmp_ge (tgt := 27) hx hb dX4_signAt_15 (by decide) (fun c15 => ?_) (fun c15 => ?_)
      · have c15i := Int32.le_iff_toInt_le.mp c15
        exfalso; omega
      · have c15i := mt Int32.le_iff_toInt_le.mpr c15
        refine lv_aload_n hx hb dX4_signAt_18 rfl (lv_at hl 0 rfl) ?_
        refine tg_get (ci := 4) (k := 0) (v := .ref (ad G (2))) hx hb hts hown hk hw (en4 (rfl : nk 1 = 4)) rfl inlX4 (by decide) wd41 rfl dX4_signAt_19 ?_
        refine lv_iload_n hx hb dX4_signAt_22 rfl (lv_at hl 1 rfl) ?_
        have hv23 : vp_in v 40 := vin ⟨by omega, by omega⟩
        refine tg_iald hx hb hk hw (en140 (rfl : nk 2 = 140)) hv23 dX4_signAt_23 ?_
        refine lv_topi (fun x2 ex2 => ?_)
        refine lv_goto (tgt := 28) hx hb dX4_signAt_24 (by decide) ?_
        exact ret x2 σ _ _ 28 _ (rfl) (⟨rfl, trivial⟩) hw dX4_signAt_28
set_option maxHeartbeats 4000000 in
set_option maxRecDepth 100000 in
theorem c_X4_isLetter (l : Launch) (G : Gg) (hG : Ginj G) (σ : Sg) (hI0 : Inv σ) (v : Int32) : MI l G yX4_isLetter cX4_isLetter 1 .boolean (rmO 1 22) σ [.int v] (fun r σ' => σ' = σ ∧ ((r = 1 ∧ (65 ≤ v.toInt ∧ v.toInt ≤ 68)) ∨ (r = 0 ∧ ¬ (65 ≤ v.toInt ∧ v.toInt ≤ 68)))) := by
  refine MI.of (by decide +kernel) (Nat.le_of_ble_eq_true rfl) ?_
  intro p e s m a below meth c ls Q hx hb hml hts hown hk hw ret hl
  have hown : s.vm.findClass RX4 = some m.cls := hown
  have hl : lv_has ls 1 [(0, .int v)] := hl
  have hI : K0 σ σ := K0.rf hI0
  have L65 : (65 : Int32).toInt = 65 := by decide
  have L68 : (68 : Int32).toInt = 68 := by decide
  generalize hHe : s.heap = H at hw ⊢
  generalize hLe : ([] : List Loc) = locs at hw ⊢
  refine lv_iload_n hx hb dX4_isLetter_0 rfl (lv_at hl 0 rfl) ?_
  refine lv_bipush (v := 65) hx hb dX4_isLetter_1 (by decide) ?_
  refine lv_bipush (v := 68) hx hb dX4_isLetter_3 (by decide) ?_
  refine te_vi hw (ru_N (As := [.int v, .int (65 : Int32), .int (68 : Int32)]) (rest := []) hx hb hml hts hown hk hw (c_X10_within l G hG σ hI.1 v (65 : Int32) (68 : Int32)) (m2_in wd129 wd2) (by decide +kernel) wd130 nm_yX10_within ⟨rfl, rfl⟩ ⟨by decide, by decide⟩ rfl hl.1 rfl (Nat.le_of_ble_eq_true rfl) dX4_isLetter_5 ⟨Nat.zero_le _, Nat.zero_le _⟩) (fun r2 σ1 H locs hr2 hw => ?_)
  rw [hr2.1] at hw
  have hr2 := hr2.2
  exact ret r2 σ _ _ 8 _ (bzn hr2) (⟨rfl, by have q := hr2; simp only [L65, L68] at q; exact q⟩) hw dX4_isLetter_8
set_option maxHeartbeats 4000000 in
set_option maxRecDepth 100000 in
theorem c_X4_isDeed (l : Launch) (G : Gg) (hG : Ginj G) (σ : Sg) (hI0 : Inv σ) (v : Int32) : MI l G yX4_isDeed cX4_isDeed 1 .boolean (rmO 0 0) σ [.int v] (fun r σ' => σ' = σ ∧ (True)) := by
  refine MI.of (by decide +kernel) (Nat.le_of_ble_eq_true rfl) ?_
  intro p e s m a below meth c ls Q hx hb hml hts hown hk hw ret hl
  have hown : s.vm.findClass RX4 = some m.cls := hown
  have hl : lv_has ls 1 [(0, .int v)] := hl
  have hI : K0 σ σ := K0.rf hI0
  have L0 : (0 : Int32).toInt = 0 := by decide
  have L1 : (1 : Int32).toInt = 1 := by decide
  have L98 : (98 : Int32).toInt = 98 := by decide
  have L102 : (102 : Int32).toInt = 102 := by decide
  have L108 : (108 : Int32).toInt = 108 := by decide
  have L114 : (114 : Int32).toInt = 114 := by decide
  have L119 : (119 : Int32).toInt = 119 := by decide
  generalize hHe : s.heap = H at hw ⊢
  generalize hLe : ([] : List Loc) = locs at hw ⊢
  refine lv_iload_n hx hb dX4_isDeed_0 rfl (lv_at hl 0 rfl) ?_
  refine lv_bipush (v := 102) hx hb dX4_isDeed_1 (by decide) ?_
  refine lv_icmp_eq (tgt := 30) hx hb dX4_isDeed_3 (by decide) (fun c3 => ?_) (fun c3 => ?_)
  · have ov := i32b v
    have c3i := congrArg Int32.toInt c3
    refine lv_iconst (v := 1) hx hb dX4_isDeed_30 (by decide) ?_
    refine lv_goto (tgt := 35) hx hb dX4_isDeed_31 (by decide) ?_
    exact ret (1 : Int32) σ _ _ 35 _ (rfl) (⟨rfl, trivial⟩) hw dX4_isDeed_35
  · have ov := i32b v
    have c3i := mt Int32.toInt_inj.mp c3
    refine lv_iload_n hx hb dX4_isDeed_6 rfl (lv_at hl 0 rfl) ?_
    refine lv_bipush (v := 119) hx hb dX4_isDeed_7 (by decide) ?_
    refine lv_icmp_eq (tgt := 30) hx hb dX4_isDeed_9 (by decide) (fun c9 => ?_) (fun c9 => ?_)
    · have ov := i32b v
      have c9i := congrArg Int32.toInt c9
      refine lv_iconst (v := 1) hx hb dX4_isDeed_30 (by decide) ?_
      refine lv_goto (tgt := 35) hx hb dX4_isDeed_31 (by decide) ?_
      exact ret (1 : Int32) σ _ _ 35 _ (rfl) (⟨rfl, trivial⟩) hw dX4_isDeed_35
    · have ov := i32b v
      have c9i := mt Int32.toInt_inj.mp c9
      refine lv_iload_n hx hb dX4_isDeed_12 rfl (lv_at hl 0 rfl) ?_
      refine lv_bipush (v := 114) hx hb dX4_isDeed_13 (by decide) ?_
      refine lv_icmp_eq (tgt := 30) hx hb dX4_isDeed_15 (by decide) (fun c15 => ?_) (fun c15 => ?_)
      · have ov := i32b v
        have c15i := congrArg Int32.toInt c15
        refine lv_iconst (v := 1) hx hb dX4_isDeed_30 (by decide) ?_
        refine lv_goto (tgt := 35) hx hb dX4_isDeed_31 (by decide) ?_
        exact ret (1 : Int32) σ _ _ 35 _ (rfl) (⟨rfl, trivial⟩) hw dX4_isDeed_35
      · have ov := i32b v
        have c15i := mt Int32.toInt_inj.mp c15
        refine lv_iload_n hx hb dX4_isDeed_18 rfl (lv_at hl 0 rfl) ?_
        refine lv_bipush (v := 108) hx hb dX4_isDeed_19 (by decide) ?_
        refine lv_icmp_eq (tgt := 30) hx hb dX4_isDeed_21 (by decide) (fun c21 => ?_) (fun c21 => ?_)
        · have ov := i32b v
          have c21i := congrArg Int32.toInt c21
          refine lv_iconst (v := 1) hx hb dX4_isDeed_30 (by decide) ?_
          refine lv_goto (tgt := 35) hx hb dX4_isDeed_31 (by decide) ?_
          exact ret (1 : Int32) σ _ _ 35 _ (rfl) (⟨rfl, trivial⟩) hw dX4_isDeed_35
        · have ov := i32b v
          have c21i := mt Int32.toInt_inj.mp c21
          refine lv_iload_n hx hb dX4_isDeed_24 rfl (lv_at hl 0 rfl) ?_
          refine lv_bipush (v := 98) hx hb dX4_isDeed_25 (by decide) ?_
          refine lv_icmp_ne (tgt := 34) hx hb dX4_isDeed_27 (by decide) (fun c27 => ?_) (fun c27 => ?_)
          · have ov := i32b v
            have c27i := mt Int32.toInt_inj.mp c27
            refine lv_iconst (v := 0) hx hb dX4_isDeed_34 (by decide) ?_
            exact ret (0 : Int32) σ _ _ 35 _ (rfl) (⟨rfl, trivial⟩) hw dX4_isDeed_35
          · have ov := i32b v
            have c27i := congrArg Int32.toInt c27
            refine lv_iconst (v := 1) hx hb dX4_isDeed_30 (by decide) ?_
            refine lv_goto (tgt := 35) hx hb dX4_isDeed_31 (by decide) ?_
            exact ret (1 : Int32) σ _ _ 35 _ (rfl) (⟨rfl, trivial⟩) hw dX4_isDeed_35
set_option maxHeartbeats 4000000 in
set_option maxRecDepth 100000 in
theorem c_X4_startsPart (l : Launch) (G : Gg) (hG : Ginj G) (σ : Sg) (hI0 : Inv σ) (v : Int32) : MI l G yX4_startsPart cX4_startsPart 2 .boolean (rmO 1 22) σ [.ref (ad G (1)), .int v] (fun r σ' => σ' = σ ∧ (True)) := by
  refine MI.of (by decide +kernel) (Nat.le_of_ble_eq_true rfl) ?_
  intro p e s m a below meth c ls Q hx hb hml hts hown hk hw ret hl
  have hown : s.vm.findClass RX4 = some m.cls := hown
  have hl : lv_has ls 2 [(0, .ref (ad G (1))), (1, .int v)] := hl
  have hI : K0 σ σ := K0.rf hI0
  have L0 : (0 : Int32).toInt = 0 := by decide
  have L1 : (1 : Int32).toInt = 1 := by decide
  have L48 : (48 : Int32).toInt = 48 := by decide
  have L57 : (57 : Int32).toInt = 57 := by decide
  generalize hHe : s.heap = H at hw ⊢
  generalize hLe : ([] : List Loc) = locs at hw ⊢
  refine lv_aload_n hx hb dX4_startsPart_0 rfl (lv_at hl 0 rfl) ?_
  refine lv_iload_n hx hb dX4_startsPart_1 rfl (lv_at hl 1 rfl) ?_
  refine te_vi hw (ru_V (As := [.int v]) (rest := []) (C := RX4) hx hb hml hts hown hk hw (c_X4_signAt l G hG σ hI.1 v) (m4_in wd230 wd231 wd232 wd14) wd233 (en4 (rfl : nk 1 = 4)) rfl rfl rfl nm_yX4_signAt ⟨rfl, rfl⟩ ⟨by decide, by decide⟩ rfl hl.1 rfl (Nat.le_of_ble_eq_true rfl) dX4_startsPart_2 ⟨Nat.zero_le _, Nat.zero_le _⟩) (fun r2 σ1 H locs hr2 hw => ?_)
  rw [hr2.1] at hw
  have hr2 := hr2.2
  refine lv_bipush (v := 48) hx hb dX4_startsPart_5 (by decide) ?_
  refine lv_bipush (v := 57) hx hb dX4_startsPart_7 (by decide) ?_
  refine te_vi hw (ru_N (As := [.int r2, .int (48 : Int32), .int (57 : Int32)]) (rest := []) hx hb hml hts hown hk hw (c_X10_within l G hG σ hI.1 r2 (48 : Int32) (57 : Int32)) (m2_in wd129 wd2) (by decide +kernel) wd130 nm_yX10_within ⟨rfl, rfl⟩ ⟨by decide, by decide⟩ rfl hl.1 rfl (Nat.le_of_ble_eq_true rfl) dX4_startsPart_9 ⟨Nat.zero_le _, Nat.zero_le _⟩) (fun r4 σ3 H locs hr4 hw => ?_)
  rw [hr4.1] at hw
  have hr4 := hr4.2
  refine lv_if_ne (tgt := 19) hx hb dX4_startsPart_12 (by decide) (fun c12 => ?_) (fun c12 => ?_)
  · have c12i := mt Int32.toInt_inj.mp c12
    have p12 := bz1 hr4 c12
    refine lv_iconst (v := 0) hx hb dX4_startsPart_19 (by decide) ?_
    exact ret (0 : Int32) σ _ _ 20 _ (rfl) (⟨rfl, trivial⟩) hw dX4_startsPart_20
  · have c12i := congrArg Int32.toInt c12
    have p12 := bz0 hr4 c12
    refine lv_iconst (v := 1) hx hb dX4_startsPart_15 (by decide) ?_
    refine lv_goto (tgt := 20) hx hb dX4_startsPart_16 (by decide) ?_
    exact ret (1 : Int32) σ _ _ 20 _ (rfl) (⟨rfl, trivial⟩) hw dX4_startsPart_20
set_option maxHeartbeats 4000000 in
set_option maxRecDepth 100000 in
theorem c_X4_has (l : Launch) (G : Gg) (hG : Ginj G) (σ : Sg) (hI0 : Inv σ) (v : Int32) : MI l G yX4_has cX4_has 3 .boolean (rmO 1 21) σ [.ref (ad G (1)), .int v] (fun r σ' => σ' = σ ∧ (True)) := by
  refine MI.of (by decide +kernel) (Nat.le_of_ble_eq_true rfl) ?_
  intro p e s m a below meth c ls Q hx hb hml hts hown hk hw ret hl
  have hown : s.vm.findClass RX4 = some m.cls := hown
  have hl : lv_has ls 3 [(0, .ref (ad G (1))), (1, .int v)] := hl
  have hI : K0 σ σ := K0.rf hI0
  have L0 : (0 : Int32).toInt = 0 := by decide
  have L1 : (1 : Int32).toInt = 1 := by decide
  generalize hHe : s.heap = H at hw ⊢
  generalize hLe : ([] : List Loc) = locs at hw ⊢
  refine lv_iconst (v := 0) hx hb dX4_has_0 (by decide) ?_
  refine lv_istore_n (lv' := [(2, .int (0 : Int32)), (0, .ref (ad G (1))), (1, .int v)]) hx hb dX4_has_1 rfl hl (by decide) rfl (fun ls hl => ?_)
  have cut2 : ∀ (n : Nat) (z2_2 : Int32) (H : Heap) (locs : List Loc) (ls : Array Slot), (0 ≤ z2_2.toInt ∧ z2_2.toInt ≤ 40) → ((40 - z2_2.toInt).toNat : Int) < (n : Int) → Wo G σ s H locs → lv_has ls 3 [(0, .ref (ad G (1))), (1, .int v), (2, .int z2_2)] → W p l e (rmO 1 21) s m a below meth c H locs 0 0 Q (F0 m 2 ls []) := by
    intro n2
    induction n2 with
    | zero =>
      intro z2_2 H locs ls f2_0 hm2 hw hl
      exfalso; omega
    | succ n2 ih2 =>
      intro z2_2 H locs ls f2_0 hm2 hw hl
      refine lv_iload_n hx hb dX4_has_2 rfl (lv_at hl 2 rfl) ?_
      refine lv_aload_n hx hb dX4_has_3 rfl (lv_at hl 0 rfl) ?_
      refine tg_get (ci := 4) (k := 1) (v := .int (σ (1) 1)) hx hb hts hown hk hw (en4 (rfl : nk 1 = 4)) rfl inlX4 (by decide) wd206 rfl dX4_has_4 ?_
      refine lv_topi (fun x1 ex1 => ?_)
      have bx1 : 0 ≤ x1.toInt ∧ x1.toInt ≤ 40 := by rw [ex1]; exact hI.1 _ _ _ _ (by rw [(rfl : nk 1 = 4)]; rfl)
      have ux1 : x1.toInt = (σ (1) 1).toInt := by rw [ex1]
      refine lv_icmp_ge (tgt := 27) hx hb dX4_has_7 (by decide) (fun c7 => ?_) (fun c7 => ?_)
      · have c7i := Int32.le_iff_toInt_le.mp c7
        refine lv_iconst (v := 0) hx hb dX4_has_27 (by decide) ?_
        exact ret (0 : Int32) σ _ _ 28 _ (rfl) (⟨rfl, trivial⟩) hw dX4_has_28
      · have c7i := mt Int32.le_iff_toInt_le.mpr c7
        refine lv_aload_n hx hb dX4_has_10 rfl (lv_at hl 0 rfl) ?_
        refine lv_iload_n hx hb dX4_has_11 rfl (lv_at hl 2 rfl) ?_
        refine te_vi hw (ru_V (As := [.int z2_2]) (rest := []) (C := RX4) hx hb hml hts hown hk hw (c_X4_signAt l G hG σ hI.1 z2_2) (m4_in wd230 wd231 wd232 wd14) wd233 (en4 (rfl : nk 1 = 4)) rfl rfl rfl nm_yX4_signAt ⟨rfl, rfl⟩ ⟨by decide, by decide⟩ rfl hl.1 rfl (Nat.le_of_ble_eq_true rfl) dX4_has_12 ⟨Nat.zero_le _, Nat.zero_le _⟩) (fun r3 σ2 H locs hr3 hw => ?_)
        rw [hr3.1] at hw
        have hr3 := hr3.2
        refine lv_iload_n hx hb dX4_has_15 rfl (lv_at hl 1 rfl) ?_
        refine lv_icmp_ne (tgt := 21) hx hb dX4_has_16 (by decide) (fun c16 => ?_) (fun c16 => ?_)
        · have or3 := i32b r3
          have ov := i32b v
          have c16i := mt Int32.toInt_inj.mp c16
          obtain ⟨x4, ex4⟩ : ∃ z : Int32, z = z2_2 + (1 : Int32) := ⟨_, rfl⟩
          refine lv_iinc (v := x4) (lv' := [(2, .int x4), (0, .ref (ad G (1))), (1, .int v)]) hx hb dX4_has_21 hl (k := 2) rfl (by rw [ex4]; rfl) (by decide) rfl (fun ls hl => ?_)
          have tx4 : x4.toInt = z2_2.toInt + 1 := by rw [ex4, Jvm.Kit.i32_add (by omega) (by omega)]; omega
          refine lv_goto (tgt := 2) hx hb dX4_has_24 (by decide) ?_
          exact ih2 x4 _ _ _ (by omega) (by omega) hw (lv_sub hl [1, 2, 0] rfl)
        · have or3 := i32b r3
          have ov := i32b v
          have c16i := congrArg Int32.toInt c16
          refine lv_iconst (v := 1) hx hb dX4_has_19 (by decide) ?_
          exact ret (1 : Int32) σ _ _ 20 _ (rfl) (⟨rfl, trivial⟩) hw dX4_has_20
  exact cut2 ((((40 - (0 : Int32).toInt).toNat : Int)).toNat + 1) (0 : Int32) _ _ _ (by omega) (by omega) hw (lv_sub hl [1, 2, 0] rfl)
set_option maxHeartbeats 4000000 in
set_option maxRecDepth 100000 in
theorem c_X4_firstFault (l : Launch) (G : Gg) (hG : Ginj G) (σ : Sg) (hI0 : Inv σ) : MI l G yX4_firstFault cX4_firstFault 5 .int (rmO 2 42) σ [.ref (ad G (1))] (fun r σ' => σ' = σ ∧ (True)) := by
  refine MI.of (by decide +kernel) (Nat.le_of_ble_eq_true rfl) ?_
  intro p e s m a below meth c ls Q hx hb hml hts hown hk hw ret hl
  have hown : s.vm.findClass RX4 = some m.cls := hown
  have hl : lv_has ls 5 [(0, .ref (ad G (1)))] := hl
  have hI : K0 σ σ := K0.rf hI0
  have Lm6 : (-6 : Int32).toInt = -6 := by decide
  have L0 : (0 : Int32).toInt = 0 := by decide
  have L1 : (1 : Int32).toInt = 1 := by decide
  have L49 : (49 : Int32).toInt = 49 := by decide
  have L57 : (57 : Int32).toInt = 57 := by decide
  have L102 : (102 : Int32).toInt = 102 := by decide
  have L119 : (119 : Int32).toInt = 119 := by decide
  generalize hHe : s.heap = H at hw ⊢
  generalize hLe : ([] : List Loc) = locs at hw ⊢
  refine lv_iconst (v := 0) hx hb dX4_firstFault_0 (by decide) ?_
  refine lv_istore_n (lv' := [(1, .int (0 : Int32)), (0, .ref (ad G (1)))]) hx hb dX4_firstFault_1 rfl hl (by decide) rfl (fun ls hl => ?_)
  refine lv_iconst (v := 0) hx hb dX4_firstFault_2 (by decide) ?_
  refine lv_istore_n (lv' := [(2, .int (0 : Int32)), (1, .int (0 : Int32)), (0, .ref (ad G (1)))]) hx hb dX4_firstFault_3 rfl hl (by decide) rfl (fun ls hl => ?_)
  refine lv_iconst (v := 0) hx hb dX4_firstFault_4 (by decide) ?_
  refine lv_istore_n (lv' := [(3, .int (0 : Int32)), (2, .int (0 : Int32)), (1, .int (0 : Int32)), (0, .ref (ad G (1)))]) hx hb dX4_firstFault_5 rfl hl (by decide) rfl (fun ls hl => ?_)
  have cut6 : ∀ (n : Nat) (z1_6 : Int32) (z2_6 : Int32) (z3_6 : Int32) (H : Heap) (locs : List Loc) (ls : Array Slot), (0 ≤ z3_6.toInt ∧ z3_6.toInt ≤ 40) → ((40 - z3_6.toInt).toNat : Int) < (n : Int) → Wo G σ s H locs → lv_has ls 5 [(0, .ref (ad G (1))), (1, .int z1_6), (2, .int z2_6), (3, .int z3_6)] → W p l e (rmO 2 42) s m a below meth c H locs 0 0 Q (F0 m 6 ls []) := by
    intro n6
    induction n6 with
    | zero =>
      intro z1_6 z2_6 z3_6 H locs ls f6_0 hm6 hw hl
      exfalso; omega
    | succ n6 ih6 =>
      intro z1_6 z2_6 z3_6 H locs ls f6_0 hm6 hw hl
      refine lv_iload_n hx hb dX4_firstFault_6 rfl (lv_at hl 3 rfl) ?_
      refine lv_aload_n hx hb dX4_firstFault_7 rfl (lv_at hl 0 rfl) ?_
      refine tg_get (ci := 4) (k := 1) (v := .int (σ (1) 1)) hx hb hts hown hk hw (en4 (rfl : nk 1 = 4)) rfl inlX4 (by decide) wd206 rfl dX4_firstFault_8 ?_
      refine lv_topi (fun x1 ex1 => ?_)
      have bx1 : 0 ≤ x1.toInt ∧ x1.toInt ≤ 40 := by rw [ex1]; exact hI.1 _ _ _ _ (by rw [(rfl : nk 1 = 4)]; rfl)
      have ux1 : x1.toInt = (σ (1) 1).toInt := by rw [ex1]
      refine lv_icmp_ge (tgt := 97) hx hb dX4_firstFault_11 (by decide) (fun c11 => ?_) (fun c11 => ?_)
      · have c11i := Int32.le_iff_toInt_le.mp c11
        refine lv_iload_n hx hb dX4_firstFault_97 rfl (lv_at hl 2 rfl) ?_
        refine lv_if_eq (tgt := 108) hx hb dX4_firstFault_98 (by decide) (fun c98 => ?_) (fun c98 => ?_)
        · have c98i := congrArg Int32.toInt c98
          refine lv_bipush (v := -6) hx hb dX4_firstFault_108 (by decide) ?_
          exact ret (-6 : Int32) σ _ _ 110 _ (rfl) (⟨rfl, trivial⟩) hw dX4_firstFault_110
        · have c98i := mt Int32.toInt_inj.mp c98
          refine lv_aload_n hx hb dX4_firstFault_101 rfl (lv_at hl 0 rfl) ?_
          refine tg_get (ci := 4) (k := 1) (v := .int (σ (1) 1)) hx hb hts hown hk hw (en4 (rfl : nk 1 = 4)) rfl inlX4 (by decide) wd206 rfl dX4_firstFault_102 ?_
          refine lv_topi (fun x2 ex2 => ?_)
          have qx2 : x2.toInt = x1.toInt := by rw [ex2, ex1]
          have bx2 : 0 ≤ x2.toInt ∧ x2.toInt ≤ 40 := by rw [ex2]; exact hI.1 _ _ _ _ (by rw [(rfl : nk 1 = 4)]; rfl)
          have ux2 : x2.toInt = (σ (1) 1).toInt := by rw [ex2]
          refine lv_goto (tgt := 110) hx hb dX4_firstFault_105 (by decide) ?_
          exact ret x2 σ _ _ 110 _ (rfl) (⟨rfl, trivial⟩) hw dX4_firstFault_110
      · have c11i := mt Int32.le_iff_toInt_le.mpr c11
        refine lv_aload_n hx hb dX4_firstFault_14 rfl (lv_at hl 0 rfl) ?_
        refine lv_iload_n hx hb dX4_firstFault_15 rfl (lv_at hl 3 rfl) ?_
        refine te_vi hw (ru_V (As := [.int z3_6]) (rest := []) (C := RX4) hx hb hml hts hown hk hw (c_X4_signAt l G hG σ hI.1 z3_6) (m4_in wd230 wd231 wd232 wd14) wd233 (en4 (rfl : nk 1 = 4)) rfl rfl rfl nm_yX4_signAt ⟨rfl, rfl⟩ ⟨by decide, by decide⟩ rfl hl.1 rfl (Nat.le_of_ble_eq_true rfl) dX4_firstFault_16 ⟨Nat.zero_le _, Nat.zero_le _⟩) (fun r4 σ3 H locs hr4 hw => ?_)
        rw [hr4.1] at hw
        have hr4 := hr4.2
        refine lv_istore (lv' := [(4, .int r4), (0, .ref (ad G (1))), (1, .int z1_6), (2, .int z2_6), (3, .int z3_6)]) hx hb dX4_firstFault_19 hl (by decide) rfl (fun ls hl => ?_)
        refine lv_iload_n hx hb dX4_firstFault_21 rfl (lv_at hl 3 rfl) ?_
        refine lv_if_eq (tgt := 44) hx hb dX4_firstFault_22 (by decide) (fun c22 => ?_) (fun c22 => ?_)
        · have c22i := congrArg Int32.toInt c22
          refine lv_iload hx hb dX4_firstFault_44 (lv_at hl 0 rfl) ?_
          refine te_vi hw (ru_S (As := [.int r4]) (rest := []) hx hb hml hts hown hk hw (c_X4_isLetter l G hG σ hI.1 r4) (m3_in wd234 wd235 wd14) wd236 nm_yX4_isLetter ⟨rfl, rfl⟩ ⟨by decide, by decide⟩ rfl hl.1 rfl (Nat.le_of_ble_eq_true rfl) dX4_firstFault_46 ⟨Nat.zero_le _, Nat.zero_le _⟩) (fun r6 σ5 H locs hr6 hw => ?_)
          rw [hr6.1] at hw
          have hr6 := hr6.2
          refine lv_if_eq (tgt := 57) hx hb dX4_firstFault_49 (by decide) (fun c49 => ?_) (fun c49 => ?_)
          · have c49i := congrArg Int32.toInt c49
            have p49 := bz0 hr6 c49
            refine lv_iload_n hx hb dX4_firstFault_57 rfl (lv_at hl 2 rfl) ?_
            refine lv_if_eq (tgt := 69) hx hb dX4_firstFault_58 (by decide) (fun c58 => ?_) (fun c58 => ?_)
            · have c58i := congrArg Int32.toInt c58
              refine lv_iload_n hx hb dX4_firstFault_69 rfl (lv_at hl 4 rfl) ?_
              exact ret z3_6 σ _ _ 70 _ (rfl) (⟨rfl, trivial⟩) hw dX4_firstFault_70
            · have c58i := mt Int32.toInt_inj.mp c58
              refine lv_iload hx hb dX4_firstFault_61 (lv_at hl 0 rfl) ?_
              refine te_vi hw (ru_S (As := [.int r4]) (rest := []) hx hb hml hts hown hk hw (c_X4_isDeed l G hG σ hI.1 r4) (m3_in wd237 wd238 wd14) wd239 nm_yX4_isDeed ⟨rfl, rfl⟩ ⟨by decide, by decide⟩ rfl hl.1 rfl (Nat.le_of_ble_eq_true rfl) dX4_firstFault_63 ⟨Nat.zero_le _, Nat.zero_le _⟩) (fun r8 σ7 H locs hr8 hw => ?_)
              rw [hr8.1] at hw
              have hr8 := hr8.2
              refine lv_if_ne (tgt := 71) hx hb dX4_firstFault_66 (by decide) (fun c66 => ?_) (fun c66 => ?_)
              · have c66i := mt Int32.toInt_inj.mp c66
                refine lv_iload hx hb dX4_firstFault_71 (lv_at hl 0 rfl) ?_
                refine lv_bipush (v := 102) hx hb dX4_firstFault_73 (by decide) ?_
                refine lv_icmp_eq (tgt := 85) hx hb dX4_firstFault_75 (by decide) (fun c75 => ?_) (fun c75 => ?_)
                · have or4 := i32b r4
                  have c75i := congrArg Int32.toInt c75
                  refine lv_iconst (v := 1) hx hb dX4_firstFault_85 (by decide) ?_
                  refine lv_goto (tgt := 90) hx hb dX4_firstFault_86 (by decide) ?_
                  refine lv_istore_n (lv' := [(2, .int (1 : Int32)), (4, .int r4), (0, .ref (ad G (1))), (1, .int z1_6), (3, .int z3_6)]) hx hb dX4_firstFault_90 rfl hl (by decide) rfl (fun ls hl => ?_)
                  obtain ⟨x9, ex9⟩ : ∃ z : Int32, z = z3_6 + (1 : Int32) := ⟨_, rfl⟩
                  refine lv_iinc (v := x9) (lv' := [(3, .int x9), (2, .int (1 : Int32)), (4, .int r4), (0, .ref (ad G (1))), (1, .int z1_6)]) hx hb dX4_firstFault_91 hl (k := 4) rfl (by rw [ex9]; rfl) (by decide) rfl (fun ls hl => ?_)
                  have tx9 : x9.toInt = z3_6.toInt + 1 := by rw [ex9, Jvm.Kit.i32_add (by omega) (by omega)]; omega
                  refine lv_goto (tgt := 6) hx hb dX4_firstFault_94 (by decide) ?_
                  exact ih6 z1_6 (1 : Int32) x9 _ _ _ (by omega) (by omega) hw (lv_sub hl [3, 4, 1, 0] rfl)
                · have or4 := i32b r4
                  have c75i := mt Int32.toInt_inj.mp c75
                  refine lv_iload hx hb dX4_firstFault_78 (lv_at hl 0 rfl) ?_
                  refine lv_bipush (v := 119) hx hb dX4_firstFault_80 (by decide) ?_
                  refine lv_icmp_ne (tgt := 89) hx hb dX4_firstFault_82 (by decide) (fun c82 => ?_) (fun c82 => ?_)
                  · have or4 := i32b r4
                    have c82i := mt Int32.toInt_inj.mp c82
                    refine lv_iconst (v := 0) hx hb dX4_firstFault_89 (by decide) ?_
                    refine lv_istore_n (lv' := [(2, .int (0 : Int32)), (4, .int r4), (0, .ref (ad G (1))), (1, .int z1_6), (3, .int z3_6)]) hx hb dX4_firstFault_90 rfl hl (by decide) rfl (fun ls hl => ?_)
                    obtain ⟨x10, ex10⟩ : ∃ z : Int32, z = z3_6 + (1 : Int32) := ⟨_, rfl⟩
                    refine lv_iinc (v := x10) (lv' := [(3, .int x10), (2, .int (0 : Int32)), (4, .int r4), (0, .ref (ad G (1))), (1, .int z1_6)]) hx hb dX4_firstFault_91 hl (k := 4) rfl (by rw [ex10]; rfl) (by decide) rfl (fun ls hl => ?_)
                    have tx10 : x10.toInt = z3_6.toInt + 1 := by rw [ex10, Jvm.Kit.i32_add (by omega) (by omega)]; omega
                    refine lv_goto (tgt := 6) hx hb dX4_firstFault_94 (by decide) ?_
                    exact ih6 z1_6 (0 : Int32) x10 _ _ _ (by omega) (by omega) hw (lv_sub hl [3, 4, 1, 0] rfl)
                  · have or4 := i32b r4
                    have c82i := congrArg Int32.toInt c82
                    refine lv_iconst (v := 1) hx hb dX4_firstFault_85 (by decide) ?_
                    refine lv_goto (tgt := 90) hx hb dX4_firstFault_86 (by decide) ?_
                    refine lv_istore_n (lv' := [(2, .int (1 : Int32)), (4, .int r4), (0, .ref (ad G (1))), (1, .int z1_6), (3, .int z3_6)]) hx hb dX4_firstFault_90 rfl hl (by decide) rfl (fun ls hl => ?_)
                    obtain ⟨x11, ex11⟩ : ∃ z : Int32, z = z3_6 + (1 : Int32) := ⟨_, rfl⟩
                    refine lv_iinc (v := x11) (lv' := [(3, .int x11), (2, .int (1 : Int32)), (4, .int r4), (0, .ref (ad G (1))), (1, .int z1_6)]) hx hb dX4_firstFault_91 hl (k := 4) rfl (by rw [ex11]; rfl) (by decide) rfl (fun ls hl => ?_)
                    have tx11 : x11.toInt = z3_6.toInt + 1 := by rw [ex11, Jvm.Kit.i32_add (by omega) (by omega)]; omega
                    refine lv_goto (tgt := 6) hx hb dX4_firstFault_94 (by decide) ?_
                    exact ih6 z1_6 (1 : Int32) x11 _ _ _ (by omega) (by omega) hw (lv_sub hl [3, 4, 1, 0] rfl)
              · have c66i := congrArg Int32.toInt c66
                refine lv_iload_n hx hb dX4_firstFault_69 rfl (lv_at hl 4 rfl) ?_
                exact ret z3_6 σ _ _ 70 _ (rfl) (⟨rfl, trivial⟩) hw dX4_firstFault_70
          · have c49i := mt Int32.toInt_inj.mp c49
            have p49 := bz1 hr6 c49
            refine lv_iconst (v := 1) hx hb dX4_firstFault_52 (by decide) ?_
            refine lv_istore_n (lv' := [(1, .int (1 : Int32)), (4, .int r4), (0, .ref (ad G (1))), (2, .int z2_6), (3, .int z3_6)]) hx hb dX4_firstFault_53 rfl hl (by decide) rfl (fun ls hl => ?_)
            refine lv_goto (tgt := 91) hx hb dX4_firstFault_54 (by decide) ?_
            obtain ⟨x12, ex12⟩ : ∃ z : Int32, z = z3_6 + (1 : Int32) := ⟨_, rfl⟩
            refine lv_iinc (v := x12) (lv' := [(3, .int x12), (1, .int (1 : Int32)), (4, .int r4), (0, .ref (ad G (1))), (2, .int z2_6)]) hx hb dX4_firstFault_91 hl (k := 4) rfl (by rw [ex12]; rfl) (by decide) rfl (fun ls hl => ?_)
            have tx12 : x12.toInt = z3_6.toInt + 1 := by rw [ex12, Jvm.Kit.i32_add (by omega) (by omega)]; omega
            refine lv_goto (tgt := 6) hx hb dX4_firstFault_94 (by decide) ?_
            exact ih6 (1 : Int32) z2_6 x12 _ _ _ (by omega) (by omega) hw (lv_sub hl [3, 1, 4, 0] rfl)
        · have c22i := mt Int32.toInt_inj.mp c22
          refine lv_iload hx hb dX4_firstFault_25 (lv_at hl 0 rfl) ?_
          refine lv_bipush (v := 49) hx hb dX4_firstFault_27 (by decide) ?_
          refine lv_bipush (v := 57) hx hb dX4_firstFault_29 (by decide) ?_
          refine te_vi hw (ru_N (As := [.int r4, .int (49 : Int32), .int (57 : Int32)]) (rest := []) hx hb hml hts hown hk hw (c_X10_within l G hG σ hI.1 r4 (49 : Int32) (57 : Int32)) (m2_in wd129 wd2) (by decide +kernel) wd130 nm_yX10_within ⟨rfl, rfl⟩ ⟨by decide, by decide⟩ rfl hl.1 rfl (Nat.le_of_ble_eq_true rfl) dX4_firstFault_31 ⟨Nat.zero_le _, Nat.zero_le _⟩) (fun r14 σ13 H locs hr14 hw => ?_)
          rw [hr14.1] at hw
          have hr14 := hr14.2
          refine lv_if_ne (tgt := 39) hx hb dX4_firstFault_34 (by decide) (fun c34 => ?_) (fun c34 => ?_)
          · have c34i := mt Int32.toInt_inj.mp c34
            have p34 := bz1 hr14 c34
            refine lv_iconst (v := 0) hx hb dX4_firstFault_39 (by decide) ?_
            refine lv_istore_n (lv' := [(2, .int (0 : Int32)), (4, .int r4), (0, .ref (ad G (1))), (1, .int z1_6), (3, .int z3_6)]) hx hb dX4_firstFault_40 rfl hl (by decide) rfl (fun ls hl => ?_)
            refine lv_goto (tgt := 91) hx hb dX4_firstFault_41 (by decide) ?_
            obtain ⟨x15, ex15⟩ : ∃ z : Int32, z = z3_6 + (1 : Int32) := ⟨_, rfl⟩
            refine lv_iinc (v := x15) (lv' := [(3, .int x15), (2, .int (0 : Int32)), (4, .int r4), (0, .ref (ad G (1))), (1, .int z1_6)]) hx hb dX4_firstFault_91 hl (k := 4) rfl (by rw [ex15]; rfl) (by decide) rfl (fun ls hl => ?_)
            have tx15 : x15.toInt = z3_6.toInt + 1 := by rw [ex15, Jvm.Kit.i32_add (by omega) (by omega)]; omega
            refine lv_goto (tgt := 6) hx hb dX4_firstFault_94 (by decide) ?_
            exact ih6 z1_6 (0 : Int32) x15 _ _ _ (by omega) (by omega) hw (lv_sub hl [3, 4, 1, 0] rfl)
          · have c34i := congrArg Int32.toInt c34
            have p34 := bz0 hr14 c34
            refine lv_iload_n hx hb dX4_firstFault_37 rfl (lv_at hl 4 rfl) ?_
            exact ret z3_6 σ _ _ 38 _ (rfl) (⟨rfl, trivial⟩) hw dX4_firstFault_38
  exact cut6 ((((40 - (0 : Int32).toInt).toNat : Int)).toNat + 1) (0 : Int32) (0 : Int32) (0 : Int32) _ _ _ (by omega) (by omega) hw (lv_sub hl [3, 2, 1, 0] rfl)
set_option maxHeartbeats 4000000 in
set_option maxRecDepth 100000 in
theorem c_X4_add (l : Launch) (G : Gg) (hG : Ginj G) (σ : Sg) (hI0 : Inv σ) (v : Int32) : MV l G yX4_add cX4_add 2 (rmO 0 0) σ [.ref (ad G (1)), .int v] (fun σ' => K0 σ σ' ∧ (True)) := by
  refine MV.of (by decide +kernel) (Nat.le_of_ble_eq_true rfl) ?_
  intro p e s m a below meth c ls Q hx hb hml hts hown hk hw ret hl
  have hown : s.vm.findClass RX4 = some m.cls := hown
  have hl : lv_has ls 2 [(0, .ref (ad G (1))), (1, .int v)] := hl
  have hI : K0 σ σ := K0.rf hI0
  have L0 : (0 : Int32).toInt = 0 := by decide
  have L1 : (1 : Int32).toInt = 1 := by decide
  have L40 : (40 : Int32).toInt = 40 := by decide
  generalize hHe : s.heap = H at hw ⊢
  generalize hLe : ([] : List Loc) = locs at hw ⊢
  refine lv_aload_n hx hb dX4_add_0 rfl (lv_at hl 0 rfl) ?_
  refine tg_get (ci := 4) (k := 1) (v := .int (σ (1) 1)) hx hb hts hown hk hw (en4 (rfl : nk 1 = 4)) rfl inlX4 (by decide) wd206 rfl dX4_add_1 ?_
  refine lv_topi (fun x1 ex1 => ?_)
  have bx1 : 0 ≤ x1.toInt ∧ x1.toInt ≤ 40 := by rw [ex1]; exact hI.1 _ _ _ _ (by rw [(rfl : nk 1 = 4)]; rfl)
  have ux1 : x1.toInt = (σ (1) 1).toInt := by rw [ex1]
  refine lv_bipush (v := 40) hx hb dX4_add_4 (by decide) ?_
  refine lv_icmp_ge (tgt := 29) hx hb dX4_add_6 (by decide) (fun c6 => ?_) (fun c6 => ?_)
  · have c6i := Int32.le_iff_toInt_le.mp c6
    exact ret σ _ _ 29 _ (⟨hI, trivial⟩) hw dX4_add_29
  · have c6i := mt Int32.le_iff_toInt_le.mpr c6
    refine lv_aload_n hx hb dX4_add_9 rfl (lv_at hl 0 rfl) ?_
    refine tg_get (ci := 4) (k := 0) (v := .ref (ad G (2))) hx hb hts hown hk hw (en4 (rfl : nk 1 = 4)) rfl inlX4 (by decide) wd41 rfl dX4_add_10 ?_
    refine lv_aload_n hx hb dX4_add_13 rfl (lv_at hl 0 rfl) ?_
    refine tg_get (ci := 4) (k := 1) (v := .int (σ (1) 1)) hx hb hts hown hk hw (en4 (rfl : nk 1 = 4)) rfl inlX4 (by decide) wd206 rfl dX4_add_14 ?_
    refine lv_topi (fun x2 ex2 => ?_)
    have qx2 : x2.toInt = x1.toInt := by rw [ex2, ex1]
    have bx2 : 0 ≤ x2.toInt ∧ x2.toInt ≤ 40 := by rw [ex2]; exact hI.1 _ _ _ _ (by rw [(rfl : nk 1 = 4)]; rfl)
    have ux2 : x2.toInt = (σ (1) 1).toInt := by rw [ex2]
    refine lv_iload_n hx hb dX4_add_17 rfl (lv_at hl 1 rfl) ?_
    have hv18 : vp_in x2 40 := vin ⟨by omega, by omega⟩
    refine tg_iast hx hb hk hG hw (ea140 (rfl : nk 2 = 140)) hv18 dX4_add_18 (fun H locs hw => ?_)
    obtain ⟨σ3, eσ3⟩ : ∃ z, z = up2 σ (2) x2.toNatClampNeg v := ⟨_, rfl⟩
    rw [← eσ3] at hw
    have hI : K0 σ σ3 := by rw [eσ3]; exact hI.up (rfl) (rg_no (by rw [(rfl : nk 2 = 140)]; rfl))
    refine lv_aload_n hx hb dX4_add_19 rfl (lv_at hl 0 rfl) ?_
    refine lv_dup hx hb dX4_add_20 rfl ?_
    refine tg_get (ci := 4) (k := 1) (v := .int (σ3 (1) 1)) hx hb hts hown hk hw (en4 (rfl : nk 1 = 4)) rfl inlX4 (by decide) wd206 rfl dX4_add_21 ?_
    refine lv_topi (fun x4 ex4 => ?_)
    have bx4 : 0 ≤ x4.toInt ∧ x4.toInt ≤ 40 := by rw [ex4]; exact hI.1 _ _ _ _ (by rw [(rfl : nk 1 = 4)]; rfl)
    have ux4 : x4.toInt = (σ3 (1) 1).toInt := by rw [ex4]
    have qx4 : x4.toInt = x1.toInt := by rw [ex4, eσ3, up2_ne (by omega), ex1]
    refine lv_iconst (v := 1) hx hb dX4_add_24 (by decide) ?_
    refine lv_iadd hx hb dX4_add_25 ?_
    refine lv_topi (fun x5 ex5 => ?_)
    have tx5 : x5.toInt = x4.toInt + (1 : Int32).toInt := by rw [ex5]; exact Jvm.Kit.i32_add (by omega) (by omega)
    refine tg_put (ci := 4) (k := 1) (σ' := up2 σ3 (1) 1 x5) hx hb hts hown hk hG hw tyX4 (en4 (rfl : nk 1 = 4)) rfl inlX4 tyX4_ok nmX4 (by decide) wd206 rfl rfl rfl (Nat.le_of_ble_eq_true rfl) (pu4_1 (rfl : nk 1 = 4)) (fun _ h => up2_ne h) dX4_add_26 (fun H locs hw => ?_)
    obtain ⟨σ6, eσ6⟩ : ∃ z, z = up2 σ3 (1) 1 x5 := ⟨_, rfl⟩
    rw [← eσ6] at hw
    have hI : K0 σ σ6 := by rw [eσ6]; exact hI.up (rfl) (rg_is (by rw [(rfl : nk 1 = 4)]; rfl) (by omega) (by omega))
    exact ret σ6 _ _ 29 _ (⟨hI, trivial⟩) hw dX4_add_29
