set_option maxHeartbeats 4000000 in
set_option maxRecDepth 100000 in
theorem c_X2_take (l : Launch) (G : Gg) (hG : Ginj G) (σ : Sg) (hI0 : Inv σ) (i : Nat) (hi : nk i = 2) (v : Int32) (w : Int32) : MV l G yX2_take cX2_take 4 (rmO 0 0) σ [.ref (ad G (i)), .int v, .int w] (fun σ' => K0 σ σ' ∧ (True)) := by
  refine MV.of (by decide +kernel) (Nat.le_of_ble_eq_true rfl) ?_
  intro p e s m a below meth c ls Q hx hb hml hts hown hk hw ret hl
  have hown : s.vm.findClass RX2 = some m.cls := hown
  have hl : lv_has ls 4 [(0, .ref (ad G (i))), (1, .int v), (2, .int w)] := hl
  have hI : K0 σ σ := K0.rf hI0
  have L0 : (0 : Int32).toInt = 0 := by decide
  have L1 : (1 : Int32).toInt = 1 := by decide
  have L4 : (4 : Int32).toInt = 4 := by decide
  have L256 : (256 : Int32).toInt = 256 := by decide
  generalize hHe : s.heap = H at hw ⊢
  generalize hLe : ([] : List Loc) = locs at hw ⊢
  refine lv_iload_n hx hb dX2_take_0 rfl (lv_at hl 1 rfl) ?_
  refine lv_iconst (v := 4) hx hb dX2_take_1 (by decide) ?_
  refine lv_imul hx hb dX2_take_2 ?_
  refine lv_topi (fun x1 ex1 => ?_)
  refine lv_iload_n hx hb dX2_take_3 rfl (lv_at hl 2 rfl) ?_
  refine lv_iadd hx hb dX2_take_4 ?_
  refine lv_topi (fun x2 ex2 => ?_)
  refine lv_istore_n (lv' := [(3, .int x2), (0, .ref (ad G (i))), (1, .int v), (2, .int w)]) hx hb dX2_take_5 rfl hl (by decide) rfl (fun ls hl => ?_)
  refine lv_iload_n hx hb dX2_take_6 rfl (lv_at hl 0 rfl) ?_
  refine lv_if_lt (tgt := 27) hx hb dX2_take_7 (by decide) (fun c7 => ?_) (fun c7 => ?_)
  · have c7i := Int32.lt_iff_toInt_lt.mp c7
    exact ret σ _ _ 27 _ (⟨hI, trivial⟩) hw dX2_take_27
  · have c7i := mt Int32.lt_iff_toInt_lt.mpr c7
    refine lv_iload_n hx hb dX2_take_10 rfl (lv_at hl 0 rfl) ?_
    refine lv_sipush (v := 256) hx hb dX2_take_11 (by decide) ?_
    refine lv_icmp_ge (tgt := 27) hx hb dX2_take_14 (by decide) (fun c14 => ?_) (fun c14 => ?_)
    · have ox2 := i32b x2
      have c14i := Int32.le_iff_toInt_le.mp c14
      exact ret σ _ _ 27 _ (⟨hI, trivial⟩) hw dX2_take_27
    · have ox2 := i32b x2
      have c14i := mt Int32.le_iff_toInt_le.mpr c14
      refine lv_aload_n hx hb dX2_take_17 rfl (lv_at hl 1 rfl) ?_
      refine tg_get (ci := 2) (k := 0) (v := .ref (ad G (i + 1))) hx hb hts hown hk hw (en2 hi) rfl inlX2 (by decide) wd58 rfl dX2_take_18 ?_
      refine lv_iload_n hx hb dX2_take_21 rfl (lv_at hl 0 rfl) ?_
      refine lv_dup2_11 hx hb dX2_take_22 rfl rfl ?_
      have hv23 : vp_in x2 256 := vin ⟨by omega, by omega⟩
      refine tg_iald hx hb hk hw (en356 (kd2_1 hi)) hv23 dX2_take_23 ?_
      refine lv_topi (fun x3 ex3 => ?_)
      refine lv_iconst (v := 1) hx hb dX2_take_24 (by decide) ?_
      refine lv_iadd hx hb dX2_take_25 ?_
      refine lv_topi (fun x4 ex4 => ?_)
      have hv26 : vp_in x2 256 := vin ⟨by omega, by omega⟩
      refine tg_iast hx hb hk hG hw (ea356 (kd2_1 hi)) hv26 dX2_take_26 (fun H locs hw => ?_)
      obtain ⟨σ5, eσ5⟩ : ∃ z, z = up2 σ (i + 1) x2.toNatClampNeg x4 := ⟨_, rfl⟩
      rw [← eσ5] at hw
      have hI : K0 σ σ5 := by rw [eσ5]; exact hI.up (tr356 (kd2_1 hi)) (rg_no (by rw [(kd2_1 hi)]; rfl))
      exact ret σ5 _ _ 27 _ (⟨hI, trivial⟩) hw dX2_take_27
set_option maxHeartbeats 4000000 in
set_option maxRecDepth 100000 in
theorem c_X2_grainsIn (l : Launch) (G : Gg) (hG : Ginj G) (σ : Sg) (hI0 : Inv σ) (i : Nat) (hi : nk i = 2) (v : Int32) (w : Int32) (g1 : 0 ≤ v.toInt ∧ v.toInt ≤ 63) (g2 : -1 ≤ w.toInt ∧ w.toInt ≤ 3) : MI l G yX2_grainsIn cX2_grainsIn 5 .int (rmO 0 0) σ [.ref (ad G (i)), .int v, .int w] (fun r σ' => σ' = σ ∧ (True)) := by
  refine MI.of (by decide +kernel) (Nat.le_of_ble_eq_true rfl) ?_
  intro p e s m a below meth c ls Q hx hb hml hts hown hk hw ret hl
  have hown : s.vm.findClass RX2 = some m.cls := hown
  have hl : lv_has ls 5 [(0, .ref (ad G (i))), (1, .int v), (2, .int w)] := hl
  have hI : K0 σ σ := K0.rf hI0
  have Lm1 : (-1 : Int32).toInt = -1 := by decide
  have L0 : (0 : Int32).toInt = 0 := by decide
  have L1 : (1 : Int32).toInt = 1 := by decide
  have L4 : (4 : Int32).toInt = 4 := by decide
  generalize hHe : s.heap = H at hw ⊢
  generalize hLe : ([] : List Loc) = locs at hw ⊢
  refine lv_iload_n hx hb dX2_grainsIn_0 rfl (lv_at hl 2 rfl) ?_
  refine lv_iconst (v := -1) hx hb dX2_grainsIn_1 (by decide) ?_
  refine lv_icmp_eq (tgt := 16) hx hb dX2_grainsIn_2 (by decide) (fun c2 => ?_) (fun c2 => ?_)
  · have c2i := congrArg Int32.toInt c2
    refine lv_iconst (v := 0) hx hb dX2_grainsIn_16 (by decide) ?_
    refine lv_istore_n (lv' := [(3, .int (0 : Int32)), (0, .ref (ad G (i))), (1, .int v), (2, .int w)]) hx hb dX2_grainsIn_17 rfl hl (by decide) rfl (fun ls hl => ?_)
    refine lv_iconst (v := 0) hx hb dX2_grainsIn_18 (by decide) ?_
    refine lv_istore (lv' := [(4, .int (0 : Int32)), (3, .int (0 : Int32)), (0, .ref (ad G (i))), (1, .int v), (2, .int w)]) hx hb dX2_grainsIn_19 hl (by decide) rfl (fun ls hl => ?_)
    have cut21 : ∀ (n : Nat) (z3_21 : Int32) (z4_21 : Int32) (H : Heap) (locs : List Loc) (ls : Array Slot), (0 ≤ z4_21.toInt ∧ z4_21.toInt ≤ 4) → ((4 - z4_21.toInt).toNat : Int) < (n : Int) → Wo G σ s H locs → lv_has ls 5 [(0, .ref (ad G (i))), (1, .int v), (2, .int w), (3, .int z3_21), (4, .int z4_21)] → W p l e (rmO 0 0) s m a below meth c H locs 0 0 Q (F0 m 21 ls []) := by
      intro n21
      induction n21 with
      | zero =>
        intro z3_21 z4_21 H locs ls f21_0 hm21 hw hl
        exfalso; omega
      | succ n21 ih21 =>
        intro z3_21 z4_21 H locs ls f21_0 hm21 hw hl
        refine lv_iload hx hb dX2_grainsIn_21 (lv_at hl 4 rfl) ?_
        refine lv_iconst (v := 4) hx hb dX2_grainsIn_23 (by decide) ?_
        refine lv_icmp_ge (tgt := 47) hx hb dX2_grainsIn_24 (by decide) (fun c24 => ?_) (fun c24 => ?_)
        · have c24i := Int32.le_iff_toInt_le.mp c24
          refine lv_iload_n hx hb dX2_grainsIn_47 rfl (lv_at hl 3 rfl) ?_
          exact ret z3_21 σ _ _ 48 _ (rfl) (⟨rfl, trivial⟩) hw dX2_grainsIn_48
        · have c24i := mt Int32.le_iff_toInt_le.mpr c24
          refine lv_iload_n hx hb dX2_grainsIn_27 rfl (lv_at hl 3 rfl) ?_
          refine lv_aload_n hx hb dX2_grainsIn_28 rfl (lv_at hl 0 rfl) ?_
          refine tg_get (ci := 2) (k := 0) (v := .ref (ad G (i + 1))) hx hb hts hown hk hw (en2 hi) rfl inlX2 (by decide) wd58 rfl dX2_grainsIn_29 ?_
          refine lv_iload_n hx hb dX2_grainsIn_32 rfl (lv_at hl 1 rfl) ?_
          refine lv_iconst (v := 4) hx hb dX2_grainsIn_33 (by decide) ?_
          refine lv_imul hx hb dX2_grainsIn_34 ?_
          refine lv_topi (fun x1 ex1 => ?_)
          have tx1 : x1.toInt = 4 * v.toInt := by rw [ex1, Jvm.Kit.i32_mul (by rw [L4]; omega) (by rw [L4]; omega), L4]; omega
          refine lv_iload hx hb dX2_grainsIn_35 (lv_at hl 4 rfl) ?_
          refine lv_iadd hx hb dX2_grainsIn_37 ?_
          refine lv_topi (fun x2 ex2 => ?_)
          have tx2 : x2.toInt = x1.toInt + z4_21.toInt := by rw [ex2]; exact Jvm.Kit.i32_add (by omega) (by omega)
          have hv38 : vp_in x2 256 := vin ⟨by omega, by omega⟩
          refine tg_iald hx hb hk hw (en356 (kd2_1 hi)) hv38 dX2_grainsIn_38 ?_
          refine lv_topi (fun x3 ex3 => ?_)
          refine lv_iadd hx hb dX2_grainsIn_39 ?_
          refine lv_topi (fun x4 ex4 => ?_)
          refine lv_istore_n (lv' := [(3, .int x4), (0, .ref (ad G (i))), (1, .int v), (2, .int w), (4, .int z4_21)]) hx hb dX2_grainsIn_40 rfl hl (by decide) rfl (fun ls hl => ?_)
          obtain ⟨x5, ex5⟩ : ∃ z : Int32, z = z4_21 + (1 : Int32) := ⟨_, rfl⟩
          refine lv_iinc (v := x5) (lv' := [(4, .int x5), (3, .int x4), (0, .ref (ad G (i))), (1, .int v), (2, .int w)]) hx hb dX2_grainsIn_41 hl (k := 4) rfl (by rw [ex5]; rfl) (by decide) rfl (fun ls hl => ?_)
          have tx5 : x5.toInt = z4_21.toInt + 1 := by rw [ex5, Jvm.Kit.i32_add (by omega) (by omega)]; omega
          refine lv_goto (tgt := 21) hx hb dX2_grainsIn_44 (by decide) ?_
          exact ih21 x4 x5 _ _ _ (by omega) (by omega) hw (lv_sub hl [2, 3, 4, 1, 0] rfl)
    exact cut21 ((((4 - (0 : Int32).toInt).toNat : Int)).toNat + 1) (0 : Int32) (0 : Int32) _ _ _ (by omega) (by omega) hw (lv_sub hl [2, 3, 4, 1, 0] rfl)
  · have c2i := mt Int32.toInt_inj.mp c2
    refine lv_aload_n hx hb dX2_grainsIn_5 rfl (lv_at hl 0 rfl) ?_
    refine tg_get (ci := 2) (k := 0) (v := .ref (ad G (i + 1))) hx hb hts hown hk hw (en2 hi) rfl inlX2 (by decide) wd58 rfl dX2_grainsIn_6 ?_
    refine lv_iload_n hx hb dX2_grainsIn_9 rfl (lv_at hl 1 rfl) ?_
    refine lv_iconst (v := 4) hx hb dX2_grainsIn_10 (by decide) ?_
    refine lv_imul hx hb dX2_grainsIn_11 ?_
    refine lv_topi (fun x6 ex6 => ?_)
    have tx6 : x6.toInt = 4 * v.toInt := by rw [ex6, Jvm.Kit.i32_mul (by rw [L4]; omega) (by rw [L4]; omega), L4]; omega
    refine lv_iload_n hx hb dX2_grainsIn_12 rfl (lv_at hl 2 rfl) ?_
    refine lv_iadd hx hb dX2_grainsIn_13 ?_
    refine lv_topi (fun x7 ex7 => ?_)
    have tx7 : x7.toInt = x6.toInt + w.toInt := by rw [ex7]; exact Jvm.Kit.i32_add (by omega) (by omega)
    have hv14 : vp_in x7 256 := vin ⟨by omega, by omega⟩
    refine tg_iald hx hb hk hw (en356 (kd2_1 hi)) hv14 dX2_grainsIn_14 ?_
    refine lv_topi (fun x8 ex8 => ?_)
    exact ret x8 σ _ _ 15 _ (rfl) (⟨rfl, trivial⟩) hw dX2_grainsIn_15
set_option maxHeartbeats 4000000 in
set_option maxRecDepth 100000 in
theorem c_X2_grainsBeyond (l : Launch) (G : Gg) (hG : Ginj G) (σ : Sg) (hI0 : Inv σ) (i : Nat) (hi : nk i = 2) (v : Int32) (w : Int32) (g1 : -1 ≤ w.toInt ∧ w.toInt ≤ 3) : MI l G yX2_grainsBeyond cX2_grainsBeyond 5 .int (rmO 1 24) σ [.ref (ad G (i)), .int v, .int w] (fun r σ' => σ' = σ ∧ (True)) := by
  refine MI.of (by decide +kernel) (Nat.le_of_ble_eq_true rfl) ?_
  intro p e s m a below meth c ls Q hx hb hml hts hown hk hw ret hl
  have hown : s.vm.findClass RX2 = some m.cls := hown
  have hl : lv_has ls 5 [(0, .ref (ad G (i))), (1, .int v), (2, .int w)] := hl
  have hI : K0 σ σ := K0.rf hI0
  have L0 : (0 : Int32).toInt = 0 := by decide
  have L1 : (1 : Int32).toInt = 1 := by decide
  have L8 : (8 : Int32).toInt = 8 := by decide
  have L64 : (64 : Int32).toInt = 64 := by decide
  generalize hHe : s.heap = H at hw ⊢
  generalize hLe : ([] : List Loc) = locs at hw ⊢
  refine lv_iconst (v := 0) hx hb dX2_grainsBeyond_0 (by decide) ?_
  refine lv_istore_n (lv' := [(3, .int (0 : Int32)), (0, .ref (ad G (i))), (1, .int v), (2, .int w)]) hx hb dX2_grainsBeyond_1 rfl hl (by decide) rfl (fun ls hl => ?_)
  refine lv_iconst (v := 0) hx hb dX2_grainsBeyond_2 (by decide) ?_
  refine lv_istore (lv' := [(4, .int (0 : Int32)), (3, .int (0 : Int32)), (0, .ref (ad G (i))), (1, .int v), (2, .int w)]) hx hb dX2_grainsBeyond_3 hl (by decide) rfl (fun ls hl => ?_)
  have cut5 : ∀ (n : Nat) (z3_5 : Int32) (z4_5 : Int32) (H : Heap) (locs : List Loc) (ls : Array Slot), (0 ≤ z4_5.toInt ∧ z4_5.toInt ≤ 64) → ((64 - z4_5.toInt).toNat : Int) < (n : Int) → Wo G σ s H locs → lv_has ls 5 [(0, .ref (ad G (i))), (1, .int v), (2, .int w), (3, .int z3_5), (4, .int z4_5)] → W p l e (rmO 1 24) s m a below meth c H locs 0 0 Q (F0 m 5 ls []) := by
    intro n5
    induction n5 with
    | zero =>
      intro z3_5 z4_5 H locs ls f5_0 hm5 hw hl
      exfalso; omega
    | succ n5 ih5 =>
      intro z3_5 z4_5 H locs ls f5_0 hm5 hw hl
      refine lv_iload hx hb dX2_grainsBeyond_5 (lv_at hl 4 rfl) ?_
      refine lv_bipush (v := 64) hx hb dX2_grainsBeyond_7 (by decide) ?_
      refine lv_icmp_ge (tgt := 37) hx hb dX2_grainsBeyond_9 (by decide) (fun c9 => ?_) (fun c9 => ?_)
      · have c9i := Int32.le_iff_toInt_le.mp c9
        refine lv_iload_n hx hb dX2_grainsBeyond_37 rfl (lv_at hl 3 rfl) ?_
        exact ret z3_5 σ _ _ 38 _ (rfl) (⟨rfl, trivial⟩) hw dX2_grainsBeyond_38
      · have c9i := mt Int32.le_iff_toInt_le.mpr c9
        refine lv_iload hx hb dX2_grainsBeyond_12 (lv_at hl 4 rfl) ?_
        refine lv_bipush (v := 8) hx hb dX2_grainsBeyond_14 (by decide) ?_
        refine lv_irem hx hb dX2_grainsBeyond_16 (by decide) ?_
        refine lv_topi (fun x1 ex1 => ?_)
        have tx1 : x1.toInt = z4_5.toInt % 8 := by rw [ex1]; exact irem_nn L8 (by omega)
        have bx1 : 0 ≤ x1.toInt ∧ x1.toInt ≤ 7 := by omega
        refine lv_iload_n hx hb dX2_grainsBeyond_17 rfl (lv_at hl 1 rfl) ?_
        refine lv_icmp_le (tgt := 31) hx hb dX2_grainsBeyond_18 (by decide) (fun c18 => ?_) (fun c18 => ?_)
        · have ov := i32b v
          have c18i := Int32.le_iff_toInt_le.mp c18
          obtain ⟨x2, ex2⟩ : ∃ z : Int32, z = z4_5 + (1 : Int32) := ⟨_, rfl⟩
          refine lv_iinc (v := x2) (lv' := [(4, .int x2), (0, .ref (ad G (i))), (1, .int v), (2, .int w), (3, .int z3_5)]) hx hb dX2_grainsBeyond_31 hl (k := 4) rfl (by rw [ex2]; rfl) (by decide) rfl (fun ls hl => ?_)
          have tx2 : x2.toInt = z4_5.toInt + 1 := by rw [ex2, Jvm.Kit.i32_add (by omega) (by omega)]; omega
          refine lv_goto (tgt := 5) hx hb dX2_grainsBeyond_34 (by decide) ?_
          exact ih5 z3_5 x2 _ _ _ (by omega) (by omega) hw (lv_sub hl [1, 2, 3, 4, 0] rfl)
        · have ov := i32b v
          have c18i := mt Int32.le_iff_toInt_le.mpr c18
          refine lv_iload_n hx hb dX2_grainsBeyond_21 rfl (lv_at hl 3 rfl) ?_
          refine lv_aload_n hx hb dX2_grainsBeyond_22 rfl (lv_at hl 0 rfl) ?_
          refine lv_iload hx hb dX2_grainsBeyond_23 (lv_at hl 4 rfl) ?_
          refine lv_iload_n hx hb dX2_grainsBeyond_25 rfl (lv_at hl 2 rfl) ?_
          refine te_vi hw (ru_V (As := [.int z4_5, .int w]) (rest := [.int z3_5]) (C := RX2) hx hb hml hts hown hk hw (c_X2_grainsIn l G hG σ hI.1 i hi z4_5 w (by omega) (by omega)) (m4_in wd427 wd392 wd393 wd48) wd394 (en2 hi) rfl rfl rfl nm_yX2_grainsIn ⟨rfl, rfl⟩ ⟨by decide, by decide⟩ rfl hl.1 rfl (Nat.le_of_ble_eq_true rfl) dX2_grainsBeyond_26 ⟨Nat.zero_le _, Nat.zero_le _⟩) (fun r4 σ3 H locs hr4 hw => ?_)
          rw [hr4.1] at hw
          have hr4 := hr4.2
          refine lv_iadd hx hb dX2_grainsBeyond_29 ?_
          refine lv_topi (fun x5 ex5 => ?_)
          refine lv_istore_n (lv' := [(3, .int x5), (0, .ref (ad G (i))), (1, .int v), (2, .int w), (4, .int z4_5)]) hx hb dX2_grainsBeyond_30 rfl hl (by decide) rfl (fun ls hl => ?_)
          obtain ⟨x6, ex6⟩ : ∃ z : Int32, z = z4_5 + (1 : Int32) := ⟨_, rfl⟩
          refine lv_iinc (v := x6) (lv' := [(4, .int x6), (3, .int x5), (0, .ref (ad G (i))), (1, .int v), (2, .int w)]) hx hb dX2_grainsBeyond_31 hl (k := 4) rfl (by rw [ex6]; rfl) (by decide) rfl (fun ls hl => ?_)
          have tx6 : x6.toInt = z4_5.toInt + 1 := by rw [ex6, Jvm.Kit.i32_add (by omega) (by omega)]; omega
          refine lv_goto (tgt := 5) hx hb dX2_grainsBeyond_34 (by decide) ?_
          exact ih5 x5 x6 _ _ _ (by omega) (by omega) hw (lv_sub hl [2, 3, 4, 1, 0] rfl)
  exact cut5 ((((64 - (0 : Int32).toInt).toNat : Int)).toNat + 1) (0 : Int32) (0 : Int32) _ _ _ (by omega) (by omega) hw (lv_sub hl [2, 3, 4, 1, 0] rfl)
set_option maxHeartbeats 4000000 in
set_option maxRecDepth 100000 in
theorem c_X2_allGrains (l : Launch) (G : Gg) (hG : Ginj G) (σ : Sg) (hI0 : Inv σ) (i : Nat) (hi : nk i = 2) : MI l G yX2_allGrains cX2_allGrains 1 .int (rmO 2 48) σ [.ref (ad G (i))] (fun r σ' => σ' = σ ∧ (True)) := by
  refine MI.of (by decide +kernel) (Nat.le_of_ble_eq_true rfl) ?_
  intro p e s m a below meth c ls Q hx hb hml hts hown hk hw ret hl
  have hown : s.vm.findClass RX2 = some m.cls := hown
  have hl : lv_has ls 1 [(0, .ref (ad G (i)))] := hl
  have hI : K0 σ σ := K0.rf hI0
  have Lm1 : (-1 : Int32).toInt = -1 := by decide
  generalize hHe : s.heap = H at hw ⊢
  generalize hLe : ([] : List Loc) = locs at hw ⊢
  refine lv_aload_n hx hb dX2_allGrains_0 rfl (lv_at hl 0 rfl) ?_
  refine lv_iconst (v := -1) hx hb dX2_allGrains_1 (by decide) ?_
  refine lv_iconst (v := -1) hx hb dX2_allGrains_2 (by decide) ?_
  refine te_vi hw (ru_V (As := [.int (-1 : Int32), .int (-1 : Int32)]) (rest := []) (C := RX2) hx hb hml hts hown hk hw (c_X2_grainsBeyond l G hG σ hI.1 i hi (-1 : Int32) (-1 : Int32) (by omega)) (m4_in wd667 wd660 wd661 wd48) wd662 (en2 hi) rfl rfl rfl nm_yX2_grainsBeyond ⟨rfl, rfl⟩ ⟨by decide, by decide⟩ rfl hl.1 rfl (Nat.le_of_ble_eq_true rfl) dX2_allGrains_3 ⟨Nat.zero_le _, Nat.zero_le _⟩) (fun r2 σ1 H locs hr2 hw => ?_)
  rw [hr2.1] at hw
  have hr2 := hr2.2
  exact ret r2 σ _ _ 6 _ (rfl) (⟨rfl, trivial⟩) hw dX2_allGrains_6
set_option maxHeartbeats 4000000 in
set_option maxRecDepth 100000 in
theorem c_X2_strays (l : Launch) (G : Gg) (hG : Ginj G) (σ : Sg) (hI0 : Inv σ) (i : Nat) (hi : nk i = 2) (v : Int32) : MI l G yX2_strays cX2_strays 5 .int (rmO 0 0) σ [.ref (ad G (i)), .int v] (fun r σ' => σ' = σ ∧ (True)) := by
  refine MI.of (by decide +kernel) (Nat.le_of_ble_eq_true rfl) ?_
  intro p e s m a below meth c ls Q hx hb hml hts hown hk hw ret hl
  have hown : s.vm.findClass RX2 = some m.cls := hown
  have hl : lv_has ls 5 [(0, .ref (ad G (i))), (1, .int v)] := hl
  have hI : K0 σ σ := K0.rf hI0
  have Lm1 : (-1 : Int32).toInt = -1 := by decide
  have L0 : (0 : Int32).toInt = 0 := by decide
  have L1 : (1 : Int32).toInt = 1 := by decide
  have L4 : (4 : Int32).toInt = 4 := by decide
  have L64 : (64 : Int32).toInt = 64 := by decide
  generalize hHe : s.heap = H at hw ⊢
  generalize hLe : ([] : List Loc) = locs at hw ⊢
  refine lv_iconst (v := 0) hx hb dX2_strays_0 (by decide) ?_
  refine lv_istore_n (lv' := [(2, .int (0 : Int32)), (0, .ref (ad G (i))), (1, .int v)]) hx hb dX2_strays_1 rfl hl (by decide) rfl (fun ls hl => ?_)
  refine lv_iconst (v := 0) hx hb dX2_strays_2 (by decide) ?_
  refine lv_istore_n (lv' := [(3, .int (0 : Int32)), (2, .int (0 : Int32)), (0, .ref (ad G (i))), (1, .int v)]) hx hb dX2_strays_3 rfl hl (by decide) rfl (fun ls hl => ?_)
  have cut4 : ∀ (n : Nat) (z2_4 : Int32) (z3_4 : Int32) (H : Heap) (locs : List Loc) (ls : Array Slot), (0 ≤ z3_4.toInt ∧ z3_4.toInt ≤ 64) → ((64 - z3_4.toInt).toNat : Int) < (n : Int) → Wo G σ s H locs → lv_has ls 5 [(0, .ref (ad G (i))), (1, .int v), (2, .int z2_4), (3, .int z3_4)] → W p l e (rmO 0 0) s m a below meth c H locs 0 0 Q (F0 m 4 ls []) := by
    intro n4
    induction n4 with
    | zero =>
      intro z2_4 z3_4 H locs ls f4_0 hm4 hw hl
      exfalso; omega
    | succ n4 ih4 =>
      intro z2_4 z3_4 H locs ls f4_0 hm4 hw hl
      refine lv_iload_n hx hb dX2_strays_4 rfl (lv_at hl 3 rfl) ?_
      refine lv_bipush (v := 64) hx hb dX2_strays_5 (by decide) ?_
      refine lv_icmp_ge (tgt := 67) hx hb dX2_strays_7 (by decide) (fun c7 => ?_) (fun c7 => ?_)
      · have c7i := Int32.le_iff_toInt_le.mp c7
        refine lv_iload_n hx hb dX2_strays_67 rfl (lv_at hl 2 rfl) ?_
        exact ret z2_4 σ _ _ 68 _ (rfl) (⟨rfl, trivial⟩) hw dX2_strays_68
      · have c7i := mt Int32.le_iff_toInt_le.mpr c7
        refine lv_iconst (v := 0) hx hb dX2_strays_10 (by decide) ?_
        refine lv_istore (lv' := [(4, .int (0 : Int32)), (0, .ref (ad G (i))), (1, .int v), (2, .int z2_4), (3, .int z3_4)]) hx hb dX2_strays_11 hl (by decide) rfl (fun ls hl => ?_)
        have cut13 : ∀ (n : Nat) (z2_13 : Int32) (z4_13 : Int32) (H : Heap) (locs : List Loc) (ls : Array Slot), (0 ≤ z4_13.toInt ∧ z4_13.toInt ≤ 4) → ((4 - z4_13.toInt).toNat : Int) < (n : Int) → Wo G σ s H locs → lv_has ls 5 [(0, .ref (ad G (i))), (1, .int v), (2, .int z2_13), (3, .int z3_4), (4, .int z4_13)] → W p l e (rmO 0 0) s m a below meth c H locs 0 0 Q (F0 m 13 ls []) := by
          intro n13
          induction n13 with
          | zero =>
            intro z2_13 z4_13 H locs ls f13_0 hm13 hw hl
            exfalso; omega
          | succ n13 ih13 =>
            intro z2_13 z4_13 H locs ls f13_0 hm13 hw hl
            refine lv_iload hx hb dX2_strays_13 (lv_at hl 4 rfl) ?_
            refine lv_iconst (v := 4) hx hb dX2_strays_15 (by decide) ?_
            refine lv_icmp_ge (tgt := 61) hx hb dX2_strays_16 (by decide) (fun c16 => ?_) (fun c16 => ?_)
            · have c16i := Int32.le_iff_toInt_le.mp c16
              obtain ⟨x1, ex1⟩ : ∃ z : Int32, z = z3_4 + (1 : Int32) := ⟨_, rfl⟩
              refine lv_iinc (v := x1) (lv' := [(3, .int x1), (0, .ref (ad G (i))), (1, .int v), (2, .int z2_13), (4, .int z4_13)]) hx hb dX2_strays_61 hl (k := 3) rfl (by rw [ex1]; rfl) (by decide) rfl (fun ls hl => ?_)
              have tx1 : x1.toInt = z3_4.toInt + 1 := by rw [ex1, Jvm.Kit.i32_add (by omega) (by omega)]; omega
              refine lv_goto (tgt := 4) hx hb dX2_strays_64 (by decide) ?_
              exact ih4 z2_13 x1 _ _ _ (by omega) (by omega) hw (lv_sub hl [1, 2, 3, 0] rfl)
            · have c16i := mt Int32.le_iff_toInt_le.mpr c16
              refine lv_iload_n hx hb dX2_strays_19 rfl (lv_at hl 1 rfl) ?_
              refine lv_iconst (v := -1) hx hb dX2_strays_20 (by decide) ?_
              refine lv_icmp_eq (tgt := 30) hx hb dX2_strays_21 (by decide) (fun c21 => ?_) (fun c21 => ?_)
              · have ov := i32b v
                have c21i := congrArg Int32.toInt c21
                refine lv_aload_n hx hb dX2_strays_30 rfl (lv_at hl 0 rfl) ?_
                refine tg_get (ci := 2) (k := 1) (v := .ref (ad G (i + 2))) hx hb hts hown hk hw (en2 hi) rfl inlX2 (by decide) wd59 rfl dX2_strays_31 ?_
                refine lv_iload_n hx hb dX2_strays_34 rfl (lv_at hl 3 rfl) ?_
                have hv35 : vp_in z3_4 64 := vin ⟨by omega, by omega⟩
                refine tg_iald hx hb hk hw (en164 (kd2_2 hi)) hv35 dX2_strays_35 ?_
                refine lv_topi (fun x2 ex2 => ?_)
                refine lv_iload hx hb dX2_strays_36 (lv_at hl 4 rfl) ?_
                refine lv_icmp_eq (tgt := 55) hx hb dX2_strays_38 (by decide) (fun c38 => ?_) (fun c38 => ?_)
                · have ox2 := i32b x2
                  have c38i := congrArg Int32.toInt c38
                  obtain ⟨x3, ex3⟩ : ∃ z : Int32, z = z4_13 + (1 : Int32) := ⟨_, rfl⟩
                  refine lv_iinc (v := x3) (lv' := [(4, .int x3), (0, .ref (ad G (i))), (1, .int v), (2, .int z2_13), (3, .int z3_4)]) hx hb dX2_strays_55 hl (k := 4) rfl (by rw [ex3]; rfl) (by decide) rfl (fun ls hl => ?_)
                  have tx3 : x3.toInt = z4_13.toInt + 1 := by rw [ex3, Jvm.Kit.i32_add (by omega) (by omega)]; omega
                  refine lv_goto (tgt := 13) hx hb dX2_strays_58 (by decide) ?_
                  exact ih13 z2_13 x3 _ _ _ (by omega) (by omega) hw (lv_sub hl [1, 2, 3, 4, 0] rfl)
                · have ox2 := i32b x2
                  have c38i := mt Int32.toInt_inj.mp c38
                  refine lv_iload_n hx hb dX2_strays_41 rfl (lv_at hl 2 rfl) ?_
                  refine lv_aload_n hx hb dX2_strays_42 rfl (lv_at hl 0 rfl) ?_
                  refine tg_get (ci := 2) (k := 0) (v := .ref (ad G (i + 1))) hx hb hts hown hk hw (en2 hi) rfl inlX2 (by decide) wd58 rfl dX2_strays_43 ?_
                  refine lv_iload_n hx hb dX2_strays_46 rfl (lv_at hl 3 rfl) ?_
                  refine lv_iconst (v := 4) hx hb dX2_strays_47 (by decide) ?_
                  refine lv_imul hx hb dX2_strays_48 ?_
                  refine lv_topi (fun x4 ex4 => ?_)
                  have tx4 : x4.toInt = 4 * z3_4.toInt := by rw [ex4, Jvm.Kit.i32_mul (by rw [L4]; omega) (by rw [L4]; omega), L4]; omega
                  refine lv_iload hx hb dX2_strays_49 (lv_at hl 4 rfl) ?_
                  refine lv_iadd hx hb dX2_strays_51 ?_
                  refine lv_topi (fun x5 ex5 => ?_)
                  have tx5 : x5.toInt = x4.toInt + z4_13.toInt := by rw [ex5]; exact Jvm.Kit.i32_add (by omega) (by omega)
                  have hv52 : vp_in x5 256 := vin ⟨by omega, by omega⟩
                  refine tg_iald hx hb hk hw (en356 (kd2_1 hi)) hv52 dX2_strays_52 ?_
                  refine lv_topi (fun x6 ex6 => ?_)
                  refine lv_iadd hx hb dX2_strays_53 ?_
                  refine lv_topi (fun x7 ex7 => ?_)
                  refine lv_istore_n (lv' := [(2, .int x7), (0, .ref (ad G (i))), (1, .int v), (3, .int z3_4), (4, .int z4_13)]) hx hb dX2_strays_54 rfl hl (by decide) rfl (fun ls hl => ?_)
                  obtain ⟨x8, ex8⟩ : ∃ z : Int32, z = z4_13 + (1 : Int32) := ⟨_, rfl⟩
                  refine lv_iinc (v := x8) (lv' := [(4, .int x8), (2, .int x7), (0, .ref (ad G (i))), (1, .int v), (3, .int z3_4)]) hx hb dX2_strays_55 hl (k := 4) rfl (by rw [ex8]; rfl) (by decide) rfl (fun ls hl => ?_)
                  have tx8 : x8.toInt = z4_13.toInt + 1 := by rw [ex8, Jvm.Kit.i32_add (by omega) (by omega)]; omega
                  refine lv_goto (tgt := 13) hx hb dX2_strays_58 (by decide) ?_
                  exact ih13 x7 x8 _ _ _ (by omega) (by omega) hw (lv_sub hl [2, 3, 1, 4, 0] rfl)
              · have ov := i32b v
                have c21i := mt Int32.toInt_inj.mp c21
                refine lv_iload_n hx hb dX2_strays_24 rfl (lv_at hl 1 rfl) ?_
                refine lv_iload hx hb dX2_strays_25 (lv_at hl 4 rfl) ?_
                refine lv_icmp_ne (tgt := 55) hx hb dX2_strays_27 (by decide) (fun c27 => ?_) (fun c27 => ?_)
                · have ov := i32b v
                  have c27i := mt Int32.toInt_inj.mp c27
                  obtain ⟨x9, ex9⟩ : ∃ z : Int32, z = z4_13 + (1 : Int32) := ⟨_, rfl⟩
                  refine lv_iinc (v := x9) (lv' := [(4, .int x9), (0, .ref (ad G (i))), (1, .int v), (2, .int z2_13), (3, .int z3_4)]) hx hb dX2_strays_55 hl (k := 4) rfl (by rw [ex9]; rfl) (by decide) rfl (fun ls hl => ?_)
                  have tx9 : x9.toInt = z4_13.toInt + 1 := by rw [ex9, Jvm.Kit.i32_add (by omega) (by omega)]; omega
                  refine lv_goto (tgt := 13) hx hb dX2_strays_58 (by decide) ?_
                  exact ih13 z2_13 x9 _ _ _ (by omega) (by omega) hw (lv_sub hl [1, 2, 3, 4, 0] rfl)
                · have ov := i32b v
                  have c27i := congrArg Int32.toInt c27
                  refine lv_aload_n hx hb dX2_strays_30 rfl (lv_at hl 0 rfl) ?_
                  refine tg_get (ci := 2) (k := 1) (v := .ref (ad G (i + 2))) hx hb hts hown hk hw (en2 hi) rfl inlX2 (by decide) wd59 rfl dX2_strays_31 ?_
                  refine lv_iload_n hx hb dX2_strays_34 rfl (lv_at hl 3 rfl) ?_
                  have hv35 : vp_in z3_4 64 := vin ⟨by omega, by omega⟩
                  refine tg_iald hx hb hk hw (en164 (kd2_2 hi)) hv35 dX2_strays_35 ?_
                  refine lv_topi (fun x10 ex10 => ?_)
                  refine lv_iload hx hb dX2_strays_36 (lv_at hl 4 rfl) ?_
                  refine lv_icmp_eq (tgt := 55) hx hb dX2_strays_38 (by decide) (fun c38 => ?_) (fun c38 => ?_)
                  · have ox10 := i32b x10
                    have c38i := congrArg Int32.toInt c38
                    obtain ⟨x11, ex11⟩ : ∃ z : Int32, z = z4_13 + (1 : Int32) := ⟨_, rfl⟩
                    refine lv_iinc (v := x11) (lv' := [(4, .int x11), (0, .ref (ad G (i))), (1, .int v), (2, .int z2_13), (3, .int z3_4)]) hx hb dX2_strays_55 hl (k := 4) rfl (by rw [ex11]; rfl) (by decide) rfl (fun ls hl => ?_)
                    have tx11 : x11.toInt = z4_13.toInt + 1 := by rw [ex11, Jvm.Kit.i32_add (by omega) (by omega)]; omega
                    refine lv_goto (tgt := 13) hx hb dX2_strays_58 (by decide) ?_
                    exact ih13 z2_13 x11 _ _ _ (by omega) (by omega) hw (lv_sub hl [1, 2, 3, 4, 0] rfl)
                  · have ox10 := i32b x10
                    have c38i := mt Int32.toInt_inj.mp c38
                    refine lv_iload_n hx hb dX2_strays_41 rfl (lv_at hl 2 rfl) ?_
                    refine lv_aload_n hx hb dX2_strays_42 rfl (lv_at hl 0 rfl) ?_
                    refine tg_get (ci := 2) (k := 0) (v := .ref (ad G (i + 1))) hx hb hts hown hk hw (en2 hi) rfl inlX2 (by decide) wd58 rfl dX2_strays_43 ?_
                    refine lv_iload_n hx hb dX2_strays_46 rfl (lv_at hl 3 rfl) ?_
                    refine lv_iconst (v := 4) hx hb dX2_strays_47 (by decide) ?_
                    refine lv_imul hx hb dX2_strays_48 ?_
                    refine lv_topi (fun x12 ex12 => ?_)
                    have tx12 : x12.toInt = 4 * z3_4.toInt := by rw [ex12, Jvm.Kit.i32_mul (by rw [L4]; omega) (by rw [L4]; omega), L4]; omega
                    refine lv_iload hx hb dX2_strays_49 (lv_at hl 4 rfl) ?_
                    refine lv_iadd hx hb dX2_strays_51 ?_
                    refine lv_topi (fun x13 ex13 => ?_)
                    have tx13 : x13.toInt = x12.toInt + z4_13.toInt := by rw [ex13]; exact Jvm.Kit.i32_add (by omega) (by omega)
                    have hv52 : vp_in x13 256 := vin ⟨by omega, by omega⟩
                    refine tg_iald hx hb hk hw (en356 (kd2_1 hi)) hv52 dX2_strays_52 ?_
                    refine lv_topi (fun x14 ex14 => ?_)
                    refine lv_iadd hx hb dX2_strays_53 ?_
                    refine lv_topi (fun x15 ex15 => ?_)
                    refine lv_istore_n (lv' := [(2, .int x15), (0, .ref (ad G (i))), (1, .int v), (3, .int z3_4), (4, .int z4_13)]) hx hb dX2_strays_54 rfl hl (by decide) rfl (fun ls hl => ?_)
                    obtain ⟨x16, ex16⟩ : ∃ z : Int32, z = z4_13 + (1 : Int32) := ⟨_, rfl⟩
                    refine lv_iinc (v := x16) (lv' := [(4, .int x16), (2, .int x15), (0, .ref (ad G (i))), (1, .int v), (3, .int z3_4)]) hx hb dX2_strays_55 hl (k := 4) rfl (by rw [ex16]; rfl) (by decide) rfl (fun ls hl => ?_)
                    have tx16 : x16.toInt = z4_13.toInt + 1 := by rw [ex16, Jvm.Kit.i32_add (by omega) (by omega)]; omega
                    refine lv_goto (tgt := 13) hx hb dX2_strays_58 (by decide) ?_
                    exact ih13 x15 x16 _ _ _ (by omega) (by omega) hw (lv_sub hl [2, 3, 1, 4, 0] rfl)
        exact cut13 ((((4 - (0 : Int32).toInt).toNat : Int)).toNat + 1) z2_4 (0 : Int32) _ _ _ (by omega) (by omega) hw (lv_sub hl [1, 2, 3, 4, 0] rfl)
  exact cut4 ((((64 - (0 : Int32).toInt).toNat : Int)).toNat + 1) (0 : Int32) (0 : Int32) _ _ _ (by omega) (by omega) hw (lv_sub hl [2, 3, 1, 0] rfl)
set_option maxHeartbeats 4000000 in
set_option maxRecDepth 100000 in
theorem c_X2_bareCells (l : Launch) (G : Gg) (hG : Ginj G) (σ : Sg) (hI0 : Inv σ) (i : Nat) (hi : nk i = 2) (v : Int32) : MI l G yX2_bareCells cX2_bareCells 5 .int (rmO 2 42) σ [.ref (ad G (i)), .int v] (fun r σ' => σ' = σ ∧ (True)) := by
  refine MI.of (by decide +kernel) (Nat.le_of_ble_eq_true rfl) ?_
  intro p e s m a below meth c ls Q hx hb hml hts hown hk hw ret hl
  have hown : s.vm.findClass RX2 = some m.cls := hown
  have hl : lv_has ls 5 [(0, .ref (ad G (i))), (1, .int v)] := hl
  have hI : K0 σ σ := K0.rf hI0
  have Lm1 : (-1 : Int32).toInt = -1 := by decide
  have L0 : (0 : Int32).toInt = 0 := by decide
  have L1 : (1 : Int32).toInt = 1 := by decide
  have L64 : (64 : Int32).toInt = 64 := by decide
  generalize hHe : s.heap = H at hw ⊢
  generalize hLe : ([] : List Loc) = locs at hw ⊢
  refine lv_iconst (v := 0) hx hb dX2_bareCells_0 (by decide) ?_
  refine lv_istore_n (lv' := [(2, .int (0 : Int32)), (0, .ref (ad G (i))), (1, .int v)]) hx hb dX2_bareCells_1 rfl hl (by decide) rfl (fun ls hl => ?_)
  refine lv_iconst (v := 0) hx hb dX2_bareCells_2 (by decide) ?_
  refine lv_istore_n (lv' := [(3, .int (0 : Int32)), (2, .int (0 : Int32)), (0, .ref (ad G (i))), (1, .int v)]) hx hb dX2_bareCells_3 rfl hl (by decide) rfl (fun ls hl => ?_)
  have cut4 : ∀ (n : Nat) (z2_4 : Int32) (z3_4 : Int32) (H : Heap) (locs : List Loc) (ls : Array Slot), (0 ≤ z3_4.toInt ∧ z3_4.toInt ≤ 64) → ((64 - z3_4.toInt).toNat : Int) < (n : Int) → Wo G σ s H locs → lv_has ls 5 [(0, .ref (ad G (i))), (1, .int v), (2, .int z2_4), (3, .int z3_4)] → W p l e (rmO 2 42) s m a below meth c H locs 0 0 Q (F0 m 4 ls []) := by
    intro n4
    induction n4 with
    | zero =>
      intro z2_4 z3_4 H locs ls f4_0 hm4 hw hl
      exfalso; omega
    | succ n4 ih4 =>
      intro z2_4 z3_4 H locs ls f4_0 hm4 hw hl
      refine lv_iload_n hx hb dX2_bareCells_4 rfl (lv_at hl 3 rfl) ?_
      refine lv_bipush (v := 64) hx hb dX2_bareCells_5 (by decide) ?_
      refine lv_icmp_ge (tgt := 56) hx hb dX2_bareCells_7 (by decide) (fun c7 => ?_) (fun c7 => ?_)
      · have c7i := Int32.le_iff_toInt_le.mp c7
        refine lv_iload_n hx hb dX2_bareCells_56 rfl (lv_at hl 2 rfl) ?_
        exact ret z2_4 σ _ _ 57 _ (rfl) (⟨rfl, trivial⟩) hw dX2_bareCells_57
      · have c7i := mt Int32.le_iff_toInt_le.mpr c7
        refine lv_aload_n hx hb dX2_bareCells_10 rfl (lv_at hl 0 rfl) ?_
        refine tg_get (ci := 2) (k := 1) (v := .ref (ad G (i + 2))) hx hb hts hown hk hw (en2 hi) rfl inlX2 (by decide) wd59 rfl dX2_bareCells_11 ?_
        refine lv_iload_n hx hb dX2_bareCells_14 rfl (lv_at hl 3 rfl) ?_
        have hv15 : vp_in z3_4 64 := vin ⟨by omega, by omega⟩
        refine tg_iald hx hb hk hw (en164 (kd2_2 hi)) hv15 dX2_bareCells_15 ?_
        refine lv_topi (fun x1 ex1 => ?_)
        refine lv_istore (lv' := [(4, .int x1), (0, .ref (ad G (i))), (1, .int v), (2, .int z2_4), (3, .int z3_4)]) hx hb dX2_bareCells_16 hl (by decide) rfl (fun ls hl => ?_)
        refine lv_iload hx hb dX2_bareCells_18 (lv_at hl 0 rfl) ?_
        refine te_vi hw (ru_N (As := [.int x1]) (rest := []) hx hb hml hts hown hk hw (c_X10_isKind l G hG σ hI.1 x1) (m2_in wd132 wd2) (by decide +kernel) wd133 nm_yX10_isKind ⟨rfl, rfl⟩ ⟨by decide, by decide⟩ rfl hl.1 rfl (Nat.le_of_ble_eq_true rfl) dX2_bareCells_20 ⟨Nat.zero_le _, Nat.zero_le _⟩) (fun r3 σ2 H locs hr3 hw => ?_)
        rw [hr3.1] at hw
        have hr3 := hr3.2
        refine lv_if_eq (tgt := 50) hx hb dX2_bareCells_23 (by decide) (fun c23 => ?_) (fun c23 => ?_)
        · have c23i := congrArg Int32.toInt c23
          have p23 := bz0 hr3 c23
          obtain ⟨x4, ex4⟩ : ∃ z : Int32, z = z3_4 + (1 : Int32) := ⟨_, rfl⟩
          refine lv_iinc (v := x4) (lv' := [(3, .int x4), (4, .int x1), (0, .ref (ad G (i))), (1, .int v), (2, .int z2_4)]) hx hb dX2_bareCells_50 hl (k := 4) rfl (by rw [ex4]; rfl) (by decide) rfl (fun ls hl => ?_)
          have tx4 : x4.toInt = z3_4.toInt + 1 := by rw [ex4, Jvm.Kit.i32_add (by omega) (by omega)]; omega
          refine lv_goto (tgt := 4) hx hb dX2_bareCells_53 (by decide) ?_
          exact ih4 z2_4 x4 _ _ _ (by omega) (by omega) hw (lv_sub hl [2, 3, 4, 0] rfl)
        · have c23i := mt Int32.toInt_inj.mp c23
          have p23 := bz1 hr3 c23
          refine lv_iload_n hx hb dX2_bareCells_26 rfl (lv_at hl 2 rfl) ?_
          refine lv_iconst (v := -1) hx hb dX2_bareCells_27 (by decide) ?_
          refine lv_icmp_eq (tgt := 37) hx hb dX2_bareCells_28 (by decide) (fun c28 => ?_) (fun c28 => ?_)
          · have ov := i32b v
            have c28i := congrArg Int32.toInt c28
            refine lv_aload_n hx hb dX2_bareCells_37 rfl (lv_at hl 1 rfl) ?_
            refine lv_iload_n hx hb dX2_bareCells_38 rfl (lv_at hl 4 rfl) ?_
            refine lv_iload hx hb dX2_bareCells_39 (lv_at hl 0 rfl) ?_
            refine te_vi hw (ru_V (As := [.int z3_4, .int x1]) (rest := []) (C := RX2) hx hb hml hts hown hk hw (c_X2_grainsIn l G hG σ hI.1 i hi z3_4 x1 (by omega) (by omega)) (m4_in wd427 wd392 wd393 wd48) wd394 (en2 hi) rfl rfl rfl nm_yX2_grainsIn ⟨rfl, rfl⟩ ⟨by decide, by decide⟩ rfl hl.1 rfl (Nat.le_of_ble_eq_true rfl) dX2_bareCells_41 ⟨Nat.zero_le _, Nat.zero_le _⟩) (fun r6 σ5 H locs hr6 hw => ?_)
            rw [hr6.1] at hw
            have hr6 := hr6.2
            refine lv_if_ne (tgt := 50) hx hb dX2_bareCells_44 (by decide) (fun c44 => ?_) (fun c44 => ?_)
            · have c44i := mt Int32.toInt_inj.mp c44
              obtain ⟨x7, ex7⟩ : ∃ z : Int32, z = z3_4 + (1 : Int32) := ⟨_, rfl⟩
              refine lv_iinc (v := x7) (lv' := [(3, .int x7), (4, .int x1), (0, .ref (ad G (i))), (1, .int v), (2, .int z2_4)]) hx hb dX2_bareCells_50 hl (k := 4) rfl (by rw [ex7]; rfl) (by decide) rfl (fun ls hl => ?_)
              have tx7 : x7.toInt = z3_4.toInt + 1 := by rw [ex7, Jvm.Kit.i32_add (by omega) (by omega)]; omega
              refine lv_goto (tgt := 4) hx hb dX2_bareCells_53 (by decide) ?_
              exact ih4 z2_4 x7 _ _ _ (by omega) (by omega) hw (lv_sub hl [2, 3, 4, 0] rfl)
            · have c44i := congrArg Int32.toInt c44
              obtain ⟨x8, ex8⟩ : ∃ z : Int32, z = z2_4 + (1 : Int32) := ⟨_, rfl⟩
              refine lv_iinc (v := x8) (lv' := [(2, .int x8), (4, .int x1), (0, .ref (ad G (i))), (1, .int v), (3, .int z3_4)]) hx hb dX2_bareCells_47 hl (k := 3) rfl (by rw [ex8]; rfl) (by decide) rfl (fun ls hl => ?_)
              obtain ⟨x9, ex9⟩ : ∃ z : Int32, z = z3_4 + (1 : Int32) := ⟨_, rfl⟩
              refine lv_iinc (v := x9) (lv' := [(3, .int x9), (2, .int x8), (4, .int x1), (0, .ref (ad G (i))), (1, .int v)]) hx hb dX2_bareCells_50 hl (k := 4) rfl (by rw [ex9]; rfl) (by decide) rfl (fun ls hl => ?_)
              have tx9 : x9.toInt = z3_4.toInt + 1 := by rw [ex9, Jvm.Kit.i32_add (by omega) (by omega)]; omega
              refine lv_goto (tgt := 4) hx hb dX2_bareCells_53 (by decide) ?_
              exact ih4 x8 x9 _ _ _ (by omega) (by omega) hw (lv_sub hl [3, 4, 1, 0] rfl)
          · have ov := i32b v
            have c28i := mt Int32.toInt_inj.mp c28
            refine lv_iload_n hx hb dX2_bareCells_31 rfl (lv_at hl 2 rfl) ?_
            refine lv_iload hx hb dX2_bareCells_32 (lv_at hl 0 rfl) ?_
            refine lv_icmp_ne (tgt := 50) hx hb dX2_bareCells_34 (by decide) (fun c34 => ?_) (fun c34 => ?_)
            · have ov := i32b v
              have c34i := mt Int32.toInt_inj.mp c34
              obtain ⟨x10, ex10⟩ : ∃ z : Int32, z = z3_4 + (1 : Int32) := ⟨_, rfl⟩
              refine lv_iinc (v := x10) (lv' := [(3, .int x10), (4, .int x1), (0, .ref (ad G (i))), (1, .int v), (2, .int z2_4)]) hx hb dX2_bareCells_50 hl (k := 4) rfl (by rw [ex10]; rfl) (by decide) rfl (fun ls hl => ?_)
              have tx10 : x10.toInt = z3_4.toInt + 1 := by rw [ex10, Jvm.Kit.i32_add (by omega) (by omega)]; omega
              refine lv_goto (tgt := 4) hx hb dX2_bareCells_53 (by decide) ?_
              exact ih4 z2_4 x10 _ _ _ (by omega) (by omega) hw (lv_sub hl [2, 3, 4, 0] rfl)
            · have ov := i32b v
              have c34i := congrArg Int32.toInt c34
              refine lv_aload_n hx hb dX2_bareCells_37 rfl (lv_at hl 1 rfl) ?_
              refine lv_iload_n hx hb dX2_bareCells_38 rfl (lv_at hl 4 rfl) ?_
              refine lv_iload hx hb dX2_bareCells_39 (lv_at hl 0 rfl) ?_
              refine te_vi hw (ru_V (As := [.int z3_4, .int x1]) (rest := []) (C := RX2) hx hb hml hts hown hk hw (c_X2_grainsIn l G hG σ hI.1 i hi z3_4 x1 (by omega) (by omega)) (m4_in wd427 wd392 wd393 wd48) wd394 (en2 hi) rfl rfl rfl nm_yX2_grainsIn ⟨rfl, rfl⟩ ⟨by decide, by decide⟩ rfl hl.1 rfl (Nat.le_of_ble_eq_true rfl) dX2_bareCells_41 ⟨Nat.zero_le _, Nat.zero_le _⟩) (fun r12 σ11 H locs hr12 hw => ?_)
              rw [hr12.1] at hw
              have hr12 := hr12.2
              refine lv_if_ne (tgt := 50) hx hb dX2_bareCells_44 (by decide) (fun c44 => ?_) (fun c44 => ?_)
              · have c44i := mt Int32.toInt_inj.mp c44
                obtain ⟨x13, ex13⟩ : ∃ z : Int32, z = z3_4 + (1 : Int32) := ⟨_, rfl⟩
                refine lv_iinc (v := x13) (lv' := [(3, .int x13), (4, .int x1), (0, .ref (ad G (i))), (1, .int v), (2, .int z2_4)]) hx hb dX2_bareCells_50 hl (k := 4) rfl (by rw [ex13]; rfl) (by decide) rfl (fun ls hl => ?_)
                have tx13 : x13.toInt = z3_4.toInt + 1 := by rw [ex13, Jvm.Kit.i32_add (by omega) (by omega)]; omega
                refine lv_goto (tgt := 4) hx hb dX2_bareCells_53 (by decide) ?_
                exact ih4 z2_4 x13 _ _ _ (by omega) (by omega) hw (lv_sub hl [2, 3, 4, 0] rfl)
              · have c44i := congrArg Int32.toInt c44
                obtain ⟨x14, ex14⟩ : ∃ z : Int32, z = z2_4 + (1 : Int32) := ⟨_, rfl⟩
                refine lv_iinc (v := x14) (lv' := [(2, .int x14), (4, .int x1), (0, .ref (ad G (i))), (1, .int v), (3, .int z3_4)]) hx hb dX2_bareCells_47 hl (k := 3) rfl (by rw [ex14]; rfl) (by decide) rfl (fun ls hl => ?_)
                obtain ⟨x15, ex15⟩ : ∃ z : Int32, z = z3_4 + (1 : Int32) := ⟨_, rfl⟩
                refine lv_iinc (v := x15) (lv' := [(3, .int x15), (2, .int x14), (4, .int x1), (0, .ref (ad G (i))), (1, .int v)]) hx hb dX2_bareCells_50 hl (k := 4) rfl (by rw [ex15]; rfl) (by decide) rfl (fun ls hl => ?_)
                have tx15 : x15.toInt = z3_4.toInt + 1 := by rw [ex15, Jvm.Kit.i32_add (by omega) (by omega)]; omega
                refine lv_goto (tgt := 4) hx hb dX2_bareCells_53 (by decide) ?_
                exact ih4 x14 x15 _ _ _ (by omega) (by omega) hw (lv_sub hl [3, 4, 1, 0] rfl)
  exact cut4 ((((64 - (0 : Int32).toInt).toNat : Int)).toNat + 1) (0 : Int32) (0 : Int32) _ _ _ (by omega) (by omega) hw (lv_sub hl [2, 3, 1, 0] rfl)
set_option maxHeartbeats 4000000 in
set_option maxRecDepth 100000 in
theorem c_X2_hasGrainsOf (l : Launch) (G : Gg) (hG : Ginj G) (σ : Sg) (hI0 : Inv σ) (i : Nat) (hi : nk i = 2) (j : Nat) (hj : nk j = 2) : MI l G yX2_hasGrainsOf cX2_hasGrainsOf 3 .boolean (rmO 0 0) σ [.ref (ad G (i)), .ref (ad G (j))] (fun r σ' => σ' = σ ∧ (True)) := by
  refine MI.of (by decide +kernel) (Nat.le_of_ble_eq_true rfl) ?_
  intro p e s m a below meth c ls Q hx hb hml hts hown hk hw ret hl
  have hown : s.vm.findClass RX2 = some m.cls := hown
  have hl : lv_has ls 3 [(0, .ref (ad G (i))), (1, .ref (ad G (j)))] := hl
  have hI : K0 σ σ := K0.rf hI0
  have L0 : (0 : Int32).toInt = 0 := by decide
  have L1 : (1 : Int32).toInt = 1 := by decide
  have L256 : (256 : Int32).toInt = 256 := by decide
  generalize hHe : s.heap = H at hw ⊢
  generalize hLe : ([] : List Loc) = locs at hw ⊢
  refine lv_iconst (v := 0) hx hb dX2_hasGrainsOf_0 (by decide) ?_
  refine lv_istore_n (lv' := [(2, .int (0 : Int32)), (0, .ref (ad G (i))), (1, .ref (ad G (j)))]) hx hb dX2_hasGrainsOf_1 rfl hl (by decide) rfl (fun ls hl => ?_)
  have cut2 : ∀ (n : Nat) (z2_2 : Int32) (H : Heap) (locs : List Loc) (ls : Array Slot), (0 ≤ z2_2.toInt ∧ z2_2.toInt ≤ 256) → ((256 - z2_2.toInt).toNat : Int) < (n : Int) → Wo G σ s H locs → lv_has ls 3 [(0, .ref (ad G (i))), (1, .ref (ad G (j))), (2, .int z2_2)] → W p l e (rmO 0 0) s m a below meth c H locs 0 0 Q (F0 m 2 ls []) := by
    intro n2
    induction n2 with
    | zero =>
      intro z2_2 H locs ls f2_0 hm2 hw hl
      exfalso; omega
    | succ n2 ih2 =>
      intro z2_2 H locs ls f2_0 hm2 hw hl
      refine lv_iload_n hx hb dX2_hasGrainsOf_2 rfl (lv_at hl 2 rfl) ?_
      refine lv_sipush (v := 256) hx hb dX2_hasGrainsOf_3 (by decide) ?_
      refine lv_icmp_ge (tgt := 32) hx hb dX2_hasGrainsOf_6 (by decide) (fun c6 => ?_) (fun c6 => ?_)
      · have c6i := Int32.le_iff_toInt_le.mp c6
        refine lv_iconst (v := 1) hx hb dX2_hasGrainsOf_32 (by decide) ?_
        exact ret (1 : Int32) σ _ _ 33 _ (rfl) (⟨rfl, trivial⟩) hw dX2_hasGrainsOf_33
      · have c6i := mt Int32.le_iff_toInt_le.mpr c6
        refine lv_aload_n hx hb dX2_hasGrainsOf_9 rfl (lv_at hl 0 rfl) ?_
        refine tg_get (ci := 2) (k := 0) (v := .ref (ad G (i + 1))) hx hb hts hown hk hw (en2 hi) rfl inlX2 (by decide) wd58 rfl dX2_hasGrainsOf_10 ?_
        refine lv_iload_n hx hb dX2_hasGrainsOf_13 rfl (lv_at hl 2 rfl) ?_
        have hv14 : vp_in z2_2 256 := vin ⟨by omega, by omega⟩
        refine tg_iald hx hb hk hw (en356 (kd2_1 hi)) hv14 dX2_hasGrainsOf_14 ?_
        refine lv_topi (fun x1 ex1 => ?_)
        refine lv_aload_n hx hb dX2_hasGrainsOf_15 rfl (lv_at hl 1 rfl) ?_
        refine tg_get (ci := 2) (k := 0) (v := .ref (ad G (j + 1))) hx hb hts hown hk hw (en2 hj) rfl inlX2 (by decide) wd58 rfl dX2_hasGrainsOf_16 ?_
        refine lv_iload_n hx hb dX2_hasGrainsOf_19 rfl (lv_at hl 2 rfl) ?_
        have hv20 : vp_in z2_2 256 := vin ⟨by omega, by omega⟩
        refine tg_iald hx hb hk hw (en356 (kd2_1 hj)) hv20 dX2_hasGrainsOf_20 ?_
        refine lv_topi (fun x2 ex2 => ?_)
        refine lv_icmp_eq (tgt := 26) hx hb dX2_hasGrainsOf_21 (by decide) (fun c21 => ?_) (fun c21 => ?_)
        · have ox1 := i32b x1
          have ox2 := i32b x2
          have c21i := congrArg Int32.toInt c21
          obtain ⟨x3, ex3⟩ : ∃ z : Int32, z = z2_2 + (1 : Int32) := ⟨_, rfl⟩
          refine lv_iinc (v := x3) (lv' := [(2, .int x3), (0, .ref (ad G (i))), (1, .ref (ad G (j)))]) hx hb dX2_hasGrainsOf_26 hl (k := 2) rfl (by rw [ex3]; rfl) (by decide) rfl (fun ls hl => ?_)
          have tx3 : x3.toInt = z2_2.toInt + 1 := by rw [ex3, Jvm.Kit.i32_add (by omega) (by omega)]; omega
          refine lv_goto (tgt := 2) hx hb dX2_hasGrainsOf_29 (by decide) ?_
          exact ih2 x3 _ _ _ (by omega) (by omega) hw (lv_sub hl [1, 2, 0] rfl)
        · have ox1 := i32b x1
          have ox2 := i32b x2
          have c21i := mt Int32.toInt_inj.mp c21
          refine lv_iconst (v := 0) hx hb dX2_hasGrainsOf_24 (by decide) ?_
          exact ret (0 : Int32) σ _ _ 25 _ (rfl) (⟨rfl, trivial⟩) hw dX2_hasGrainsOf_25
  exact cut2 ((((256 - (0 : Int32).toInt).toNat : Int)).toNat + 1) (0 : Int32) _ _ _ (by omega) (by omega) hw (lv_sub hl [1, 2, 0] rfl)
set_option maxHeartbeats 4000000 in
set_option maxRecDepth 100000 in
theorem c_X2_nearestEmpty (l : Launch) (G : Gg) (hG : Ginj G) (σ : Sg) (hI0 : Inv σ) (i : Nat) (hi : nk i = 2) (v : Int32) : MI l G yX2_nearestEmpty cX2_nearestEmpty 6 .int (rmO 2 44) σ [.ref (ad G (i)), .int v] (fun r σ' => σ' = σ ∧ (True)) := by
  refine MI.of (by decide +kernel) (Nat.le_of_ble_eq_true rfl) ?_
  intro p e s m a below meth c ls Q hx hb hml hts hown hk hw ret hl
  have hown : s.vm.findClass RX2 = some m.cls := hown
  have hl : lv_has ls 6 [(0, .ref (ad G (i))), (1, .int v)] := hl
  have hI : K0 σ σ := K0.rf hI0
  have Lm6 : (-6 : Int32).toInt = -6 := by decide
  have Lm1 : (-1 : Int32).toInt = -1 := by decide
  have L0 : (0 : Int32).toInt = 0 := by decide
  have L1 : (1 : Int32).toInt = 1 := by decide
  have L8 : (8 : Int32).toInt = 8 := by decide
  have L64 : (64 : Int32).toInt = 64 := by decide
  generalize hHe : s.heap = H at hw ⊢
  generalize hLe : ([] : List Loc) = locs at hw ⊢
  refine lv_bipush (v := -6) hx hb dX2_nearestEmpty_0 (by decide) ?_
  refine lv_istore_n (lv' := [(2, .int (-6 : Int32)), (0, .ref (ad G (i))), (1, .int v)]) hx hb dX2_nearestEmpty_2 rfl hl (by decide) rfl (fun ls hl => ?_)
  refine lv_bipush (v := 8) hx hb dX2_nearestEmpty_3 (by decide) ?_
  refine lv_istore_n (lv' := [(3, .int (8 : Int32)), (2, .int (-6 : Int32)), (0, .ref (ad G (i))), (1, .int v)]) hx hb dX2_nearestEmpty_5 rfl hl (by decide) rfl (fun ls hl => ?_)
  refine lv_iconst (v := 0) hx hb dX2_nearestEmpty_6 (by decide) ?_
  refine lv_istore (lv' := [(4, .int (0 : Int32)), (3, .int (8 : Int32)), (2, .int (-6 : Int32)), (0, .ref (ad G (i))), (1, .int v)]) hx hb dX2_nearestEmpty_7 hl (by decide) rfl (fun ls hl => ?_)
  have cut9 : ∀ (n : Nat) (z2_9 : Int32) (z3_9 : Int32) (z4_9 : Int32) (H : Heap) (locs : List Loc) (ls : Array Slot), (0 ≤ z4_9.toInt ∧ z4_9.toInt ≤ 64) → ((64 - z4_9.toInt).toNat : Int) < (n : Int) → Wo G σ s H locs → lv_has ls 6 [(0, .ref (ad G (i))), (1, .int v), (2, .int z2_9), (3, .int z3_9), (4, .int z4_9)] → W p l e (rmO 2 44) s m a below meth c H locs 0 0 Q (F0 m 9 ls []) := by
    intro n9
    induction n9 with
    | zero =>
      intro z2_9 z3_9 z4_9 H locs ls f9_0 hm9 hw hl
      exfalso; omega
    | succ n9 ih9 =>
      intro z2_9 z3_9 z4_9 H locs ls f9_0 hm9 hw hl
      refine lv_iload hx hb dX2_nearestEmpty_9 (lv_at hl 4 rfl) ?_
      refine lv_bipush (v := 64) hx hb dX2_nearestEmpty_11 (by decide) ?_
      refine lv_icmp_ge (tgt := 52) hx hb dX2_nearestEmpty_13 (by decide) (fun c13 => ?_) (fun c13 => ?_)
      · have c13i := Int32.le_iff_toInt_le.mp c13
        refine lv_iload_n hx hb dX2_nearestEmpty_52 rfl (lv_at hl 2 rfl) ?_
        exact ret z2_9 σ _ _ 53 _ (rfl) (⟨rfl, trivial⟩) hw dX2_nearestEmpty_53
      · have c13i := mt Int32.le_iff_toInt_le.mpr c13
        refine lv_iload_n hx hb dX2_nearestEmpty_16 rfl (lv_at hl 1 rfl) ?_
        refine lv_iload hx hb dX2_nearestEmpty_17 (lv_at hl 4 rfl) ?_
        refine te_vi hw (ru_N (As := [.int v, .int z4_9]) (rest := []) hx hb hml hts hown hk hw (c_X10_cellsApart l G hG σ hI.1 v z4_9) (m2_in wd310 wd2) (by decide +kernel) wd311 nm_yX10_cellsApart ⟨rfl, rfl⟩ ⟨by decide, by decide⟩ rfl hl.1 rfl (Nat.le_of_ble_eq_true rfl) dX2_nearestEmpty_19 ⟨Nat.zero_le _, Nat.zero_le _⟩) (fun r2 σ1 H locs hr2 hw => ?_)
        rw [hr2.1] at hw
        have hr2 := hr2.2
        refine lv_istore (lv' := [(5, .int r2), (0, .ref (ad G (i))), (1, .int v), (2, .int z2_9), (3, .int z3_9), (4, .int z4_9)]) hx hb dX2_nearestEmpty_22 hl (by decide) rfl (fun ls hl => ?_)
        refine lv_iload hx hb dX2_nearestEmpty_24 (lv_at hl 0 rfl) ?_
        refine lv_iload_n hx hb dX2_nearestEmpty_26 rfl (lv_at hl 4 rfl) ?_
        refine lv_icmp_ge (tgt := 46) hx hb dX2_nearestEmpty_27 (by decide) (fun c27 => ?_) (fun c27 => ?_)
        · have or2 := i32b r2
          have oz3_9 := i32b z3_9
          have c27i := Int32.le_iff_toInt_le.mp c27
          obtain ⟨x3, ex3⟩ : ∃ z : Int32, z = z4_9 + (1 : Int32) := ⟨_, rfl⟩
          refine lv_iinc (v := x3) (lv' := [(4, .int x3), (5, .int r2), (0, .ref (ad G (i))), (1, .int v), (2, .int z2_9), (3, .int z3_9)]) hx hb dX2_nearestEmpty_46 hl (k := 5) rfl (by rw [ex3]; rfl) (by decide) rfl (fun ls hl => ?_)
          have tx3 : x3.toInt = z4_9.toInt + 1 := by rw [ex3, Jvm.Kit.i32_add (by omega) (by omega)]; omega
          refine lv_goto (tgt := 9) hx hb dX2_nearestEmpty_49 (by decide) ?_
          exact ih9 z2_9 z3_9 x3 _ _ _ (by omega) (by omega) hw (lv_sub hl [2, 3, 4, 5, 0] rfl)
        · have or2 := i32b r2
          have oz3_9 := i32b z3_9
          have c27i := mt Int32.le_iff_toInt_le.mpr c27
          refine lv_aload_n hx hb dX2_nearestEmpty_30 rfl (lv_at hl 1 rfl) ?_
          refine lv_iload hx hb dX2_nearestEmpty_31 (lv_at hl 5 rfl) ?_
          refine lv_iconst (v := -1) hx hb dX2_nearestEmpty_33 (by decide) ?_
          refine te_vi hw (ru_V (As := [.int z4_9, .int (-1 : Int32)]) (rest := []) (C := RX2) hx hb hml hts hown hk hw (c_X2_grainsIn l G hG σ hI.1 i hi z4_9 (-1 : Int32) (by omega) (by omega)) (m4_in wd427 wd392 wd393 wd48) wd394 (en2 hi) rfl rfl rfl nm_yX2_grainsIn ⟨rfl, rfl⟩ ⟨by decide, by decide⟩ rfl hl.1 rfl (Nat.le_of_ble_eq_true rfl) dX2_nearestEmpty_34 ⟨Nat.zero_le _, Nat.zero_le _⟩) (fun r5 σ4 H locs hr5 hw => ?_)
          rw [hr5.1] at hw
          have hr5 := hr5.2
          refine lv_if_ne (tgt := 46) hx hb dX2_nearestEmpty_37 (by decide) (fun c37 => ?_) (fun c37 => ?_)
          · have c37i := mt Int32.toInt_inj.mp c37
            obtain ⟨x6, ex6⟩ : ∃ z : Int32, z = z4_9 + (1 : Int32) := ⟨_, rfl⟩
            refine lv_iinc (v := x6) (lv' := [(4, .int x6), (5, .int r2), (0, .ref (ad G (i))), (1, .int v), (2, .int z2_9), (3, .int z3_9)]) hx hb dX2_nearestEmpty_46 hl (k := 5) rfl (by rw [ex6]; rfl) (by decide) rfl (fun ls hl => ?_)
            have tx6 : x6.toInt = z4_9.toInt + 1 := by rw [ex6, Jvm.Kit.i32_add (by omega) (by omega)]; omega
            refine lv_goto (tgt := 9) hx hb dX2_nearestEmpty_49 (by decide) ?_
            exact ih9 z2_9 z3_9 x6 _ _ _ (by omega) (by omega) hw (lv_sub hl [2, 3, 4, 5, 0] rfl)
          · have c37i := congrArg Int32.toInt c37
            refine lv_iload hx hb dX2_nearestEmpty_40 (lv_at hl 5 rfl) ?_
            refine lv_istore_n (lv' := [(2, .int z4_9), (5, .int r2), (0, .ref (ad G (i))), (1, .int v), (3, .int z3_9), (4, .int z4_9)]) hx hb dX2_nearestEmpty_42 rfl hl (by decide) rfl (fun ls hl => ?_)
            refine lv_iload hx hb dX2_nearestEmpty_43 (lv_at hl 1 rfl) ?_
            refine lv_istore_n (lv' := [(3, .int r2), (2, .int z4_9), (5, .int r2), (0, .ref (ad G (i))), (1, .int v), (4, .int z4_9)]) hx hb dX2_nearestEmpty_45 rfl hl (by decide) rfl (fun ls hl => ?_)
            obtain ⟨x7, ex7⟩ : ∃ z : Int32, z = z4_9 + (1 : Int32) := ⟨_, rfl⟩
            refine lv_iinc (v := x7) (lv' := [(4, .int x7), (3, .int r2), (2, .int z4_9), (5, .int r2), (0, .ref (ad G (i))), (1, .int v)]) hx hb dX2_nearestEmpty_46 hl (k := 5) rfl (by rw [ex7]; rfl) (by decide) rfl (fun ls hl => ?_)
            have tx7 : x7.toInt = z4_9.toInt + 1 := by rw [ex7, Jvm.Kit.i32_add (by omega) (by omega)]; omega
            refine lv_goto (tgt := 9) hx hb dX2_nearestEmpty_49 (by decide) ?_
            exact ih9 z4_9 r2 x7 _ _ _ (by omega) (by omega) hw (lv_sub hl [4, 5, 2, 1, 0] rfl)
  exact cut9 ((((64 - (0 : Int32).toInt).toNat : Int)).toNat + 1) (-6 : Int32) (8 : Int32) (0 : Int32) _ _ _ (by omega) (by omega) hw (lv_sub hl [3, 4, 2, 1, 0] rfl)
set_option maxHeartbeats 4000000 in
set_option maxRecDepth 100000 in
theorem c_X2_copyFrom (l : Launch) (G : Gg) (hG : Ginj G) (σ : Sg) (hI0 : Inv σ) (i : Nat) (hi : nk i = 2) (j : Nat) (hj : nk j = 2) : MV l G yX2_copyFrom cX2_copyFrom 2 (rmO 1 60) σ [.ref (ad G (i)), .ref (ad G (j))] (fun σ' => Inv σ' ∧ (∀ a, ¬ (a = i + 1 ∨ a = i + 2) → σ' a = σ a) ∧ (σ' (i + 2) = va_cpy (σ (j + 2)) (σ (i + 2)) 0 0 64)) := by
  refine MV.of (by decide +kernel) (Nat.le_of_ble_eq_true rfl) ?_
  intro p e s m a below meth c ls Q hx hb hml hts hown hk hw ret hl
  have hown : s.vm.findClass RX2 = some m.cls := hown
  have hl : lv_has ls 2 [(0, .ref (ad G (i))), (1, .ref (ad G (j)))] := hl
  have hI : K0 σ σ := K0.rf hI0
  have L0 : (0 : Int32).toInt = 0 := by decide
  have L64 : (64 : Int32).toInt = 64 := by decide
  have L256 : (256 : Int32).toInt = 256 := by decide
  generalize hHe : s.heap = H at hw ⊢
  generalize hLe : ([] : List Loc) = locs at hw ⊢
  have hFr : ∀ a, ¬ (a = i + 1 ∨ a = i + 2) → σ a = σ a := fun _ _ => rfl
  refine lv_aload_n hx hb dX2_copyFrom_0 rfl (lv_at hl 1 rfl) ?_
  refine tg_get (ci := 2) (k := 0) (v := .ref (ad G (j + 1))) hx hb hts hown hk hw (en2 hj) rfl inlX2 (by decide) wd58 rfl dX2_copyFrom_1 ?_
  refine lv_iconst (v := 0) hx hb dX2_copyFrom_4 (by decide) ?_
  refine lv_aload_n hx hb dX2_copyFrom_5 rfl (lv_at hl 0 rfl) ?_
  refine tg_get (ci := 2) (k := 0) (v := .ref (ad G (i + 1))) hx hb hts hown hk hw (en2 hi) rfl inlX2 (by decide) wd58 rfl dX2_copyFrom_6 ?_
  refine lv_iconst (v := 0) hx hb dX2_copyFrom_9 (by decide) ?_
  refine lv_sipush (v := 256) hx hb dX2_copyFrom_10 (by decide) ?_
  refine tg_cpy hx hb (hml.trans hl.1.symm) hts hown hk hG hw (m4_in wd451 wd444 wd445 wd446) (en356 (kd2_1 hj)) (ea356 (kd2_1 hi)) (by decide) (by decide) (by decide) (Nat.le_of_ble_eq_true rfl) dX2_copyFrom_13 (fun H locs hw => ?_)
  obtain ⟨σ1, eσ1⟩ : ∃ z, z = upr σ (i + 1) (va_cpy (σ (j + 1)) (σ (i + 1)) 0 0 256) := ⟨_, rfl⟩
  rw [← eσ1] at hw
  have hFr : ∀ a, ¬ (a = i + 1 ∨ a = i + 2) → σ1 a = σ a := fun a ha => (show σ1 a = σ a by rw [eσ1, upr_ne (by omega)]).trans (hFr a ha)
  have hI : K0 σ1 σ1 := by rw [eσ1]; exact K0.rf (Inv_cpy hI.1 (kd2_1 hi) (fun k => rfl))
  have eC1 := eσ1
  refine lv_aload_n hx hb dX2_copyFrom_16 rfl (lv_at hl 1 rfl) ?_
  refine tg_get (ci := 2) (k := 1) (v := .ref (ad G (j + 2))) hx hb hts hown hk hw (en2 hj) rfl inlX2 (by decide) wd59 rfl dX2_copyFrom_17 ?_
  refine lv_iconst (v := 0) hx hb dX2_copyFrom_20 (by decide) ?_
  refine lv_aload_n hx hb dX2_copyFrom_21 rfl (lv_at hl 0 rfl) ?_
  refine tg_get (ci := 2) (k := 1) (v := .ref (ad G (i + 2))) hx hb hts hown hk hw (en2 hi) rfl inlX2 (by decide) wd59 rfl dX2_copyFrom_22 ?_
  refine lv_iconst (v := 0) hx hb dX2_copyFrom_25 (by decide) ?_
  refine lv_bipush (v := 64) hx hb dX2_copyFrom_26 (by decide) ?_
  refine tg_cpy hx hb (hml.trans hl.1.symm) hts hown hk hG hw (m4_in wd451 wd444 wd445 wd446) (en164 (kd2_2 hj)) (ea164 (kd2_2 hi)) (by decide) (by decide) (by decide) (Nat.le_of_ble_eq_true rfl) dX2_copyFrom_28 (fun H locs hw => ?_)
  obtain ⟨σ2, eσ2⟩ : ∃ z, z = upr σ1 (i + 2) (va_cpy (σ1 (j + 2)) (σ1 (i + 2)) 0 0 64) := ⟨_, rfl⟩
  rw [← eσ2] at hw
  have hFr : ∀ a, ¬ (a = i + 1 ∨ a = i + 2) → σ2 a = σ a := fun a ha => (show σ2 a = σ1 a by rw [eσ2, upr_ne (by omega)]).trans (hFr a ha)
  have hI : K0 σ2 σ2 := by rw [eσ2]; exact K0.rf (Inv_cpy hI.1 (kd2_2 hi) (fun k => rfl))
  have eC2 := eσ2
  exact ret σ2 _ _ 31 _ (⟨hI.1, hFr, by rw [eC2, upr_at, eC1, upr_ne (ne_kind (kd2_2 hj) (kd2_1 hi) (by decide)), upr_ne (by omega)]⟩) hw dX2_copyFrom_31
