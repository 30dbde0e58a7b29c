set_option maxHeartbeats 4000000 in
set_option maxRecDepth 100000 in
theorem c_X11_about (l : Launch) (G : Gg) (hG : Ginj G) (σ : Sg) (hI0 : Inv σ) (v : Int32) (w : Int32) : MI l G yX11_about cX11_about 3 .int (rmO 2 45) σ [.ref (ad G (78)), .int v, .int w] (fun r σ' => σ' = σ ∧ (True)) := by
  refine MI.of (by decide +kernel) (Nat.le_of_ble_eq_true rfl) ?_
  intro p e s m a below meth c ls Q hx hb hml hts hown hk hw ret hl
  have hown : s.vm.findClass RX11 = some m.cls := hown
  have hl : lv_has ls 3 [(0, .ref (ad G (78))), (1, .int v), (2, .int w)] := hl
  have hI : K0 σ σ := K0.rf hI0
  have Lm2 : (-2 : Int32).toInt = -2 := by decide
  have Lm1 : (-1 : Int32).toInt = -1 := by decide
  have L0 : (0 : Int32).toInt = 0 := by decide
  have M0 : (0 : Int64).toInt = 0 := by decide
  have M7 : (7 : Int64).toInt = 7 := by decide
  generalize hHe : s.heap = H at hw ⊢
  generalize hLe : ([] : List Loc) = locs at hw ⊢
  refine lv_iload_n hx hb dX11_about_0 rfl (lv_at hl 1 rfl) ?_
  refine te_vi hw (ru_S (As := [.int v]) (rest := []) hx hb hml hts hown hk hw (c_X11_isSower l G hG σ hI.1 v) (m3_in wd152 wd153 wd5) wd154 nm_yX11_isSower ⟨rfl, rfl⟩ ⟨by decide, by decide⟩ rfl hl.1 rfl (Nat.le_of_ble_eq_true rfl) dX11_about_1 ⟨Nat.zero_le _, Nat.zero_le _⟩) (fun r2 σ1 H locs hr2 hw => ?_)
  rw [hr2.1] at hw
  have hr2 := hr2.2
  refine lv_if_ne (tgt := 9) hx hb dX11_about_4 (by decide) (fun c4 => ?_) (fun c4 => ?_)
  · have c4i := mt Int32.toInt_inj.mp c4
    have p4 := bz1 hr2 c4
    refine lv_iload_n hx hb dX11_about_9 rfl (lv_at hl 2 rfl) ?_
    refine lv_i2l hx hb dX11_about_10 rfl ?_
    refine lv_lconst (v := 0) hx hb dX11_about_11 (by decide) ?_
    refine lv_ldc2 hx hb hown (hts _ wd365) dX11_about_12 ?_
    refine te_vi hw (ru_S (As := [.long w.toInt64, .long (0 : Int64), .long (7 : Int64)]) (rest := []) hx hb hml hts hown hk hw (c_X11_in l G hG σ hI.1 w.toInt64 (0 : Int64) (7 : Int64)) (m3_in wd156 wd157 wd5) wd158 nm_yX11_in ⟨rfl, rfl⟩ ⟨by decide, by decide⟩ rfl hl.1 rfl (Nat.le_of_ble_eq_true rfl) dX11_about_15 ⟨Nat.zero_le _, Nat.zero_le _⟩) (fun r4 σ3 H locs hr4 hw => ?_)
    rw [hr4.1] at hw
    have hr4 := hr4.2
    simp only [Int32.toInt_toInt64] at hr4
    refine lv_if_eq (tgt := 30) hx hb dX11_about_18 (by decide) (fun c18 => ?_) (fun c18 => ?_)
    · have c18i := congrArg Int32.toInt c18
      have p18 := bz0 hr4 c18
      refine lv_bipush (v := -2) hx hb dX11_about_30 (by decide) ?_
      exact ret (-2 : Int32) σ _ _ 32 _ (rfl) (⟨rfl, trivial⟩) hw dX11_about_32
    · have c18i := mt Int32.toInt_inj.mp c18
      have p18 := bz1 hr4 c18
      refine lv_aload_n hx hb dX11_about_21 rfl (lv_at hl 0 rfl) ?_
      refine lv_iload_n hx hb dX11_about_22 rfl (lv_at hl 1 rfl) ?_
      refine lv_iload_n hx hb dX11_about_23 rfl (lv_at hl 2 rfl) ?_
      refine te_vi hw (ru_V (As := [.int v, .int w]) (rest := []) (C := RX11) hx hb hml hts hown hk hw (c_X11_of l G hG σ hI.1 v w (by omega) (by omega)) (m4_in wd159 wd160 wd161 wd5) wd162 (en10 (rfl : nk 78 = 10)) rfl rfl rfl nm_yX11_of ⟨rfl, rfl⟩ ⟨by decide, by decide⟩ rfl hl.1 rfl (Nat.le_of_ble_eq_true rfl) dX11_about_24 ⟨Nat.zero_le _, Nat.zero_le _⟩) (fun r6 σ5 H locs hr6 hw => ?_)
      rw [hr6.1] at hw
      have hr6 := hr6.2
      refine lv_goto (tgt := 32) hx hb dX11_about_27 (by decide) ?_
      exact ret r6 σ _ _ 32 _ (rfl) (⟨rfl, trivial⟩) hw dX11_about_32
  · have c4i := congrArg Int32.toInt c4
    have p4 := bz0 hr2 c4
    refine lv_iconst (v := -1) hx hb dX11_about_7 (by decide) ?_
    exact ret (-1 : Int32) σ _ _ 8 _ (rfl) (⟨rfl, trivial⟩) hw dX11_about_8
set_option maxHeartbeats 4000000 in
set_option maxRecDepth 100000 in
theorem c_X11_grainsIn (l : Launch) (G : Gg) (hG : Ginj G) (σ : Sg) (hI0 : Inv σ) (v : Int32) (g1 : 0 ≤ v.toInt ∧ v.toInt ≤ 63) : MI l G yX11_grainsIn cX11_grainsIn 4 .int (rmO 0 0) σ [.ref (ad G (78)), .int v] (fun r σ' => σ' = σ ∧ (True)) := by
  refine MI.of (by decide +kernel) (Nat.le_of_ble_eq_true rfl) ?_
  intro p e s m a below meth c ls Q hx hb hml hts hown hk hw ret hl
  have hown : s.vm.findClass RX11 = some m.cls := hown
  have hl : lv_has ls 4 [(0, .ref (ad G (78))), (1, .int v)] := hl
  have hI : K0 σ σ := K0.rf hI0
  have L0 : (0 : Int32).toInt = 0 := by decide
  have L1 : (1 : Int32).toInt = 1 := by decide
  have L4 : (4 : Int32).toInt = 4 := by decide
  generalize hHe : s.heap = H at hw ⊢
  generalize hLe : ([] : List Loc) = locs at hw ⊢
  refine lv_iconst (v := 0) hx hb dX11_grainsIn_0 (by decide) ?_
  refine lv_istore_n (lv' := [(2, .int (0 : Int32)), (0, .ref (ad G (78))), (1, .int v)]) hx hb dX11_grainsIn_1 rfl hl (by decide) rfl (fun ls hl => ?_)
  refine lv_iconst (v := 0) hx hb dX11_grainsIn_2 (by decide) ?_
  refine lv_istore_n (lv' := [(3, .int (0 : Int32)), (2, .int (0 : Int32)), (0, .ref (ad G (78))), (1, .int v)]) hx hb dX11_grainsIn_3 rfl hl (by decide) rfl (fun ls hl => ?_)
  have cut4 : ∀ (n : Nat) (z2_4 : Int32) (z3_4 : Int32) (H : Heap) (locs : List Loc) (ls : Array Slot), (0 ≤ z3_4.toInt ∧ z3_4.toInt ≤ 4) → ((4 - z3_4.toInt).toNat : Int) < (n : Int) → Wo G σ s H locs → lv_has ls 4 [(0, .ref (ad G (78))), (1, .int v), (2, .int z2_4), (3, .int z3_4)] → W p l e (rmO 0 0) s m a below meth c H locs 0 0 Q (F0 m 4 ls []) := by
    intro n4
    induction n4 with
    | zero =>
      intro z2_4 z3_4 H locs ls f4_0 hm4 hw hl
      exfalso; omega
    | succ n4 ih4 =>
      intro z2_4 z3_4 H locs ls f4_0 hm4 hw hl
      refine lv_iload_n hx hb dX11_grainsIn_4 rfl (lv_at hl 3 rfl) ?_
      refine lv_iconst (v := 4) hx hb dX11_grainsIn_5 (by decide) ?_
      refine lv_icmp_ge (tgt := 28) hx hb dX11_grainsIn_6 (by decide) (fun c6 => ?_) (fun c6 => ?_)
      · have c6i := Int32.le_iff_toInt_le.mp c6
        refine lv_iload_n hx hb dX11_grainsIn_28 rfl (lv_at hl 2 rfl) ?_
        exact ret z2_4 σ _ _ 29 _ (rfl) (⟨rfl, trivial⟩) hw dX11_grainsIn_29
      · have c6i := mt Int32.le_iff_toInt_le.mpr c6
        refine lv_iload_n hx hb dX11_grainsIn_9 rfl (lv_at hl 2 rfl) ?_
        refine lv_aload_n hx hb dX11_grainsIn_10 rfl (lv_at hl 0 rfl) ?_
        refine tg_get (ci := 10) (k := 1) (v := .ref (ad G (80))) hx hb hts hown hk hw (en10 (rfl : nk 78 = 10)) rfl inlX11 (by decide) wd106 rfl dX11_grainsIn_11 ?_
        refine lv_iconst (v := 4) hx hb dX11_grainsIn_14 (by decide) ?_
        refine lv_iload_n hx hb dX11_grainsIn_15 rfl (lv_at hl 1 rfl) ?_
        refine lv_imul hx hb dX11_grainsIn_16 ?_
        refine lv_topi (fun x1 ex1 => ?_)
        have tx1 : x1.toInt = 4 * v.toInt := by rw [ex1, Jvm.Kit.i32_mul (by rw [L4]; omega) (by rw [L4]; omega), L4]
        refine lv_iload_n hx hb dX11_grainsIn_17 rfl (lv_at hl 3 rfl) ?_
        refine lv_iadd hx hb dX11_grainsIn_18 ?_
        refine lv_topi (fun x2 ex2 => ?_)
        have tx2 : x2.toInt = x1.toInt + z3_4.toInt := by rw [ex2]; exact Jvm.Kit.i32_add (by omega) (by omega)
        have hv19 : vp_in x2 256 := vin ⟨by omega, by omega⟩
        refine tg_iald hx hb hk hw (en356 (rfl : nk 80 = 356)) hv19 dX11_grainsIn_19 ?_
        refine lv_topi (fun x3 ex3 => ?_)
        refine lv_iadd hx hb dX11_grainsIn_20 ?_
        refine lv_topi (fun x4 ex4 => ?_)
        refine lv_istore_n (lv' := [(2, .int x4), (0, .ref (ad G (78))), (1, .int v), (3, .int z3_4)]) hx hb dX11_grainsIn_21 rfl hl (by decide) rfl (fun ls hl => ?_)
        obtain ⟨x5, ex5⟩ : ∃ z : Int32, z = z3_4 + (1 : Int32) := ⟨_, rfl⟩
        refine lv_iinc (v := x5) (lv' := [(3, .int x5), (2, .int x4), (0, .ref (ad G (78))), (1, .int v)]) hx hb dX11_grainsIn_22 hl (k := 3) rfl (by rw [ex5]; rfl) (by decide) rfl (fun ls hl => ?_)
        have tx5 : x5.toInt = z3_4.toInt + 1 := by rw [ex5, Jvm.Kit.i32_add (by omega) (by omega)]; omega
        refine lv_goto (tgt := 4) hx hb dX11_grainsIn_25 (by decide) ?_
        exact ih4 x4 x5 _ _ _ (by omega) (by omega) hw (lv_sub hl [2, 3, 1, 0] rfl)
  exact cut4 ((((4 - (0 : Int32).toInt).toNat : Int)).toNat + 1) (0 : Int32) (0 : Int32) _ _ _ (by omega) (by omega) hw (lv_sub hl [2, 3, 1, 0] rfl)
set_option maxHeartbeats 4000000 in
set_option maxRecDepth 100000 in
theorem c_X11_up (l : Launch) (G : Gg) (hG : Ginj G) (σ : Sg) (hI0 : Inv σ) (v : Int32) (w : Int32) : MI l G yX11_up cX11_up 3 .int (rmO 2 45) σ [.ref (ad G (78)), .int v, .int w] (fun r σ' => σ' = σ ∧ (True)) := by
  refine MI.of (by decide +kernel) (Nat.le_of_ble_eq_true rfl) ?_
  intro p e s m a below meth c ls Q hx hb hml hts hown hk hw ret hl
  have hown : s.vm.findClass RX11 = some m.cls := hown
  have hl : lv_has ls 3 [(0, .ref (ad G (78))), (1, .int v), (2, .int w)] := hl
  have hI : K0 σ σ := K0.rf hI0
  have Lm2 : (-2 : Int32).toInt = -2 := by decide
  have Lm1 : (-1 : Int32).toInt = -1 := by decide
  have L0 : (0 : Int32).toInt = 0 := by decide
  have L4 : (4 : Int32).toInt = 4 := by decide
  generalize hHe : s.heap = H at hw ⊢
  generalize hLe : ([] : List Loc) = locs at hw ⊢
  refine lv_iload_n hx hb dX11_up_0 rfl (lv_at hl 2 rfl) ?_
  refine lv_iconst (v := -1) hx hb dX11_up_1 (by decide) ?_
  refine lv_icmp_eq (tgt := 14) hx hb dX11_up_2 (by decide) (fun c2 => ?_) (fun c2 => ?_)
  · have ow := i32b w
    have c2i := congrArg Int32.toInt c2
    refine lv_iload_n hx hb dX11_up_14 rfl (lv_at hl 1 rfl) ?_
    refine te_vi hw (ru_S (As := [.int v]) (rest := []) hx hb hml hts hown hk hw (c_X11_isCell l G hG σ hI.1 v) (m3_in wd185 wd186 wd5) wd187 nm_yX11_isCell ⟨rfl, rfl⟩ ⟨by decide, by decide⟩ rfl hl.1 rfl (Nat.le_of_ble_eq_true rfl) dX11_up_15 ⟨Nat.zero_le _, Nat.zero_le _⟩) (fun r2 σ1 H locs hr2 hw => ?_)
    rw [hr2.1] at hw
    have hr2 := hr2.2
    refine lv_if_ne (tgt := 24) hx hb dX11_up_18 (by decide) (fun c18 => ?_) (fun c18 => ?_)
    · have c18i := mt Int32.toInt_inj.mp c18
      have p18 := bz1 hr2 c18
      refine lv_iload_n hx hb dX11_up_24 rfl (lv_at hl 2 rfl) ?_
      refine lv_iconst (v := -1) hx hb dX11_up_25 (by decide) ?_
      refine lv_icmp_ne (tgt := 37) hx hb dX11_up_26 (by decide) (fun c26 => ?_) (fun c26 => ?_)
      · have c26i := mt Int32.toInt_inj.mp c26
        exfalso; omega
      · have c26i := congrArg Int32.toInt c26
        refine lv_aload_n hx hb dX11_up_29 rfl (lv_at hl 0 rfl) ?_
        refine lv_iload_n hx hb dX11_up_30 rfl (lv_at hl 1 rfl) ?_
        refine te_vi hw (ru_V (As := [.int v]) (rest := []) (C := RX11) hx hb hml hts hown hk hw (c_X11_grainsIn l G hG σ hI.1 v (by omega)) (m4_in wd402 wd403 wd404 wd5) wd405 (en10 (rfl : nk 78 = 10)) rfl rfl rfl nm_yX11_grainsIn ⟨rfl, rfl⟩ ⟨by decide, by decide⟩ rfl hl.1 rfl (Nat.le_of_ble_eq_true rfl) dX11_up_31 ⟨Nat.zero_le _, Nat.zero_le _⟩) (fun r4 σ3 H locs hr4 hw => ?_)
        rw [hr4.1] at hw
        have hr4 := hr4.2
        refine lv_goto (tgt := 47) hx hb dX11_up_34 (by decide) ?_
        exact ret r4 σ _ _ 47 _ (rfl) (⟨rfl, trivial⟩) hw dX11_up_47
    · have c18i := congrArg Int32.toInt c18
      have p18 := bz0 hr2 c18
      refine lv_bipush (v := -2) hx hb dX11_up_21 (by decide) ?_
      exact ret (-2 : Int32) σ _ _ 23 _ (rfl) (⟨rfl, trivial⟩) hw dX11_up_23
  · have ow := i32b w
    have c2i := mt Int32.toInt_inj.mp c2
    refine lv_iload_n hx hb dX11_up_5 rfl (lv_at hl 2 rfl) ?_
    refine te_vi hw (ru_S (As := [.int w]) (rest := []) hx hb hml hts hown hk hw (c_X11_isKind l G hG σ hI.1 w) (m3_in wd399 wd400 wd5) wd401 nm_yX11_isKind ⟨rfl, rfl⟩ ⟨by decide, by decide⟩ rfl hl.1 rfl (Nat.le_of_ble_eq_true rfl) dX11_up_6 ⟨Nat.zero_le _, Nat.zero_le _⟩) (fun r6 σ5 H locs hr6 hw => ?_)
    rw [hr6.1] at hw
    have hr6 := hr6.2
    refine lv_if_ne (tgt := 14) hx hb dX11_up_9 (by decide) (fun c9 => ?_) (fun c9 => ?_)
    · have c9i := mt Int32.toInt_inj.mp c9
      have p9 := bz1 hr6 c9
      refine lv_iload_n hx hb dX11_up_14 rfl (lv_at hl 1 rfl) ?_
      refine te_vi hw (ru_S (As := [.int v]) (rest := []) hx hb hml hts hown hk hw (c_X11_isCell l G hG σ hI.1 v) (m3_in wd185 wd186 wd5) wd187 nm_yX11_isCell ⟨rfl, rfl⟩ ⟨by decide, by decide⟩ rfl hl.1 rfl (Nat.le_of_ble_eq_true rfl) dX11_up_15 ⟨Nat.zero_le _, Nat.zero_le _⟩) (fun r8 σ7 H locs hr8 hw => ?_)
      rw [hr8.1] at hw
      have hr8 := hr8.2
      refine lv_if_ne (tgt := 24) hx hb dX11_up_18 (by decide) (fun c18 => ?_) (fun c18 => ?_)
      · have c18i := mt Int32.toInt_inj.mp c18
        have p18 := bz1 hr8 c18
        refine lv_iload_n hx hb dX11_up_24 rfl (lv_at hl 2 rfl) ?_
        refine lv_iconst (v := -1) hx hb dX11_up_25 (by decide) ?_
        refine lv_icmp_ne (tgt := 37) hx hb dX11_up_26 (by decide) (fun c26 => ?_) (fun c26 => ?_)
        · have c26i := mt Int32.toInt_inj.mp c26
          refine lv_aload_n hx hb dX11_up_37 rfl (lv_at hl 0 rfl) ?_
          refine tg_get (ci := 10) (k := 1) (v := .ref (ad G (80))) hx hb hts hown hk hw (en10 (rfl : nk 78 = 10)) rfl inlX11 (by decide) wd106 rfl dX11_up_38 ?_
          refine lv_iconst (v := 4) hx hb dX11_up_41 (by decide) ?_
          refine lv_iload_n hx hb dX11_up_42 rfl (lv_at hl 1 rfl) ?_
          refine lv_imul hx hb dX11_up_43 ?_
          refine lv_topi (fun x9 ex9 => ?_)
          have tx9 : x9.toInt = 4 * v.toInt := by rw [ex9, Jvm.Kit.i32_mul (by rw [L4]; omega) (by rw [L4]; omega), L4]
          refine lv_iload_n hx hb dX11_up_44 rfl (lv_at hl 2 rfl) ?_
          refine lv_iadd hx hb dX11_up_45 ?_
          refine lv_topi (fun x10 ex10 => ?_)
          have tx10 : x10.toInt = x9.toInt + w.toInt := by rw [ex10]; exact Jvm.Kit.i32_add (by omega) (by omega)
          have hv46 : vp_in x10 256 := vin ⟨by omega, by omega⟩
          refine tg_iald hx hb hk hw (en356 (rfl : nk 80 = 356)) hv46 dX11_up_46 ?_
          refine lv_topi (fun x11 ex11 => ?_)
          exact ret x11 σ _ _ 47 _ (rfl) (⟨rfl, trivial⟩) hw dX11_up_47
        · have c26i := congrArg Int32.toInt c26
          exfalso; omega
      · have c18i := congrArg Int32.toInt c18
        have p18 := bz0 hr8 c18
        refine lv_bipush (v := -2) hx hb dX11_up_21 (by decide) ?_
        exact ret (-2 : Int32) σ _ _ 23 _ (rfl) (⟨rfl, trivial⟩) hw dX11_up_23
    · have c9i := congrArg Int32.toInt c9
      have p9 := bz0 hr6 c9
      refine lv_iconst (v := -1) hx hb dX11_up_12 (by decide) ?_
      exact ret (-1 : Int32) σ _ _ 13 _ (rfl) (⟨rfl, trivial⟩) hw dX11_up_13
set_option maxHeartbeats 4000000 in
set_option maxRecDepth 100000 in
theorem c_X11_row (l : Launch) (G : Gg) (hG : Ginj G) (σ : Sg) (hI0 : Inv σ) (v : Int32) (w : Int32) : MI l G yX11_row cX11_row 4 .int (rmO 2 45) σ [.ref (ad G (78)), .int v, .int w] (fun r σ' => rowP 82 σ σ' v w r) := by
  refine MI.of (by decide +kernel) (Nat.le_of_ble_eq_true rfl) ?_
  intro p e s m a below meth c ls Q hx hb hml hts hown hk hw ret hl
  have hown : s.vm.findClass RX11 = some m.cls := hown
  have hl : lv_has ls 4 [(0, .ref (ad G (78))), (1, .int v), (2, .int w)] := hl
  have hI : K0 σ σ := K0.rf hI0
  have Lm6 : (-6 : Int32).toInt = -6 := by decide
  have Lm2 : (-2 : Int32).toInt = -2 := by decide
  have Lm1 : (-1 : Int32).toInt = -1 := by decide
  have L0 : (0 : Int32).toInt = 0 := by decide
  generalize hHe : s.heap = H at hw ⊢
  generalize hLe : ([] : List Loc) = locs at hw ⊢
  refine lv_iload_n hx hb dX11_row_0 rfl (lv_at hl 2 rfl) ?_
  refine lv_iconst (v := -1) hx hb dX11_row_1 (by decide) ?_
  refine lv_icmp_eq (tgt := 14) hx hb dX11_row_2 (by decide) (fun c2 => ?_) (fun c2 => ?_)
  · have ow := i32b w
    have c2i := congrArg Int32.toInt c2
    refine lv_iload_n hx hb dX11_row_14 rfl (lv_at hl 1 rfl) ?_
    refine te_vi hw (ru_S (As := [.int v]) (rest := []) hx hb hml hts hown hk hw (c_X11_isCell l G hG σ hI.1 v) (m3_in wd185 wd186 wd5) wd187 nm_yX11_isCell ⟨rfl, rfl⟩ ⟨by decide, by decide⟩ rfl hl.1 rfl (Nat.le_of_ble_eq_true rfl) dX11_row_15 ⟨Nat.zero_le _, Nat.zero_le _⟩) (fun r2 σ1 H locs hr2 hw => ?_)
    rw [hr2.1] at hw
    have hr2 := hr2.2
    refine lv_if_ne (tgt := 24) hx hb dX11_row_18 (by decide) (fun c18 => ?_) (fun c18 => ?_)
    · have c18i := mt Int32.toInt_inj.mp c18
      have p18 := bz1 hr2 c18
      refine lv_aload_n hx hb dX11_row_24 rfl (lv_at hl 0 rfl) ?_
      refine tg_get (ci := 10) (k := 4) (v := .ref (ad G (82))) hx hb hts hown hk hw (en10 (rfl : nk 78 = 10)) rfl inlX11 (by decide) wd108 rfl dX11_row_25 ?_
      refine lv_iload_n hx hb dX11_row_28 rfl (lv_at hl 1 rfl) ?_
      have hv29 : vp_in v 64 := vin ⟨by omega, by omega⟩
      refine tg_iald hx hb hk hw (en164 (rfl : nk 82 = 164)) hv29 dX11_row_29 ?_
      refine lv_topi (fun x3 ex3 => ?_)
      have aR := ex3
      refine lv_istore_n (lv' := [(3, .int x3), (0, .ref (ad G (78))), (1, .int v), (2, .int w)]) hx hb dX11_row_30 rfl hl (by decide) rfl (fun ls hl => ?_)
      refine lv_aload_n hx hb dX11_row_31 rfl (lv_at hl 1 rfl) ?_
      refine tg_get (ci := 10) (k := 4) (v := .ref (ad G (82))) hx hb hts hown hk hw (en10 (rfl : nk 78 = 10)) rfl inlX11 (by decide) wd108 rfl dX11_row_32 ?_
      refine lv_iload_n hx hb dX11_row_35 rfl (lv_at hl 2 rfl) ?_
      refine lv_iload_n hx hb dX11_row_36 rfl (lv_at hl 3 rfl) ?_
      refine lv_iconst (v := -1) hx hb dX11_row_37 (by decide) ?_
      refine lv_icmp_ne (tgt := 46) hx hb dX11_row_38 (by decide) (fun c38 => ?_) (fun c38 => ?_)
      · have c38i := mt Int32.toInt_inj.mp c38
        exfalso; omega
      · have c38i := congrArg Int32.toInt c38
        refine lv_bipush (v := -6) hx hb dX11_row_41 (by decide) ?_
        refine lv_goto (tgt := 47) hx hb dX11_row_43 (by decide) ?_
        have hv47 : vp_in v 64 := vin ⟨by omega, by omega⟩
        refine tg_iast hx hb hk hG hw (ea164 (rfl : nk 82 = 164)) hv47 dX11_row_47 (fun H locs hw => ?_)
        obtain ⟨σ4, eσ4⟩ : ∃ z, z = up2 σ (82) v.toNatClampNeg (-6 : Int32) := ⟨_, rfl⟩
        rw [← eσ4] at hw
        have hI : K0 (up2 σ 82 v.toNatClampNeg (-6 : Int32)) σ4 := by rw [eσ4]; exact hI.put (rg_no (by rw [(rfl : nk 82 = 164)]; rfl))
        refine lv_iload_n hx hb dX11_row_48 rfl (lv_at hl 0 rfl) ?_
        exact ret x3 σ4 _ _ 49 _ (rfl) (Or.inr (Or.inr ⟨by omega, by omega, (by first | (rw [if_neg c38]; exact hI) | (rw [if_pos c38]; exact hI)), aR⟩)) hw dX11_row_49
    · have c18i := congrArg Int32.toInt c18
      have p18 := bz0 hr2 c18
      refine lv_bipush (v := -2) hx hb dX11_row_21 (by decide) ?_
      exact ret (-2 : Int32) σ _ _ 23 _ (rfl) (Or.inr (Or.inl ⟨by omega, by omega, hI, rfl⟩)) hw dX11_row_23
  · have ow := i32b w
    have c2i := mt Int32.toInt_inj.mp c2
    refine lv_iload_n hx hb dX11_row_5 rfl (lv_at hl 2 rfl) ?_
    refine te_vi hw (ru_S (As := [.int w]) (rest := []) hx hb hml hts hown hk hw (c_X11_isKind l G hG σ hI.1 w) (m3_in wd399 wd400 wd5) wd401 nm_yX11_isKind ⟨rfl, rfl⟩ ⟨by decide, by decide⟩ rfl hl.1 rfl (Nat.le_of_ble_eq_true rfl) dX11_row_6 ⟨Nat.zero_le _, Nat.zero_le _⟩) (fun r6 σ5 H locs hr6 hw => ?_)
    rw [hr6.1] at hw
    have hr6 := hr6.2
    refine lv_if_ne (tgt := 14) hx hb dX11_row_9 (by decide) (fun c9 => ?_) (fun c9 => ?_)
    · have c9i := mt Int32.toInt_inj.mp c9
      have p9 := bz1 hr6 c9
      refine lv_iload_n hx hb dX11_row_14 rfl (lv_at hl 1 rfl) ?_
      refine te_vi hw (ru_S (As := [.int v]) (rest := []) hx hb hml hts hown hk hw (c_X11_isCell l G hG σ hI.1 v) (m3_in wd185 wd186 wd5) wd187 nm_yX11_isCell ⟨rfl, rfl⟩ ⟨by decide, by decide⟩ rfl hl.1 rfl (Nat.le_of_ble_eq_true rfl) dX11_row_15 ⟨Nat.zero_le _, Nat.zero_le _⟩) (fun r8 σ7 H locs hr8 hw => ?_)
      rw [hr8.1] at hw
      have hr8 := hr8.2
      refine lv_if_ne (tgt := 24) hx hb dX11_row_18 (by decide) (fun c18 => ?_) (fun c18 => ?_)
      · have c18i := mt Int32.toInt_inj.mp c18
        have p18 := bz1 hr8 c18
        refine lv_aload_n hx hb dX11_row_24 rfl (lv_at hl 0 rfl) ?_
        refine tg_get (ci := 10) (k := 4) (v := .ref (ad G (82))) hx hb hts hown hk hw (en10 (rfl : nk 78 = 10)) rfl inlX11 (by decide) wd108 rfl dX11_row_25 ?_
        refine lv_iload_n hx hb dX11_row_28 rfl (lv_at hl 1 rfl) ?_
        have hv29 : vp_in v 64 := vin ⟨by omega, by omega⟩
        refine tg_iald hx hb hk hw (en164 (rfl : nk 82 = 164)) hv29 dX11_row_29 ?_
        refine lv_topi (fun x9 ex9 => ?_)
        have aR := ex9
        refine lv_istore_n (lv' := [(3, .int x9), (0, .ref (ad G (78))), (1, .int v), (2, .int w)]) hx hb dX11_row_30 rfl hl (by decide) rfl (fun ls hl => ?_)
        refine lv_aload_n hx hb dX11_row_31 rfl (lv_at hl 1 rfl) ?_
        refine tg_get (ci := 10) (k := 4) (v := .ref (ad G (82))) hx hb hts hown hk hw (en10 (rfl : nk 78 = 10)) rfl inlX11 (by decide) wd108 rfl dX11_row_32 ?_
        refine lv_iload_n hx hb dX11_row_35 rfl (lv_at hl 2 rfl) ?_
        refine lv_iload_n hx hb dX11_row_36 rfl (lv_at hl 3 rfl) ?_
        refine lv_iconst (v := -1) hx hb dX11_row_37 (by decide) ?_
        refine lv_icmp_ne (tgt := 46) hx hb dX11_row_38 (by decide) (fun c38 => ?_) (fun c38 => ?_)
        · have c38i := mt Int32.toInt_inj.mp c38
          refine lv_iload_n hx hb dX11_row_46 rfl (lv_at hl 3 rfl) ?_
          have hv47 : vp_in v 64 := vin ⟨by omega, by omega⟩
          refine tg_iast hx hb hk hG hw (ea164 (rfl : nk 82 = 164)) hv47 dX11_row_47 (fun H locs hw => ?_)
          obtain ⟨σ10, eσ10⟩ : ∃ z, z = up2 σ (82) v.toNatClampNeg w := ⟨_, rfl⟩
          rw [← eσ10] at hw
          have hI : K0 (up2 σ 82 v.toNatClampNeg w) σ10 := by rw [eσ10]; exact hI.put (rg_no (by rw [(rfl : nk 82 = 164)]; rfl))
          refine lv_iload_n hx hb dX11_row_48 rfl (lv_at hl 0 rfl) ?_
          exact ret x9 σ10 _ _ 49 _ (rfl) (Or.inr (Or.inr ⟨by omega, by omega, (by first | (rw [if_neg c38]; exact hI) | (rw [if_pos c38]; exact hI)), aR⟩)) hw dX11_row_49
        · have c38i := congrArg Int32.toInt c38
          exfalso; omega
      · have c18i := congrArg Int32.toInt c18
        have p18 := bz0 hr8 c18
        refine lv_bipush (v := -2) hx hb dX11_row_21 (by decide) ?_
        exact ret (-2 : Int32) σ _ _ 23 _ (rfl) (Or.inr (Or.inl ⟨by omega, by omega, hI, rfl⟩)) hw dX11_row_23
    · have c9i := congrArg Int32.toInt c9
      have p9 := bz0 hr6 c9
      refine lv_iconst (v := -1) hx hb dX11_row_12 (by decide) ?_
      exact ret (-1 : Int32) σ _ _ 13 _ (rfl) (Or.inl ⟨by omega, hI, rfl⟩) hw dX11_row_13
set_option maxHeartbeats 4000000 in
set_option maxRecDepth 100000 in
theorem c_X11_strayed (l : Launch) (G : Gg) (hG : Ginj G) (σ : Sg) (hI0 : Inv σ) (v : Int32) (w : Int32) : MI l G yX11_strayed cX11_strayed 9 .int (rmO 2 45) σ [.ref (ad G (78)), .int v, .int w] (fun r σ' => σ' = σ ∧ (True)) := by
  refine MI.of (by decide +kernel) (Nat.le_of_ble_eq_true rfl) ?_
  intro p e s m a below meth c ls Q hx hb hml hts hown hk hw ret hl
  have hown : s.vm.findClass RX11 = some m.cls := hown
  have hl : lv_has ls 9 [(0, .ref (ad G (78))), (1, .int v), (2, .int w)] := hl
  have hI : K0 σ σ := K0.rf hI0
  have Lm2 : (-2 : Int32).toInt = -2 := by decide
  have Lm1 : (-1 : Int32).toInt = -1 := by decide
  have L0 : (0 : Int32).toInt = 0 := by decide
  have L1 : (1 : Int32).toInt = 1 := by decide
  have L4 : (4 : Int32).toInt = 4 := by decide
  have L64 : (64 : Int32).toInt = 64 := by decide
  have M0 : (0 : Int64).toInt = 0 := by decide
  have M1 : (1 : Int64).toInt = 1 := by decide
  generalize hHe : s.heap = H at hw ⊢
  generalize hLe : ([] : List Loc) = locs at hw ⊢
  refine lv_iload_n hx hb dX11_strayed_0 rfl (lv_at hl 1 rfl) ?_
  refine lv_iconst (v := -1) hx hb dX11_strayed_1 (by decide) ?_
  refine lv_icmp_eq (tgt := 14) hx hb dX11_strayed_2 (by decide) (fun c2 => ?_) (fun c2 => ?_)
  · have ov := i32b v
    have c2i := congrArg Int32.toInt c2
    refine lv_iload_n hx hb dX11_strayed_14 rfl (lv_at hl 2 rfl) ?_
    refine lv_i2l hx hb dX11_strayed_15 rfl ?_
    refine lv_lconst (v := 0) hx hb dX11_strayed_16 (by decide) ?_
    refine lv_lconst (v := 1) hx hb dX11_strayed_17 (by decide) ?_
    refine te_vi hw (ru_S (As := [.long w.toInt64, .long (0 : Int64), .long (1 : Int64)]) (rest := []) hx hb hml hts hown hk hw (c_X11_in l G hG σ hI.1 w.toInt64 (0 : Int64) (1 : Int64)) (m3_in wd156 wd157 wd5) wd158 nm_yX11_in ⟨rfl, rfl⟩ ⟨by decide, by decide⟩ rfl hl.1 rfl (Nat.le_of_ble_eq_true rfl) dX11_strayed_18 ⟨Nat.zero_le _, Nat.zero_le _⟩) (fun r2 σ1 H locs hr2 hw => ?_)
    rw [hr2.1] at hw
    have hr2 := hr2.2
    simp only [Int32.toInt_toInt64] at hr2
    refine lv_if_ne (tgt := 27) hx hb dX11_strayed_21 (by decide) (fun c21 => ?_) (fun c21 => ?_)
    · have c21i := mt Int32.toInt_inj.mp c21
      have p21 := bz1 hr2 c21
      refine lv_iconst (v := 0) hx hb dX11_strayed_27 (by decide) ?_
      refine lv_istore_n (lv' := [(3, .int (0 : Int32)), (0, .ref (ad G (78))), (1, .int v), (2, .int w)]) hx hb dX11_strayed_28 rfl hl (by decide) rfl (fun ls hl => ?_)
      refine lv_iconst (v := 0) hx hb dX11_strayed_29 (by decide) ?_
      refine lv_istore (lv' := [(4, .int (0 : Int32)), (3, .int (0 : Int32)), (0, .ref (ad G (78))), (1, .int v), (2, .int w)]) hx hb dX11_strayed_30 hl (by decide) rfl (fun ls hl => ?_)
      have cut32 : ∀ (n : Nat) (z3_32 : Int32) (z4_32 : Int32) (H : Heap) (locs : List Loc) (ls : Array Slot), (0 ≤ z4_32.toInt ∧ z4_32.toInt ≤ 64) → ((64 - z4_32.toInt).toNat : Int) < (n : Int) → Wo G σ s H locs → lv_has ls 9 [(0, .ref (ad G (78))), (1, .int v), (2, .int w), (3, .int z3_32), (4, .int z4_32)] → W p l e (rmO 2 45) s m a below meth c H locs 0 0 Q (F0 m 32 ls []) := by
        intro n32
        induction n32 with
        | zero =>
          intro z3_32 z4_32 H locs ls f32_0 hm32 hw hl
          exfalso; omega
        | succ n32 ih32 =>
          intro z3_32 z4_32 H locs ls f32_0 hm32 hw hl
          refine lv_iload hx hb dX11_strayed_32 (lv_at hl 4 rfl) ?_
          refine lv_bipush (v := 64) hx hb dX11_strayed_34 (by decide) ?_
          refine lv_icmp_ge (tgt := 155) hx hb dX11_strayed_36 (by decide) (fun c36 => ?_) (fun c36 => ?_)
          · have c36i := Int32.le_iff_toInt_le.mp c36
            refine lv_iload_n hx hb dX11_strayed_155 rfl (lv_at hl 3 rfl) ?_
            exact ret z3_32 σ _ _ 156 _ (rfl) (⟨rfl, trivial⟩) hw dX11_strayed_156
          · have c36i := mt Int32.le_iff_toInt_le.mpr c36
            refine lv_iconst (v := 0) hx hb dX11_strayed_39 (by decide) ?_
            refine lv_istore (lv' := [(5, .int (0 : Int32)), (0, .ref (ad G (78))), (1, .int v), (2, .int w), (3, .int z3_32), (4, .int z4_32)]) hx hb dX11_strayed_40 hl (by decide) rfl (fun ls hl => ?_)
            have cut42 : ∀ (n : Nat) (z3_42 : Int32) (z5_42 : Int32) (H : Heap) (locs : List Loc) (ls : Array Slot), (0 ≤ z5_42.toInt ∧ z5_42.toInt ≤ 4) → ((4 - z5_42.toInt).toNat : Int) < (n : Int) → Wo G σ s H locs → lv_has ls 9 [(0, .ref (ad G (78))), (1, .int v), (2, .int w), (3, .int z3_42), (4, .int z4_32), (5, .int z5_42)] → W p l e (rmO 2 45) s m a below meth c H locs 0 0 Q (F0 m 42 ls []) := by
              intro n42
              induction n42 with
              | zero =>
                intro z3_42 z5_42 H locs ls f42_0 hm42 hw hl
                exfalso; omega
              | succ n42 ih42 =>
                intro z3_42 z5_42 H locs ls f42_0 hm42 hw hl
                refine lv_iload hx hb dX11_strayed_42 (lv_at hl 5 rfl) ?_
                refine lv_iconst (v := 4) hx hb dX11_strayed_44 (by decide) ?_
                refine lv_icmp_ge (tgt := 149) hx hb dX11_strayed_45 (by decide) (fun c45 => ?_) (fun c45 => ?_)
                · have c45i := Int32.le_iff_toInt_le.mp c45
                  obtain ⟨x3, ex3⟩ : ∃ z : Int32, z = z4_32 + (1 : Int32) := ⟨_, rfl⟩
                  refine lv_iinc (v := x3) (lv' := [(4, .int x3), (0, .ref (ad G (78))), (1, .int v), (2, .int w), (3, .int z3_42), (5, .int z5_42)]) hx hb dX11_strayed_149 hl (k := 4) rfl (by rw [ex3]; rfl) (by decide) rfl (fun ls hl => ?_)
                  have tx3 : x3.toInt = z4_32.toInt + 1 := by rw [ex3, Jvm.Kit.i32_add (by omega) (by omega)]; omega
                  refine lv_goto (tgt := 32) hx hb dX11_strayed_152 (by decide) ?_
                  exact ih32 z3_42 x3 _ _ _ (by omega) (by omega) hw (lv_sub hl [1, 2, 3, 4, 0] rfl)
                · have c45i := mt Int32.le_iff_toInt_le.mpr c45
                  refine lv_iload_n hx hb dX11_strayed_48 rfl (lv_at hl 1 rfl) ?_
                  refine lv_iconst (v := -1) hx hb dX11_strayed_49 (by decide) ?_
                  refine lv_icmp_eq (tgt := 59) hx hb dX11_strayed_50 (by decide) (fun c50 => ?_) (fun c50 => ?_)
                  · have c50i := congrArg Int32.toInt c50
                    refine lv_iconst (v := 1) hx hb dX11_strayed_59 (by decide) ?_
                    refine lv_goto (tgt := 64) hx hb dX11_strayed_60 (by decide) ?_
                    refine lv_istore (lv' := [(6, .int (1 : Int32)), (0, .ref (ad G (78))), (1, .int v), (2, .int w), (3, .int z3_42), (4, .int z4_32), (5, .int z5_42)]) hx hb dX11_strayed_64 hl (by decide) rfl (fun ls hl => ?_)
                    refine lv_aload_n hx hb dX11_strayed_66 rfl (lv_at hl 1 rfl) ?_
                    refine tg_get (ci := 10) (k := 1) (v := .ref (ad G (80))) hx hb hts hown hk hw (en10 (rfl : nk 78 = 10)) rfl inlX11 (by decide) wd106 rfl dX11_strayed_67 ?_
                    refine lv_iconst (v := 4) hx hb dX11_strayed_70 (by decide) ?_
                    refine lv_iload hx hb dX11_strayed_71 (lv_at hl 5 rfl) ?_
                    refine lv_imul hx hb dX11_strayed_73 ?_
                    refine lv_topi (fun x4 ex4 => ?_)
                    have tx4 : x4.toInt = 4 * z4_32.toInt := by rw [ex4, Jvm.Kit.i32_mul (by rw [L4]; omega) (by rw [L4]; omega), L4]
                    refine lv_iload hx hb dX11_strayed_74 (lv_at hl 6 rfl) ?_
                    refine lv_iadd hx hb dX11_strayed_76 ?_
                    refine lv_topi (fun x5 ex5 => ?_)
                    have tx5 : x5.toInt = x4.toInt + z5_42.toInt := by rw [ex5]; exact Jvm.Kit.i32_add (by omega) (by omega)
                    have hv77 : vp_in x5 256 := vin ⟨by omega, by omega⟩
                    refine tg_iald hx hb hk hw (en356 (rfl : nk 80 = 356)) hv77 dX11_strayed_77 ?_
                    refine lv_topi (fun x6 ex6 => ?_)
                    refine lv_istore (lv' := [(7, .int x6), (6, .int (1 : Int32)), (0, .ref (ad G (78))), (1, .int v), (2, .int w), (3, .int z3_42), (4, .int z4_32), (5, .int z5_42)]) hx hb dX11_strayed_78 hl (by decide) rfl (fun ls hl => ?_)
                    refine lv_iload_n hx hb dX11_strayed_80 rfl (lv_at hl 4 rfl) ?_
                    refine lv_if_ne (tgt := 105) hx hb dX11_strayed_81 (by decide) (fun c81 => ?_) (fun c81 => ?_)
                    · have c81i := mt Int32.toInt_inj.mp c81
                      refine lv_aload_n hx hb dX11_strayed_105 rfl (lv_at hl 2 rfl) ?_
                      refine tg_get (ci := 10) (k := 4) (v := .ref (ad G (82))) hx hb hts hown hk hw (en10 (rfl : nk 78 = 10)) rfl inlX11 (by decide) wd108 rfl dX11_strayed_106 ?_
                      refine lv_iload hx hb dX11_strayed_109 (lv_at hl 6 rfl) ?_
                      have hv111 : vp_in z4_32 64 := vin ⟨by omega, by omega⟩
                      refine tg_iald hx hb hk hw (en164 (rfl : nk 82 = 164)) hv111 dX11_strayed_111 ?_
                      refine lv_topi (fun x7 ex7 => ?_)
                      refine lv_iload hx hb dX11_strayed_112 (lv_at hl 7 rfl) ?_
                      refine lv_icmp_ne (tgt := 126) hx hb dX11_strayed_114 (by decide) (fun c114 => ?_) (fun c114 => ?_)
                      · have ox7 := i32b x7
                        have c114i := mt Int32.toInt_inj.mp c114
                        refine lv_iconst (v := 0) hx hb dX11_strayed_126 (by decide) ?_
                        refine lv_istore (lv' := [(8, .int (0 : Int32)), (7, .int x6), (6, .int (1 : Int32)), (0, .ref (ad G (78))), (1, .int v), (2, .int w), (3, .int z3_42), (4, .int z4_32), (5, .int z5_42)]) hx hb dX11_strayed_127 hl (by decide) rfl (fun ls hl => ?_)
                        refine lv_iload_n hx hb dX11_strayed_129 rfl (lv_at hl 6 rfl) ?_
                        refine lv_iload hx hb dX11_strayed_130 (lv_at hl 2 rfl) ?_
                        refine lv_if_eq (tgt := 140) hx hb dX11_strayed_132 (by decide) (fun c132 => ?_) (fun c132 => ?_)
                        · have c132i := congrArg Int32.toInt c132
                          exfalso; omega
                        · have c132i := mt Int32.toInt_inj.mp c132
                          refine lv_iload hx hb dX11_strayed_135 (lv_at hl 0 rfl) ?_
                          refine lv_goto (tgt := 141) hx hb dX11_strayed_137 (by decide) ?_
                          refine lv_iadd hx hb dX11_strayed_141 ?_
                          refine lv_topi (fun x8 ex8 => ?_)
                          have oz3_42 := i32b z3_42
                          have tx8 : x8.toInt = z3_42.toInt + (0 : Int32).toInt := by rw [ex8]; exact Jvm.Kit.i32_add (by omega) (by omega)
                          refine lv_istore_n (lv' := [(3, .int x8), (8, .int (0 : Int32)), (7, .int x6), (6, .int (1 : Int32)), (0, .ref (ad G (78))), (1, .int v), (2, .int w), (4, .int z4_32), (5, .int z5_42)]) hx hb dX11_strayed_142 rfl hl (by decide) rfl (fun ls hl => ?_)
                          obtain ⟨x9, ex9⟩ : ∃ z : Int32, z = z5_42 + (1 : Int32) := ⟨_, rfl⟩
                          refine lv_iinc (v := x9) (lv' := [(5, .int x9), (3, .int x8), (8, .int (0 : Int32)), (7, .int x6), (6, .int (1 : Int32)), (0, .ref (ad G (78))), (1, .int v), (2, .int w), (4, .int z4_32)]) hx hb dX11_strayed_143 hl (k := 8) rfl (by rw [ex9]; rfl) (by decide) rfl (fun ls hl => ?_)
                          have tx9 : x9.toInt = z5_42.toInt + 1 := by rw [ex9, Jvm.Kit.i32_add (by omega) (by omega)]; omega
                          refine lv_goto (tgt := 42) hx hb dX11_strayed_146 (by decide) ?_
                          exact ih42 x8 x9 _ _ _ (by omega) (by omega) hw (lv_sub hl [5, 6, 7, 1, 8, 0] rfl)
                      · have ox7 := i32b x7
                        have c114i := congrArg Int32.toInt c114
                        refine lv_iload hx hb dX11_strayed_117 (lv_at hl 0 rfl) ?_
                        refine lv_if_ne (tgt := 126) hx hb dX11_strayed_119 (by decide) (fun c119 => ?_) (fun c119 => ?_)
                        · have c119i := mt Int32.toInt_inj.mp c119
                          refine lv_iconst (v := 0) hx hb dX11_strayed_126 (by decide) ?_
                          refine lv_istore (lv' := [(8, .int (0 : Int32)), (7, .int x6), (6, .int (1 : Int32)), (0, .ref (ad G (78))), (1, .int v), (2, .int w), (3, .int z3_42), (4, .int z4_32), (5, .int z5_42)]) hx hb dX11_strayed_127 hl (by decide) rfl (fun ls hl => ?_)
                          refine lv_iload_n hx hb dX11_strayed_129 rfl (lv_at hl 6 rfl) ?_
                          refine lv_iload hx hb dX11_strayed_130 (lv_at hl 2 rfl) ?_
                          refine lv_if_eq (tgt := 140) hx hb dX11_strayed_132 (by decide) (fun c132 => ?_) (fun c132 => ?_)
                          · have c132i := congrArg Int32.toInt c132
                            exfalso; omega
                          · have c132i := mt Int32.toInt_inj.mp c132
                            refine lv_iload hx hb dX11_strayed_135 (lv_at hl 0 rfl) ?_
                            refine lv_goto (tgt := 141) hx hb dX11_strayed_137 (by decide) ?_
                            refine lv_iadd hx hb dX11_strayed_141 ?_
                            refine lv_topi (fun x10 ex10 => ?_)
                            have oz3_42 := i32b z3_42
                            have tx10 : x10.toInt = z3_42.toInt + (0 : Int32).toInt := by rw [ex10]; exact Jvm.Kit.i32_add (by omega) (by omega)
                            refine lv_istore_n (lv' := [(3, .int x10), (8, .int (0 : Int32)), (7, .int x6), (6, .int (1 : Int32)), (0, .ref (ad G (78))), (1, .int v), (2, .int w), (4, .int z4_32), (5, .int z5_42)]) hx hb dX11_strayed_142 rfl hl (by decide) rfl (fun ls hl => ?_)
                            obtain ⟨x11, ex11⟩ : ∃ z : Int32, z = z5_42 + (1 : Int32) := ⟨_, rfl⟩
                            refine lv_iinc (v := x11) (lv' := [(5, .int x11), (3, .int x10), (8, .int (0 : Int32)), (7, .int x6), (6, .int (1 : Int32)), (0, .ref (ad G (78))), (1, .int v), (2, .int w), (4, .int z4_32)]) hx hb dX11_strayed_143 hl (k := 8) rfl (by rw [ex11]; rfl) (by decide) rfl (fun ls hl => ?_)
                            have tx11 : x11.toInt = z5_42.toInt + 1 := by rw [ex11, Jvm.Kit.i32_add (by omega) (by omega)]; omega
                            refine lv_goto (tgt := 42) hx hb dX11_strayed_146 (by decide) ?_
                            exact ih42 x10 x11 _ _ _ (by omega) (by omega) hw (lv_sub hl [5, 6, 7, 1, 8, 0] rfl)
                        · have c119i := congrArg Int32.toInt c119
                          refine lv_iconst (v := 1) hx hb dX11_strayed_122 (by decide) ?_
                          refine lv_goto (tgt := 127) hx hb dX11_strayed_123 (by decide) ?_
                          refine lv_istore (lv' := [(8, .int (1 : Int32)), (7, .int x6), (6, .int (1 : Int32)), (0, .ref (ad G (78))), (1, .int v), (2, .int w), (3, .int z3_42), (4, .int z4_32), (5, .int z5_42)]) hx hb dX11_strayed_127 hl (by decide) rfl (fun ls hl => ?_)
                          refine lv_iload_n hx hb dX11_strayed_129 rfl (lv_at hl 6 rfl) ?_
                          refine lv_iload hx hb dX11_strayed_130 (lv_at hl 2 rfl) ?_
                          refine lv_if_eq (tgt := 140) hx hb dX11_strayed_132 (by decide) (fun c132 => ?_) (fun c132 => ?_)
                          · have c132i := congrArg Int32.toInt c132
                            exfalso; omega
                          · have c132i := mt Int32.toInt_inj.mp c132
                            refine lv_iload hx hb dX11_strayed_135 (lv_at hl 0 rfl) ?_
                            refine lv_goto (tgt := 141) hx hb dX11_strayed_137 (by decide) ?_
                            refine lv_iadd hx hb dX11_strayed_141 ?_
                            refine lv_topi (fun x12 ex12 => ?_)
                            refine lv_istore_n (lv' := [(3, .int x12), (8, .int (1 : Int32)), (7, .int x6), (6, .int (1 : Int32)), (0, .ref (ad G (78))), (1, .int v), (2, .int w), (4, .int z4_32), (5, .int z5_42)]) hx hb dX11_strayed_142 rfl hl (by decide) rfl (fun ls hl => ?_)
                            obtain ⟨x13, ex13⟩ : ∃ z : Int32, z = z5_42 + (1 : Int32) := ⟨_, rfl⟩
                            refine lv_iinc (v := x13) (lv' := [(5, .int x13), (3, .int x12), (8, .int (1 : Int32)), (7, .int x6), (6, .int (1 : Int32)), (0, .ref (ad G (78))), (1, .int v), (2, .int w), (4, .int z4_32)]) hx hb dX11_strayed_143 hl (k := 8) rfl (by rw [ex13]; rfl) (by decide) rfl (fun ls hl => ?_)
                            have tx13 : x13.toInt = z5_42.toInt + 1 := by rw [ex13, Jvm.Kit.i32_add (by omega) (by omega)]; omega
                            refine lv_goto (tgt := 42) hx hb dX11_strayed_146 (by decide) ?_
                            exact ih42 x12 x13 _ _ _ (by omega) (by omega) hw (lv_sub hl [5, 6, 7, 1, 8, 0] rfl)
                    · have c81i := congrArg Int32.toInt c81
                      refine lv_aload_n hx hb dX11_strayed_84 rfl (lv_at hl 2 rfl) ?_
                      refine tg_get (ci := 10) (k := 4) (v := .ref (ad G (82))) hx hb hts hown hk hw (en10 (rfl : nk 78 = 10)) rfl inlX11 (by decide) wd108 rfl dX11_strayed_85 ?_
                      refine lv_iload hx hb dX11_strayed_88 (lv_at hl 6 rfl) ?_
                      have hv90 : vp_in z4_32 64 := vin ⟨by omega, by omega⟩
                      refine tg_iald hx hb hk hw (en164 (rfl : nk 82 = 164)) hv90 dX11_strayed_90 ?_
                      refine lv_topi (fun x14 ex14 => ?_)
                      refine lv_iload hx hb dX11_strayed_91 (lv_at hl 7 rfl) ?_
                      refine lv_icmp_ne (tgt := 100) hx hb dX11_strayed_93 (by decide) (fun c93 => ?_) (fun c93 => ?_)
                      · have ox14 := i32b x14
                        have c93i := mt Int32.toInt_inj.mp c93
                        refine lv_iload hx hb dX11_strayed_100 (lv_at hl 0 rfl) ?_
                        refine lv_goto (tgt := 127) hx hb dX11_strayed_102 (by decide) ?_
                        refine lv_istore (lv' := [(8, .int x6), (7, .int x6), (6, .int (1 : Int32)), (0, .ref (ad G (78))), (1, .int v), (2, .int w), (3, .int z3_42), (4, .int z4_32), (5, .int z5_42)]) hx hb dX11_strayed_127 hl (by decide) rfl (fun ls hl => ?_)
                        refine lv_iload_n hx hb dX11_strayed_129 rfl (lv_at hl 6 rfl) ?_
                        refine lv_iload hx hb dX11_strayed_130 (lv_at hl 2 rfl) ?_
                        refine lv_if_eq (tgt := 140) hx hb dX11_strayed_132 (by decide) (fun c132 => ?_) (fun c132 => ?_)
                        · have c132i := congrArg Int32.toInt c132
                          exfalso; omega
                        · have c132i := mt Int32.toInt_inj.mp c132
                          refine lv_iload hx hb dX11_strayed_135 (lv_at hl 0 rfl) ?_
                          refine lv_goto (tgt := 141) hx hb dX11_strayed_137 (by decide) ?_
                          refine lv_iadd hx hb dX11_strayed_141 ?_
                          refine lv_topi (fun x15 ex15 => ?_)
                          refine lv_istore_n (lv' := [(3, .int x15), (8, .int x6), (7, .int x6), (6, .int (1 : Int32)), (0, .ref (ad G (78))), (1, .int v), (2, .int w), (4, .int z4_32), (5, .int z5_42)]) hx hb dX11_strayed_142 rfl hl (by decide) rfl (fun ls hl => ?_)
                          obtain ⟨x16, ex16⟩ : ∃ z : Int32, z = z5_42 + (1 : Int32) := ⟨_, rfl⟩
                          refine lv_iinc (v := x16) (lv' := [(5, .int x16), (3, .int x15), (8, .int x6), (7, .int x6), (6, .int (1 : Int32)), (0, .ref (ad G (78))), (1, .int v), (2, .int w), (4, .int z4_32)]) hx hb dX11_strayed_143 hl (k := 8) rfl (by rw [ex16]; rfl) (by decide) rfl (fun ls hl => ?_)
                          have tx16 : x16.toInt = z5_42.toInt + 1 := by rw [ex16, Jvm.Kit.i32_add (by omega) (by omega)]; omega
                          refine lv_goto (tgt := 42) hx hb dX11_strayed_146 (by decide) ?_
                          exact ih42 x15 x16 _ _ _ (by omega) (by omega) hw (lv_sub hl [5, 6, 7, 1, 8, 0] rfl)
                      · have ox14 := i32b x14
                        have c93i := congrArg Int32.toInt c93
                        refine lv_iconst (v := 0) hx hb dX11_strayed_96 (by decide) ?_
                        refine lv_goto (tgt := 127) hx hb dX11_strayed_97 (by decide) ?_
                        refine lv_istore (lv' := [(8, .int (0 : Int32)), (7, .int x6), (6, .int (1 : Int32)), (0, .ref (ad G (78))), (1, .int v), (2, .int w), (3, .int z3_42), (4, .int z4_32), (5, .int z5_42)]) hx hb dX11_strayed_127 hl (by decide) rfl (fun ls hl => ?_)
                        refine lv_iload_n hx hb dX11_strayed_129 rfl (lv_at hl 6 rfl) ?_
                        refine lv_iload hx hb dX11_strayed_130 (lv_at hl 2 rfl) ?_
                        refine lv_if_eq (tgt := 140) hx hb dX11_strayed_132 (by decide) (fun c132 => ?_) (fun c132 => ?_)
                        · have c132i := congrArg Int32.toInt c132
                          exfalso; omega
                        · have c132i := mt Int32.toInt_inj.mp c132
                          refine lv_iload hx hb dX11_strayed_135 (lv_at hl 0 rfl) ?_
                          refine lv_goto (tgt := 141) hx hb dX11_strayed_137 (by decide) ?_
                          refine lv_iadd hx hb dX11_strayed_141 ?_
                          refine lv_topi (fun x17 ex17 => ?_)
                          have oz3_42 := i32b z3_42
                          have tx17 : x17.toInt = z3_42.toInt + (0 : Int32).toInt := by rw [ex17]; exact Jvm.Kit.i32_add (by omega) (by omega)
                          refine lv_istore_n (lv' := [(3, .int x17), (8, .int (0 : Int32)), (7, .int x6), (6, .int (1 : Int32)), (0, .ref (ad G (78))), (1, .int v), (2, .int w), (4, .int z4_32), (5, .int z5_42)]) hx hb dX11_strayed_142 rfl hl (by decide) rfl (fun ls hl => ?_)
                          obtain ⟨x18, ex18⟩ : ∃ z : Int32, z = z5_42 + (1 : Int32) := ⟨_, rfl⟩
                          refine lv_iinc (v := x18) (lv' := [(5, .int x18), (3, .int x17), (8, .int (0 : Int32)), (7, .int x6), (6, .int (1 : Int32)), (0, .ref (ad G (78))), (1, .int v), (2, .int w), (4, .int z4_32)]) hx hb dX11_strayed_143 hl (k := 8) rfl (by rw [ex18]; rfl) (by decide) rfl (fun ls hl => ?_)
                          have tx18 : x18.toInt = z5_42.toInt + 1 := by rw [ex18, Jvm.Kit.i32_add (by omega) (by omega)]; omega
                          refine lv_goto (tgt := 42) hx hb dX11_strayed_146 (by decide) ?_
                          exact ih42 x17 x18 _ _ _ (by omega) (by omega) hw (lv_sub hl [5, 6, 7, 1, 8, 0] rfl)
                  · have c50i := mt Int32.toInt_inj.mp c50
                    exfalso; omega
            exact cut42 ((((4 - (0 : Int32).toInt).toNat : Int)).toNat + 1) z3_32 (0 : Int32) _ _ _ (by omega) (by omega) hw (lv_sub hl [1, 2, 3, 4, 5, 0] rfl)
      exact cut32 ((((64 - (0 : Int32).toInt).toNat : Int)).toNat + 1) (0 : Int32) (0 : Int32) _ _ _ (by omega) (by omega) hw (lv_sub hl [2, 3, 4, 1, 0] rfl)
    · have c21i := congrArg Int32.toInt c21
      have p21 := bz0 hr2 c21
      refine lv_bipush (v := -2) hx hb dX11_strayed_24 (by decide) ?_
      exact ret (-2 : Int32) σ _ _ 26 _ (rfl) (⟨rfl, trivial⟩) hw dX11_strayed_26
  · have ov := i32b v
    have c2i := mt Int32.toInt_inj.mp c2
    refine lv_iload_n hx hb dX11_strayed_5 rfl (lv_at hl 1 rfl) ?_
    refine te_vi hw (ru_S (As := [.int v]) (rest := []) hx hb hml hts hown hk hw (c_X11_isKind l G hG σ hI.1 v) (m3_in wd399 wd400 wd5) wd401 nm_yX11_isKind ⟨rfl, rfl⟩ ⟨by decide, by decide⟩ rfl hl.1 rfl (Nat.le_of_ble_eq_true rfl) dX11_strayed_6 ⟨Nat.zero_le _, Nat.zero_le _⟩) (fun r20 σ19 H locs hr20 hw => ?_)
    rw [hr20.1] at hw
    have hr20 := hr20.2
    refine lv_if_ne (tgt := 14) hx hb dX11_strayed_9 (by decide) (fun c9 => ?_) (fun c9 => ?_)
    · have c9i := mt Int32.toInt_inj.mp c9
      have p9 := bz1 hr20 c9
      refine lv_iload_n hx hb dX11_strayed_14 rfl (lv_at hl 2 rfl) ?_
      refine lv_i2l hx hb dX11_strayed_15 rfl ?_
      refine lv_lconst (v := 0) hx hb dX11_strayed_16 (by decide) ?_
      refine lv_lconst (v := 1) hx hb dX11_strayed_17 (by decide) ?_
      refine te_vi hw (ru_S (As := [.long w.toInt64, .long (0 : Int64), .long (1 : Int64)]) (rest := []) hx hb hml hts hown hk hw (c_X11_in l G hG σ hI.1 w.toInt64 (0 : Int64) (1 : Int64)) (m3_in wd156 wd157 wd5) wd158 nm_yX11_in ⟨rfl, rfl⟩ ⟨by decide, by decide⟩ rfl hl.1 rfl (Nat.le_of_ble_eq_true rfl) dX11_strayed_18 ⟨Nat.zero_le _, Nat.zero_le _⟩) (fun r22 σ21 H locs hr22 hw => ?_)
      rw [hr22.1] at hw
      have hr22 := hr22.2
      simp only [Int32.toInt_toInt64] at hr22
      refine lv_if_ne (tgt := 27) hx hb dX11_strayed_21 (by decide) (fun c21 => ?_) (fun c21 => ?_)
      · have c21i := mt Int32.toInt_inj.mp c21
        have p21 := bz1 hr22 c21
        refine lv_iconst (v := 0) hx hb dX11_strayed_27 (by decide) ?_
        refine lv_istore_n (lv' := [(3, .int (0 : Int32)), (0, .ref (ad G (78))), (1, .int v), (2, .int w)]) hx hb dX11_strayed_28 rfl hl (by decide) rfl (fun ls hl => ?_)
        refine lv_iconst (v := 0) hx hb dX11_strayed_29 (by decide) ?_
        refine lv_istore (lv' := [(4, .int (0 : Int32)), (3, .int (0 : Int32)), (0, .ref (ad G (78))), (1, .int v), (2, .int w)]) hx hb dX11_strayed_30 hl (by decide) rfl (fun ls hl => ?_)
        have cut32 : ∀ (n : Nat) (z3_32 : Int32) (z4_32 : Int32) (H : Heap) (locs : List Loc) (ls : Array Slot), (0 ≤ z4_32.toInt ∧ z4_32.toInt ≤ 64) → ((64 - z4_32.toInt).toNat : Int) < (n : Int) → Wo G σ s H locs → lv_has ls 9 [(0, .ref (ad G (78))), (1, .int v), (2, .int w), (3, .int z3_32), (4, .int z4_32)] → W p l e (rmO 2 45) s m a below meth c H locs 0 0 Q (F0 m 32 ls []) := by
          intro n32
          induction n32 with
          | zero =>
            intro z3_32 z4_32 H locs ls f32_0 hm32 hw hl
            exfalso; omega
          | succ n32 ih32 =>
            intro z3_32 z4_32 H locs ls f32_0 hm32 hw hl
            refine lv_iload hx hb dX11_strayed_32 (lv_at hl 4 rfl) ?_
            refine lv_bipush (v := 64) hx hb dX11_strayed_34 (by decide) ?_
            refine lv_icmp_ge (tgt := 155) hx hb dX11_strayed_36 (by decide) (fun c36 => ?_) (fun c36 => ?_)
            · have c36i := Int32.le_iff_toInt_le.mp c36
              refine lv_iload_n hx hb dX11_strayed_155 rfl (lv_at hl 3 rfl) ?_
              exact ret z3_32 σ _ _ 156 _ (rfl) (⟨rfl, trivial⟩) hw dX11_strayed_156
            · have c36i := mt Int32.le_iff_toInt_le.mpr c36
              refine lv_iconst (v := 0) hx hb dX11_strayed_39 (by decide) ?_
              refine lv_istore (lv' := [(5, .int (0 : Int32)), (0, .ref (ad G (78))), (1, .int v), (2, .int w), (3, .int z3_32), (4, .int z4_32)]) hx hb dX11_strayed_40 hl (by decide) rfl (fun ls hl => ?_)
              have cut42 : ∀ (n : Nat) (z3_42 : Int32) (z5_42 : Int32) (H : Heap) (locs : List Loc) (ls : Array Slot), (0 ≤ z5_42.toInt ∧ z5_42.toInt ≤ 4) → ((4 - z5_42.toInt).toNat : Int) < (n : Int) → Wo G σ s H locs → lv_has ls 9 [(0, .ref (ad G (78))), (1, .int v), (2, .int w), (3, .int z3_42), (4, .int z4_32), (5, .int z5_42)] → W p l e (rmO 2 45) s m a below meth c H locs 0 0 Q (F0 m 42 ls []) := by
                intro n42
                induction n42 with
                | zero =>
                  intro z3_42 z5_42 H locs ls f42_0 hm42 hw hl
                  exfalso; omega
                | succ n42 ih42 =>
                  intro z3_42 z5_42 H locs ls f42_0 hm42 hw hl
                  refine lv_iload hx hb dX11_strayed_42 (lv_at hl 5 rfl) ?_
                  refine lv_iconst (v := 4) hx hb dX11_strayed_44 (by decide) ?_
                  refine lv_icmp_ge (tgt := 149) hx hb dX11_strayed_45 (by decide) (fun c45 => ?_) (fun c45 => ?_)
                  · have c45i := Int32.le_iff_toInt_le.mp c45
                    obtain ⟨x23, ex23⟩ : ∃ z : Int32, z = z4_32 + (1 : Int32) := ⟨_, rfl⟩
                    refine lv_iinc (v := x23) (lv' := [(4, .int x23), (0, .ref (ad G (78))), (1, .int v), (2, .int w), (3, .int z3_42), (5, .int z5_42)]) hx hb dX11_strayed_149 hl (k := 4) rfl (by rw [ex23]; rfl) (by decide) rfl (fun ls hl => ?_)
                    have tx23 : x23.toInt = z4_32.toInt + 1 := by rw [ex23, Jvm.Kit.i32_add (by omega) (by omega)]; omega
                    refine lv_goto (tgt := 32) hx hb dX11_strayed_152 (by decide) ?_
                    exact ih32 z3_42 x23 _ _ _ (by omega) (by omega) hw (lv_sub hl [1, 2, 3, 4, 0] rfl)
                  · have c45i := mt Int32.le_iff_toInt_le.mpr c45
                    refine lv_iload_n hx hb dX11_strayed_48 rfl (lv_at hl 1 rfl) ?_
                    refine lv_iconst (v := -1) hx hb dX11_strayed_49 (by decide) ?_
                    refine lv_icmp_eq (tgt := 59) hx hb dX11_strayed_50 (by decide) (fun c50 => ?_) (fun c50 => ?_)
                    · have c50i := congrArg Int32.toInt c50
                      exfalso; omega
                    · have c50i := mt Int32.toInt_inj.mp c50
                      refine lv_iload_n hx hb dX11_strayed_53 rfl (lv_at hl 1 rfl) ?_
                      refine lv_iload hx hb dX11_strayed_54 (lv_at hl 5 rfl) ?_
                      refine lv_icmp_ne (tgt := 63) hx hb dX11_strayed_56 (by decide) (fun c56 => ?_) (fun c56 => ?_)
                      · have c56i := mt Int32.toInt_inj.mp c56
                        refine lv_iconst (v := 0) hx hb dX11_strayed_63 (by decide) ?_
                        refine lv_istore (lv' := [(6, .int (0 : Int32)), (0, .ref (ad G (78))), (1, .int v), (2, .int w), (3, .int z3_42), (4, .int z4_32), (5, .int z5_42)]) hx hb dX11_strayed_64 hl (by decide) rfl (fun ls hl => ?_)
                        refine lv_aload_n hx hb dX11_strayed_66 rfl (lv_at hl 1 rfl) ?_
                        refine tg_get (ci := 10) (k := 1) (v := .ref (ad G (80))) hx hb hts hown hk hw (en10 (rfl : nk 78 = 10)) rfl inlX11 (by decide) wd106 rfl dX11_strayed_67 ?_
                        refine lv_iconst (v := 4) hx hb dX11_strayed_70 (by decide) ?_
                        refine lv_iload hx hb dX11_strayed_71 (lv_at hl 5 rfl) ?_
                        refine lv_imul hx hb dX11_strayed_73 ?_
                        refine lv_topi (fun x24 ex24 => ?_)
                        have tx24 : x24.toInt = 4 * z4_32.toInt := by rw [ex24, Jvm.Kit.i32_mul (by rw [L4]; omega) (by rw [L4]; omega), L4]
                        refine lv_iload hx hb dX11_strayed_74 (lv_at hl 6 rfl) ?_
                        refine lv_iadd hx hb dX11_strayed_76 ?_
                        refine lv_topi (fun x25 ex25 => ?_)
                        have tx25 : x25.toInt = x24.toInt + z5_42.toInt := by rw [ex25]; exact Jvm.Kit.i32_add (by omega) (by omega)
                        have hv77 : vp_in x25 256 := vin ⟨by omega, by omega⟩
                        refine tg_iald hx hb hk hw (en356 (rfl : nk 80 = 356)) hv77 dX11_strayed_77 ?_
                        refine lv_topi (fun x26 ex26 => ?_)
                        refine lv_istore (lv' := [(7, .int x26), (6, .int (0 : Int32)), (0, .ref (ad G (78))), (1, .int v), (2, .int w), (3, .int z3_42), (4, .int z4_32), (5, .int z5_42)]) hx hb dX11_strayed_78 hl (by decide) rfl (fun ls hl => ?_)
                        refine lv_iload_n hx hb dX11_strayed_80 rfl (lv_at hl 4 rfl) ?_
                        refine lv_if_ne (tgt := 105) hx hb dX11_strayed_81 (by decide) (fun c81 => ?_) (fun c81 => ?_)
                        · have c81i := mt Int32.toInt_inj.mp c81
                          refine lv_aload_n hx hb dX11_strayed_105 rfl (lv_at hl 2 rfl) ?_
                          refine tg_get (ci := 10) (k := 4) (v := .ref (ad G (82))) hx hb hts hown hk hw (en10 (rfl : nk 78 = 10)) rfl inlX11 (by decide) wd108 rfl dX11_strayed_106 ?_
                          refine lv_iload hx hb dX11_strayed_109 (lv_at hl 6 rfl) ?_
                          have hv111 : vp_in z4_32 64 := vin ⟨by omega, by omega⟩
                          refine tg_iald hx hb hk hw (en164 (rfl : nk 82 = 164)) hv111 dX11_strayed_111 ?_
                          refine lv_topi (fun x27 ex27 => ?_)
                          refine lv_iload hx hb dX11_strayed_112 (lv_at hl 7 rfl) ?_
                          refine lv_icmp_ne (tgt := 126) hx hb dX11_strayed_114 (by decide) (fun c114 => ?_) (fun c114 => ?_)
                          · have ox27 := i32b x27
                            have c114i := mt Int32.toInt_inj.mp c114
                            refine lv_iconst (v := 0) hx hb dX11_strayed_126 (by decide) ?_
                            refine lv_istore (lv' := [(8, .int (0 : Int32)), (7, .int x26), (6, .int (0 : Int32)), (0, .ref (ad G (78))), (1, .int v), (2, .int w), (3, .int z3_42), (4, .int z4_32), (5, .int z5_42)]) hx hb dX11_strayed_127 hl (by decide) rfl (fun ls hl => ?_)
                            refine lv_iload_n hx hb dX11_strayed_129 rfl (lv_at hl 6 rfl) ?_
                            refine lv_iload hx hb dX11_strayed_130 (lv_at hl 2 rfl) ?_
                            refine lv_if_eq (tgt := 140) hx hb dX11_strayed_132 (by decide) (fun c132 => ?_) (fun c132 => ?_)
                            · have c132i := congrArg Int32.toInt c132
                              refine lv_iconst (v := 0) hx hb dX11_strayed_140 (by decide) ?_
                              refine lv_iadd hx hb dX11_strayed_141 ?_
                              refine lv_topi (fun x28 ex28 => ?_)
                              have oz3_42 := i32b z3_42
                              have tx28 : x28.toInt = z3_42.toInt + (0 : Int32).toInt := by rw [ex28]; exact Jvm.Kit.i32_add (by omega) (by omega)
                              refine lv_istore_n (lv' := [(3, .int x28), (8, .int (0 : Int32)), (7, .int x26), (6, .int (0 : Int32)), (0, .ref (ad G (78))), (1, .int v), (2, .int w), (4, .int z4_32), (5, .int z5_42)]) hx hb dX11_strayed_142 rfl hl (by decide) rfl (fun ls hl => ?_)
                              obtain ⟨x29, ex29⟩ : ∃ z : Int32, z = z5_42 + (1 : Int32) := ⟨_, rfl⟩
                              refine lv_iinc (v := x29) (lv' := [(5, .int x29), (3, .int x28), (8, .int (0 : Int32)), (7, .int x26), (6, .int (0 : Int32)), (0, .ref (ad G (78))), (1, .int v), (2, .int w), (4, .int z4_32)]) hx hb dX11_strayed_143 hl (k := 8) rfl (by rw [ex29]; rfl) (by decide) rfl (fun ls hl => ?_)
                              have tx29 : x29.toInt = z5_42.toInt + 1 := by rw [ex29, Jvm.Kit.i32_add (by omega) (by omega)]; omega
                              refine lv_goto (tgt := 42) hx hb dX11_strayed_146 (by decide) ?_
                              exact ih42 x28 x29 _ _ _ (by omega) (by omega) hw (lv_sub hl [5, 6, 7, 1, 8, 0] rfl)
                            · have c132i := mt Int32.toInt_inj.mp c132
                              exfalso; omega
                          · have ox27 := i32b x27
                            have c114i := congrArg Int32.toInt c114
                            refine lv_iload hx hb dX11_strayed_117 (lv_at hl 0 rfl) ?_
                            refine lv_if_ne (tgt := 126) hx hb dX11_strayed_119 (by decide) (fun c119 => ?_) (fun c119 => ?_)
                            · have c119i := mt Int32.toInt_inj.mp c119
                              refine lv_iconst (v := 0) hx hb dX11_strayed_126 (by decide) ?_
                              refine lv_istore (lv' := [(8, .int (0 : Int32)), (7, .int x26), (6, .int (0 : Int32)), (0, .ref (ad G (78))), (1, .int v), (2, .int w), (3, .int z3_42), (4, .int z4_32), (5, .int z5_42)]) hx hb dX11_strayed_127 hl (by decide) rfl (fun ls hl => ?_)
                              refine lv_iload_n hx hb dX11_strayed_129 rfl (lv_at hl 6 rfl) ?_
                              refine lv_iload hx hb dX11_strayed_130 (lv_at hl 2 rfl) ?_
                              refine lv_if_eq (tgt := 140) hx hb dX11_strayed_132 (by decide) (fun c132 => ?_) (fun c132 => ?_)
                              · have c132i := congrArg Int32.toInt c132
                                refine lv_iconst (v := 0) hx hb dX11_strayed_140 (by decide) ?_
                                refine lv_iadd hx hb dX11_strayed_141 ?_
                                refine lv_topi (fun x30 ex30 => ?_)
                                have oz3_42 := i32b z3_42
                                have tx30 : x30.toInt = z3_42.toInt + (0 : Int32).toInt := by rw [ex30]; exact Jvm.Kit.i32_add (by omega) (by omega)
                                refine lv_istore_n (lv' := [(3, .int x30), (8, .int (0 : Int32)), (7, .int x26), (6, .int (0 : Int32)), (0, .ref (ad G (78))), (1, .int v), (2, .int w), (4, .int z4_32), (5, .int z5_42)]) hx hb dX11_strayed_142 rfl hl (by decide) rfl (fun ls hl => ?_)
                                obtain ⟨x31, ex31⟩ : ∃ z : Int32, z = z5_42 + (1 : Int32) := ⟨_, rfl⟩
                                refine lv_iinc (v := x31) (lv' := [(5, .int x31), (3, .int x30), (8, .int (0 : Int32)), (7, .int x26), (6, .int (0 : Int32)), (0, .ref (ad G (78))), (1, .int v), (2, .int w), (4, .int z4_32)]) hx hb dX11_strayed_143 hl (k := 8) rfl (by rw [ex31]; rfl) (by decide) rfl (fun ls hl => ?_)
                                have tx31 : x31.toInt = z5_42.toInt + 1 := by rw [ex31, Jvm.Kit.i32_add (by omega) (by omega)]; omega
                                refine lv_goto (tgt := 42) hx hb dX11_strayed_146 (by decide) ?_
                                exact ih42 x30 x31 _ _ _ (by omega) (by omega) hw (lv_sub hl [5, 6, 7, 1, 8, 0] rfl)
                              · have c132i := mt Int32.toInt_inj.mp c132
                                exfalso; omega
                            · have c119i := congrArg Int32.toInt c119
                              refine lv_iconst (v := 1) hx hb dX11_strayed_122 (by decide) ?_
                              refine lv_goto (tgt := 127) hx hb dX11_strayed_123 (by decide) ?_
                              refine lv_istore (lv' := [(8, .int (1 : Int32)), (7, .int x26), (6, .int (0 : Int32)), (0, .ref (ad G (78))), (1, .int v), (2, .int w), (3, .int z3_42), (4, .int z4_32), (5, .int z5_42)]) hx hb dX11_strayed_127 hl (by decide) rfl (fun ls hl => ?_)
                              refine lv_iload_n hx hb dX11_strayed_129 rfl (lv_at hl 6 rfl) ?_
                              refine lv_iload hx hb dX11_strayed_130 (lv_at hl 2 rfl) ?_
                              refine lv_if_eq (tgt := 140) hx hb dX11_strayed_132 (by decide) (fun c132 => ?_) (fun c132 => ?_)
                              · have c132i := congrArg Int32.toInt c132
                                refine lv_iconst (v := 0) hx hb dX11_strayed_140 (by decide) ?_
                                refine lv_iadd hx hb dX11_strayed_141 ?_
                                refine lv_topi (fun x32 ex32 => ?_)
                                have oz3_42 := i32b z3_42
                                have tx32 : x32.toInt = z3_42.toInt + (0 : Int32).toInt := by rw [ex32]; exact Jvm.Kit.i32_add (by omega) (by omega)
                                refine lv_istore_n (lv' := [(3, .int x32), (8, .int (1 : Int32)), (7, .int x26), (6, .int (0 : Int32)), (0, .ref (ad G (78))), (1, .int v), (2, .int w), (4, .int z4_32), (5, .int z5_42)]) hx hb dX11_strayed_142 rfl hl (by decide) rfl (fun ls hl => ?_)
                                obtain ⟨x33, ex33⟩ : ∃ z : Int32, z = z5_42 + (1 : Int32) := ⟨_, rfl⟩
                                refine lv_iinc (v := x33) (lv' := [(5, .int x33), (3, .int x32), (8, .int (1 : Int32)), (7, .int x26), (6, .int (0 : Int32)), (0, .ref (ad G (78))), (1, .int v), (2, .int w), (4, .int z4_32)]) hx hb dX11_strayed_143 hl (k := 8) rfl (by rw [ex33]; rfl) (by decide) rfl (fun ls hl => ?_)
                                have tx33 : x33.toInt = z5_42.toInt + 1 := by rw [ex33, Jvm.Kit.i32_add (by omega) (by omega)]; omega
                                refine lv_goto (tgt := 42) hx hb dX11_strayed_146 (by decide) ?_
                                exact ih42 x32 x33 _ _ _ (by omega) (by omega) hw (lv_sub hl [5, 6, 7, 1, 8, 0] rfl)
                              · have c132i := mt Int32.toInt_inj.mp c132
                                exfalso; omega
                        · have c81i := congrArg Int32.toInt c81
                          refine lv_aload_n hx hb dX11_strayed_84 rfl (lv_at hl 2 rfl) ?_
                          refine tg_get (ci := 10) (k := 4) (v := .ref (ad G (82))) hx hb hts hown hk hw (en10 (rfl : nk 78 = 10)) rfl inlX11 (by decide) wd108 rfl dX11_strayed_85 ?_
                          refine lv_iload hx hb dX11_strayed_88 (lv_at hl 6 rfl) ?_
                          have hv90 : vp_in z4_32 64 := vin ⟨by omega, by omega⟩
                          refine tg_iald hx hb hk hw (en164 (rfl : nk 82 = 164)) hv90 dX11_strayed_90 ?_
                          refine lv_topi (fun x34 ex34 => ?_)
                          refine lv_iload hx hb dX11_strayed_91 (lv_at hl 7 rfl) ?_
                          refine lv_icmp_ne (tgt := 100) hx hb dX11_strayed_93 (by decide) (fun c93 => ?_) (fun c93 => ?_)
                          · have ox34 := i32b x34
                            have c93i := mt Int32.toInt_inj.mp c93
                            refine lv_iload hx hb dX11_strayed_100 (lv_at hl 0 rfl) ?_
                            refine lv_goto (tgt := 127) hx hb dX11_strayed_102 (by decide) ?_
                            refine lv_istore (lv' := [(8, .int x26), (7, .int x26), (6, .int (0 : Int32)), (0, .ref (ad G (78))), (1, .int v), (2, .int w), (3, .int z3_42), (4, .int z4_32), (5, .int z5_42)]) hx hb dX11_strayed_127 hl (by decide) rfl (fun ls hl => ?_)
                            refine lv_iload_n hx hb dX11_strayed_129 rfl (lv_at hl 6 rfl) ?_
                            refine lv_iload hx hb dX11_strayed_130 (lv_at hl 2 rfl) ?_
                            refine lv_if_eq (tgt := 140) hx hb dX11_strayed_132 (by decide) (fun c132 => ?_) (fun c132 => ?_)
                            · have c132i := congrArg Int32.toInt c132
                              refine lv_iconst (v := 0) hx hb dX11_strayed_140 (by decide) ?_
                              refine lv_iadd hx hb dX11_strayed_141 ?_
                              refine lv_topi (fun x35 ex35 => ?_)
                              have oz3_42 := i32b z3_42
                              have tx35 : x35.toInt = z3_42.toInt + (0 : Int32).toInt := by rw [ex35]; exact Jvm.Kit.i32_add (by omega) (by omega)
                              refine lv_istore_n (lv' := [(3, .int x35), (8, .int x26), (7, .int x26), (6, .int (0 : Int32)), (0, .ref (ad G (78))), (1, .int v), (2, .int w), (4, .int z4_32), (5, .int z5_42)]) hx hb dX11_strayed_142 rfl hl (by decide) rfl (fun ls hl => ?_)
                              obtain ⟨x36, ex36⟩ : ∃ z : Int32, z = z5_42 + (1 : Int32) := ⟨_, rfl⟩
                              refine lv_iinc (v := x36) (lv' := [(5, .int x36), (3, .int x35), (8, .int x26), (7, .int x26), (6, .int (0 : Int32)), (0, .ref (ad G (78))), (1, .int v), (2, .int w), (4, .int z4_32)]) hx hb dX11_strayed_143 hl (k := 8) rfl (by rw [ex36]; rfl) (by decide) rfl (fun ls hl => ?_)
                              have tx36 : x36.toInt = z5_42.toInt + 1 := by rw [ex36, Jvm.Kit.i32_add (by omega) (by omega)]; omega
                              refine lv_goto (tgt := 42) hx hb dX11_strayed_146 (by decide) ?_
                              exact ih42 x35 x36 _ _ _ (by omega) (by omega) hw (lv_sub hl [5, 6, 7, 1, 8, 0] rfl)
                            · have c132i := mt Int32.toInt_inj.mp c132
                              exfalso; omega
                          · have ox34 := i32b x34
                            have c93i := congrArg Int32.toInt c93
                            refine lv_iconst (v := 0) hx hb dX11_strayed_96 (by decide) ?_
                            refine lv_goto (tgt := 127) hx hb dX11_strayed_97 (by decide) ?_
                            refine lv_istore (lv' := [(8, .int (0 : Int32)), (7, .int x26), (6, .int (0 : Int32)), (0, .ref (ad G (78))), (1, .int v), (2, .int w), (3, .int z3_42), (4, .int z4_32), (5, .int z5_42)]) hx hb dX11_strayed_127 hl (by decide) rfl (fun ls hl => ?_)
                            refine lv_iload_n hx hb dX11_strayed_129 rfl (lv_at hl 6 rfl) ?_
                            refine lv_iload hx hb dX11_strayed_130 (lv_at hl 2 rfl) ?_
                            refine lv_if_eq (tgt := 140) hx hb dX11_strayed_132 (by decide) (fun c132 => ?_) (fun c132 => ?_)
                            · have c132i := congrArg Int32.toInt c132
                              refine lv_iconst (v := 0) hx hb dX11_strayed_140 (by decide) ?_
                              refine lv_iadd hx hb dX11_strayed_141 ?_
                              refine lv_topi (fun x37 ex37 => ?_)
                              have oz3_42 := i32b z3_42
                              have tx37 : x37.toInt = z3_42.toInt + (0 : Int32).toInt := by rw [ex37]; exact Jvm.Kit.i32_add (by omega) (by omega)
                              refine lv_istore_n (lv' := [(3, .int x37), (8, .int (0 : Int32)), (7, .int x26), (6, .int (0 : Int32)), (0, .ref (ad G (78))), (1, .int v), (2, .int w), (4, .int z4_32), (5, .int z5_42)]) hx hb dX11_strayed_142 rfl hl (by decide) rfl (fun ls hl => ?_)
                              obtain ⟨x38, ex38⟩ : ∃ z : Int32, z = z5_42 + (1 : Int32) := ⟨_, rfl⟩
                              refine lv_iinc (v := x38) (lv' := [(5, .int x38), (3, .int x37), (8, .int (0 : Int32)), (7, .int x26), (6, .int (0 : Int32)), (0, .ref (ad G (78))), (1, .int v), (2, .int w), (4, .int z4_32)]) hx hb dX11_strayed_143 hl (k := 8) rfl (by rw [ex38]; rfl) (by decide) rfl (fun ls hl => ?_)
                              have tx38 : x38.toInt = z5_42.toInt + 1 := by rw [ex38, Jvm.Kit.i32_add (by omega) (by omega)]; omega
                              refine lv_goto (tgt := 42) hx hb dX11_strayed_146 (by decide) ?_
                              exact ih42 x37 x38 _ _ _ (by omega) (by omega) hw (lv_sub hl [5, 6, 7, 1, 8, 0] rfl)
                            · have c132i := mt Int32.toInt_inj.mp c132
                              exfalso; omega
                      · have c56i := congrArg Int32.toInt c56
                        refine lv_iconst (v := 1) hx hb dX11_strayed_59 (by decide) ?_
                        refine lv_goto (tgt := 64) hx hb dX11_strayed_60 (by decide) ?_
                        refine lv_istore (lv' := [(6, .int (1 : Int32)), (0, .ref (ad G (78))), (1, .int v), (2, .int w), (3, .int z3_42), (4, .int z4_32), (5, .int z5_42)]) hx hb dX11_strayed_64 hl (by decide) rfl (fun ls hl => ?_)
                        refine lv_aload_n hx hb dX11_strayed_66 rfl (lv_at hl 1 rfl) ?_
                        refine tg_get (ci := 10) (k := 1) (v := .ref (ad G (80))) hx hb hts hown hk hw (en10 (rfl : nk 78 = 10)) rfl inlX11 (by decide) wd106 rfl dX11_strayed_67 ?_
                        refine lv_iconst (v := 4) hx hb dX11_strayed_70 (by decide) ?_
                        refine lv_iload hx hb dX11_strayed_71 (lv_at hl 5 rfl) ?_
                        refine lv_imul hx hb dX11_strayed_73 ?_
                        refine lv_topi (fun x39 ex39 => ?_)
                        have tx39 : x39.toInt = 4 * z4_32.toInt := by rw [ex39, Jvm.Kit.i32_mul (by rw [L4]; omega) (by rw [L4]; omega), L4]
                        refine lv_iload hx hb dX11_strayed_74 (lv_at hl 6 rfl) ?_
                        refine lv_iadd hx hb dX11_strayed_76 ?_
                        refine lv_topi (fun x40 ex40 => ?_)
                        have tx40 : x40.toInt = x39.toInt + z5_42.toInt := by rw [ex40]; exact Jvm.Kit.i32_add (by omega) (by omega)
                        have hv77 : vp_in x40 256 := vin ⟨by omega, by omega⟩
                        refine tg_iald hx hb hk hw (en356 (rfl : nk 80 = 356)) hv77 dX11_strayed_77 ?_
                        refine lv_topi (fun x41 ex41 => ?_)
                        refine lv_istore (lv' := [(7, .int x41), (6, .int (1 : Int32)), (0, .ref (ad G (78))), (1, .int v), (2, .int w), (3, .int z3_42), (4, .int z4_32), (5, .int z5_42)]) hx hb dX11_strayed_78 hl (by decide) rfl (fun ls hl => ?_)
                        refine lv_iload_n hx hb dX11_strayed_80 rfl (lv_at hl 4 rfl) ?_
                        refine lv_if_ne (tgt := 105) hx hb dX11_strayed_81 (by decide) (fun c81 => ?_) (fun c81 => ?_)
                        · have c81i := mt Int32.toInt_inj.mp c81
                          refine lv_aload_n hx hb dX11_strayed_105 rfl (lv_at hl 2 rfl) ?_
                          refine tg_get (ci := 10) (k := 4) (v := .ref (ad G (82))) hx hb hts hown hk hw (en10 (rfl : nk 78 = 10)) rfl inlX11 (by decide) wd108 rfl dX11_strayed_106 ?_
                          refine lv_iload hx hb dX11_strayed_109 (lv_at hl 6 rfl) ?_
                          have hv111 : vp_in z4_32 64 := vin ⟨by omega, by omega⟩
                          refine tg_iald hx hb hk hw (en164 (rfl : nk 82 = 164)) hv111 dX11_strayed_111 ?_
                          refine lv_topi (fun x42 ex42 => ?_)
                          refine lv_iload hx hb dX11_strayed_112 (lv_at hl 7 rfl) ?_
                          refine lv_icmp_ne (tgt := 126) hx hb dX11_strayed_114 (by decide) (fun c114 => ?_) (fun c114 => ?_)
                          · have ox42 := i32b x42
                            have c114i := mt Int32.toInt_inj.mp c114
                            refine lv_iconst (v := 0) hx hb dX11_strayed_126 (by decide) ?_
                            refine lv_istore (lv' := [(8, .int (0 : Int32)), (7, .int x41), (6, .int (1 : Int32)), (0, .ref (ad G (78))), (1, .int v), (2, .int w), (3, .int z3_42), (4, .int z4_32), (5, .int z5_42)]) hx hb dX11_strayed_127 hl (by decide) rfl (fun ls hl => ?_)
                            refine lv_iload_n hx hb dX11_strayed_129 rfl (lv_at hl 6 rfl) ?_
                            refine lv_iload hx hb dX11_strayed_130 (lv_at hl 2 rfl) ?_
                            refine lv_if_eq (tgt := 140) hx hb dX11_strayed_132 (by decide) (fun c132 => ?_) (fun c132 => ?_)
                            · have c132i := congrArg Int32.toInt c132
                              exfalso; omega
                            · have c132i := mt Int32.toInt_inj.mp c132
                              refine lv_iload hx hb dX11_strayed_135 (lv_at hl 0 rfl) ?_
                              refine lv_goto (tgt := 141) hx hb dX11_strayed_137 (by decide) ?_
                              refine lv_iadd hx hb dX11_strayed_141 ?_
                              refine lv_topi (fun x43 ex43 => ?_)
                              have oz3_42 := i32b z3_42
                              have tx43 : x43.toInt = z3_42.toInt + (0 : Int32).toInt := by rw [ex43]; exact Jvm.Kit.i32_add (by omega) (by omega)
                              refine lv_istore_n (lv' := [(3, .int x43), (8, .int (0 : Int32)), (7, .int x41), (6, .int (1 : Int32)), (0, .ref (ad G (78))), (1, .int v), (2, .int w), (4, .int z4_32), (5, .int z5_42)]) hx hb dX11_strayed_142 rfl hl (by decide) rfl (fun ls hl => ?_)
                              obtain ⟨x44, ex44⟩ : ∃ z : Int32, z = z5_42 + (1 : Int32) := ⟨_, rfl⟩
                              refine lv_iinc (v := x44) (lv' := [(5, .int x44), (3, .int x43), (8, .int (0 : Int32)), (7, .int x41), (6, .int (1 : Int32)), (0, .ref (ad G (78))), (1, .int v), (2, .int w), (4, .int z4_32)]) hx hb dX11_strayed_143 hl (k := 8) rfl (by rw [ex44]; rfl) (by decide) rfl (fun ls hl => ?_)
                              have tx44 : x44.toInt = z5_42.toInt + 1 := by rw [ex44, Jvm.Kit.i32_add (by omega) (by omega)]; omega
                              refine lv_goto (tgt := 42) hx hb dX11_strayed_146 (by decide) ?_
                              exact ih42 x43 x44 _ _ _ (by omega) (by omega) hw (lv_sub hl [5, 6, 7, 1, 8, 0] rfl)
                          · have ox42 := i32b x42
                            have c114i := congrArg Int32.toInt c114
                            refine lv_iload hx hb dX11_strayed_117 (lv_at hl 0 rfl) ?_
                            refine lv_if_ne (tgt := 126) hx hb dX11_strayed_119 (by decide) (fun c119 => ?_) (fun c119 => ?_)
                            · have c119i := mt Int32.toInt_inj.mp c119
                              refine lv_iconst (v := 0) hx hb dX11_strayed_126 (by decide) ?_
                              refine lv_istore (lv' := [(8, .int (0 : Int32)), (7, .int x41), (6, .int (1 : Int32)), (0, .ref (ad G (78))), (1, .int v), (2, .int w), (3, .int z3_42), (4, .int z4_32), (5, .int z5_42)]) hx hb dX11_strayed_127 hl (by decide) rfl (fun ls hl => ?_)
                              refine lv_iload_n hx hb dX11_strayed_129 rfl (lv_at hl 6 rfl) ?_
                              refine lv_iload hx hb dX11_strayed_130 (lv_at hl 2 rfl) ?_
                              refine lv_if_eq (tgt := 140) hx hb dX11_strayed_132 (by decide) (fun c132 => ?_) (fun c132 => ?_)
                              · have c132i := congrArg Int32.toInt c132
                                exfalso; omega
                              · have c132i := mt Int32.toInt_inj.mp c132
                                refine lv_iload hx hb dX11_strayed_135 (lv_at hl 0 rfl) ?_
                                refine lv_goto (tgt := 141) hx hb dX11_strayed_137 (by decide) ?_
                                refine lv_iadd hx hb dX11_strayed_141 ?_
                                refine lv_topi (fun x45 ex45 => ?_)
                                have oz3_42 := i32b z3_42
                                have tx45 : x45.toInt = z3_42.toInt + (0 : Int32).toInt := by rw [ex45]; exact Jvm.Kit.i32_add (by omega) (by omega)
                                refine lv_istore_n (lv' := [(3, .int x45), (8, .int (0 : Int32)), (7, .int x41), (6, .int (1 : Int32)), (0, .ref (ad G (78))), (1, .int v), (2, .int w), (4, .int z4_32), (5, .int z5_42)]) hx hb dX11_strayed_142 rfl hl (by decide) rfl (fun ls hl => ?_)
                                obtain ⟨x46, ex46⟩ : ∃ z : Int32, z = z5_42 + (1 : Int32) := ⟨_, rfl⟩
                                refine lv_iinc (v := x46) (lv' := [(5, .int x46), (3, .int x45), (8, .int (0 : Int32)), (7, .int x41), (6, .int (1 : Int32)), (0, .ref (ad G (78))), (1, .int v), (2, .int w), (4, .int z4_32)]) hx hb dX11_strayed_143 hl (k := 8) rfl (by rw [ex46]; rfl) (by decide) rfl (fun ls hl => ?_)
                                have tx46 : x46.toInt = z5_42.toInt + 1 := by rw [ex46, Jvm.Kit.i32_add (by omega) (by omega)]; omega
                                refine lv_goto (tgt := 42) hx hb dX11_strayed_146 (by decide) ?_
                                exact ih42 x45 x46 _ _ _ (by omega) (by omega) hw (lv_sub hl [5, 6, 7, 1, 8, 0] rfl)
                            · have c119i := congrArg Int32.toInt c119
                              refine lv_iconst (v := 1) hx hb dX11_strayed_122 (by decide) ?_
                              refine lv_goto (tgt := 127) hx hb dX11_strayed_123 (by decide) ?_
                              refine lv_istore (lv' := [(8, .int (1 : Int32)), (7, .int x41), (6, .int (1 : Int32)), (0, .ref (ad G (78))), (1, .int v), (2, .int w), (3, .int z3_42), (4, .int z4_32), (5, .int z5_42)]) hx hb dX11_strayed_127 hl (by decide) rfl (fun ls hl => ?_)
                              refine lv_iload_n hx hb dX11_strayed_129 rfl (lv_at hl 6 rfl) ?_
                              refine lv_iload hx hb dX11_strayed_130 (lv_at hl 2 rfl) ?_
                              refine lv_if_eq (tgt := 140) hx hb dX11_strayed_132 (by decide) (fun c132 => ?_) (fun c132 => ?_)
                              · have c132i := congrArg Int32.toInt c132
                                exfalso; omega
                              · have c132i := mt Int32.toInt_inj.mp c132
                                refine lv_iload hx hb dX11_strayed_135 (lv_at hl 0 rfl) ?_
                                refine lv_goto (tgt := 141) hx hb dX11_strayed_137 (by decide) ?_
                                refine lv_iadd hx hb dX11_strayed_141 ?_
                                refine lv_topi (fun x47 ex47 => ?_)
                                refine lv_istore_n (lv' := [(3, .int x47), (8, .int (1 : Int32)), (7, .int x41), (6, .int (1 : Int32)), (0, .ref (ad G (78))), (1, .int v), (2, .int w), (4, .int z4_32), (5, .int z5_42)]) hx hb dX11_strayed_142 rfl hl (by decide) rfl (fun ls hl => ?_)
                                obtain ⟨x48, ex48⟩ : ∃ z : Int32, z = z5_42 + (1 : Int32) := ⟨_, rfl⟩
                                refine lv_iinc (v := x48) (lv' := [(5, .int x48), (3, .int x47), (8, .int (1 : Int32)), (7, .int x41), (6, .int (1 : Int32)), (0, .ref (ad G (78))), (1, .int v), (2, .int w), (4, .int z4_32)]) hx hb dX11_strayed_143 hl (k := 8) rfl (by rw [ex48]; rfl) (by decide) rfl (fun ls hl => ?_)
                                have tx48 : x48.toInt = z5_42.toInt + 1 := by rw [ex48, Jvm.Kit.i32_add (by omega) (by omega)]; omega
                                refine lv_goto (tgt := 42) hx hb dX11_strayed_146 (by decide) ?_
                                exact ih42 x47 x48 _ _ _ (by omega) (by omega) hw (lv_sub hl [5, 6, 7, 1, 8, 0] rfl)
                        · have c81i := congrArg Int32.toInt c81
                          refine lv_aload_n hx hb dX11_strayed_84 rfl (lv_at hl 2 rfl) ?_
                          refine tg_get (ci := 10) (k := 4) (v := .ref (ad G (82))) hx hb hts hown hk hw (en10 (rfl : nk 78 = 10)) rfl inlX11 (by decide) wd108 rfl dX11_strayed_85 ?_
                          refine lv_iload hx hb dX11_strayed_88 (lv_at hl 6 rfl) ?_
                          have hv90 : vp_in z4_32 64 := vin ⟨by omega, by omega⟩
                          refine tg_iald hx hb hk hw (en164 (rfl : nk 82 = 164)) hv90 dX11_strayed_90 ?_
                          refine lv_topi (fun x49 ex49 => ?_)
                          refine lv_iload hx hb dX11_strayed_91 (lv_at hl 7 rfl) ?_
                          refine lv_icmp_ne (tgt := 100) hx hb dX11_strayed_93 (by decide) (fun c93 => ?_) (fun c93 => ?_)
                          · have ox49 := i32b x49
                            have c93i := mt Int32.toInt_inj.mp c93
                            refine lv_iload hx hb dX11_strayed_100 (lv_at hl 0 rfl) ?_
                            refine lv_goto (tgt := 127) hx hb dX11_strayed_102 (by decide) ?_
                            refine lv_istore (lv' := [(8, .int x41), (7, .int x41), (6, .int (1 : Int32)), (0, .ref (ad G (78))), (1, .int v), (2, .int w), (3, .int z3_42), (4, .int z4_32), (5, .int z5_42)]) hx hb dX11_strayed_127 hl (by decide) rfl (fun ls hl => ?_)
                            refine lv_iload_n hx hb dX11_strayed_129 rfl (lv_at hl 6 rfl) ?_
                            refine lv_iload hx hb dX11_strayed_130 (lv_at hl 2 rfl) ?_
                            refine lv_if_eq (tgt := 140) hx hb dX11_strayed_132 (by decide) (fun c132 => ?_) (fun c132 => ?_)
                            · have c132i := congrArg Int32.toInt c132
                              exfalso; omega
                            · have c132i := mt Int32.toInt_inj.mp c132
                              refine lv_iload hx hb dX11_strayed_135 (lv_at hl 0 rfl) ?_
                              refine lv_goto (tgt := 141) hx hb dX11_strayed_137 (by decide) ?_
                              refine lv_iadd hx hb dX11_strayed_141 ?_
                              refine lv_topi (fun x50 ex50 => ?_)
                              refine lv_istore_n (lv' := [(3, .int x50), (8, .int x41), (7, .int x41), (6, .int (1 : Int32)), (0, .ref (ad G (78))), (1, .int v), (2, .int w), (4, .int z4_32), (5, .int z5_42)]) hx hb dX11_strayed_142 rfl hl (by decide) rfl (fun ls hl => ?_)
                              obtain ⟨x51, ex51⟩ : ∃ z : Int32, z = z5_42 + (1 : Int32) := ⟨_, rfl⟩
                              refine lv_iinc (v := x51) (lv' := [(5, .int x51), (3, .int x50), (8, .int x41), (7, .int x41), (6, .int (1 : Int32)), (0, .ref (ad G (78))), (1, .int v), (2, .int w), (4, .int z4_32)]) hx hb dX11_strayed_143 hl (k := 8) rfl (by rw [ex51]; rfl) (by decide) rfl (fun ls hl => ?_)
                              have tx51 : x51.toInt = z5_42.toInt + 1 := by rw [ex51, Jvm.Kit.i32_add (by omega) (by omega)]; omega
                              refine lv_goto (tgt := 42) hx hb dX11_strayed_146 (by decide) ?_
                              exact ih42 x50 x51 _ _ _ (by omega) (by omega) hw (lv_sub hl [5, 6, 7, 1, 8, 0] rfl)
                          · have ox49 := i32b x49
                            have c93i := congrArg Int32.toInt c93
                            refine lv_iconst (v := 0) hx hb dX11_strayed_96 (by decide) ?_
                            refine lv_goto (tgt := 127) hx hb dX11_strayed_97 (by decide) ?_
                            refine lv_istore (lv' := [(8, .int (0 : Int32)), (7, .int x41), (6, .int (1 : Int32)), (0, .ref (ad G (78))), (1, .int v), (2, .int w), (3, .int z3_42), (4, .int z4_32), (5, .int z5_42)]) hx hb dX11_strayed_127 hl (by decide) rfl (fun ls hl => ?_)
                            refine lv_iload_n hx hb dX11_strayed_129 rfl (lv_at hl 6 rfl) ?_
                            refine lv_iload hx hb dX11_strayed_130 (lv_at hl 2 rfl) ?_
                            refine lv_if_eq (tgt := 140) hx hb dX11_strayed_132 (by decide) (fun c132 => ?_) (fun c132 => ?_)
                            · have c132i := congrArg Int32.toInt c132
                              exfalso; omega
                            · have c132i := mt Int32.toInt_inj.mp c132
                              refine lv_iload hx hb dX11_strayed_135 (lv_at hl 0 rfl) ?_
                              refine lv_goto (tgt := 141) hx hb dX11_strayed_137 (by decide) ?_
                              refine lv_iadd hx hb dX11_strayed_141 ?_
                              refine lv_topi (fun x52 ex52 => ?_)
                              have oz3_42 := i32b z3_42
                              have tx52 : x52.toInt = z3_42.toInt + (0 : Int32).toInt := by rw [ex52]; exact Jvm.Kit.i32_add (by omega) (by omega)
                              refine lv_istore_n (lv' := [(3, .int x52), (8, .int (0 : Int32)), (7, .int x41), (6, .int (1 : Int32)), (0, .ref (ad G (78))), (1, .int v), (2, .int w), (4, .int z4_32), (5, .int z5_42)]) hx hb dX11_strayed_142 rfl hl (by decide) rfl (fun ls hl => ?_)
                              obtain ⟨x53, ex53⟩ : ∃ z : Int32, z = z5_42 + (1 : Int32) := ⟨_, rfl⟩
                              refine lv_iinc (v := x53) (lv' := [(5, .int x53), (3, .int x52), (8, .int (0 : Int32)), (7, .int x41), (6, .int (1 : Int32)), (0, .ref (ad G (78))), (1, .int v), (2, .int w), (4, .int z4_32)]) hx hb dX11_strayed_143 hl (k := 8) rfl (by rw [ex53]; rfl) (by decide) rfl (fun ls hl => ?_)
                              have tx53 : x53.toInt = z5_42.toInt + 1 := by rw [ex53, Jvm.Kit.i32_add (by omega) (by omega)]; omega
                              refine lv_goto (tgt := 42) hx hb dX11_strayed_146 (by decide) ?_
                              exact ih42 x52 x53 _ _ _ (by omega) (by omega) hw (lv_sub hl [5, 6, 7, 1, 8, 0] rfl)
              exact cut42 ((((4 - (0 : Int32).toInt).toNat : Int)).toNat + 1) z3_32 (0 : Int32) _ _ _ (by omega) (by omega) hw (lv_sub hl [1, 2, 3, 4, 5, 0] rfl)
        exact cut32 ((((64 - (0 : Int32).toInt).toNat : Int)).toNat + 1) (0 : Int32) (0 : Int32) _ _ _ (by omega) (by omega) hw (lv_sub hl [2, 3, 4, 1, 0] rfl)
      · have c21i := congrArg Int32.toInt c21
        have p21 := bz0 hr22 c21
        refine lv_bipush (v := -2) hx hb dX11_strayed_24 (by decide) ?_
        exact ret (-2 : Int32) σ _ _ 26 _ (rfl) (⟨rfl, trivial⟩) hw dX11_strayed_26
    · have c9i := congrArg Int32.toInt c9
      have p9 := bz0 hr20 c9
      refine lv_iconst (v := -1) hx hb dX11_strayed_12 (by decide) ?_
      exact ret (-1 : Int32) σ _ _ 13 _ (rfl) (⟨rfl, trivial⟩) hw dX11_strayed_13
set_option maxHeartbeats 4000000 in
set_option maxRecDepth 100000 in
theorem c_X11_isAsNow (l : Launch) (G : Gg) (hG : Ginj G) (σ : Sg) (hI0 : Inv σ) : MI l G yX11_isAsNow cX11_isAsNow 3 .boolean (rmO 0 0) σ [.ref (ad G (78))] (fun r σ' => σ' = σ ∧ (True)) := by
  refine MI.of (by decide +kernel) (Nat.le_of_ble_eq_true rfl) ?_
  intro p e s m a below meth c ls Q hx hb hml hts hown hk hw ret hl
  have hown : s.vm.findClass RX11 = some m.cls := hown
  have hl : lv_has ls 3 [(0, .ref (ad G (78)))] := hl
  have hI : K0 σ σ := K0.rf hI0
  have L0 : (0 : Int32).toInt = 0 := by decide
  have L1 : (1 : Int32).toInt = 1 := by decide
  have L256 : (256 : Int32).toInt = 256 := by decide
  generalize hHe : s.heap = H at hw ⊢
  generalize hLe : ([] : List Loc) = locs at hw ⊢
  refine lv_iconst (v := 1) hx hb dX11_isAsNow_0 (by decide) ?_
  refine lv_istore_n (lv' := [(1, .int (1 : Int32)), (0, .ref (ad G (78)))]) hx hb dX11_isAsNow_1 rfl hl (by decide) rfl (fun ls hl => ?_)
  refine lv_iconst (v := 0) hx hb dX11_isAsNow_2 (by decide) ?_
  refine lv_istore_n (lv' := [(2, .int (0 : Int32)), (1, .int (1 : Int32)), (0, .ref (ad G (78)))]) hx hb dX11_isAsNow_3 rfl hl (by decide) rfl (fun ls hl => ?_)
  have cut4 : ∀ (n : Nat) (z1_4 : Int32) (z2_4 : Int32) (H : Heap) (locs : List Loc) (ls : Array Slot), (0 ≤ z2_4.toInt ∧ z2_4.toInt ≤ 256) → (z1_4 = 0 ∨ z1_4 = 1) → ((256 - z2_4.toInt).toNat : Int) < (n : Int) → Wo G σ s H locs → lv_has ls 3 [(0, .ref (ad G (78))), (1, .int z1_4), (2, .int z2_4)] → W p l e (rmO 0 0) s m a below meth c H locs 0 0 Q (F0 m 4 ls []) := by
    intro n4
    induction n4 with
    | zero =>
      intro z1_4 z2_4 H locs ls f4_0 f4_1 hm4 hw hl
      exfalso; omega
    | succ n4 ih4 =>
      intro z1_4 z2_4 H locs ls f4_0 f4_1 hm4 hw hl
      refine lv_iload_n hx hb dX11_isAsNow_4 rfl (lv_at hl 2 rfl) ?_
      refine lv_sipush (v := 256) hx hb dX11_isAsNow_5 (by decide) ?_
      refine lv_icmp_ge (tgt := 42) hx hb dX11_isAsNow_8 (by decide) (fun c8 => ?_) (fun c8 => ?_)
      · have c8i := Int32.le_iff_toInt_le.mp c8
        refine lv_iload_n hx hb dX11_isAsNow_42 rfl (lv_at hl 1 rfl) ?_
        exact ret z1_4 σ _ _ 43 _ (by rcases f4_1 with q | q <;> rw [q] <;> rfl) (⟨rfl, trivial⟩) hw dX11_isAsNow_43
      · have c8i := mt Int32.le_iff_toInt_le.mpr c8
        refine lv_iload_n hx hb dX11_isAsNow_11 rfl (lv_at hl 1 rfl) ?_
        refine lv_if_eq (tgt := 42) hx hb dX11_isAsNow_12 (by decide) (fun c12 => ?_) (fun c12 => ?_)
        · have c12i := congrArg Int32.toInt c12
          refine lv_iload_n hx hb dX11_isAsNow_42 rfl (lv_at hl 1 rfl) ?_
          exact ret z1_4 σ _ _ 43 _ (by rcases f4_1 with q | q <;> rw [q] <;> rfl) (⟨rfl, trivial⟩) hw dX11_isAsNow_43
        · have c12i := mt Int32.toInt_inj.mp c12
          refine lv_aload_n hx hb dX11_isAsNow_15 rfl (lv_at hl 0 rfl) ?_
          refine tg_get (ci := 10) (k := 9) (v := .ref (ad G (86))) hx hb hts hown hk hw (en10 (rfl : nk 78 = 10)) rfl inlX11 (by decide) wd112 rfl dX11_isAsNow_16 ?_
          refine lv_iload_n hx hb dX11_isAsNow_19 rfl (lv_at hl 2 rfl) ?_
          have hv20 : vp_in z2_4 256 := vin ⟨by omega, by omega⟩
          refine tg_iald hx hb hk hw (en356 (rfl : nk 86 = 356)) hv20 dX11_isAsNow_20 ?_
          refine lv_topi (fun x1 ex1 => ?_)
          refine lv_aload_n hx hb dX11_isAsNow_21 rfl (lv_at hl 0 rfl) ?_
          refine tg_get (ci := 10) (k := 1) (v := .ref (ad G (80))) hx hb hts hown hk hw (en10 (rfl : nk 78 = 10)) rfl inlX11 (by decide) wd106 rfl dX11_isAsNow_22 ?_
          refine lv_iload_n hx hb dX11_isAsNow_25 rfl (lv_at hl 2 rfl) ?_
          have hv26 : vp_in z2_4 256 := vin ⟨by omega, by omega⟩
          refine tg_iald hx hb hk hw (en356 (rfl : nk 80 = 356)) hv26 dX11_isAsNow_26 ?_
          refine lv_topi (fun x2 ex2 => ?_)
          refine lv_icmp_ne (tgt := 34) hx hb dX11_isAsNow_27 (by decide) (fun c27 => ?_) (fun c27 => ?_)
          · have ox1 := i32b x1
            have ox2 := i32b x2
            have c27i := mt Int32.toInt_inj.mp c27
            refine lv_iconst (v := 0) hx hb dX11_isAsNow_34 (by decide) ?_
            refine lv_istore_n (lv' := [(1, .int (0 : Int32)), (0, .ref (ad G (78))), (2, .int z2_4)]) hx hb dX11_isAsNow_35 rfl hl (by decide) rfl (fun ls hl => ?_)
            obtain ⟨x3, ex3⟩ : ∃ z : Int32, z = z2_4 + (1 : Int32) := ⟨_, rfl⟩
            refine lv_iinc (v := x3) (lv' := [(2, .int x3), (1, .int (0 : Int32)), (0, .ref (ad G (78)))]) hx hb dX11_isAsNow_36 hl (k := 2) rfl (by rw [ex3]; rfl) (by decide) rfl (fun ls hl => ?_)
            have tx3 : x3.toInt = z2_4.toInt + 1 := by rw [ex3, Jvm.Kit.i32_add (by omega) (by omega)]; omega
            refine lv_goto (tgt := 4) hx hb dX11_isAsNow_39 (by decide) ?_
            exact ih4 (0 : Int32) x3 _ _ _ (by omega) (by first | exact Or.inl rfl | exact Or.inr rfl) (by omega) hw (lv_sub hl [2, 1, 0] rfl)
          · have ox1 := i32b x1
            have ox2 := i32b x2
            have c27i := congrArg Int32.toInt c27
            refine lv_iconst (v := 1) hx hb dX11_isAsNow_30 (by decide) ?_
            refine lv_goto (tgt := 35) hx hb dX11_isAsNow_31 (by decide) ?_
            refine lv_istore_n (lv' := [(1, .int (1 : Int32)), (0, .ref (ad G (78))), (2, .int z2_4)]) hx hb dX11_isAsNow_35 rfl hl (by decide) rfl (fun ls hl => ?_)
            obtain ⟨x4, ex4⟩ : ∃ z : Int32, z = z2_4 + (1 : Int32) := ⟨_, rfl⟩
            refine lv_iinc (v := x4) (lv' := [(2, .int x4), (1, .int (1 : Int32)), (0, .ref (ad G (78)))]) hx hb dX11_isAsNow_36 hl (k := 2) rfl (by rw [ex4]; rfl) (by decide) rfl (fun ls hl => ?_)
            have tx4 : x4.toInt = z2_4.toInt + 1 := by rw [ex4, Jvm.Kit.i32_add (by omega) (by omega)]; omega
            refine lv_goto (tgt := 4) hx hb dX11_isAsNow_39 (by decide) ?_
            exact ih4 (1 : Int32) x4 _ _ _ (by omega) (by first | exact Or.inl rfl | exact Or.inr rfl) (by omega) hw (lv_sub hl [2, 1, 0] rfl)
  exact cut4 ((((256 - (0 : Int32).toInt).toNat : Int)).toNat + 1) (1 : Int32) (0 : Int32) _ _ _ (by omega) (by first | exact Or.inl rfl | exact Or.inr rfl) (by omega) hw (lv_sub hl [2, 1, 0] rfl)
set_option maxHeartbeats 4000000 in
set_option maxRecDepth 100000 in
theorem c_X11_layImage (l : Launch) (G : Gg) (hG : Ginj G) (σ : Sg) (hI0 : Inv σ) (v : Int32) (g1 : 0 ≤ v.toInt ∧ v.toInt ≤ 1) : MV l G yX11_layImage cX11_layImage 4 (rmO 0 0) σ [.ref (ad G (78)), .int v] (fun σ' => K0 σ σ' ∧ (True)) := by
  refine MV.of (by decide +kernel) (Nat.le_of_ble_eq_true rfl) ?_
  intro p e s m a below meth c ls Q hx hb hml hts hown hk hw ret hl
  have hown : s.vm.findClass RX11 = some m.cls := hown
  have hl : lv_has ls 4 [(0, .ref (ad G (78))), (1, .int v)] := hl
  have hI : K0 σ σ := K0.rf hI0
  have L0 : (0 : Int32).toInt = 0 := by decide
  have L1 : (1 : Int32).toInt = 1 := by decide
  have L4 : (4 : Int32).toInt = 4 := by decide
  have L32 : (32 : Int32).toInt = 32 := by decide
  have L256 : (256 : Int32).toInt = 256 := by decide
  have L400 : (400 : Int32).toInt = 400 := by decide
  generalize hHe : s.heap = H at hw ⊢
  generalize hLe : ([] : List Loc) = locs at hw ⊢
  refine lv_sipush (v := 400) hx hb dX11_layImage_0 (by decide) ?_
  refine lv_iload_n hx hb dX11_layImage_3 rfl (lv_at hl 1 rfl) ?_
  refine lv_imul hx hb dX11_layImage_4 ?_
  refine lv_topi (fun x1 ex1 => ?_)
  have tx1 : x1.toInt = 400 * v.toInt := by rw [ex1, Jvm.Kit.i32_mul (by rw [L400]; omega) (by rw [L400]; omega), L400]
  refine lv_istore_n (lv' := [(2, .int x1), (0, .ref (ad G (78))), (1, .int v)]) hx hb dX11_layImage_5 rfl hl (by decide) rfl (fun ls hl => ?_)
  refine lv_iconst (v := 0) hx hb dX11_layImage_6 (by decide) ?_
  refine lv_istore_n (lv' := [(3, .int (0 : Int32)), (2, .int x1), (0, .ref (ad G (78))), (1, .int v)]) hx hb dX11_layImage_7 rfl hl (by decide) rfl (fun ls hl => ?_)
  have cut8 : ∀ (n : Nat) (z3_8 : Int32) (σc8 : Sg) (H : Heap) (locs : List Loc) (ls : Array Slot), (0 ≤ z3_8.toInt ∧ z3_8.toInt ≤ 32) → K0 σ σc8 → ((32 - z3_8.toInt).toNat : Int) < (n : Int) → Wo G σc8 s H locs → lv_has ls 4 [(0, .ref (ad G (78))), (1, .int v), (2, .int x1), (3, .int z3_8)] → W p l e (rmO 0 0) s m a below meth c H locs 0 0 Q (F0 m 8 ls []) := by
    intro n8
    induction n8 with
    | zero =>
      intro z3_8 σc8 H locs ls f8_0 hI hm8 hw hl
      exfalso; omega
    | succ n8 ih8 =>
      intro z3_8 σc8 H locs ls f8_0 hI hm8 hw hl
      refine lv_iload_n hx hb dX11_layImage_8 rfl (lv_at hl 3 rfl) ?_
      refine lv_bipush (v := 32) hx hb dX11_layImage_9 (by decide) ?_
      refine lv_icmp_ge (tgt := 34) hx hb dX11_layImage_11 (by decide) (fun c11 => ?_) (fun c11 => ?_)
      · have c11i := Int32.le_iff_toInt_le.mp c11
        obtain ⟨x2, ex2⟩ : ∃ z : Int32, z = x1 + (32 : Int32) := ⟨_, rfl⟩
        refine lv_iinc (v := x2) (lv' := [(2, .int x2), (0, .ref (ad G (78))), (1, .int v), (3, .int z3_8)]) hx hb dX11_layImage_34 hl (k := 2) rfl (by rw [ex2]; rfl) (by decide) rfl (fun ls hl => ?_)
        have tx2 : x2.toInt = x1.toInt + 32 := by rw [ex2, Jvm.Kit.i32_add (by omega) (by omega)]; omega
        refine lv_iconst (v := 0) hx hb dX11_layImage_37 (by decide) ?_
        refine lv_istore_n (lv' := [(3, .int (0 : Int32)), (2, .int x2), (0, .ref (ad G (78))), (1, .int v)]) hx hb dX11_layImage_38 rfl hl (by decide) rfl (fun ls hl => ?_)
        have cut39 : ∀ (n : Nat) (z3_39 : Int32) (σc39 : Sg) (H : Heap) (locs : List Loc) (ls : Array Slot), (0 ≤ z3_39.toInt ∧ z3_39.toInt ≤ 256) → K0 σ σc39 → ((256 - z3_39.toInt).toNat : Int) < (n : Int) → Wo G σc39 s H locs → lv_has ls 4 [(0, .ref (ad G (78))), (1, .int v), (2, .int x2), (3, .int z3_39)] → W p l e (rmO 0 0) s m a below meth c H locs 0 0 Q (F0 m 39 ls []) := by
          intro n39
          induction n39 with
          | zero =>
            intro z3_39 σc39 H locs ls f39_0 hI hm39 hw hl
            exfalso; omega
          | succ n39 ih39 =>
            intro z3_39 σc39 H locs ls f39_0 hI hm39 hw hl
            refine lv_iload_n hx hb dX11_layImage_39 rfl (lv_at hl 3 rfl) ?_
            refine lv_sipush (v := 256) hx hb dX11_layImage_40 (by decide) ?_
            refine lv_icmp_ge (tgt := 66) hx hb dX11_layImage_43 (by decide) (fun c43 => ?_) (fun c43 => ?_)
            · have c43i := Int32.le_iff_toInt_le.mp c43
              obtain ⟨x3, ex3⟩ : ∃ z : Int32, z = x2 + (256 : Int32) := ⟨_, rfl⟩
              refine lv_iincW (v := x3) (lv' := [(2, .int x3), (0, .ref (ad G (78))), (1, .int v), (3, .int z3_39)]) hx hb dX11_layImage_66 hl (k := 2) rfl (by rw [ex3]; rfl) (by decide) rfl (fun ls hl => ?_)
              have tx3 : x3.toInt = x2.toInt + 256 := by rw [ex3, Jvm.Kit.i32_add (by omega) (by omega)]; omega
              refine lv_iconst (v := 0) hx hb dX11_layImage_72 (by decide) ?_
              refine lv_istore_n (lv' := [(3, .int (0 : Int32)), (2, .int x3), (0, .ref (ad G (78))), (1, .int v)]) hx hb dX11_layImage_73 rfl hl (by decide) rfl (fun ls hl => ?_)
              have cut74 : ∀ (n : Nat) (z3_74 : Int32) (σc74 : Sg) (H : Heap) (locs : List Loc) (ls : Array Slot), (0 ≤ z3_74.toInt ∧ z3_74.toInt ≤ 4) → K0 σ σc74 → ((4 - z3_74.toInt).toNat : Int) < (n : Int) → Wo G σc74 s H locs → lv_has ls 4 [(0, .ref (ad G (78))), (1, .int v), (2, .int x3), (3, .int z3_74)] → W p l e (rmO 0 0) s m a below meth c H locs 0 0 Q (F0 m 74 ls []) := by
                intro n74
                induction n74 with
                | zero =>
                  intro z3_74 σc74 H locs ls f74_0 hI hm74 hw hl
                  exfalso; omega
                | succ n74 ih74 =>
                  intro z3_74 σc74 H locs ls f74_0 hI hm74 hw hl
                  refine lv_iload_n hx hb dX11_layImage_74 rfl (lv_at hl 3 rfl) ?_
                  refine lv_iconst (v := 4) hx hb dX11_layImage_75 (by decide) ?_
                  refine lv_icmp_ge (tgt := 99) hx hb dX11_layImage_76 (by decide) (fun c76 => ?_) (fun c76 => ?_)
                  · have c76i := Int32.le_iff_toInt_le.mp c76
                    refine lv_aload_n hx hb dX11_layImage_99 rfl (lv_at hl 0 rfl) ?_
                    refine lv_aload_n hx hb dX11_layImage_100 rfl (lv_at hl 0 rfl) ?_
                    refine tg_get (ci := 10) (k := 21) (v := .ref (ad G (90))) hx hb hts hown hk hw (en10 (rfl : nk 78 = 10)) rfl inlX11 (by decide) wd116 rfl dX11_layImage_101 ?_
                    refine lv_iload_n hx hb dX11_layImage_104 rfl (lv_at hl 2 rfl) ?_
                    refine lv_iconst (v := 4) hx hb dX11_layImage_105 (by decide) ?_
                    refine lv_iadd hx hb dX11_layImage_106 ?_
                    refine lv_topi (fun x4 ex4 => ?_)
                    have tx4 : x4.toInt = x3.toInt + (4 : Int32).toInt := by rw [ex4]; exact Jvm.Kit.i32_add (by omega) (by omega)
                    have hv107 : vp_in x4 800 := vin ⟨by omega, by omega⟩
                    have kc107 := clI x4 (by omega)
                    refine tg_iald hx hb hk hw (en900 (rfl : nk 90 = 900)) hv107 dX11_layImage_107 ?_
                    refine lv_topi (fun x5 ex5 => ?_)
                    have bx5 : ∀ lo hi, rg 900 x4.toNatClampNeg = some (lo, hi) → lo ≤ x5.toInt ∧ x5.toInt ≤ hi := by rw [ex5]; exact hI.1 90 _
                    have w107 : 0 ≤ x5.toInt ∧ x5.toInt ≤ 4 := bx5 0 4 (rg900b (by omega))
                    refine tg_put (ci := 10) (k := 11) (σ' := up2 σc74 (78) 11 x5) hx hb hts hown hk hG hw tyX11 (en10 (rfl : nk 78 = 10)) rfl inlX11 tyX11_ok nmX11 (by decide) wd335 rfl rfl rfl (Nat.le_of_ble_eq_true rfl) (pu10_11 (rfl : nk 78 = 10)) (fun _ h => up2_ne h) dX11_layImage_108 (fun H locs hw => ?_)
                    obtain ⟨σ6, eσ6⟩ : ∃ z, z = up2 σc74 (78) 11 x5 := ⟨_, rfl⟩
                    rw [← eσ6] at hw
                    have hI : K0 σ σ6 := by rw [eσ6]; exact hI.up (rfl) (rg_is (by rw [(rfl : nk 78 = 10)]; rfl) (by omega) (by omega))
                    exact ret σ6 _ _ 111 _ (⟨hI, trivial⟩) hw dX11_layImage_111
                  · have c76i := mt Int32.le_iff_toInt_le.mpr c76
                    refine lv_aload_n hx hb dX11_layImage_79 rfl (lv_at hl 0 rfl) ?_
                    refine tg_get (ci := 10) (k := 10) (v := .ref (ad G (87))) hx hb hts hown hk hw (en10 (rfl : nk 78 = 10)) rfl inlX11 (by decide) wd113 rfl dX11_layImage_80 ?_
                    refine lv_iload_n hx hb dX11_layImage_83 rfl (lv_at hl 3 rfl) ?_
                    refine lv_aload_n hx hb dX11_layImage_84 rfl (lv_at hl 0 rfl) ?_
                    refine tg_get (ci := 10) (k := 21) (v := .ref (ad G (90))) hx hb hts hown hk hw (en10 (rfl : nk 78 = 10)) rfl inlX11 (by decide) wd116 rfl dX11_layImage_85 ?_
                    refine lv_iload_n hx hb dX11_layImage_88 rfl (lv_at hl 2 rfl) ?_
                    refine lv_iload_n hx hb dX11_layImage_89 rfl (lv_at hl 3 rfl) ?_
                    refine lv_iadd hx hb dX11_layImage_90 ?_
                    refine lv_topi (fun x7 ex7 => ?_)
                    have tx7 : x7.toInt = x3.toInt + z3_74.toInt := by rw [ex7]; exact Jvm.Kit.i32_add (by omega) (by omega)
                    have hv91 : vp_in x7 800 := vin ⟨by omega, by omega⟩
                    have kc91 := clI x7 (by omega)
                    refine tg_iald hx hb hk hw (en900 (rfl : nk 90 = 900)) hv91 dX11_layImage_91 ?_
                    refine lv_topi (fun x8 ex8 => ?_)
                    have bx8 : ∀ lo hi, rg 900 x7.toNatClampNeg = some (lo, hi) → lo ≤ x8.toInt ∧ x8.toInt ≤ hi := by rw [ex8]; exact hI.1 90 _
                    have hv92 : vp_in z3_74 4 := vin ⟨by omega, by omega⟩
                    refine tg_iast hx hb hk hG hw (ea104 (rfl : nk 87 = 104)) hv92 dX11_layImage_92 (fun H locs hw => ?_)
                    obtain ⟨σ9, eσ9⟩ : ∃ z, z = up2 σc74 (87) z3_74.toNatClampNeg x8 := ⟨_, rfl⟩
                    rw [← eσ9] at hw
                    have hI : K0 σ σ9 := by rw [eσ9]; exact hI.up (rfl) (rg_no (by rw [(rfl : nk 87 = 104)]; rfl))
                    obtain ⟨x10, ex10⟩ : ∃ z : Int32, z = z3_74 + (1 : Int32) := ⟨_, rfl⟩
                    refine lv_iinc (v := x10) (lv' := [(3, .int x10), (0, .ref (ad G (78))), (1, .int v), (2, .int x3)]) hx hb dX11_layImage_93 hl (k := 3) rfl (by rw [ex10]; rfl) (by decide) rfl (fun ls hl => ?_)
                    have tx10 : x10.toInt = z3_74.toInt + 1 := by rw [ex10, Jvm.Kit.i32_add (by omega) (by omega)]; omega
                    refine lv_goto (tgt := 74) hx hb dX11_layImage_96 (by decide) ?_
                    exact ih74 x10 σ9 _ _ _ (by omega) hI (by omega) hw (lv_sub hl [1, 2, 3, 0] rfl)
              exact cut74 ((((4 - (0 : Int32).toInt).toNat : Int)).toNat + 1) (0 : Int32) σc39 _ _ _ (by omega) hI (by omega) hw (lv_sub hl [2, 3, 1, 0] rfl)
            · have c43i := mt Int32.le_iff_toInt_le.mpr c43
              refine lv_aload_n hx hb dX11_layImage_46 rfl (lv_at hl 0 rfl) ?_
              refine tg_get (ci := 10) (k := 9) (v := .ref (ad G (86))) hx hb hts hown hk hw (en10 (rfl : nk 78 = 10)) rfl inlX11 (by decide) wd112 rfl dX11_layImage_47 ?_
              refine lv_iload_n hx hb dX11_layImage_50 rfl (lv_at hl 3 rfl) ?_
              refine lv_aload_n hx hb dX11_layImage_51 rfl (lv_at hl 0 rfl) ?_
              refine tg_get (ci := 10) (k := 21) (v := .ref (ad G (90))) hx hb hts hown hk hw (en10 (rfl : nk 78 = 10)) rfl inlX11 (by decide) wd116 rfl dX11_layImage_52 ?_
              refine lv_iload_n hx hb dX11_layImage_55 rfl (lv_at hl 2 rfl) ?_
              refine lv_iload_n hx hb dX11_layImage_56 rfl (lv_at hl 3 rfl) ?_
              refine lv_iadd hx hb dX11_layImage_57 ?_
              refine lv_topi (fun x11 ex11 => ?_)
              have tx11 : x11.toInt = x2.toInt + z3_39.toInt := by rw [ex11]; exact Jvm.Kit.i32_add (by omega) (by omega)
              have hv58 : vp_in x11 800 := vin ⟨by omega, by omega⟩
              have kc58 := clI x11 (by omega)
              refine tg_iald hx hb hk hw (en900 (rfl : nk 90 = 900)) hv58 dX11_layImage_58 ?_
              refine lv_topi (fun x12 ex12 => ?_)
              have bx12 : ∀ lo hi, rg 900 x11.toNatClampNeg = some (lo, hi) → lo ≤ x12.toInt ∧ x12.toInt ≤ hi := by rw [ex12]; exact hI.1 90 _
              have hv59 : vp_in z3_39 256 := vin ⟨by omega, by omega⟩
              refine tg_iast hx hb hk hG hw (ea356 (rfl : nk 86 = 356)) hv59 dX11_layImage_59 (fun H locs hw => ?_)
              obtain ⟨σ13, eσ13⟩ : ∃ z, z = up2 σc39 (86) z3_39.toNatClampNeg x12 := ⟨_, rfl⟩
              rw [← eσ13] at hw
              have hI : K0 σ σ13 := by rw [eσ13]; exact hI.up (rfl) (rg_no (by rw [(rfl : nk 86 = 356)]; rfl))
              obtain ⟨x14, ex14⟩ : ∃ z : Int32, z = z3_39 + (1 : Int32) := ⟨_, rfl⟩
              refine lv_iinc (v := x14) (lv' := [(3, .int x14), (0, .ref (ad G (78))), (1, .int v), (2, .int x2)]) hx hb dX11_layImage_60 hl (k := 3) rfl (by rw [ex14]; rfl) (by decide) rfl (fun ls hl => ?_)
              have tx14 : x14.toInt = z3_39.toInt + 1 := by rw [ex14, Jvm.Kit.i32_add (by omega) (by omega)]; omega
              refine lv_goto (tgt := 39) hx hb dX11_layImage_63 (by decide) ?_
              exact ih39 x14 σ13 _ _ _ (by omega) hI (by omega) hw (lv_sub hl [1, 2, 3, 0] rfl)
        exact cut39 ((((256 - (0 : Int32).toInt).toNat : Int)).toNat + 1) (0 : Int32) σc8 _ _ _ (by omega) hI (by omega) hw (lv_sub hl [2, 3, 1, 0] rfl)
      · have c11i := mt Int32.le_iff_toInt_le.mpr c11
        refine lv_aload_n hx hb dX11_layImage_14 rfl (lv_at hl 0 rfl) ?_
        refine tg_get (ci := 10) (k := 8) (v := .ref (ad G (85))) hx hb hts hown hk hw (en10 (rfl : nk 78 = 10)) rfl inlX11 (by decide) wd111 rfl dX11_layImage_15 ?_
        refine lv_iload_n hx hb dX11_layImage_18 rfl (lv_at hl 3 rfl) ?_
        refine lv_aload_n hx hb dX11_layImage_19 rfl (lv_at hl 0 rfl) ?_
        refine tg_get (ci := 10) (k := 21) (v := .ref (ad G (90))) hx hb hts hown hk hw (en10 (rfl : nk 78 = 10)) rfl inlX11 (by decide) wd116 rfl dX11_layImage_20 ?_
        refine lv_iload_n hx hb dX11_layImage_23 rfl (lv_at hl 2 rfl) ?_
        refine lv_iload_n hx hb dX11_layImage_24 rfl (lv_at hl 3 rfl) ?_
        refine lv_iadd hx hb dX11_layImage_25 ?_
        refine lv_topi (fun x15 ex15 => ?_)
        have tx15 : x15.toInt = x1.toInt + z3_8.toInt := by rw [ex15]; exact Jvm.Kit.i32_add (by omega) (by omega)
        have hv26 : vp_in x15 800 := vin ⟨by omega, by omega⟩
        have kc26 := clI x15 (by omega)
        refine tg_iald hx hb hk hw (en900 (rfl : nk 90 = 900)) hv26 dX11_layImage_26 ?_
        refine lv_topi (fun x16 ex16 => ?_)
        have bx16 : ∀ lo hi, rg 900 x15.toNatClampNeg = some (lo, hi) → lo ≤ x16.toInt ∧ x16.toInt ≤ hi := by rw [ex16]; exact hI.1 90 _
        have hv27 : vp_in z3_8 32 := vin ⟨by omega, by omega⟩
        have kc27 := clI z3_8 (by omega)
        refine tg_iast hx hb hk hG hw (ea132 (rfl : nk 85 = 132)) hv27 dX11_layImage_27 (fun H locs hw => ?_)
        obtain ⟨σ17, eσ17⟩ : ∃ z, z = up2 σc8 (85) z3_8.toNatClampNeg x16 := ⟨_, rfl⟩
        rw [← eσ17] at hw
        have hI : K0 σ σ17 := by rw [eσ17]; exact hI.up (rfl) (rg132 rfl (fun q => bx16 0 3 (rg900a (by omega) (by omega))))
        obtain ⟨x18, ex18⟩ : ∃ z : Int32, z = z3_8 + (1 : Int32) := ⟨_, rfl⟩
        refine lv_iinc (v := x18) (lv' := [(3, .int x18), (0, .ref (ad G (78))), (1, .int v), (2, .int x1)]) hx hb dX11_layImage_28 hl (k := 3) rfl (by rw [ex18]; rfl) (by decide) rfl (fun ls hl => ?_)
        have tx18 : x18.toInt = z3_8.toInt + 1 := by rw [ex18, Jvm.Kit.i32_add (by omega) (by omega)]; omega
        refine lv_goto (tgt := 8) hx hb dX11_layImage_31 (by decide) ?_
        exact ih8 x18 σ17 _ _ _ (by omega) hI (by omega) hw (lv_sub hl [1, 2, 3, 0] rfl)
  exact cut8 ((((32 - (0 : Int32).toInt).toNat : Int)).toNat + 1) (0 : Int32) σ _ _ _ (by omega) hI (by omega) hw (lv_sub hl [2, 3, 1, 0] rfl)
set_option maxHeartbeats 4000000 in
set_option maxRecDepth 100000 in
theorem c_X11_guessed (l : Launch) (G : Gg) (hG : Ginj G) (σ : Sg) (hI0 : Inv σ) (v : Int32) (w : Int32) : MI l G yX11_guessed cX11_guessed 5 .int (rmO 5 121) σ [.ref (ad G (78)), .int v, .int w] (fun r σ' => K0 σ σ' ∧ (True)) := by
  refine MI.of (by decide +kernel) (Nat.le_of_ble_eq_true rfl) ?_
  intro p e s m a below meth c ls Q hx hb hml hts hown hk hw ret hl
  have hown : s.vm.findClass RX11 = some m.cls := hown
  have hl : lv_has ls 5 [(0, .ref (ad G (78))), (1, .int v), (2, .int w)] := hl
  have hI : K0 σ σ := K0.rf hI0
  have Lm5 : (-5 : Int32).toInt = -5 := by decide
  have Lm3 : (-3 : Int32).toInt = -3 := by decide
  have Lm2 : (-2 : Int32).toInt = -2 := by decide
  have Lm1 : (-1 : Int32).toInt = -1 := by decide
  have L0 : (0 : Int32).toInt = 0 := by decide
  have L1 : (1 : Int32).toInt = 1 := by decide
  have L4 : (4 : Int32).toInt = 4 := by decide
  have L5 : (5 : Int32).toInt = 5 := by decide
  have L8 : (8 : Int32).toInt = 8 := by decide
  have L40 : (40 : Int32).toInt = 40 := by decide
  have M0 : (0 : Int64).toInt = 0 := by decide
  have M1 : (1 : Int64).toInt = 1 := by decide
  generalize hHe : s.heap = H at hw ⊢
  generalize hLe : ([] : List Loc) = locs at hw ⊢
  refine lv_iload_n hx hb dX11_guessed_0 rfl (lv_at hl 1 rfl) ?_
  refine te_vi hw (ru_S (As := [.int v]) (rest := []) hx hb hml hts hown hk hw (c_X11_isSower l G hG σ hI.1 v) (m3_in wd152 wd153 wd5) wd154 nm_yX11_isSower ⟨rfl, rfl⟩ ⟨by decide, by decide⟩ rfl hl.1 rfl (Nat.le_of_ble_eq_true rfl) dX11_guessed_1 ⟨Nat.zero_le _, Nat.zero_le _⟩) (fun r2 σ1 H locs hr2 hw => ?_)
  rw [hr2.1] at hw
  have hr2 := hr2.2
  refine lv_if_ne (tgt := 9) hx hb dX11_guessed_4 (by decide) (fun c4 => ?_) (fun c4 => ?_)
  · have c4i := mt Int32.toInt_inj.mp c4
    have p4 := bz1 hr2 c4
    refine lv_iload_n hx hb dX11_guessed_9 rfl (lv_at hl 2 rfl) ?_
    refine lv_i2l hx hb dX11_guessed_10 rfl ?_
    refine lv_lconst (v := 0) hx hb dX11_guessed_11 (by decide) ?_
    refine lv_lconst (v := 1) hx hb dX11_guessed_12 (by decide) ?_
    refine te_vi hw (ru_S (As := [.long w.toInt64, .long (0 : Int64), .long (1 : Int64)]) (rest := []) hx hb hml hts hown hk hw (c_X11_in l G hG σ hI.1 w.toInt64 (0 : Int64) (1 : Int64)) (m3_in wd156 wd157 wd5) wd158 nm_yX11_in ⟨rfl, rfl⟩ ⟨by decide, by decide⟩ rfl hl.1 rfl (Nat.le_of_ble_eq_true rfl) dX11_guessed_13 ⟨Nat.zero_le _, Nat.zero_le _⟩) (fun r4 σ3 H locs hr4 hw => ?_)
    rw [hr4.1] at hw
    have hr4 := hr4.2
    simp only [Int32.toInt_toInt64] at hr4
    refine lv_if_ne (tgt := 22) hx hb dX11_guessed_16 (by decide) (fun c16 => ?_) (fun c16 => ?_)
    · have c16i := mt Int32.toInt_inj.mp c16
      have p16 := bz1 hr4 c16
      refine lv_aload_n hx hb dX11_guessed_22 rfl (lv_at hl 0 rfl) ?_
      refine tg_get (ci := 10) (k := 22) (v := .ref (ad G (91))) hx hb hts hown hk hw (en10 (rfl : nk 78 = 10)) rfl inlX11 (by decide) wd117 rfl dX11_guessed_23 ?_
      refine lv_iload_n hx hb dX11_guessed_26 rfl (lv_at hl 2 rfl) ?_
      have hv27 : vp_in w 2 := vin ⟨by omega, by omega⟩
      refine tg_zald hx hb hk hw (en12 (rfl : nk 91 = 12)) hv27 dX11_guessed_27 ?_
      refine lv_topi (fun x5 ex5 => ?_)
      refine lv_if_ne (tgt := 34) hx hb dX11_guessed_28 (by decide) (fun c28 => ?_) (fun c28 => ?_)
      · have c28i := mt Int32.toInt_inj.mp c28
        refine lv_aload_n hx hb dX11_guessed_34 rfl (lv_at hl 0 rfl) ?_
        refine te_vi hw (ru_V (As := []) (rest := []) (C := RX11) hx hb hml hts hown hk hw (c_X11_fault l G hG σ hI.1) (m4_in wd330 wd241 wd242 wd5) wd243 (en10 (rfl : nk 78 = 10)) rfl rfl rfl nm_yX11_fault ⟨rfl, rfl⟩ ⟨by decide, by decide⟩ rfl hl.1 rfl (Nat.le_of_ble_eq_true rfl) dX11_guessed_35 ⟨Nat.zero_le _, Nat.zero_le _⟩) (fun r7 σ6 H locs hr7 hw => ?_)
        rw [hr7.1] at hw
        have hr7 := hr7.2
        have hF := hr7
        refine lv_if_lt (tgt := 44) hx hb dX11_guessed_38 (by decide) (fun c38 => ?_) (fun c38 => ?_)
        · have c38i := Int32.lt_iff_toInt_lt.mp c38
          refine lv_iconst (v := 0) hx hb dX11_guessed_44 (by decide) ?_
          refine lv_istore_n (lv' := [(3, .int (0 : Int32)), (0, .ref (ad G (78))), (1, .int v), (2, .int w)]) hx hb dX11_guessed_45 rfl hl (by decide) rfl (fun ls hl => ?_)
          refine lv_iconst (v := 0) hx hb dX11_guessed_46 (by decide) ?_
          refine lv_istore (lv' := [(4, .int (0 : Int32)), (3, .int (0 : Int32)), (0, .ref (ad G (78))), (1, .int v), (2, .int w)]) hx hb dX11_guessed_47 hl (by decide) rfl (fun ls hl => ?_)
          have cut49 : ∀ (n : Nat) (z3_49 : Int32) (z4_49 : Int32) (σc49 : Sg) (H : Heap) (locs : List Loc) (ls : Array Slot), (0 ≤ z4_49.toInt ∧ z4_49.toInt ≤ 5) → K0 σ σc49 → ((5 - z4_49.toInt).toNat : Int) < (n : Int) → Wo G σc49 s H locs → lv_has ls 5 [(0, .ref (ad G (78))), (1, .int v), (2, .int w), (3, .int z3_49), (4, .int z4_49)] → W p l e (rmO 5 121) s m a below meth c H locs 0 0 Q (F0 m 49 ls []) := by
            intro n49
            induction n49 with
            | zero =>
              intro z3_49 z4_49 σc49 H locs ls f49_0 hI hm49 hw hl
              exfalso; omega
            | succ n49 ih49 =>
              intro z3_49 z4_49 σc49 H locs ls f49_0 hI hm49 hw hl
              refine lv_iload hx hb dX11_guessed_49 (lv_at hl 4 rfl) ?_
              refine lv_iconst (v := 5) hx hb dX11_guessed_51 (by decide) ?_
              refine lv_icmp_ge (tgt := 103) hx hb dX11_guessed_52 (by decide) (fun c52 => ?_) (fun c52 => ?_)
              · have c52i := Int32.le_iff_toInt_le.mp c52
                refine lv_iload_n hx hb dX11_guessed_103 rfl (lv_at hl 3 rfl) ?_
                exact ret z3_49 σc49 _ _ 104 _ (rfl) (⟨hI, trivial⟩) hw dX11_guessed_104
              · have c52i := mt Int32.le_iff_toInt_le.mpr c52
                refine lv_aload_n hx hb dX11_guessed_55 rfl (lv_at hl 0 rfl) ?_
                refine lv_iload_n hx hb dX11_guessed_56 rfl (lv_at hl 2 rfl) ?_
                refine te_vv hw (ru_V (As := [.int w]) (rest := []) (C := RX11) hx hb hml hts hown hk hw (c_X11_layImage l G hG σc49 hI.1 w (by omega)) (m4_in wd473 wd474 wd475 wd5) wd476 (en10 (rfl : nk 78 = 10)) rfl rfl rfl nm_yX11_layImage ⟨rfl, rfl⟩ ⟨by decide, by decide⟩ rfl hl.1 rfl (Nat.le_of_ble_eq_true rfl) dX11_guessed_57 ⟨Nat.zero_le _, Nat.zero_le _⟩) (fun σ8 H locs hr9 hw => ?_)
                have hI := hI.go hr9.1
                have hr9 := hr9.2
                refine lv_aload_n hx hb dX11_guessed_60 rfl (lv_at hl 0 rfl) ?_
                refine tg_get (ci := 10) (k := 8) (v := .ref (ad G (85))) hx hb hts hown hk hw (en10 (rfl : nk 78 = 10)) rfl inlX11 (by decide) wd111 rfl dX11_guessed_61 ?_
                refine lv_bipush (v := 8) hx hb dX11_guessed_64 (by decide) ?_
                refine lv_iload_n hx hb dX11_guessed_66 rfl (lv_at hl 1 rfl) ?_
                refine lv_imul hx hb dX11_guessed_67 ?_
                refine lv_topi (fun x10 ex10 => ?_)
                have tx10 : x10.toInt = 8 * v.toInt := by rw [ex10, Jvm.Kit.i32_mul (by rw [L8]; omega) (by rw [L8]; omega), L8]
                refine lv_iconst (v := 4) hx hb dX11_guessed_68 (by decide) ?_
                refine lv_iadd hx hb dX11_guessed_69 ?_
                refine lv_topi (fun x11 ex11 => ?_)
                have tx11 : x11.toInt = x10.toInt + (4 : Int32).toInt := by rw [ex11]; exact Jvm.Kit.i32_add (by omega) (by omega)
                refine lv_iload hx hb dX11_guessed_70 (lv_at hl 4 rfl) ?_
                have hv72 : vp_in x11 32 := vin ⟨by omega, by omega⟩
                have kc72 := clI x11 (by omega)
                refine tg_iast hx hb hk hG hw (ea132 (rfl : nk 85 = 132)) hv72 dX11_guessed_72 (fun H locs hw => ?_)
                obtain ⟨σ12, eσ12⟩ : ∃ z, z = up2 σ8 (85) x11.toNatClampNeg z4_49 := ⟨_, rfl⟩
                rw [← eσ12] at hw
                have hI : K0 σ σ12 := by rw [eσ12]; exact hI.up (rfl) (rg132 (rfl : nk 85 = 132) (fun q => by omega))
                refine lv_aload_n hx hb dX11_guessed_73 rfl (lv_at hl 0 rfl) ?_
                refine lv_bipush (v := 40) hx hb dX11_guessed_74 (by decide) ?_
                refine te_vv hw (ru_V (As := [.int (40 : Int32)]) (rest := []) (C := RX11) hx hb hml hts hown hk hw (c_X11_goNight l G hG σ12 hI.1 (40 : Int32) (by rw [hI.2 78 7 rfl]; intro q; rw [hI.2 84 _ rfl]; exact hF (by omega) q)) (m4_in wd340 wd341 wd342 wd5) wd343 (en10 (rfl : nk 78 = 10)) rfl rfl rfl nm_yX11_goNight ⟨rfl, rfl⟩ ⟨by decide, by decide⟩ rfl hl.1 rfl (Nat.le_of_ble_eq_true rfl) dX11_guessed_76 ⟨Nat.zero_le _, Nat.zero_le _⟩) (fun σ13 H locs hr14 hw => ?_)
                have hI := hI.go hr14.1
                have hr14 := hr14.2
                refine lv_iload_n hx hb dX11_guessed_79 rfl (lv_at hl 3 rfl) ?_
                refine lv_aload_n hx hb dX11_guessed_80 rfl (lv_at hl 0 rfl) ?_
                refine te_vi hw (ru_V (As := []) (rest := [.int z3_49]) (C := RX11) hx hb hml hts hown hk hw (c_X11_isAsNow l G hG σ13 hI.1) (m4_in wd477 wd478 wd479 wd5) wd480 (en10 (rfl : nk 78 = 10)) rfl rfl rfl nm_yX11_isAsNow ⟨rfl, rfl⟩ ⟨by decide, by decide⟩ rfl hl.1 rfl (Nat.le_of_ble_eq_true rfl) dX11_guessed_81 ⟨Nat.zero_le _, Nat.zero_le _⟩) (fun r16 σ15 H locs hr16 hw => ?_)
                rw [hr16.1] at hw
                have hr16 := hr16.2
                refine lv_if_eq (tgt := 94) hx hb dX11_guessed_84 (by decide) (fun c84 => ?_) (fun c84 => ?_)
                · have c84i := congrArg Int32.toInt c84
                  refine lv_iconst (v := 0) hx hb dX11_guessed_94 (by decide) ?_
                  refine lv_ior hx hb dX11_guessed_95 ?_
                  refine lv_topi (fun x17 ex17 => ?_)
                  refine lv_istore_n (lv' := [(3, .int x17), (0, .ref (ad G (78))), (1, .int v), (2, .int w), (4, .int z4_49)]) hx hb dX11_guessed_96 rfl hl (by decide) rfl (fun ls hl => ?_)
                  obtain ⟨x18, ex18⟩ : ∃ z : Int32, z = z4_49 + (1 : Int32) := ⟨_, rfl⟩
                  refine lv_iinc (v := x18) (lv' := [(4, .int x18), (3, .int x17), (0, .ref (ad G (78))), (1, .int v), (2, .int w)]) hx hb dX11_guessed_97 hl (k := 4) rfl (by rw [ex18]; rfl) (by decide) rfl (fun ls hl => ?_)
                  have tx18 : x18.toInt = z4_49.toInt + 1 := by rw [ex18, Jvm.Kit.i32_add (by omega) (by omega)]; omega
                  refine lv_goto (tgt := 49) hx hb dX11_guessed_100 (by decide) ?_
                  exact ih49 x17 x18 σ13 _ _ _ (by omega) hI (by omega) hw (lv_sub hl [2, 3, 4, 1, 0] rfl)
                · have c84i := mt Int32.toInt_inj.mp c84
                  refine lv_iconst (v := 1) hx hb dX11_guessed_87 (by decide) ?_
                  refine lv_iload hx hb dX11_guessed_88 (lv_at hl 4 rfl) ?_
                  refine lv_ishl hx hb dX11_guessed_90 ?_
                  refine lv_topi (fun x19 ex19 => ?_)
                  refine lv_goto (tgt := 95) hx hb dX11_guessed_91 (by decide) ?_
                  refine lv_ior hx hb dX11_guessed_95 ?_
                  refine lv_topi (fun x20 ex20 => ?_)
                  refine lv_istore_n (lv' := [(3, .int x20), (0, .ref (ad G (78))), (1, .int v), (2, .int w), (4, .int z4_49)]) hx hb dX11_guessed_96 rfl hl (by decide) rfl (fun ls hl => ?_)
                  obtain ⟨x21, ex21⟩ : ∃ z : Int32, z = z4_49 + (1 : Int32) := ⟨_, rfl⟩
                  refine lv_iinc (v := x21) (lv' := [(4, .int x21), (3, .int x20), (0, .ref (ad G (78))), (1, .int v), (2, .int w)]) hx hb dX11_guessed_97 hl (k := 4) rfl (by rw [ex21]; rfl) (by decide) rfl (fun ls hl => ?_)
                  have tx21 : x21.toInt = z4_49.toInt + 1 := by rw [ex21, Jvm.Kit.i32_add (by omega) (by omega)]; omega
                  refine lv_goto (tgt := 49) hx hb dX11_guessed_100 (by decide) ?_
                  exact ih49 x20 x21 σ13 _ _ _ (by omega) hI (by omega) hw (lv_sub hl [2, 3, 4, 1, 0] rfl)
          exact cut49 ((((5 - (0 : Int32).toInt).toNat : Int)).toNat + 1) (0 : Int32) (0 : Int32) σ _ _ _ (by omega) hI (by omega) hw (lv_sub hl [2, 3, 4, 1, 0] rfl)
        · have c38i := mt Int32.lt_iff_toInt_lt.mpr c38
          refine lv_bipush (v := -5) hx hb dX11_guessed_41 (by decide) ?_
          exact ret (-5 : Int32) σ _ _ 43 _ (rfl) (⟨hI, trivial⟩) hw dX11_guessed_43
      · have c28i := congrArg Int32.toInt c28
        refine lv_bipush (v := -3) hx hb dX11_guessed_31 (by decide) ?_
        exact ret (-3 : Int32) σ _ _ 33 _ (rfl) (⟨hI, trivial⟩) hw dX11_guessed_33
    · have c16i := congrArg Int32.toInt c16
      have p16 := bz0 hr4 c16
      refine lv_bipush (v := -2) hx hb dX11_guessed_19 (by decide) ?_
      exact ret (-2 : Int32) σ _ _ 21 _ (rfl) (⟨hI, trivial⟩) hw dX11_guessed_21
  · have c4i := congrArg Int32.toInt c4
    have p4 := bz0 hr2 c4
    refine lv_iconst (v := -1) hx hb dX11_guessed_7 (by decide) ?_
    exact ret (-1 : Int32) σ _ _ 8 _ (rfl) (⟨hI, trivial⟩) hw dX11_guessed_8
set_option maxHeartbeats 4000000 in
set_option maxRecDepth 100000 in
theorem c_X11_be (l : Launch) (G : Gg) (hG : Ginj G) (σ : Sg) (hI0 : Inv σ) (v : Int32) (w : Int32) (hb0 : 0 ≤ (σ 78 13).toInt ∧ (σ 78 13).toInt ≤ 73) : MV l G yX11_be cX11_be 5 (rmO 0 0) σ [.ref (ad G (78)), .int v, .int w] (fun σ' => K0 σ σ' ∧ (0 ≤ (σ' 78 13).toInt ∧ (σ' 78 13).toInt ≤ (σ 78 13).toInt + 1)) := by
  refine MV.of (by decide +kernel) (Nat.le_of_ble_eq_true rfl) ?_
  intro p e s m a below meth c ls Q hx hb hml hts hown hk hw ret hl
  have hown : s.vm.findClass RX11 = some m.cls := hown
  have hl : lv_has ls 5 [(0, .ref (ad G (78))), (1, .int v), (2, .int w)] := hl
  have hI : K0 σ σ := K0.rf hI0
  have L0 : (0 : Int32).toInt = 0 := by decide
  have L1 : (1 : Int32).toInt = 1 := by decide
  have L200 : (200 : Int32).toInt = 200 := by decide
  have L1000 : (1000 : Int32).toInt = 1000 := by decide
  generalize hHe : s.heap = H at hw ⊢
  generalize hLe : ([] : List Loc) = locs at hw ⊢
  refine lv_sipush (v := 1000) hx hb dX11_be_0 (by decide) ?_
  refine lv_iload_n hx hb dX11_be_3 rfl (lv_at hl 1 rfl) ?_
  refine lv_sipush (v := 200) hx hb dX11_be_4 (by decide) ?_
  refine lv_iadd hx hb dX11_be_7 ?_
  refine lv_topi (fun x1 ex1 => ?_)
  refine lv_imul hx hb dX11_be_8 ?_
  refine lv_topi (fun x2 ex2 => ?_)
  refine lv_iload_n hx hb dX11_be_9 rfl (lv_at hl 2 rfl) ?_
  refine lv_iadd hx hb dX11_be_10 ?_
  refine lv_topi (fun x3 ex3 => ?_)
  refine lv_sipush (v := 200) hx hb dX11_be_11 (by decide) ?_
  refine lv_iadd hx hb dX11_be_14 ?_
  refine lv_topi (fun x4 ex4 => ?_)
  refine lv_istore_n (lv' := [(3, .int x4), (0, .ref (ad G (78))), (1, .int v), (2, .int w)]) hx hb dX11_be_15 rfl hl (by decide) rfl (fun ls hl => ?_)
  refine lv_iconst (v := 0) hx hb dX11_be_16 (by decide) ?_
  refine lv_istore (lv' := [(4, .int (0 : Int32)), (3, .int x4), (0, .ref (ad G (78))), (1, .int v), (2, .int w)]) hx hb dX11_be_17 hl (by decide) rfl (fun ls hl => ?_)
  have cut19 : ∀ (n : Nat) (z4_19 : Int32) (H : Heap) (locs : List Loc) (ls : Array Slot), (0 ≤ z4_19.toInt ∧ z4_19.toInt ≤ 73) → ((73 - z4_19.toInt).toNat : Int) < (n : Int) → Wo G σ s H locs → lv_has ls 5 [(0, .ref (ad G (78))), (1, .int v), (2, .int w), (3, .int x4), (4, .int z4_19)] → W p l e (rmO 0 0) s m a below meth c H locs 0 0 Q (F0 m 19 ls []) := by
    intro n19
    induction n19 with
    | zero =>
      intro z4_19 H locs ls f19_0 hm19 hw hl
      exfalso; omega
    | succ n19 ih19 =>
      intro z4_19 H locs ls f19_0 hm19 hw hl
      refine lv_iload hx hb dX11_be_19 (lv_at hl 4 rfl) ?_
      refine lv_aload_n hx hb dX11_be_21 rfl (lv_at hl 0 rfl) ?_
      refine tg_get (ci := 10) (k := 13) (v := .int (σ (78) 13)) hx hb hts hown hk hw (en10 (rfl : nk 78 = 10)) rfl inlX11 (by decide) wd505 rfl dX11_be_22 ?_
      refine lv_topi (fun x5 ex5 => ?_)
      have ux5 : x5.toInt = (σ (78) 13).toInt := by rw [ex5]
      refine lv_icmp_ge (tgt := 46) hx hb dX11_be_25 (by decide) (fun c25 => ?_) (fun c25 => ?_)
      · have c25i := Int32.le_iff_toInt_le.mp c25
        refine lv_aload_n hx hb dX11_be_46 rfl (lv_at hl 0 rfl) ?_
        refine tg_get (ci := 10) (k := 12) (v := .ref (ad G (88))) hx hb hts hown hk hw (en10 (rfl : nk 78 = 10)) rfl inlX11 (by decide) wd114 rfl dX11_be_47 ?_
        refine lv_aload_n hx hb dX11_be_50 rfl (lv_at hl 0 rfl) ?_
        refine tg_get (ci := 10) (k := 13) (v := .int (σ (78) 13)) hx hb hts hown hk hw (en10 (rfl : nk 78 = 10)) rfl inlX11 (by decide) wd505 rfl dX11_be_51 ?_
        refine lv_topi (fun x6 ex6 => ?_)
        have qx6 : x6.toInt = x5.toInt := by rw [ex6, ex5]
        have ux6 : x6.toInt = (σ (78) 13).toInt := by rw [ex6]
        refine lv_iload_n hx hb dX11_be_54 rfl (lv_at hl 3 rfl) ?_
        have hv55 : vp_in x6 74 := vin ⟨by omega, by omega⟩
        refine tg_iast hx hb hk hG hw (ea174 (rfl : nk 88 = 174)) hv55 dX11_be_55 (fun H locs hw => ?_)
        obtain ⟨σ7, eσ7⟩ : ∃ z, z = up2 σ (88) x6.toNatClampNeg x4 := ⟨_, rfl⟩
        rw [← eσ7] at hw
        have hI : K0 σ σ7 := by rw [eσ7]; exact hI.up (rfl) (rg_no (by rw [(rfl : nk 88 = 174)]; rfl))
        refine lv_aload_n hx hb dX11_be_56 rfl (lv_at hl 0 rfl) ?_
        refine lv_dup hx hb dX11_be_57 rfl ?_
        refine tg_get (ci := 10) (k := 13) (v := .int (σ7 (78) 13)) hx hb hts hown hk hw (en10 (rfl : nk 78 = 10)) rfl inlX11 (by decide) wd505 rfl dX11_be_58 ?_
        refine lv_topi (fun x8 ex8 => ?_)
        have ux8 : x8.toInt = (σ7 (78) 13).toInt := by rw [ex8]
        have qx8 : x8.toInt = x5.toInt := by rw [ex8, eσ7, up2_ne (by omega), ex5]
        have w58 : x8.toInt = (σ 78 13).toInt := by rw [ex8, eσ7, up2_ne (by decide)]
        refine lv_iconst (v := 1) hx hb dX11_be_61 (by decide) ?_
        refine lv_iadd hx hb dX11_be_62 ?_
        refine lv_topi (fun x9 ex9 => ?_)
        have tx9 : x9.toInt = x8.toInt + (1 : Int32).toInt := by rw [ex9]; exact Jvm.Kit.i32_add (by omega) (by omega)
        refine tg_put (ci := 10) (k := 13) (σ' := up2 σ7 (78) 13 x9) hx hb hts hown hk hG hw tyX11 (en10 (rfl : nk 78 = 10)) rfl inlX11 tyX11_ok nmX11 (by decide) wd505 rfl rfl rfl (Nat.le_of_ble_eq_true rfl) (pu10_13 (rfl : nk 78 = 10)) (fun _ h => up2_ne h) dX11_be_63 (fun H locs hw => ?_)
        obtain ⟨σ10, eσ10⟩ : ∃ z, z = up2 σ7 (78) 13 x9 := ⟨_, rfl⟩
        rw [← eσ10] at hw
        have hI : K0 σ σ10 := by rw [eσ10]; exact hI.up (rfl) (rg_no (by rw [(rfl : nk 78 = 10)]; rfl))
        exact ret σ10 _ _ 66 _ (⟨hI, by rw [eσ10, up2_self]; omega⟩) hw dX11_be_66
      · have c25i := mt Int32.le_iff_toInt_le.mpr c25
        refine lv_aload_n hx hb dX11_be_28 rfl (lv_at hl 0 rfl) ?_
        refine tg_get (ci := 10) (k := 12) (v := .ref (ad G (88))) hx hb hts hown hk hw (en10 (rfl : nk 78 = 10)) rfl inlX11 (by decide) wd114 rfl dX11_be_29 ?_
        refine lv_iload hx hb dX11_be_32 (lv_at hl 4 rfl) ?_
        have hv34 : vp_in z4_19 74 := vin ⟨by omega, by omega⟩
        refine tg_iald hx hb hk hw (en174 (rfl : nk 88 = 174)) hv34 dX11_be_34 ?_
        refine lv_topi (fun x11 ex11 => ?_)
        refine lv_iload_n hx hb dX11_be_35 rfl (lv_at hl 3 rfl) ?_
        refine lv_icmp_ne (tgt := 40) hx hb dX11_be_36 (by decide) (fun c36 => ?_) (fun c36 => ?_)
        · have ox11 := i32b x11
          have ox4 := i32b x4
          have c36i := mt Int32.toInt_inj.mp c36
          obtain ⟨x12, ex12⟩ : ∃ z : Int32, z = z4_19 + (1 : Int32) := ⟨_, rfl⟩
          refine lv_iinc (v := x12) (lv' := [(4, .int x12), (0, .ref (ad G (78))), (1, .int v), (2, .int w), (3, .int x4)]) hx hb dX11_be_40 hl (k := 4) rfl (by rw [ex12]; rfl) (by decide) rfl (fun ls hl => ?_)
          have tx12 : x12.toInt = z4_19.toInt + 1 := by rw [ex12, Jvm.Kit.i32_add (by omega) (by omega)]; omega
          refine lv_goto (tgt := 19) hx hb dX11_be_43 (by decide) ?_
          exact ih19 x12 _ _ _ (by omega) (by omega) hw (lv_sub hl [1, 2, 3, 4, 0] rfl)
        · have ox11 := i32b x11
          have ox4 := i32b x4
          have c36i := congrArg Int32.toInt c36
          exact ret σ _ _ 39 _ (⟨hI, by omega⟩) hw dX11_be_39
  exact cut19 ((((73 - (0 : Int32).toInt).toNat : Int)).toNat + 1) (0 : Int32) _ _ _ (by omega) (by omega) hw (lv_sub hl [2, 3, 4, 1, 0] rfl)
set_option maxHeartbeats 4000000 in
set_option maxRecDepth 100000 in
theorem c_X11_spiral (l : Launch) (G : Gg) (hG : Ginj G) (σ : Sg) (hI0 : Inv σ) (v : Int32) (w : Int32) (u : Int32) : MI l G yX11_spiral cX11_spiral 9 .int (rmO 2 45) σ [.ref (ad G (78)), .int v, .int w, .int u] (fun r σ' => K0 σ σ' ∧ (True)) := by
  refine MI.of (by decide +kernel) (Nat.le_of_ble_eq_true rfl) ?_
  intro p e s m a below meth c ls Q hx hb hml hts hown hk hw ret hl
  have hown : s.vm.findClass RX11 = some m.cls := hown
  have hl : lv_has ls 9 [(0, .ref (ad G (78))), (1, .int v), (2, .int w), (3, .int u)] := hl
  have hI : K0 σ σ := K0.rf hI0
  have Lm6 : (-6 : Int32).toInt = -6 := by decide
  have Lm2 : (-2 : Int32).toInt = -2 := by decide
  have L0 : (0 : Int32).toInt = 0 := by decide
  have L1 : (1 : Int32).toInt = 1 := by decide
  have L8 : (8 : Int32).toInt = 8 := by decide
  have M0 : (0 : Int64).toInt = 0 := by decide
  have M1 : (1 : Int64).toInt = 1 := by decide
  have M4 : (4 : Int64).toInt = 4 := by decide
  have M9 : (9 : Int64).toInt = 9 := by decide
  generalize hHe : s.heap = H at hw ⊢
  generalize hLe : ([] : List Loc) = locs at hw ⊢
  refine lv_iload_n hx hb dX11_spiral_0 rfl (lv_at hl 1 rfl) ?_
  refine lv_i2l hx hb dX11_spiral_1 rfl ?_
  refine lv_lconst (v := 1) hx hb dX11_spiral_2 (by decide) ?_
  refine lv_ldc2 hx hb hown (hts _ wd503) dX11_spiral_3 ?_
  refine te_vi hw (ru_S (As := [.long v.toInt64, .long (1 : Int64), .long (9 : Int64)]) (rest := []) hx hb hml hts hown hk hw (c_X11_in l G hG σ hI.1 v.toInt64 (1 : Int64) (9 : Int64)) (m3_in wd156 wd157 wd5) wd158 nm_yX11_in ⟨rfl, rfl⟩ ⟨by decide, by decide⟩ rfl hl.1 rfl (Nat.le_of_ble_eq_true rfl) dX11_spiral_6 ⟨Nat.zero_le _, Nat.zero_le _⟩) (fun r2 σ1 H locs hr2 hw => ?_)
  rw [hr2.1] at hw
  have hr2 := hr2.2
  simp only [Int32.toInt_toInt64] at hr2
  refine lv_if_eq (tgt := 34) hx hb dX11_spiral_9 (by decide) (fun c9 => ?_) (fun c9 => ?_)
  · have c9i := congrArg Int32.toInt c9
    have p9 := bz0 hr2 c9
    refine lv_bipush (v := -2) hx hb dX11_spiral_34 (by decide) ?_
    exact ret (-2 : Int32) σ _ _ 36 _ (rfl) (⟨hI, trivial⟩) hw dX11_spiral_36
  · have c9i := mt Int32.toInt_inj.mp c9
    have p9 := bz1 hr2 c9
    refine lv_iload_n hx hb dX11_spiral_12 rfl (lv_at hl 2 rfl) ?_
    refine lv_i2l hx hb dX11_spiral_13 rfl ?_
    refine lv_lconst (v := 0) hx hb dX11_spiral_14 (by decide) ?_
    refine lv_ldc2 hx hb hown (hts _ wd504) dX11_spiral_15 ?_
    refine te_vi hw (ru_S (As := [.long w.toInt64, .long (0 : Int64), .long (4 : Int64)]) (rest := []) hx hb hml hts hown hk hw (c_X11_in l G hG σ hI.1 w.toInt64 (0 : Int64) (4 : Int64)) (m3_in wd156 wd157 wd5) wd158 nm_yX11_in ⟨rfl, rfl⟩ ⟨by decide, by decide⟩ rfl hl.1 rfl (Nat.le_of_ble_eq_true rfl) dX11_spiral_18 ⟨Nat.zero_le _, Nat.zero_le _⟩) (fun r4 σ3 H locs hr4 hw => ?_)
    rw [hr4.1] at hw
    have hr4 := hr4.2
    simp only [Int32.toInt_toInt64] at hr4
    refine lv_if_eq (tgt := 34) hx hb dX11_spiral_21 (by decide) (fun c21 => ?_) (fun c21 => ?_)
    · have c21i := congrArg Int32.toInt c21
      have p21 := bz0 hr4 c21
      refine lv_bipush (v := -2) hx hb dX11_spiral_34 (by decide) ?_
      exact ret (-2 : Int32) σ _ _ 36 _ (rfl) (⟨hI, trivial⟩) hw dX11_spiral_36
    · have c21i := mt Int32.toInt_inj.mp c21
      have p21 := bz1 hr4 c21
      refine lv_iload_n hx hb dX11_spiral_24 rfl (lv_at hl 3 rfl) ?_
      refine lv_i2l hx hb dX11_spiral_25 rfl ?_
      refine lv_lconst (v := 0) hx hb dX11_spiral_26 (by decide) ?_
      refine lv_lconst (v := 1) hx hb dX11_spiral_27 (by decide) ?_
      refine te_vi hw (ru_S (As := [.long u.toInt64, .long (0 : Int64), .long (1 : Int64)]) (rest := []) hx hb hml hts hown hk hw (c_X11_in l G hG σ hI.1 u.toInt64 (0 : Int64) (1 : Int64)) (m3_in wd156 wd157 wd5) wd158 nm_yX11_in ⟨rfl, rfl⟩ ⟨by decide, by decide⟩ rfl hl.1 rfl (Nat.le_of_ble_eq_true rfl) dX11_spiral_28 ⟨Nat.zero_le _, Nat.zero_le _⟩) (fun r6 σ5 H locs hr6 hw => ?_)
      rw [hr6.1] at hw
      have hr6 := hr6.2
      simp only [Int32.toInt_toInt64] at hr6
      refine lv_if_ne (tgt := 37) hx hb dX11_spiral_31 (by decide) (fun c31 => ?_) (fun c31 => ?_)
      · have c31i := mt Int32.toInt_inj.mp c31
        have p31 := bz1 hr6 c31
        refine lv_iload_n hx hb dX11_spiral_37 rfl (lv_at hl 2 rfl) ?_
        refine lv_iconst (v := 1) hx hb dX11_spiral_38 (by decide) ?_
        refine lv_icmp_ne (tgt := 45) hx hb dX11_spiral_39 (by decide) (fun c39 => ?_) (fun c39 => ?_)
        · have c39i := mt Int32.toInt_inj.mp c39
          refine lv_aload_n hx hb dX11_spiral_45 rfl (lv_at hl 0 rfl) ?_
          refine lv_iconst (v := 0) hx hb dX11_spiral_46 (by decide) ?_
          refine tg_put (ci := 10) (k := 13) (σ' := up2 σ (78) 13 (0 : Int32)) hx hb hts hown hk hG hw tyX11 (en10 (rfl : nk 78 = 10)) rfl inlX11 tyX11_ok nmX11 (by decide) wd505 rfl rfl rfl (Nat.le_of_ble_eq_true rfl) (pu10_13 (rfl : nk 78 = 10)) (fun _ h => up2_ne h) dX11_spiral_47 (fun H locs hw => ?_)
          obtain ⟨σ7, eσ7⟩ : ∃ z, z = up2 σ (78) 13 (0 : Int32) := ⟨_, rfl⟩
          rw [← eσ7] at hw
          have hI : K0 σ σ7 := by rw [eσ7]; exact hI.up (rfl) (rg_no (by rw [(rfl : nk 78 = 10)]; rfl))
          have s47 : (σ7 78 13).toInt = 0 := by rw [eσ7, up2_self]; decide
          refine lv_aload_n hx hb dX11_spiral_50 rfl (lv_at hl 0 rfl) ?_
          refine lv_iconst (v := 0) hx hb dX11_spiral_51 (by decide) ?_
          refine lv_iconst (v := 0) hx hb dX11_spiral_52 (by decide) ?_
          refine te_vv hw (ru_V (As := [.int (0 : Int32), .int (0 : Int32)]) (rest := []) (C := RX11) hx hb hml hts hown hk hw (c_X11_be l G hG σ7 hI.1 (0 : Int32) (0 : Int32) (by rw [eσ7, up2_self]; decide)) (m4_in wd506 wd507 wd508 wd5) wd509 (en10 (rfl : nk 78 = 10)) rfl rfl rfl nm_yX11_be ⟨rfl, rfl⟩ ⟨by decide, by decide⟩ rfl hl.1 rfl (Nat.le_of_ble_eq_true rfl) dX11_spiral_53 ⟨Nat.zero_le _, Nat.zero_le _⟩) (fun σ8 H locs hr9 hw => ?_)
          have hI := hI.go hr9.1
          have hr9 := hr9.2
          refine lv_iconst (v := 0) hx hb dX11_spiral_56 (by decide) ?_
          refine lv_istore (lv' := [(4, .int (0 : Int32)), (0, .ref (ad G (78))), (1, .int v), (2, .int w), (3, .int u)]) hx hb dX11_spiral_57 hl (by decide) rfl (fun ls hl => ?_)
          refine lv_iconst (v := 0) hx hb dX11_spiral_59 (by decide) ?_
          refine lv_istore (lv' := [(5, .int (0 : Int32)), (4, .int (0 : Int32)), (0, .ref (ad G (78))), (1, .int v), (2, .int w), (3, .int u)]) hx hb dX11_spiral_60 hl (by decide) rfl (fun ls hl => ?_)
          refine lv_iconst (v := 0) hx hb dX11_spiral_62 (by decide) ?_
          refine lv_istore (lv' := [(6, .int (0 : Int32)), (5, .int (0 : Int32)), (4, .int (0 : Int32)), (0, .ref (ad G (78))), (1, .int v), (2, .int w), (3, .int u)]) hx hb dX11_spiral_63 hl (by decide) rfl (fun ls hl => ?_)
          refine lv_iconst (v := 0) hx hb dX11_spiral_65 (by decide) ?_
          refine lv_istore (lv' := [(7, .int (0 : Int32)), (6, .int (0 : Int32)), (5, .int (0 : Int32)), (4, .int (0 : Int32)), (0, .ref (ad G (78))), (1, .int v), (2, .int w), (3, .int u)]) hx hb dX11_spiral_66 hl (by decide) rfl (fun ls hl => ?_)
          have cut68 : ∀ (n : Nat) (z4_68 : Int32) (z5_68 : Int32) (z6_68 : Int32) (z7_68 : Int32) (σc68 : Sg) (H : Heap) (locs : List Loc) (ls : Array Slot), (0 ≤ z6_68.toInt ∧ z6_68.toInt ≤ 7) → (0 ≤ z7_68.toInt ∧ z7_68.toInt ≤ 8) → (0 ≤ (σc68 78 13).toInt) → ((σc68 78 13).toInt ≤ 1 + 9 * z7_68.toInt) → (w.toInt = 0 → z6_68.toInt = (64 - z7_68.toInt) % 8) → (w.toInt = 2 → z6_68.toInt = z7_68.toInt % 8) → (w.toInt = 3 → z6_68.toInt = (2 * z7_68.toInt) % 8) → (w.toInt = 4 → z6_68.toInt = (3 * z7_68.toInt) % 8) → K0 σ σc68 → ((8 - z7_68.toInt).toNat : Int) < (n : Int) → Wo G σc68 s H locs → lv_has ls 9 [(0, .ref (ad G (78))), (1, .int v), (2, .int w), (3, .int u), (4, .int z4_68), (5, .int z5_68), (6, .int z6_68), (7, .int z7_68)] → W p l e (rmO 2 45) s m a below meth c H locs 0 0 Q (F0 m 68 ls []) := by
            intro n68
            induction n68 with
            | zero =>
              intro z4_68 z5_68 z6_68 z7_68 σc68 H locs ls f68_0 f68_1 f68_2 f68_3 f68_4 f68_5 f68_6 f68_7 hI hm68 hw hl
              exfalso; omega
            | succ n68 ih68 =>
              intro z4_68 z5_68 z6_68 z7_68 σc68 H locs ls f68_0 f68_1 f68_2 f68_3 f68_4 f68_5 f68_6 f68_7 hI hm68 hw hl
              refine lv_iload hx hb dX11_spiral_68 (lv_at hl 7 rfl) ?_
              refine lv_if_eq (tgt := 78) hx hb dX11_spiral_70 (by decide) (fun c70 => ?_) (fun c70 => ?_)
              · have c70i := congrArg Int32.toInt c70
                have w78 : z7_68.toInt ≤ 7 := by omega
                refine lv_iconst (v := 0) hx hb dX11_spiral_78 (by decide) ?_
                refine lv_istore (lv' := [(8, .int (0 : Int32)), (0, .ref (ad G (78))), (1, .int v), (2, .int w), (3, .int u), (4, .int z4_68), (5, .int z5_68), (6, .int z6_68), (7, .int z7_68)]) hx hb dX11_spiral_79 hl (by decide) rfl (fun ls hl => ?_)
                have cut81 : ∀ (n : Nat) (z4_81 : Int32) (z5_81 : Int32) (z8_81 : Int32) (σc81 : Sg) (H : Heap) (locs : List Loc) (ls : Array Slot), (0 ≤ z8_81.toInt ∧ z8_81.toInt ≤ 9) → (0 ≤ (σc81 78 13).toInt) → ((σc81 78 13).toInt ≤ 1 + 9 * z7_68.toInt + z8_81.toInt) → K0 σ σc81 → ((v.toInt - z8_81.toInt).toNat : Int) < (n : Int) → Wo G σc81 s H locs → lv_has ls 9 [(0, .ref (ad G (78))), (1, .int v), (2, .int w), (3, .int u), (4, .int z4_81), (5, .int z5_81), (6, .int z6_68), (7, .int z7_68), (8, .int z8_81)] → W p l e (rmO 2 45) s m a below meth c H locs 0 0 Q (F0 m 81 ls []) := by
                  intro n81
                  induction n81 with
                  | zero =>
                    intro z4_81 z5_81 z8_81 σc81 H locs ls f81_0 f81_1 f81_2 hI hm81 hw hl
                    exfalso; omega
                  | succ n81 ih81 =>
                    intro z4_81 z5_81 z8_81 σc81 H locs ls f81_0 f81_1 f81_2 hI hm81 hw hl
                    refine lv_iload hx hb dX11_spiral_81 (lv_at hl 8 rfl) ?_
                    refine lv_iload_n hx hb dX11_spiral_83 rfl (lv_at hl 1 rfl) ?_
                    refine lv_icmp_ge (tgt := 121) hx hb dX11_spiral_84 (by decide) (fun c84 => ?_) (fun c84 => ?_)
                    · have c84i := Int32.le_iff_toInt_le.mp c84
                      refine lv_iload hx hb dX11_spiral_121 (lv_at hl 6 rfl) ?_
                      refine lv_iload_n hx hb dX11_spiral_123 rfl (lv_at hl 2 rfl) ?_
                      refine lv_iadd hx hb dX11_spiral_124 ?_
                      refine lv_topi (fun x10 ex10 => ?_)
                      have tx10 : x10.toInt = z6_68.toInt + w.toInt := by rw [ex10]; exact Jvm.Kit.i32_add (by omega) (by omega)
                      refine lv_iconst (v := 1) hx hb dX11_spiral_125 (by decide) ?_
                      refine lv_isub hx hb dX11_spiral_126 ?_
                      refine lv_topi (fun x11 ex11 => ?_)
                      have tx11 : x11.toInt = x10.toInt - (1 : Int32).toInt := by rw [ex11]; exact Jvm.Kit.i32_sub (by omega) (by omega)
                      refine lv_bipush (v := 8) hx hb dX11_spiral_127 (by decide) ?_
                      refine lv_iadd hx hb dX11_spiral_129 ?_
                      refine lv_topi (fun x12 ex12 => ?_)
                      have tx12 : x12.toInt = x11.toInt + (8 : Int32).toInt := by rw [ex12]; exact Jvm.Kit.i32_add (by omega) (by omega)
                      refine lv_bipush (v := 8) hx hb dX11_spiral_130 (by decide) ?_
                      refine lv_irem hx hb dX11_spiral_132 (by decide) ?_
                      refine lv_topi (fun x13 ex13 => ?_)
                      have tx13 : x13.toInt = x12.toInt % 8 := by rw [ex13]; exact irem_nn L8 (by omega)
                      have bx13 : 0 ≤ x13.toInt ∧ x13.toInt ≤ 7 := by omega
                      refine lv_istore (lv' := [(6, .int x13), (0, .ref (ad G (78))), (1, .int v), (2, .int w), (3, .int u), (4, .int z4_81), (5, .int z5_81), (7, .int z7_68), (8, .int z8_81)]) hx hb dX11_spiral_133 hl (by decide) rfl (fun ls hl => ?_)
                      obtain ⟨x14, ex14⟩ : ∃ z : Int32, z = z7_68 + (1 : Int32) := ⟨_, rfl⟩
                      refine lv_iinc (v := x14) (lv' := [(7, .int x14), (6, .int x13), (0, .ref (ad G (78))), (1, .int v), (2, .int w), (3, .int u), (4, .int z4_81), (5, .int z5_81), (8, .int z8_81)]) hx hb dX11_spiral_135 hl (k := 7) rfl (by rw [ex14]; rfl) (by decide) rfl (fun ls hl => ?_)
                      have tx14 : x14.toInt = z7_68.toInt + 1 := by rw [ex14, Jvm.Kit.i32_add (by omega) (by omega)]; omega
                      refine lv_goto (tgt := 68) hx hb dX11_spiral_138 (by decide) ?_
                      exact ih68 z4_81 z5_81 x13 x14 σc81 _ _ _ (by omega) (by omega) (by omega) (by omega) (by omega) (by omega) (by omega) (by omega) hI (by omega) hw (lv_sub hl [2, 3, 4, 5, 6, 7, 1, 0] rfl)
                    · have c84i := mt Int32.le_iff_toInt_le.mpr c84
                      refine lv_iload hx hb dX11_spiral_87 (lv_at hl 4 rfl) ?_
                      refine lv_iload hx hb dX11_spiral_89 (lv_at hl 6 rfl) ?_
                      refine te_vi hw (ru_S (As := [.int z6_68]) (rest := [.int z4_81]) hx hb hml hts hown hk hw (c_X11_stepX l G hG σc81 hI.1 z6_68) (m3_in wd362 wd363 wd5) wd364 nm_yX11_stepX ⟨rfl, rfl⟩ ⟨by decide, by decide⟩ rfl hl.1 rfl (Nat.le_of_ble_eq_true rfl) dX11_spiral_91 ⟨Nat.zero_le _, Nat.zero_le _⟩) (fun r16 σ15 H locs hr16 hw => ?_)
                      rw [hr16.1] at hw
                      have hr16 := hr16.2
                      refine lv_iadd hx hb dX11_spiral_94 ?_
                      refine lv_topi (fun x17 ex17 => ?_)
                      refine lv_istore (lv' := [(4, .int x17), (0, .ref (ad G (78))), (1, .int v), (2, .int w), (3, .int u), (5, .int z5_81), (6, .int z6_68), (7, .int z7_68), (8, .int z8_81)]) hx hb dX11_spiral_95 hl (by decide) rfl (fun ls hl => ?_)
                      refine lv_iload hx hb dX11_spiral_97 (lv_at hl 5 rfl) ?_
                      refine lv_iload hx hb dX11_spiral_99 (lv_at hl 6 rfl) ?_
                      refine te_vi hw (ru_S (As := [.int z6_68]) (rest := [.int z5_81]) hx hb hml hts hown hk hw (c_X11_stepY l G hG σc81 hI.1 z6_68) (m3_in wd366 wd367 wd5) wd368 nm_yX11_stepY ⟨rfl, rfl⟩ ⟨by decide, by decide⟩ rfl hl.1 rfl (Nat.le_of_ble_eq_true rfl) dX11_spiral_101 ⟨Nat.zero_le _, Nat.zero_le _⟩) (fun r19 σ18 H locs hr19 hw => ?_)
                      rw [hr19.1] at hw
                      have hr19 := hr19.2
                      refine lv_iadd hx hb dX11_spiral_104 ?_
                      refine lv_topi (fun x20 ex20 => ?_)
                      refine lv_istore (lv' := [(5, .int x20), (4, .int x17), (0, .ref (ad G (78))), (1, .int v), (2, .int w), (3, .int u), (6, .int z6_68), (7, .int z7_68), (8, .int z8_81)]) hx hb dX11_spiral_105 hl (by decide) rfl (fun ls hl => ?_)
                      refine lv_aload_n hx hb dX11_spiral_107 rfl (lv_at hl 2 rfl) ?_
                      refine lv_iload hx hb dX11_spiral_108 (lv_at hl 1 rfl) ?_
                      refine lv_iload hx hb dX11_spiral_110 (lv_at hl 0 rfl) ?_
                      refine te_vv hw (ru_V (As := [.int x17, .int x20]) (rest := []) (C := RX11) hx hb hml hts hown hk hw (c_X11_be l G hG σc81 hI.1 x17 x20 (by omega)) (m4_in wd506 wd507 wd508 wd5) wd509 (en10 (rfl : nk 78 = 10)) rfl rfl rfl nm_yX11_be ⟨rfl, rfl⟩ ⟨by decide, by decide⟩ rfl hl.1 rfl (Nat.le_of_ble_eq_true rfl) dX11_spiral_112 ⟨Nat.zero_le _, Nat.zero_le _⟩) (fun σ21 H locs hr22 hw => ?_)
                      have hI := hI.go hr22.1
                      have hr22 := hr22.2
                      obtain ⟨x23, ex23⟩ : ∃ z : Int32, z = z8_81 + (1 : Int32) := ⟨_, rfl⟩
                      refine lv_iinc (v := x23) (lv' := [(8, .int x23), (5, .int x20), (4, .int x17), (0, .ref (ad G (78))), (1, .int v), (2, .int w), (3, .int u), (6, .int z6_68), (7, .int z7_68)]) hx hb dX11_spiral_115 hl (k := 8) rfl (by rw [ex23]; rfl) (by decide) rfl (fun ls hl => ?_)
                      have tx23 : x23.toInt = z8_81.toInt + 1 := by rw [ex23, Jvm.Kit.i32_add (by omega) (by omega)]; omega
                      refine lv_goto (tgt := 81) hx hb dX11_spiral_118 (by decide) ?_
                      exact ih81 x17 x20 x23 σ21 _ _ _ (by omega) (by omega) (by omega) hI (by omega) hw (lv_sub hl [3, 4, 5, 6, 2, 1, 7, 8, 0] rfl)
                exact cut81 ((((v.toInt - (0 : Int32).toInt).toNat : Int)).toNat + 1) z4_68 z5_68 (0 : Int32) σc68 _ _ _ (by omega) (by omega) (by omega) hI (by omega) hw (lv_sub hl [1, 2, 3, 4, 5, 6, 7, 8, 0] rfl)
              · have c70i := mt Int32.toInt_inj.mp c70
                refine lv_iload hx hb dX11_spiral_73 (lv_at hl 6 rfl) ?_
                refine lv_if_eq (tgt := 141) hx hb dX11_spiral_75 (by decide) (fun c75 => ?_) (fun c75 => ?_)
                · have c75i := congrArg Int32.toInt c75
                  refine lv_iload_n hx hb dX11_spiral_141 rfl (lv_at hl 3 rfl) ?_
                  refine lv_if_ne (tgt := 150) hx hb dX11_spiral_142 (by decide) (fun c142 => ?_) (fun c142 => ?_)
                  · have c142i := mt Int32.toInt_inj.mp c142
                    refine lv_aload_n hx hb dX11_spiral_150 rfl (lv_at hl 0 rfl) ?_
                    refine tg_get (ci := 10) (k := 13) (v := .int (σc68 (78) 13)) hx hb hts hown hk hw (en10 (rfl : nk 78 = 10)) rfl inlX11 (by decide) wd505 rfl dX11_spiral_151 ?_
                    refine lv_topi (fun x24 ex24 => ?_)
                    exact ret x24 σc68 _ _ 154 _ (rfl) (⟨hI, trivial⟩) hw dX11_spiral_154
                  · have c142i := congrArg Int32.toInt c142
                    refine lv_iload hx hb dX11_spiral_145 (lv_at hl 7 rfl) ?_
                    refine lv_goto (tgt := 154) hx hb dX11_spiral_147 (by decide) ?_
                    exact ret z7_68 σc68 _ _ 154 _ (rfl) (⟨hI, trivial⟩) hw dX11_spiral_154
                · have c75i := mt Int32.toInt_inj.mp c75
                  have w78 : z7_68.toInt ≤ 7 := by omega
                  refine lv_iconst (v := 0) hx hb dX11_spiral_78 (by decide) ?_
                  refine lv_istore (lv' := [(8, .int (0 : Int32)), (0, .ref (ad G (78))), (1, .int v), (2, .int w), (3, .int u), (4, .int z4_68), (5, .int z5_68), (6, .int z6_68), (7, .int z7_68)]) hx hb dX11_spiral_79 hl (by decide) rfl (fun ls hl => ?_)
                  have cut81 : ∀ (n : Nat) (z4_81 : Int32) (z5_81 : Int32) (z8_81 : Int32) (σc81 : Sg) (H : Heap) (locs : List Loc) (ls : Array Slot), (0 ≤ z8_81.toInt ∧ z8_81.toInt ≤ 9) → (0 ≤ (σc81 78 13).toInt) → ((σc81 78 13).toInt ≤ 1 + 9 * z7_68.toInt + z8_81.toInt) → K0 σ σc81 → ((v.toInt - z8_81.toInt).toNat : Int) < (n : Int) → Wo G σc81 s H locs → lv_has ls 9 [(0, .ref (ad G (78))), (1, .int v), (2, .int w), (3, .int u), (4, .int z4_81), (5, .int z5_81), (6, .int z6_68), (7, .int z7_68), (8, .int z8_81)] → W p l e (rmO 2 45) s m a below meth c H locs 0 0 Q (F0 m 81 ls []) := by
                    intro n81
                    induction n81 with
                    | zero =>
                      intro z4_81 z5_81 z8_81 σc81 H locs ls f81_0 f81_1 f81_2 hI hm81 hw hl
                      exfalso; omega
                    | succ n81 ih81 =>
                      intro z4_81 z5_81 z8_81 σc81 H locs ls f81_0 f81_1 f81_2 hI hm81 hw hl
                      refine lv_iload hx hb dX11_spiral_81 (lv_at hl 8 rfl) ?_
                      refine lv_iload_n hx hb dX11_spiral_83 rfl (lv_at hl 1 rfl) ?_
                      refine lv_icmp_ge (tgt := 121) hx hb dX11_spiral_84 (by decide) (fun c84 => ?_) (fun c84 => ?_)
                      · have c84i := Int32.le_iff_toInt_le.mp c84
                        refine lv_iload hx hb dX11_spiral_121 (lv_at hl 6 rfl) ?_
                        refine lv_iload_n hx hb dX11_spiral_123 rfl (lv_at hl 2 rfl) ?_
                        refine lv_iadd hx hb dX11_spiral_124 ?_
                        refine lv_topi (fun x25 ex25 => ?_)
                        have tx25 : x25.toInt = z6_68.toInt + w.toInt := by rw [ex25]; exact Jvm.Kit.i32_add (by omega) (by omega)
                        refine lv_iconst (v := 1) hx hb dX11_spiral_125 (by decide) ?_
                        refine lv_isub hx hb dX11_spiral_126 ?_
                        refine lv_topi (fun x26 ex26 => ?_)
                        have tx26 : x26.toInt = x25.toInt - (1 : Int32).toInt := by rw [ex26]; exact Jvm.Kit.i32_sub (by omega) (by omega)
                        refine lv_bipush (v := 8) hx hb dX11_spiral_127 (by decide) ?_
                        refine lv_iadd hx hb dX11_spiral_129 ?_
                        refine lv_topi (fun x27 ex27 => ?_)
                        have tx27 : x27.toInt = x26.toInt + (8 : Int32).toInt := by rw [ex27]; exact Jvm.Kit.i32_add (by omega) (by omega)
                        refine lv_bipush (v := 8) hx hb dX11_spiral_130 (by decide) ?_
                        refine lv_irem hx hb dX11_spiral_132 (by decide) ?_
                        refine lv_topi (fun x28 ex28 => ?_)
                        have tx28 : x28.toInt = x27.toInt % 8 := by rw [ex28]; exact irem_nn L8 (by omega)
                        have bx28 : 0 ≤ x28.toInt ∧ x28.toInt ≤ 7 := by omega
                        refine lv_istore (lv' := [(6, .int x28), (0, .ref (ad G (78))), (1, .int v), (2, .int w), (3, .int u), (4, .int z4_81), (5, .int z5_81), (7, .int z7_68), (8, .int z8_81)]) hx hb dX11_spiral_133 hl (by decide) rfl (fun ls hl => ?_)
                        obtain ⟨x29, ex29⟩ : ∃ z : Int32, z = z7_68 + (1 : Int32) := ⟨_, rfl⟩
                        refine lv_iinc (v := x29) (lv' := [(7, .int x29), (6, .int x28), (0, .ref (ad G (78))), (1, .int v), (2, .int w), (3, .int u), (4, .int z4_81), (5, .int z5_81), (8, .int z8_81)]) hx hb dX11_spiral_135 hl (k := 7) rfl (by rw [ex29]; rfl) (by decide) rfl (fun ls hl => ?_)
                        have tx29 : x29.toInt = z7_68.toInt + 1 := by rw [ex29, Jvm.Kit.i32_add (by omega) (by omega)]; omega
                        refine lv_goto (tgt := 68) hx hb dX11_spiral_138 (by decide) ?_
                        exact ih68 z4_81 z5_81 x28 x29 σc81 _ _ _ (by omega) (by omega) (by omega) (by omega) (by omega) (by omega) (by omega) (by omega) hI (by omega) hw (lv_sub hl [2, 3, 4, 5, 6, 7, 1, 0] rfl)
                      · have c84i := mt Int32.le_iff_toInt_le.mpr c84
                        refine lv_iload hx hb dX11_spiral_87 (lv_at hl 4 rfl) ?_
                        refine lv_iload hx hb dX11_spiral_89 (lv_at hl 6 rfl) ?_
                        refine te_vi hw (ru_S (As := [.int z6_68]) (rest := [.int z4_81]) hx hb hml hts hown hk hw (c_X11_stepX l G hG σc81 hI.1 z6_68) (m3_in wd362 wd363 wd5) wd364 nm_yX11_stepX ⟨rfl, rfl⟩ ⟨by decide, by decide⟩ rfl hl.1 rfl (Nat.le_of_ble_eq_true rfl) dX11_spiral_91 ⟨Nat.zero_le _, Nat.zero_le _⟩) (fun r31 σ30 H locs hr31 hw => ?_)
                        rw [hr31.1] at hw
                        have hr31 := hr31.2
                        refine lv_iadd hx hb dX11_spiral_94 ?_
                        refine lv_topi (fun x32 ex32 => ?_)
                        refine lv_istore (lv' := [(4, .int x32), (0, .ref (ad G (78))), (1, .int v), (2, .int w), (3, .int u), (5, .int z5_81), (6, .int z6_68), (7, .int z7_68), (8, .int z8_81)]) hx hb dX11_spiral_95 hl (by decide) rfl (fun ls hl => ?_)
                        refine lv_iload hx hb dX11_spiral_97 (lv_at hl 5 rfl) ?_
                        refine lv_iload hx hb dX11_spiral_99 (lv_at hl 6 rfl) ?_
                        refine te_vi hw (ru_S (As := [.int z6_68]) (rest := [.int z5_81]) hx hb hml hts hown hk hw (c_X11_stepY l G hG σc81 hI.1 z6_68) (m3_in wd366 wd367 wd5) wd368 nm_yX11_stepY ⟨rfl, rfl⟩ ⟨by decide, by decide⟩ rfl hl.1 rfl (Nat.le_of_ble_eq_true rfl) dX11_spiral_101 ⟨Nat.zero_le _, Nat.zero_le _⟩) (fun r34 σ33 H locs hr34 hw => ?_)
                        rw [hr34.1] at hw
                        have hr34 := hr34.2
                        refine lv_iadd hx hb dX11_spiral_104 ?_
                        refine lv_topi (fun x35 ex35 => ?_)
                        refine lv_istore (lv' := [(5, .int x35), (4, .int x32), (0, .ref (ad G (78))), (1, .int v), (2, .int w), (3, .int u), (6, .int z6_68), (7, .int z7_68), (8, .int z8_81)]) hx hb dX11_spiral_105 hl (by decide) rfl (fun ls hl => ?_)
                        refine lv_aload_n hx hb dX11_spiral_107 rfl (lv_at hl 2 rfl) ?_
                        refine lv_iload hx hb dX11_spiral_108 (lv_at hl 1 rfl) ?_
                        refine lv_iload hx hb dX11_spiral_110 (lv_at hl 0 rfl) ?_
                        refine te_vv hw (ru_V (As := [.int x32, .int x35]) (rest := []) (C := RX11) hx hb hml hts hown hk hw (c_X11_be l G hG σc81 hI.1 x32 x35 (by omega)) (m4_in wd506 wd507 wd508 wd5) wd509 (en10 (rfl : nk 78 = 10)) rfl rfl rfl nm_yX11_be ⟨rfl, rfl⟩ ⟨by decide, by decide⟩ rfl hl.1 rfl (Nat.le_of_ble_eq_true rfl) dX11_spiral_112 ⟨Nat.zero_le _, Nat.zero_le _⟩) (fun σ36 H locs hr37 hw => ?_)
                        have hI := hI.go hr37.1
                        have hr37 := hr37.2
                        obtain ⟨x38, ex38⟩ : ∃ z : Int32, z = z8_81 + (1 : Int32) := ⟨_, rfl⟩
                        refine lv_iinc (v := x38) (lv' := [(8, .int x38), (5, .int x35), (4, .int x32), (0, .ref (ad G (78))), (1, .int v), (2, .int w), (3, .int u), (6, .int z6_68), (7, .int z7_68)]) hx hb dX11_spiral_115 hl (k := 8) rfl (by rw [ex38]; rfl) (by decide) rfl (fun ls hl => ?_)
                        have tx38 : x38.toInt = z8_81.toInt + 1 := by rw [ex38, Jvm.Kit.i32_add (by omega) (by omega)]; omega
                        refine lv_goto (tgt := 81) hx hb dX11_spiral_118 (by decide) ?_
                        exact ih81 x32 x35 x38 σ36 _ _ _ (by omega) (by omega) (by omega) hI (by omega) hw (lv_sub hl [3, 4, 5, 6, 2, 1, 7, 8, 0] rfl)
                  exact cut81 ((((v.toInt - (0 : Int32).toInt).toNat : Int)).toNat + 1) z4_68 z5_68 (0 : Int32) σc68 _ _ _ (by omega) (by omega) (by omega) hI (by omega) hw (lv_sub hl [1, 2, 3, 4, 5, 6, 7, 8, 0] rfl)
          exact cut68 ((((8 - (0 : Int32).toInt).toNat : Int)).toNat + 1) (0 : Int32) (0 : Int32) (0 : Int32) (0 : Int32) σ8 _ _ _ (by omega) (by omega) (by omega) (by omega) (by omega) (by omega) (by omega) (by omega) hI (by omega) hw (lv_sub hl [4, 5, 6, 7, 3, 2, 1, 0] rfl)
        · have c39i := congrArg Int32.toInt c39
          refine lv_bipush (v := -6) hx hb dX11_spiral_42 (by decide) ?_
          exact ret (-6 : Int32) σ _ _ 44 _ (rfl) (⟨hI, trivial⟩) hw dX11_spiral_44
      · have c31i := congrArg Int32.toInt c31
        have p31 := bz0 hr6 c31
        refine lv_bipush (v := -2) hx hb dX11_spiral_34 (by decide) ?_
        exact ret (-2 : Int32) σ _ _ 36 _ (rfl) (⟨hI, trivial⟩) hw dX11_spiral_36
