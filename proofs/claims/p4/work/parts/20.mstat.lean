set_option maxHeartbeats 4000000 in
set_option maxRecDepth 100000 in
theorem c_X11_in (l : Launch) (G : Gg) (hG : Ginj G) (σ : Sg) (hI0 : Inv σ) (l0 : Int64) (l1 : Int64) (l2 : Int64) : MI l G yX11_in cX11_in 6 .boolean (rmO 0 0) σ [.long l0, .long l1, .long l2] (fun r σ' => σ' = σ ∧ ((r = 1 ∧ (l1.toInt ≤ l0.toInt ∧ l0.toInt ≤ l2.toInt)) ∨ (r = 0 ∧ ¬ (l1.toInt ≤ l0.toInt ∧ l0.toInt ≤ l2.toInt)))) := by
  refine MI.of (by decide +kernel) (Nat.le_of_ble_eq_true rfl) ?_
  intro p e s m a below meth c ls Q hx hb hml hts hown hk hw ret hl
  have hown : s.vm.findClass RX11 = some m.cls := hown
  have hl : lv_has ls 6 [(0, .long l0), (2, .long l1), (4, .long l2)] := hl
  have hI : K0 σ σ := K0.rf hI0
  have L0 : (0 : Int32).toInt = 0 := by decide
  have L1 : (1 : Int32).toInt = 1 := by decide
  generalize hHe : s.heap = H at hw ⊢
  generalize hLe : ([] : List Loc) = locs at hw ⊢
  refine lv_lload_n hx hb dX11_in_0 rfl (lv_at hl 0 rfl) ?_
  refine lv_lload_n hx hb dX11_in_1 rfl (lv_at hl 1 rfl) ?_
  refine W.lcmp hx hb dX11_in_2 ?_
  refine lv_if_lt (tgt := 17) hx hb dX11_in_3 (by decide) (fun c3 => ?_) (fun c3 => ?_)
  · have c3i := Int64.lt_iff_toInt_lt.mp ((lg_cmp_lt _ _).mp c3)
    refine lv_iconst (v := 0) hx hb dX11_in_17 (by decide) ?_
    exact ret (0 : Int32) σ _ _ 18 _ (rfl) (⟨rfl, by first | exact Or.inl ⟨rfl, by omega⟩ | exact Or.inr ⟨rfl, by omega⟩ | omega⟩) hw dX11_in_18
  · have c3i := mt (fun z => (lg_cmp_lt _ _).mpr (Int64.lt_iff_toInt_lt.mpr z)) c3
    refine lv_lload_n hx hb dX11_in_6 rfl (lv_at hl 0 rfl) ?_
    refine lv_lload hx hb dX11_in_7 (lv_at hl 2 rfl) ?_
    refine W.lcmp hx hb dX11_in_9 ?_
    refine lv_if_gt (tgt := 17) hx hb dX11_in_10 (by decide) (fun c10 => ?_) (fun c10 => ?_)
    · have c10i := Int64.lt_iff_toInt_lt.mp ((lg_cmp_gt _ _).mp c10)
      refine lv_iconst (v := 0) hx hb dX11_in_17 (by decide) ?_
      exact ret (0 : Int32) σ _ _ 18 _ (rfl) (⟨rfl, by first | exact Or.inl ⟨rfl, by omega⟩ | exact Or.inr ⟨rfl, by omega⟩ | omega⟩) hw dX11_in_18
    · have c10i := mt (fun z => (lg_cmp_gt _ _).mpr (Int64.lt_iff_toInt_lt.mpr z)) c10
      refine lv_iconst (v := 1) hx hb dX11_in_13 (by decide) ?_
      refine lv_goto (tgt := 18) hx hb dX11_in_14 (by decide) ?_
      exact ret (1 : Int32) σ _ _ 18 _ (rfl) (⟨rfl, by first | exact Or.inl ⟨rfl, by omega⟩ | exact Or.inr ⟨rfl, by omega⟩ | omega⟩) hw dX11_in_18
set_option maxHeartbeats 4000000 in
set_option maxRecDepth 100000 in
theorem c_X11_size (l : Launch) (G : Gg) (hG : Ginj G) (σ : Sg) (hI0 : Inv σ) (v : Int32) : MI l G yX11_size cX11_size 1 .int (rmO 0 0) σ [.int v] (fun r σ' => σ' = σ ∧ (True)) := by
  refine MI.of (by decide +kernel) (Nat.le_of_ble_eq_true rfl) ?_
  intro p e s m a below meth c ls Q hx hb hml hts hown hk hw ret hl
  have hown : s.vm.findClass RX11 = some m.cls := hown
  have hl : lv_has ls 1 [(0, .int v)] := hl
  have hI : K0 σ σ := K0.rf hI0
  have L0 : (0 : Int32).toInt = 0 := by decide
  generalize hHe : s.heap = H at hw ⊢
  generalize hLe : ([] : List Loc) = locs at hw ⊢
  refine lv_iload_n hx hb dX11_size_0 rfl (lv_at hl 0 rfl) ?_
  refine lv_if_ge (tgt := 9) hx hb dX11_size_1 (by decide) (fun c1 => ?_) (fun c1 => ?_)
  · have c1i := Int32.le_iff_toInt_le.mp c1
    refine lv_iload_n hx hb dX11_size_9 rfl (lv_at hl 0 rfl) ?_
    exact ret v σ _ _ 10 _ (rfl) (⟨rfl, trivial⟩) hw dX11_size_10
  · have c1i := mt Int32.le_iff_toInt_le.mpr c1
    refine lv_iload_n hx hb dX11_size_4 rfl (lv_at hl 0 rfl) ?_
    refine lv_ineg hx hb dX11_size_5 ?_
    refine lv_topi (fun x1 ex1 => ?_)
    refine lv_goto (tgt := 10) hx hb dX11_size_6 (by decide) ?_
    exact ret x1 σ _ _ 10 _ (rfl) (⟨rfl, trivial⟩) hw dX11_size_10
set_option maxHeartbeats 4000000 in
set_option maxRecDepth 100000 in
theorem c_X11_isSower (l : Launch) (G : Gg) (hG : Ginj G) (σ : Sg) (hI0 : Inv σ) (v : Int32) : MI l G yX11_isSower cX11_isSower 1 .boolean (rmO 1 25) σ [.int v] (fun r σ' => σ' = σ ∧ ((r = 1 ∧ (0 ≤ v.toInt ∧ v.toInt ≤ 3)) ∨ (r = 0 ∧ ¬ (0 ≤ v.toInt ∧ v.toInt ≤ 3)))) := by
  refine MI.of (by decide +kernel) (Nat.le_of_ble_eq_true rfl) ?_
  intro p e s m a below meth c ls Q hx hb hml hts hown hk hw ret hl
  have hown : s.vm.findClass RX11 = some m.cls := hown
  have hl : lv_has ls 1 [(0, .int v)] := hl
  have hI : K0 σ σ := K0.rf hI0
  have M0 : (0 : Int64).toInt = 0 := by decide
  have M3 : (3 : Int64).toInt = 3 := by decide
  generalize hHe : s.heap = H at hw ⊢
  generalize hLe : ([] : List Loc) = locs at hw ⊢
  refine lv_iload_n hx hb dX11_isSower_0 rfl (lv_at hl 0 rfl) ?_
  refine lv_i2l hx hb dX11_isSower_1 rfl ?_
  refine lv_lconst (v := 0) hx hb dX11_isSower_2 (by decide) ?_
  refine lv_ldc2 hx hb hown (hts _ wd155) dX11_isSower_3 ?_
  refine te_vi hw (ru_S (As := [.long v.toInt64, .long (0 : Int64), .long (3 : Int64)]) (rest := []) hx hb hml hts hown hk hw (c_X11_in l G hG σ hI.1 v.toInt64 (0 : Int64) (3 : Int64)) (m3_in wd156 wd157 wd5) wd158 nm_yX11_in ⟨rfl, rfl⟩ ⟨by decide, by decide⟩ rfl hl.1 rfl (Nat.le_of_ble_eq_true rfl) dX11_isSower_6 ⟨Nat.zero_le _, Nat.zero_le _⟩) (fun r2 σ1 H locs hr2 hw => ?_)
  rw [hr2.1] at hw
  have hr2 := hr2.2
  simp only [Int32.toInt_toInt64] at hr2
  exact ret r2 σ _ _ 9 _ (bzn hr2) (⟨rfl, by have q := hr2; simp only [M0, M3] at q; exact q⟩) hw dX11_isSower_9
set_option maxHeartbeats 4000000 in
set_option maxRecDepth 100000 in
theorem c_X11_isCell (l : Launch) (G : Gg) (hG : Ginj G) (σ : Sg) (hI0 : Inv σ) (v : Int32) : MI l G yX11_isCell cX11_isCell 1 .boolean (rmO 1 25) σ [.int v] (fun r σ' => σ' = σ ∧ ((r = 1 ∧ (0 ≤ v.toInt ∧ v.toInt ≤ 63)) ∨ (r = 0 ∧ ¬ (0 ≤ v.toInt ∧ v.toInt ≤ 63)))) := by
  refine MI.of (by decide +kernel) (Nat.le_of_ble_eq_true rfl) ?_
  intro p e s m a below meth c ls Q hx hb hml hts hown hk hw ret hl
  have hown : s.vm.findClass RX11 = some m.cls := hown
  have hl : lv_has ls 1 [(0, .int v)] := hl
  have hI : K0 σ σ := K0.rf hI0
  have M0 : (0 : Int64).toInt = 0 := by decide
  have M63 : (63 : Int64).toInt = 63 := by decide
  generalize hHe : s.heap = H at hw ⊢
  generalize hLe : ([] : List Loc) = locs at hw ⊢
  refine lv_iload_n hx hb dX11_isCell_0 rfl (lv_at hl 0 rfl) ?_
  refine lv_i2l hx hb dX11_isCell_1 rfl ?_
  refine lv_lconst (v := 0) hx hb dX11_isCell_2 (by decide) ?_
  refine lv_ldc2 hx hb hown (hts _ wd188) dX11_isCell_3 ?_
  refine te_vi hw (ru_S (As := [.long v.toInt64, .long (0 : Int64), .long (63 : Int64)]) (rest := []) hx hb hml hts hown hk hw (c_X11_in l G hG σ hI.1 v.toInt64 (0 : Int64) (63 : Int64)) (m3_in wd156 wd157 wd5) wd158 nm_yX11_in ⟨rfl, rfl⟩ ⟨by decide, by decide⟩ rfl hl.1 rfl (Nat.le_of_ble_eq_true rfl) dX11_isCell_6 ⟨Nat.zero_le _, Nat.zero_le _⟩) (fun r2 σ1 H locs hr2 hw => ?_)
  rw [hr2.1] at hw
  have hr2 := hr2.2
  simp only [Int32.toInt_toInt64] at hr2
  exact ret r2 σ _ _ 9 _ (bzn hr2) (⟨rfl, by have q := hr2; simp only [M0, M63] at q; exact q⟩) hw dX11_isCell_9
set_option maxHeartbeats 4000000 in
set_option maxRecDepth 100000 in
theorem c_X11_isKind (l : Launch) (G : Gg) (hG : Ginj G) (σ : Sg) (hI0 : Inv σ) (v : Int32) : MI l G yX11_isKind cX11_isKind 1 .boolean (rmO 1 25) σ [.int v] (fun r σ' => σ' = σ ∧ ((r = 1 ∧ (0 ≤ v.toInt ∧ v.toInt ≤ 3)) ∨ (r = 0 ∧ ¬ (0 ≤ v.toInt ∧ v.toInt ≤ 3)))) := by
  refine MI.of (by decide +kernel) (Nat.le_of_ble_eq_true rfl) ?_
  intro p e s m a below meth c ls Q hx hb hml hts hown hk hw ret hl
  have hown : s.vm.findClass RX11 = some m.cls := hown
  have hl : lv_has ls 1 [(0, .int v)] := hl
  have hI : K0 σ σ := K0.rf hI0
  have M0 : (0 : Int64).toInt = 0 := by decide
  have M3 : (3 : Int64).toInt = 3 := by decide
  generalize hHe : s.heap = H at hw ⊢
  generalize hLe : ([] : List Loc) = locs at hw ⊢
  refine lv_iload_n hx hb dX11_isKind_0 rfl (lv_at hl 0 rfl) ?_
  refine lv_i2l hx hb dX11_isKind_1 rfl ?_
  refine lv_lconst (v := 0) hx hb dX11_isKind_2 (by decide) ?_
  refine lv_ldc2 hx hb hown (hts _ wd155) dX11_isKind_3 ?_
  refine te_vi hw (ru_S (As := [.long v.toInt64, .long (0 : Int64), .long (3 : Int64)]) (rest := []) hx hb hml hts hown hk hw (c_X11_in l G hG σ hI.1 v.toInt64 (0 : Int64) (3 : Int64)) (m3_in wd156 wd157 wd5) wd158 nm_yX11_in ⟨rfl, rfl⟩ ⟨by decide, by decide⟩ rfl hl.1 rfl (Nat.le_of_ble_eq_true rfl) dX11_isKind_6 ⟨Nat.zero_le _, Nat.zero_le _⟩) (fun r2 σ1 H locs hr2 hw => ?_)
  rw [hr2.1] at hw
  have hr2 := hr2.2
  simp only [Int32.toInt_toInt64] at hr2
  exact ret r2 σ _ _ 9 _ (bzn hr2) (⟨rfl, by have q := hr2; simp only [M0, M3] at q; exact q⟩) hw dX11_isKind_9
set_option maxHeartbeats 4000000 in
set_option maxRecDepth 100000 in
theorem c_X11_stepX (l : Launch) (G : Gg) (hG : Ginj G) (σ : Sg) (hI0 : Inv σ) (v : Int32) : MI l G yX11_stepX cX11_stepX 1 .int (rmO 1 25) σ [.int v] (fun r σ' => σ' = σ ∧ ((1 ≤ v.toInt ∧ v.toInt ≤ 3 → r.toInt = 1) ∧ (5 ≤ v.toInt ∧ v.toInt ≤ 7 → r.toInt = -1) ∧ (v.toInt = 0 ∨ v.toInt = 4 → r.toInt = 0) ∧ -1 ≤ r.toInt ∧ r.toInt ≤ 1)) := by
  refine MI.of (by decide +kernel) (Nat.le_of_ble_eq_true rfl) ?_
  intro p e s m a below meth c ls Q hx hb hml hts hown hk hw ret hl
  have hown : s.vm.findClass RX11 = some m.cls := hown
  have hl : lv_has ls 1 [(0, .int v)] := hl
  have hI : K0 σ σ := K0.rf hI0
  have Lm1 : (-1 : Int32).toInt = -1 := by decide
  have L0 : (0 : Int32).toInt = 0 := by decide
  have L1 : (1 : Int32).toInt = 1 := by decide
  have M1 : (1 : Int64).toInt = 1 := by decide
  have M3 : (3 : Int64).toInt = 3 := by decide
  have M5 : (5 : Int64).toInt = 5 := by decide
  have M7 : (7 : Int64).toInt = 7 := by decide
  generalize hHe : s.heap = H at hw ⊢
  generalize hLe : ([] : List Loc) = locs at hw ⊢
  refine lv_iload_n hx hb dX11_stepX_0 rfl (lv_at hl 0 rfl) ?_
  refine lv_i2l hx hb dX11_stepX_1 rfl ?_
  refine lv_lconst (v := 1) hx hb dX11_stepX_2 (by decide) ?_
  refine lv_ldc2 hx hb hown (hts _ wd155) dX11_stepX_3 ?_
  refine te_vi hw (ru_S (As := [.long v.toInt64, .long (1 : Int64), .long (3 : Int64)]) (rest := []) hx hb hml hts hown hk hw (c_X11_in l G hG σ hI.1 v.toInt64 (1 : Int64) (3 : Int64)) (m3_in wd156 wd157 wd5) wd158 nm_yX11_in ⟨rfl, rfl⟩ ⟨by decide, by decide⟩ rfl hl.1 rfl (Nat.le_of_ble_eq_true rfl) dX11_stepX_6 ⟨Nat.zero_le _, Nat.zero_le _⟩) (fun r2 σ1 H locs hr2 hw => ?_)
  rw [hr2.1] at hw
  have hr2 := hr2.2
  simp only [Int32.toInt_toInt64] at hr2
  refine lv_if_eq (tgt := 16) hx hb dX11_stepX_9 (by decide) (fun c9 => ?_) (fun c9 => ?_)
  · have c9i := congrArg Int32.toInt c9
    have p9 := bz0 hr2 c9
    refine lv_iload_n hx hb dX11_stepX_16 rfl (lv_at hl 0 rfl) ?_
    refine lv_i2l hx hb dX11_stepX_17 rfl ?_
    refine lv_ldc2 hx hb hown (hts _ wd151) dX11_stepX_18 ?_
    refine lv_ldc2 hx hb hown (hts _ wd365) dX11_stepX_21 ?_
    refine te_vi hw (ru_S (As := [.long v.toInt64, .long (5 : Int64), .long (7 : Int64)]) (rest := []) hx hb hml hts hown hk hw (c_X11_in l G hG σ hI.1 v.toInt64 (5 : Int64) (7 : Int64)) (m3_in wd156 wd157 wd5) wd158 nm_yX11_in ⟨rfl, rfl⟩ ⟨by decide, by decide⟩ rfl hl.1 rfl (Nat.le_of_ble_eq_true rfl) dX11_stepX_24 ⟨Nat.zero_le _, Nat.zero_le _⟩) (fun r4 σ3 H locs hr4 hw => ?_)
    rw [hr4.1] at hw
    have hr4 := hr4.2
    simp only [Int32.toInt_toInt64] at hr4
    refine lv_if_eq (tgt := 34) hx hb dX11_stepX_27 (by decide) (fun c27 => ?_) (fun c27 => ?_)
    · have c27i := congrArg Int32.toInt c27
      have p27 := bz0 hr4 c27
      refine lv_iconst (v := 0) hx hb dX11_stepX_34 (by decide) ?_
      exact ret (0 : Int32) σ _ _ 35 _ (rfl) (⟨rfl, by omega⟩) hw dX11_stepX_35
    · have c27i := mt Int32.toInt_inj.mp c27
      have p27 := bz1 hr4 c27
      refine lv_iconst (v := -1) hx hb dX11_stepX_30 (by decide) ?_
      refine lv_goto (tgt := 35) hx hb dX11_stepX_31 (by decide) ?_
      exact ret (-1 : Int32) σ _ _ 35 _ (rfl) (⟨rfl, by omega⟩) hw dX11_stepX_35
  · have c9i := mt Int32.toInt_inj.mp c9
    have p9 := bz1 hr2 c9
    refine lv_iconst (v := 1) hx hb dX11_stepX_12 (by decide) ?_
    refine lv_goto (tgt := 35) hx hb dX11_stepX_13 (by decide) ?_
    exact ret (1 : Int32) σ _ _ 35 _ (rfl) (⟨rfl, by omega⟩) hw dX11_stepX_35
set_option maxHeartbeats 4000000 in
set_option maxRecDepth 100000 in
theorem c_X11_stepY (l : Launch) (G : Gg) (hG : Ginj G) (σ : Sg) (hI0 : Inv σ) (v : Int32) : MI l G yX11_stepY cX11_stepY 1 .int (rmO 1 25) σ [.int v] (fun r σ' => σ' = σ ∧ ((3 ≤ v.toInt ∧ v.toInt ≤ 5 → r.toInt = 1) ∧ (v.toInt = 0 ∨ v.toInt = 1 ∨ v.toInt = 7 → r.toInt = -1) ∧ (v.toInt = 2 ∨ v.toInt = 6 → r.toInt = 0) ∧ -1 ≤ r.toInt ∧ r.toInt ≤ 1)) := by
  refine MI.of (by decide +kernel) (Nat.le_of_ble_eq_true rfl) ?_
  intro p e s m a below meth c ls Q hx hb hml hts hown hk hw ret hl
  have hown : s.vm.findClass RX11 = some m.cls := hown
  have hl : lv_has ls 1 [(0, .int v)] := hl
  have hI : K0 σ σ := K0.rf hI0
  have Lm1 : (-1 : Int32).toInt = -1 := by decide
  have L0 : (0 : Int32).toInt = 0 := by decide
  have L1 : (1 : Int32).toInt = 1 := by decide
  have L2 : (2 : Int32).toInt = 2 := by decide
  have L7 : (7 : Int32).toInt = 7 := by decide
  have M3 : (3 : Int64).toInt = 3 := by decide
  have M5 : (5 : Int64).toInt = 5 := by decide
  generalize hHe : s.heap = H at hw ⊢
  generalize hLe : ([] : List Loc) = locs at hw ⊢
  refine lv_iload_n hx hb dX11_stepY_0 rfl (lv_at hl 0 rfl) ?_
  refine lv_i2l hx hb dX11_stepY_1 rfl ?_
  refine lv_ldc2 hx hb hown (hts _ wd155) dX11_stepY_2 ?_
  refine lv_ldc2 hx hb hown (hts _ wd151) dX11_stepY_5 ?_
  refine te_vi hw (ru_S (As := [.long v.toInt64, .long (3 : Int64), .long (5 : Int64)]) (rest := []) hx hb hml hts hown hk hw (c_X11_in l G hG σ hI.1 v.toInt64 (3 : Int64) (5 : Int64)) (m3_in wd156 wd157 wd5) wd158 nm_yX11_in ⟨rfl, rfl⟩ ⟨by decide, by decide⟩ rfl hl.1 rfl (Nat.le_of_ble_eq_true rfl) dX11_stepY_8 ⟨Nat.zero_le _, Nat.zero_le _⟩) (fun r2 σ1 H locs hr2 hw => ?_)
  rw [hr2.1] at hw
  have hr2 := hr2.2
  simp only [Int32.toInt_toInt64] at hr2
  refine lv_if_eq (tgt := 18) hx hb dX11_stepY_11 (by decide) (fun c11 => ?_) (fun c11 => ?_)
  · have c11i := congrArg Int32.toInt c11
    have p11 := bz0 hr2 c11
    refine lv_iload_n hx hb dX11_stepY_18 rfl (lv_at hl 0 rfl) ?_
    refine lv_iconst (v := 2) hx hb dX11_stepY_19 (by decide) ?_
    refine lv_icmp_lt (tgt := 29) hx hb dX11_stepY_20 (by decide) (fun c20 => ?_) (fun c20 => ?_)
    · have ov := i32b v
      have c20i := Int32.lt_iff_toInt_lt.mp c20
      refine lv_iconst (v := -1) hx hb dX11_stepY_29 (by decide) ?_
      refine lv_goto (tgt := 34) hx hb dX11_stepY_30 (by decide) ?_
      exact ret (-1 : Int32) σ _ _ 34 _ (rfl) (⟨rfl, by omega⟩) hw dX11_stepY_34
    · have ov := i32b v
      have c20i := mt Int32.lt_iff_toInt_lt.mpr c20
      refine lv_iload_n hx hb dX11_stepY_23 rfl (lv_at hl 0 rfl) ?_
      refine lv_bipush (v := 7) hx hb dX11_stepY_24 (by decide) ?_
      refine lv_icmp_ne (tgt := 33) hx hb dX11_stepY_26 (by decide) (fun c26 => ?_) (fun c26 => ?_)
      · have ov := i32b v
        have c26i := mt Int32.toInt_inj.mp c26
        refine lv_iconst (v := 0) hx hb dX11_stepY_33 (by decide) ?_
        exact ret (0 : Int32) σ _ _ 34 _ (rfl) (⟨rfl, by omega⟩) hw dX11_stepY_34
      · have ov := i32b v
        have c26i := congrArg Int32.toInt c26
        refine lv_iconst (v := -1) hx hb dX11_stepY_29 (by decide) ?_
        refine lv_goto (tgt := 34) hx hb dX11_stepY_30 (by decide) ?_
        exact ret (-1 : Int32) σ _ _ 34 _ (rfl) (⟨rfl, by omega⟩) hw dX11_stepY_34
  · have c11i := mt Int32.toInt_inj.mp c11
    have p11 := bz1 hr2 c11
    refine lv_iconst (v := 1) hx hb dX11_stepY_14 (by decide) ?_
    refine lv_goto (tgt := 34) hx hb dX11_stepY_15 (by decide) ?_
    exact ret (1 : Int32) σ _ _ 34 _ (rfl) (⟨rfl, by omega⟩) hw dX11_stepY_34
set_option maxHeartbeats 4000000 in
set_option maxRecDepth 100000 in
theorem c_X11_far (l : Launch) (G : Gg) (hG : Ginj G) (σ : Sg) (hI0 : Inv σ) (v : Int32) (w : Int32) : MI l G yX11_far cX11_far 4 .int (rmO 1 20) σ [.int v, .int w] (fun r σ' => σ' = σ ∧ (True)) := by
  refine MI.of (by decide +kernel) (Nat.le_of_ble_eq_true rfl) ?_
  intro p e s m a below meth c ls Q hx hb hml hts hown hk hw ret hl
  have hown : s.vm.findClass RX11 = some m.cls := hown
  have hl : lv_has ls 4 [(0, .int v), (1, .int w)] := hl
  have hI : K0 σ σ := K0.rf hI0
  have L0 : (0 : Int32).toInt = 0 := by decide
  have L8 : (8 : Int32).toInt = 8 := by decide
  generalize hHe : s.heap = H at hw ⊢
  generalize hLe : ([] : List Loc) = locs at hw ⊢
  refine lv_iload_n hx hb dX11_far_0 rfl (lv_at hl 0 rfl) ?_
  refine lv_bipush (v := 8) hx hb dX11_far_1 (by decide) ?_
  refine lv_irem hx hb dX11_far_3 (by decide) ?_
  refine lv_topi (fun x1 ex1 => ?_)
  have tx1 : -8 < x1.toInt ∧ x1.toInt < 8 := by rw [ex1]; exact irem_bd L8 (by decide)
  refine lv_iload_n hx hb dX11_far_4 rfl (lv_at hl 1 rfl) ?_
  refine lv_bipush (v := 8) hx hb dX11_far_5 (by decide) ?_
  refine lv_irem hx hb dX11_far_7 (by decide) ?_
  refine lv_topi (fun x2 ex2 => ?_)
  have tx2 : -8 < x2.toInt ∧ x2.toInt < 8 := by rw [ex2]; exact irem_bd L8 (by decide)
  refine lv_isub hx hb dX11_far_8 ?_
  refine lv_topi (fun x3 ex3 => ?_)
  have tx3 : x3.toInt = x1.toInt - x2.toInt := by rw [ex3]; exact Jvm.Kit.i32_sub (by omega) (by omega)
  refine te_vi hw (ru_S (As := [.int x3]) (rest := []) hx hb hml hts hown hk hw (c_X11_size l G hG σ hI.1 x3) (m3_in wd359 wd360 wd5) wd361 nm_yX11_size ⟨rfl, rfl⟩ ⟨by decide, by decide⟩ rfl hl.1 rfl (Nat.le_of_ble_eq_true rfl) dX11_far_9 ⟨Nat.zero_le _, Nat.zero_le _⟩) (fun r5 σ4 H locs hr5 hw => ?_)
  rw [hr5.1] at hw
  have hr5 := hr5.2
  refine lv_istore_n (lv' := [(2, .int r5), (0, .int v), (1, .int w)]) hx hb dX11_far_12 rfl hl (by decide) rfl (fun ls hl => ?_)
  refine lv_iload_n hx hb dX11_far_13 rfl (lv_at hl 1 rfl) ?_
  refine lv_bipush (v := 8) hx hb dX11_far_14 (by decide) ?_
  refine lv_idiv hx hb dX11_far_16 (by decide) ?_
  refine lv_topi (fun x6 ex6 => ?_)
  refine lv_iload_n hx hb dX11_far_17 rfl (lv_at hl 2 rfl) ?_
  refine lv_bipush (v := 8) hx hb dX11_far_18 (by decide) ?_
  refine lv_idiv hx hb dX11_far_20 (by decide) ?_
  refine lv_topi (fun x7 ex7 => ?_)
  refine lv_isub hx hb dX11_far_21 ?_
  refine lv_topi (fun x8 ex8 => ?_)
  refine te_vi hw (ru_S (As := [.int x8]) (rest := []) hx hb hml hts hown hk hw (c_X11_size l G hG σ hI.1 x8) (m3_in wd359 wd360 wd5) wd361 nm_yX11_size ⟨rfl, rfl⟩ ⟨by decide, by decide⟩ rfl hl.1 rfl (Nat.le_of_ble_eq_true rfl) dX11_far_22 ⟨Nat.zero_le _, Nat.zero_le _⟩) (fun r10 σ9 H locs hr10 hw => ?_)
  rw [hr10.1] at hw
  have hr10 := hr10.2
  refine lv_istore_n (lv' := [(3, .int r10), (2, .int r5), (0, .int v), (1, .int w)]) hx hb dX11_far_25 rfl hl (by decide) rfl (fun ls hl => ?_)
  refine lv_iload_n hx hb dX11_far_26 rfl (lv_at hl 1 rfl) ?_
  refine lv_iload_n hx hb dX11_far_27 rfl (lv_at hl 0 rfl) ?_
  refine lv_icmp_le (tgt := 35) hx hb dX11_far_28 (by decide) (fun c28 => ?_) (fun c28 => ?_)
  · have or5 := i32b r5
    have or10 := i32b r10
    have c28i := Int32.le_iff_toInt_le.mp c28
    refine lv_iload_n hx hb dX11_far_35 rfl (lv_at hl 0 rfl) ?_
    exact ret r10 σ _ _ 36 _ (rfl) (⟨rfl, trivial⟩) hw dX11_far_36
  · have or5 := i32b r5
    have or10 := i32b r10
    have c28i := mt Int32.le_iff_toInt_le.mpr c28
    refine lv_iload_n hx hb dX11_far_31 rfl (lv_at hl 1 rfl) ?_
    refine lv_goto (tgt := 36) hx hb dX11_far_32 (by decide) ?_
    exact ret r5 σ _ _ 36 _ (rfl) (⟨rfl, trivial⟩) hw dX11_far_36
set_option maxHeartbeats 4000000 in
set_option maxRecDepth 100000 in
theorem c_X11_beside (l : Launch) (G : Gg) (hG : Ginj G) (σ : Sg) (hI0 : Inv σ) (v : Int32) (w : Int32) : MI l G yX11_beside cX11_beside 4 .int (rmO 2 45) σ [.int v, .int w] (fun r σ' => σ' = σ ∧ (r.toInt = -6 ∨ (0 ≤ r.toInt ∧ r.toInt ≤ 63))) := by
  refine MI.of (by decide +kernel) (Nat.le_of_ble_eq_true rfl) ?_
  intro p e s m a below meth c ls Q hx hb hml hts hown hk hw ret hl
  have hown : s.vm.findClass RX11 = some m.cls := hown
  have hl : lv_has ls 4 [(0, .int v), (1, .int w)] := hl
  have hI : K0 σ σ := K0.rf hI0
  have Lm6 : (-6 : Int32).toInt = -6 := by decide
  have L0 : (0 : Int32).toInt = 0 := by decide
  have L8 : (8 : Int32).toInt = 8 := by decide
  have M0 : (0 : Int64).toInt = 0 := by decide
  have M7 : (7 : Int64).toInt = 7 := by decide
  generalize hHe : s.heap = H at hw ⊢
  generalize hLe : ([] : List Loc) = locs at hw ⊢
  refine lv_iload_n hx hb dX11_beside_0 rfl (lv_at hl 0 rfl) ?_
  refine lv_bipush (v := 8) hx hb dX11_beside_1 (by decide) ?_
  refine lv_irem hx hb dX11_beside_3 (by decide) ?_
  refine lv_topi (fun x1 ex1 => ?_)
  have tx1 : -8 < x1.toInt ∧ x1.toInt < 8 := by rw [ex1]; exact irem_bd L8 (by decide)
  refine lv_iload_n hx hb dX11_beside_4 rfl (lv_at hl 1 rfl) ?_
  refine te_vi hw (ru_S (As := [.int w]) (rest := [.int x1]) hx hb hml hts hown hk hw (c_X11_stepX l G hG σ hI.1 w) (m3_in wd362 wd363 wd5) wd364 nm_yX11_stepX ⟨rfl, rfl⟩ ⟨by decide, by decide⟩ rfl hl.1 rfl (Nat.le_of_ble_eq_true rfl) dX11_beside_5 ⟨Nat.zero_le _, Nat.zero_le _⟩) (fun r3 σ2 H locs hr3 hw => ?_)
  rw [hr3.1] at hw
  have hr3 := hr3.2
  refine lv_iadd hx hb dX11_beside_8 ?_
  refine lv_topi (fun x4 ex4 => ?_)
  have tx4 : x4.toInt = x1.toInt + r3.toInt := by rw [ex4]; exact Jvm.Kit.i32_add (by omega) (by omega)
  refine lv_istore_n (lv' := [(2, .int x4), (0, .int v), (1, .int w)]) hx hb dX11_beside_9 rfl hl (by decide) rfl (fun ls hl => ?_)
  refine lv_iload_n hx hb dX11_beside_10 rfl (lv_at hl 1 rfl) ?_
  refine lv_bipush (v := 8) hx hb dX11_beside_11 (by decide) ?_
  refine lv_idiv hx hb dX11_beside_13 (by decide) ?_
  refine lv_topi (fun x5 ex5 => ?_)
  refine lv_iload_n hx hb dX11_beside_14 rfl (lv_at hl 2 rfl) ?_
  refine te_vi hw (ru_S (As := [.int w]) (rest := [.int x5]) hx hb hml hts hown hk hw (c_X11_stepY l G hG σ hI.1 w) (m3_in wd366 wd367 wd5) wd368 nm_yX11_stepY ⟨rfl, rfl⟩ ⟨by decide, by decide⟩ rfl hl.1 rfl (Nat.le_of_ble_eq_true rfl) dX11_beside_15 ⟨Nat.zero_le _, Nat.zero_le _⟩) (fun r7 σ6 H locs hr7 hw => ?_)
  rw [hr7.1] at hw
  have hr7 := hr7.2
  refine lv_iadd hx hb dX11_beside_18 ?_
  refine lv_topi (fun x8 ex8 => ?_)
  refine lv_istore_n (lv' := [(3, .int x8), (2, .int x4), (0, .int v), (1, .int w)]) hx hb dX11_beside_19 rfl hl (by decide) rfl (fun ls hl => ?_)
  refine lv_iload_n hx hb dX11_beside_20 rfl (lv_at hl 1 rfl) ?_
  refine lv_i2l hx hb dX11_beside_21 rfl ?_
  refine lv_lconst (v := 0) hx hb dX11_beside_22 (by decide) ?_
  refine lv_ldc2 hx hb hown (hts _ wd365) dX11_beside_23 ?_
  refine te_vi hw (ru_S (As := [.long x4.toInt64, .long (0 : Int64), .long (7 : Int64)]) (rest := []) hx hb hml hts hown hk hw (c_X11_in l G hG σ hI.1 x4.toInt64 (0 : Int64) (7 : Int64)) (m3_in wd156 wd157 wd5) wd158 nm_yX11_in ⟨rfl, rfl⟩ ⟨by decide, by decide⟩ rfl hl.1 rfl (Nat.le_of_ble_eq_true rfl) dX11_beside_26 ⟨Nat.zero_le _, Nat.zero_le _⟩) (fun r10 σ9 H locs hr10 hw => ?_)
  rw [hr10.1] at hw
  have hr10 := hr10.2
  simp only [Int32.toInt_toInt64] at hr10
  refine lv_if_eq (tgt := 53) hx hb dX11_beside_29 (by decide) (fun c29 => ?_) (fun c29 => ?_)
  · have c29i := congrArg Int32.toInt c29
    have p29 := bz0 hr10 c29
    refine lv_bipush (v := -6) hx hb dX11_beside_53 (by decide) ?_
    exact ret (-6 : Int32) σ _ _ 55 _ (rfl) (⟨rfl, by omega⟩) hw dX11_beside_55
  · have c29i := mt Int32.toInt_inj.mp c29
    have p29 := bz1 hr10 c29
    refine lv_iload_n hx hb dX11_beside_32 rfl (lv_at hl 0 rfl) ?_
    refine lv_i2l hx hb dX11_beside_33 rfl ?_
    refine lv_lconst (v := 0) hx hb dX11_beside_34 (by decide) ?_
    refine lv_ldc2 hx hb hown (hts _ wd365) dX11_beside_35 ?_
    refine te_vi hw (ru_S (As := [.long x8.toInt64, .long (0 : Int64), .long (7 : Int64)]) (rest := []) hx hb hml hts hown hk hw (c_X11_in l G hG σ hI.1 x8.toInt64 (0 : Int64) (7 : Int64)) (m3_in wd156 wd157 wd5) wd158 nm_yX11_in ⟨rfl, rfl⟩ ⟨by decide, by decide⟩ rfl hl.1 rfl (Nat.le_of_ble_eq_true rfl) dX11_beside_38 ⟨Nat.zero_le _, Nat.zero_le _⟩) (fun r12 σ11 H locs hr12 hw => ?_)
    rw [hr12.1] at hw
    have hr12 := hr12.2
    simp only [Int32.toInt_toInt64] at hr12
    refine lv_if_eq (tgt := 53) hx hb dX11_beside_41 (by decide) (fun c41 => ?_) (fun c41 => ?_)
    · have c41i := congrArg Int32.toInt c41
      have p41 := bz0 hr12 c41
      refine lv_bipush (v := -6) hx hb dX11_beside_53 (by decide) ?_
      exact ret (-6 : Int32) σ _ _ 55 _ (rfl) (⟨rfl, by omega⟩) hw dX11_beside_55
    · have c41i := mt Int32.toInt_inj.mp c41
      have p41 := bz1 hr12 c41
      refine lv_iload_n hx hb dX11_beside_44 rfl (lv_at hl 1 rfl) ?_
      refine lv_bipush (v := 8) hx hb dX11_beside_45 (by decide) ?_
      refine lv_iload_n hx hb dX11_beside_47 rfl (lv_at hl 0 rfl) ?_
      refine lv_imul hx hb dX11_beside_48 ?_
      refine lv_topi (fun x13 ex13 => ?_)
      have tx13 : x13.toInt = 8 * x8.toInt := by rw [ex13, Jvm.Kit.i32_mul (by rw [L8]; omega) (by rw [L8]; omega), L8]
      refine lv_iadd hx hb dX11_beside_49 ?_
      refine lv_topi (fun x14 ex14 => ?_)
      have tx14 : x14.toInt = x4.toInt + x13.toInt := by rw [ex14]; exact Jvm.Kit.i32_add (by omega) (by omega)
      refine lv_goto (tgt := 55) hx hb dX11_beside_50 (by decide) ?_
      exact ret x14 σ _ _ 55 _ (rfl) (⟨rfl, by omega⟩) hw dX11_beside_55
set_option maxHeartbeats 4000000 in
set_option maxRecDepth 100000 in
theorem c_X11_besideS (l : Launch) (G : Gg) (hG : Ginj G) (σ : Sg) (hI0 : Inv σ) (v : Int32) (w : Int32) (g1 : 0 ≤ v.toInt ∧ v.toInt ≤ 63) (g2 : 0 ≤ w.toInt ∧ w.toInt ≤ 7) : MI l G yX11_beside cX11_beside 4 .int (rmO 2 45) σ [.int v, .int w] (fun r σ' => σ' = σ ∧ (r.toInt = -6 ∨ (0 ≤ r.toInt ∧ r.toInt ≤ 63 ∧ (w.toInt ≤ 1 → r.toInt / 8 = v.toInt / 8 - 1) ∧ (2 ≤ w.toInt → w.toInt ≤ 3 → r.toInt % 8 = v.toInt % 8 + 1) ∧ (4 ≤ w.toInt → w.toInt ≤ 5 → r.toInt / 8 = v.toInt / 8 + 1) ∧ (6 ≤ w.toInt → r.toInt % 8 = v.toInt % 8 - 1)))) := by
  refine MI.of (by decide +kernel) (Nat.le_of_ble_eq_true rfl) ?_
  intro p e s m a below meth c ls Q hx hb hml hts hown hk hw ret hl
  have hown : s.vm.findClass RX11 = some m.cls := hown
  have hl : lv_has ls 4 [(0, .int v), (1, .int w)] := hl
  have hI : K0 σ σ := K0.rf hI0
  have Lm6 : (-6 : Int32).toInt = -6 := by decide
  have L0 : (0 : Int32).toInt = 0 := by decide
  have L8 : (8 : Int32).toInt = 8 := by decide
  have M0 : (0 : Int64).toInt = 0 := by decide
  have M7 : (7 : Int64).toInt = 7 := by decide
  generalize hHe : s.heap = H at hw ⊢
  generalize hLe : ([] : List Loc) = locs at hw ⊢
  refine lv_iload_n hx hb dX11_beside_0 rfl (lv_at hl 0 rfl) ?_
  refine lv_bipush (v := 8) hx hb dX11_beside_1 (by decide) ?_
  refine lv_irem hx hb dX11_beside_3 (by decide) ?_
  refine lv_topi (fun x1 ex1 => ?_)
  have tx1 : x1.toInt = v.toInt % 8 := by rw [ex1]; exact irem_nn L8 (by omega)
  have bx1 : 0 ≤ x1.toInt ∧ x1.toInt ≤ 7 := by omega
  refine lv_iload_n hx hb dX11_beside_4 rfl (lv_at hl 1 rfl) ?_
  refine te_vi hw (ru_S (As := [.int w]) (rest := [.int x1]) hx hb hml hts hown hk hw (c_X11_stepX l G hG σ hI.1 w) (m3_in wd362 wd363 wd5) wd364 nm_yX11_stepX ⟨rfl, rfl⟩ ⟨by decide, by decide⟩ rfl hl.1 rfl (Nat.le_of_ble_eq_true rfl) dX11_beside_5 ⟨Nat.zero_le _, Nat.zero_le _⟩) (fun r3 σ2 H locs hr3 hw => ?_)
  rw [hr3.1] at hw
  have hr3 := hr3.2
  refine lv_iadd hx hb dX11_beside_8 ?_
  refine lv_topi (fun x4 ex4 => ?_)
  have tx4 : x4.toInt = x1.toInt + r3.toInt := by rw [ex4]; exact Jvm.Kit.i32_add (by omega) (by omega)
  refine lv_istore_n (lv' := [(2, .int x4), (0, .int v), (1, .int w)]) hx hb dX11_beside_9 rfl hl (by decide) rfl (fun ls hl => ?_)
  refine lv_iload_n hx hb dX11_beside_10 rfl (lv_at hl 1 rfl) ?_
  refine lv_bipush (v := 8) hx hb dX11_beside_11 (by decide) ?_
  refine lv_idiv hx hb dX11_beside_13 (by decide) ?_
  refine lv_topi (fun x5 ex5 => ?_)
  have tx5 : x5.toInt = v.toInt / 8 := by rw [ex5]; exact idiv_nn L8 (by decide) (by omega)
  refine lv_iload_n hx hb dX11_beside_14 rfl (lv_at hl 2 rfl) ?_
  refine te_vi hw (ru_S (As := [.int w]) (rest := [.int x5]) hx hb hml hts hown hk hw (c_X11_stepY l G hG σ hI.1 w) (m3_in wd366 wd367 wd5) wd368 nm_yX11_stepY ⟨rfl, rfl⟩ ⟨by decide, by decide⟩ rfl hl.1 rfl (Nat.le_of_ble_eq_true rfl) dX11_beside_15 ⟨Nat.zero_le _, Nat.zero_le _⟩) (fun r7 σ6 H locs hr7 hw => ?_)
  rw [hr7.1] at hw
  have hr7 := hr7.2
  refine lv_iadd hx hb dX11_beside_18 ?_
  refine lv_topi (fun x8 ex8 => ?_)
  have tx8 : x8.toInt = x5.toInt + r7.toInt := by rw [ex8]; exact Jvm.Kit.i32_add (by omega) (by omega)
  refine lv_istore_n (lv' := [(3, .int x8), (2, .int x4), (0, .int v), (1, .int w)]) hx hb dX11_beside_19 rfl hl (by decide) rfl (fun ls hl => ?_)
  refine lv_iload_n hx hb dX11_beside_20 rfl (lv_at hl 1 rfl) ?_
  refine lv_i2l hx hb dX11_beside_21 rfl ?_
  refine lv_lconst (v := 0) hx hb dX11_beside_22 (by decide) ?_
  refine lv_ldc2 hx hb hown (hts _ wd365) dX11_beside_23 ?_
  refine te_vi hw (ru_S (As := [.long x4.toInt64, .long (0 : Int64), .long (7 : Int64)]) (rest := []) hx hb hml hts hown hk hw (c_X11_in l G hG σ hI.1 x4.toInt64 (0 : Int64) (7 : Int64)) (m3_in wd156 wd157 wd5) wd158 nm_yX11_in ⟨rfl, rfl⟩ ⟨by decide, by decide⟩ rfl hl.1 rfl (Nat.le_of_ble_eq_true rfl) dX11_beside_26 ⟨Nat.zero_le _, Nat.zero_le _⟩) (fun r10 σ9 H locs hr10 hw => ?_)
  rw [hr10.1] at hw
  have hr10 := hr10.2
  simp only [Int32.toInt_toInt64] at hr10
  refine lv_if_eq (tgt := 53) hx hb dX11_beside_29 (by decide) (fun c29 => ?_) (fun c29 => ?_)
  · have c29i := congrArg Int32.toInt c29
    have p29 := bz0 hr10 c29
    refine lv_bipush (v := -6) hx hb dX11_beside_53 (by decide) ?_
    exact ret (-6 : Int32) σ _ _ 55 _ (rfl) (⟨rfl, by omega⟩) hw dX11_beside_55
  · have c29i := mt Int32.toInt_inj.mp c29
    have p29 := bz1 hr10 c29
    refine lv_iload_n hx hb dX11_beside_32 rfl (lv_at hl 0 rfl) ?_
    refine lv_i2l hx hb dX11_beside_33 rfl ?_
    refine lv_lconst (v := 0) hx hb dX11_beside_34 (by decide) ?_
    refine lv_ldc2 hx hb hown (hts _ wd365) dX11_beside_35 ?_
    refine te_vi hw (ru_S (As := [.long x8.toInt64, .long (0 : Int64), .long (7 : Int64)]) (rest := []) hx hb hml hts hown hk hw (c_X11_in l G hG σ hI.1 x8.toInt64 (0 : Int64) (7 : Int64)) (m3_in wd156 wd157 wd5) wd158 nm_yX11_in ⟨rfl, rfl⟩ ⟨by decide, by decide⟩ rfl hl.1 rfl (Nat.le_of_ble_eq_true rfl) dX11_beside_38 ⟨Nat.zero_le _, Nat.zero_le _⟩) (fun r12 σ11 H locs hr12 hw => ?_)
    rw [hr12.1] at hw
    have hr12 := hr12.2
    simp only [Int32.toInt_toInt64] at hr12
    refine lv_if_eq (tgt := 53) hx hb dX11_beside_41 (by decide) (fun c41 => ?_) (fun c41 => ?_)
    · have c41i := congrArg Int32.toInt c41
      have p41 := bz0 hr12 c41
      refine lv_bipush (v := -6) hx hb dX11_beside_53 (by decide) ?_
      exact ret (-6 : Int32) σ _ _ 55 _ (rfl) (⟨rfl, by omega⟩) hw dX11_beside_55
    · have c41i := mt Int32.toInt_inj.mp c41
      have p41 := bz1 hr12 c41
      refine lv_iload_n hx hb dX11_beside_44 rfl (lv_at hl 1 rfl) ?_
      refine lv_bipush (v := 8) hx hb dX11_beside_45 (by decide) ?_
      refine lv_iload_n hx hb dX11_beside_47 rfl (lv_at hl 0 rfl) ?_
      refine lv_imul hx hb dX11_beside_48 ?_
      refine lv_topi (fun x13 ex13 => ?_)
      have tx13 : x13.toInt = 8 * x8.toInt := by rw [ex13, Jvm.Kit.i32_mul (by rw [L8]; omega) (by rw [L8]; omega), L8]
      refine lv_iadd hx hb dX11_beside_49 ?_
      refine lv_topi (fun x14 ex14 => ?_)
      have tx14 : x14.toInt = x4.toInt + x13.toInt := by rw [ex14]; exact Jvm.Kit.i32_add (by omega) (by omega)
      refine lv_goto (tgt := 55) hx hb dX11_beside_50 (by decide) ?_
      exact ret x14 σ _ _ 55 _ (rfl) (⟨rfl, by omega⟩) hw dX11_beside_55
set_option maxHeartbeats 4000000 in
set_option maxRecDepth 100000 in
theorem c_X11_isLetter (l : Launch) (G : Gg) (hG : Ginj G) (σ : Sg) (hI0 : Inv σ) (v : Int32) : MI l G yX11_isLetter cX11_isLetter 1 .boolean (rmO 1 25) σ [.int v] (fun r σ' => σ' = σ ∧ ((r = 1 ∧ (65 ≤ v.toInt ∧ v.toInt ≤ 68)) ∨ (r = 0 ∧ ¬ (65 ≤ v.toInt ∧ v.toInt ≤ 68)))) := by
  refine MI.of (by decide +kernel) (Nat.le_of_ble_eq_true rfl) ?_
  intro p e s m a below meth c ls Q hx hb hml hts hown hk hw ret hl
  have hown : s.vm.findClass RX11 = some m.cls := hown
  have hl : lv_has ls 1 [(0, .int v)] := hl
  have hI : K0 σ σ := K0.rf hI0
  have M65 : (65 : Int64).toInt = 65 := by decide
  have M68 : (68 : Int64).toInt = 68 := by decide
  generalize hHe : s.heap = H at hw ⊢
  generalize hLe : ([] : List Loc) = locs at hw ⊢
  refine lv_iload_n hx hb dX11_isLetter_0 rfl (lv_at hl 0 rfl) ?_
  refine lv_i2l hx hb dX11_isLetter_1 rfl ?_
  refine lv_ldc2 hx hb hown (hts _ wd249) dX11_isLetter_2 ?_
  refine lv_ldc2 hx hb hown (hts _ wd250) dX11_isLetter_5 ?_
  refine te_vi hw (ru_S (As := [.long v.toInt64, .long (65 : Int64), .long (68 : Int64)]) (rest := []) hx hb hml hts hown hk hw (c_X11_in l G hG σ hI.1 v.toInt64 (65 : Int64) (68 : Int64)) (m3_in wd156 wd157 wd5) wd158 nm_yX11_in ⟨rfl, rfl⟩ ⟨by decide, by decide⟩ rfl hl.1 rfl (Nat.le_of_ble_eq_true rfl) dX11_isLetter_8 ⟨Nat.zero_le _, Nat.zero_le _⟩) (fun r2 σ1 H locs hr2 hw => ?_)
  rw [hr2.1] at hw
  have hr2 := hr2.2
  simp only [Int32.toInt_toInt64] at hr2
  exact ret r2 σ _ _ 11 _ (bzn hr2) (⟨rfl, by have q := hr2; simp only [M65, M68] at q; exact q⟩) hw dX11_isLetter_11
set_option maxHeartbeats 4000000 in
set_option maxRecDepth 100000 in
theorem c_X11_isTurn (l : Launch) (G : Gg) (hG : Ginj G) (σ : Sg) (hI0 : Inv σ) (v : Int32) : MI l G yX11_isTurn cX11_isTurn 1 .boolean (rmO 0 0) σ [.int v] (fun r σ' => σ' = σ ∧ (True)) := by
  refine MI.of (by decide +kernel) (Nat.le_of_ble_eq_true rfl) ?_
  intro p e s m a below meth c ls Q hx hb hml hts hown hk hw ret hl
  have hown : s.vm.findClass RX11 = some m.cls := hown
  have hl : lv_has ls 1 [(0, .int v)] := hl
  have hI : K0 σ σ := K0.rf hI0
  have L0 : (0 : Int32).toInt = 0 := by decide
  have L1 : (1 : Int32).toInt = 1 := by decide
  have L98 : (98 : Int32).toInt = 98 := by decide
  have L108 : (108 : Int32).toInt = 108 := by decide
  have L114 : (114 : Int32).toInt = 114 := by decide
  generalize hHe : s.heap = H at hw ⊢
  generalize hLe : ([] : List Loc) = locs at hw ⊢
  refine lv_iload_n hx hb dX11_isTurn_0 rfl (lv_at hl 0 rfl) ?_
  refine lv_bipush (v := 114) hx hb dX11_isTurn_1 (by decide) ?_
  refine lv_icmp_eq (tgt := 18) hx hb dX11_isTurn_3 (by decide) (fun c3 => ?_) (fun c3 => ?_)
  · have ov := i32b v
    have c3i := congrArg Int32.toInt c3
    refine lv_iconst (v := 1) hx hb dX11_isTurn_18 (by decide) ?_
    refine lv_goto (tgt := 23) hx hb dX11_isTurn_19 (by decide) ?_
    exact ret (1 : Int32) σ _ _ 23 _ (rfl) (⟨rfl, trivial⟩) hw dX11_isTurn_23
  · have ov := i32b v
    have c3i := mt Int32.toInt_inj.mp c3
    refine lv_iload_n hx hb dX11_isTurn_6 rfl (lv_at hl 0 rfl) ?_
    refine lv_bipush (v := 108) hx hb dX11_isTurn_7 (by decide) ?_
    refine lv_icmp_eq (tgt := 18) hx hb dX11_isTurn_9 (by decide) (fun c9 => ?_) (fun c9 => ?_)
    · have ov := i32b v
      have c9i := congrArg Int32.toInt c9
      refine lv_iconst (v := 1) hx hb dX11_isTurn_18 (by decide) ?_
      refine lv_goto (tgt := 23) hx hb dX11_isTurn_19 (by decide) ?_
      exact ret (1 : Int32) σ _ _ 23 _ (rfl) (⟨rfl, trivial⟩) hw dX11_isTurn_23
    · have ov := i32b v
      have c9i := mt Int32.toInt_inj.mp c9
      refine lv_iload_n hx hb dX11_isTurn_12 rfl (lv_at hl 0 rfl) ?_
      refine lv_bipush (v := 98) hx hb dX11_isTurn_13 (by decide) ?_
      refine lv_icmp_ne (tgt := 22) hx hb dX11_isTurn_15 (by decide) (fun c15 => ?_) (fun c15 => ?_)
      · have ov := i32b v
        have c15i := mt Int32.toInt_inj.mp c15
        refine lv_iconst (v := 0) hx hb dX11_isTurn_22 (by decide) ?_
        exact ret (0 : Int32) σ _ _ 23 _ (rfl) (⟨rfl, trivial⟩) hw dX11_isTurn_23
      · have ov := i32b v
        have c15i := congrArg Int32.toInt c15
        refine lv_iconst (v := 1) hx hb dX11_isTurn_18 (by decide) ?_
        refine lv_goto (tgt := 23) hx hb dX11_isTurn_19 (by decide) ?_
        exact ret (1 : Int32) σ _ _ 23 _ (rfl) (⟨rfl, trivial⟩) hw dX11_isTurn_23
set_option maxHeartbeats 4000000 in
set_option maxRecDepth 100000 in
theorem c_X11_isGoing (l : Launch) (G : Gg) (hG : Ginj G) (σ : Sg) (hI0 : Inv σ) (v : Int32) : MI l G yX11_isGoing cX11_isGoing 1 .boolean (rmO 0 0) σ [.int v] (fun r σ' => σ' = σ ∧ ((r = 1 ∧ (v.toInt = 102 ∨ v.toInt = 119)) ∨ (r = 0 ∧ ¬ (v.toInt = 102 ∨ v.toInt = 119)))) := by
  refine MI.of (by decide +kernel) (Nat.le_of_ble_eq_true rfl) ?_
  intro p e s m a below meth c ls Q hx hb hml hts hown hk hw ret hl
  have hown : s.vm.findClass RX11 = some m.cls := hown
  have hl : lv_has ls 1 [(0, .int v)] := hl
  have hI : K0 σ σ := K0.rf hI0
  have L0 : (0 : Int32).toInt = 0 := by decide
  have L1 : (1 : Int32).toInt = 1 := by decide
  have L102 : (102 : Int32).toInt = 102 := by decide
  have L119 : (119 : Int32).toInt = 119 := by decide
  generalize hHe : s.heap = H at hw ⊢
  generalize hLe : ([] : List Loc) = locs at hw ⊢
  refine lv_iload_n hx hb dX11_isGoing_0 rfl (lv_at hl 0 rfl) ?_
  refine lv_bipush (v := 102) hx hb dX11_isGoing_1 (by decide) ?_
  refine lv_icmp_eq (tgt := 12) hx hb dX11_isGoing_3 (by decide) (fun c3 => ?_) (fun c3 => ?_)
  · have ov := i32b v
    have c3i := congrArg Int32.toInt c3
    refine lv_iconst (v := 1) hx hb dX11_isGoing_12 (by decide) ?_
    refine lv_goto (tgt := 17) hx hb dX11_isGoing_13 (by decide) ?_
    exact ret (1 : Int32) σ _ _ 17 _ (rfl) (⟨rfl, by first | exact Or.inl ⟨rfl, by omega⟩ | exact Or.inr ⟨rfl, by omega⟩ | omega⟩) hw dX11_isGoing_17
  · have ov := i32b v
    have c3i := mt Int32.toInt_inj.mp c3
    refine lv_iload_n hx hb dX11_isGoing_6 rfl (lv_at hl 0 rfl) ?_
    refine lv_bipush (v := 119) hx hb dX11_isGoing_7 (by decide) ?_
    refine lv_icmp_ne (tgt := 16) hx hb dX11_isGoing_9 (by decide) (fun c9 => ?_) (fun c9 => ?_)
    · have ov := i32b v
      have c9i := mt Int32.toInt_inj.mp c9
      refine lv_iconst (v := 0) hx hb dX11_isGoing_16 (by decide) ?_
      exact ret (0 : Int32) σ _ _ 17 _ (rfl) (⟨rfl, by first | exact Or.inl ⟨rfl, by omega⟩ | exact Or.inr ⟨rfl, by omega⟩ | omega⟩) hw dX11_isGoing_17
    · have ov := i32b v
      have c9i := congrArg Int32.toInt c9
      refine lv_iconst (v := 1) hx hb dX11_isGoing_12 (by decide) ?_
      refine lv_goto (tgt := 17) hx hb dX11_isGoing_13 (by decide) ?_
      exact ret (1 : Int32) σ _ _ 17 _ (rfl) (⟨rfl, by first | exact Or.inl ⟨rfl, by omega⟩ | exact Or.inr ⟨rfl, by omega⟩ | omega⟩) hw dX11_isGoing_17
set_option maxHeartbeats 4000000 in
set_option maxRecDepth 100000 in
theorem c_X11_isEdge (l : Launch) (G : Gg) (hG : Ginj G) (σ : Sg) (hI0 : Inv σ) (v : Int32) : MI l G yX11_isEdge cX11_isEdge 3 .boolean (rmO 0 0) σ [.int v] (fun r σ' => σ' = σ ∧ (True)) := by
  refine MI.of (by decide +kernel) (Nat.le_of_ble_eq_true rfl) ?_
  intro p e s m a below meth c ls Q hx hb hml hts hown hk hw ret hl
  have hown : s.vm.findClass RX11 = some m.cls := hown
  have hl : lv_has ls 3 [(0, .int v)] := hl
  have hI : K0 σ σ := K0.rf hI0
  have L0 : (0 : Int32).toInt = 0 := by decide
  have L1 : (1 : Int32).toInt = 1 := by decide
  have L7 : (7 : Int32).toInt = 7 := by decide
  have L8 : (8 : Int32).toInt = 8 := by decide
  generalize hHe : s.heap = H at hw ⊢
  generalize hLe : ([] : List Loc) = locs at hw ⊢
  refine lv_iload_n hx hb dX11_isEdge_0 rfl (lv_at hl 0 rfl) ?_
  refine lv_bipush (v := 8) hx hb dX11_isEdge_1 (by decide) ?_
  refine lv_irem hx hb dX11_isEdge_3 (by decide) ?_
  refine lv_topi (fun x1 ex1 => ?_)
  have tx1 : -8 < x1.toInt ∧ x1.toInt < 8 := by rw [ex1]; exact irem_bd L8 (by decide)
  refine lv_istore_n (lv' := [(1, .int x1), (0, .int v)]) hx hb dX11_isEdge_4 rfl hl (by decide) rfl (fun ls hl => ?_)
  refine lv_iload_n hx hb dX11_isEdge_5 rfl (lv_at hl 1 rfl) ?_
  refine lv_bipush (v := 8) hx hb dX11_isEdge_6 (by decide) ?_
  refine lv_idiv hx hb dX11_isEdge_8 (by decide) ?_
  refine lv_topi (fun x2 ex2 => ?_)
  refine lv_istore_n (lv' := [(2, .int x2), (1, .int x1), (0, .int v)]) hx hb dX11_isEdge_9 rfl hl (by decide) rfl (fun ls hl => ?_)
  refine lv_iload_n hx hb dX11_isEdge_10 rfl (lv_at hl 1 rfl) ?_
  refine lv_if_eq (tgt := 30) hx hb dX11_isEdge_11 (by decide) (fun c11 => ?_) (fun c11 => ?_)
  · have c11i := congrArg Int32.toInt c11
    refine lv_iconst (v := 1) hx hb dX11_isEdge_30 (by decide) ?_
    refine lv_goto (tgt := 35) hx hb dX11_isEdge_31 (by decide) ?_
    exact ret (1 : Int32) σ _ _ 35 _ (rfl) (⟨rfl, trivial⟩) hw dX11_isEdge_35
  · have c11i := mt Int32.toInt_inj.mp c11
    refine lv_iload_n hx hb dX11_isEdge_14 rfl (lv_at hl 0 rfl) ?_
    refine lv_if_eq (tgt := 30) hx hb dX11_isEdge_15 (by decide) (fun c15 => ?_) (fun c15 => ?_)
    · have c15i := congrArg Int32.toInt c15
      refine lv_iconst (v := 1) hx hb dX11_isEdge_30 (by decide) ?_
      refine lv_goto (tgt := 35) hx hb dX11_isEdge_31 (by decide) ?_
      exact ret (1 : Int32) σ _ _ 35 _ (rfl) (⟨rfl, trivial⟩) hw dX11_isEdge_35
    · have c15i := mt Int32.toInt_inj.mp c15
      refine lv_iload_n hx hb dX11_isEdge_18 rfl (lv_at hl 1 rfl) ?_
      refine lv_bipush (v := 7) hx hb dX11_isEdge_19 (by decide) ?_
      refine lv_icmp_eq (tgt := 30) hx hb dX11_isEdge_21 (by decide) (fun c21 => ?_) (fun c21 => ?_)
      · have c21i := congrArg Int32.toInt c21
        refine lv_iconst (v := 1) hx hb dX11_isEdge_30 (by decide) ?_
        refine lv_goto (tgt := 35) hx hb dX11_isEdge_31 (by decide) ?_
        exact ret (1 : Int32) σ _ _ 35 _ (rfl) (⟨rfl, trivial⟩) hw dX11_isEdge_35
      · have c21i := mt Int32.toInt_inj.mp c21
        refine lv_iload_n hx hb dX11_isEdge_24 rfl (lv_at hl 0 rfl) ?_
        refine lv_bipush (v := 7) hx hb dX11_isEdge_25 (by decide) ?_
        refine lv_icmp_ne (tgt := 34) hx hb dX11_isEdge_27 (by decide) (fun c27 => ?_) (fun c27 => ?_)
        · have ox2 := i32b x2
          have c27i := mt Int32.toInt_inj.mp c27
          refine lv_iconst (v := 0) hx hb dX11_isEdge_34 (by decide) ?_
          exact ret (0 : Int32) σ _ _ 35 _ (rfl) (⟨rfl, trivial⟩) hw dX11_isEdge_35
        · have ox2 := i32b x2
          have c27i := congrArg Int32.toInt c27
          refine lv_iconst (v := 1) hx hb dX11_isEdge_30 (by decide) ?_
          refine lv_goto (tgt := 35) hx hb dX11_isEdge_31 (by decide) ?_
          exact ret (1 : Int32) σ _ _ 35 _ (rfl) (⟨rfl, trivial⟩) hw dX11_isEdge_35
set_option maxHeartbeats 4000000 in
set_option maxRecDepth 100000 in
theorem c_X11_areTwo (l : Launch) (G : Gg) (hG : Ginj G) (σ : Sg) (hI0 : Inv σ) (v : Int32) (w : Int32) : MI l G yX11_areTwo cX11_areTwo 2 .boolean (rmO 2 45) σ [.int v, .int w] (fun r σ' => σ' = σ ∧ ((r = 1 ∧ (0 ≤ v.toInt ∧ v.toInt ≤ 3 ∧ 0 ≤ w.toInt ∧ w.toInt ≤ 3 ∧ ¬ v.toInt = w.toInt)) ∨ (r = 0 ∧ ¬ (0 ≤ v.toInt ∧ v.toInt ≤ 3 ∧ 0 ≤ w.toInt ∧ w.toInt ≤ 3 ∧ ¬ v.toInt = w.toInt)))) := by
  refine MI.of (by decide +kernel) (Nat.le_of_ble_eq_true rfl) ?_
  intro p e s m a below meth c ls Q hx hb hml hts hown hk hw ret hl
  have hown : s.vm.findClass RX11 = some m.cls := hown
  have hl : lv_has ls 2 [(0, .int v), (1, .int w)] := hl
  have hI : K0 σ σ := K0.rf hI0
  have L0 : (0 : Int32).toInt = 0 := by decide
  have L1 : (1 : Int32).toInt = 1 := by decide
  generalize hHe : s.heap = H at hw ⊢
  generalize hLe : ([] : List Loc) = locs at hw ⊢
  refine lv_iload_n hx hb dX11_areTwo_0 rfl (lv_at hl 0 rfl) ?_
  refine te_vi hw (ru_S (As := [.int v]) (rest := []) hx hb hml hts hown hk hw (c_X11_isSower l G hG σ hI.1 v) (m3_in wd152 wd153 wd5) wd154 nm_yX11_isSower ⟨rfl, rfl⟩ ⟨by decide, by decide⟩ rfl hl.1 rfl (Nat.le_of_ble_eq_true rfl) dX11_areTwo_1 ⟨Nat.zero_le _, Nat.zero_le _⟩) (fun r2 σ1 H locs hr2 hw => ?_)
  rw [hr2.1] at hw
  have hr2 := hr2.2
  refine lv_if_eq (tgt := 23) hx hb dX11_areTwo_4 (by decide) (fun c4 => ?_) (fun c4 => ?_)
  · have c4i := congrArg Int32.toInt c4
    have p4 := bz0 hr2 c4
    refine lv_iconst (v := 0) hx hb dX11_areTwo_23 (by decide) ?_
    exact ret (0 : Int32) σ _ _ 24 _ (rfl) (⟨rfl, by first | exact Or.inl ⟨rfl, by omega⟩ | exact Or.inr ⟨rfl, by omega⟩ | omega⟩) hw dX11_areTwo_24
  · have c4i := mt Int32.toInt_inj.mp c4
    have p4 := bz1 hr2 c4
    refine lv_iload_n hx hb dX11_areTwo_7 rfl (lv_at hl 1 rfl) ?_
    refine te_vi hw (ru_S (As := [.int w]) (rest := []) hx hb hml hts hown hk hw (c_X11_isSower l G hG σ hI.1 w) (m3_in wd152 wd153 wd5) wd154 nm_yX11_isSower ⟨rfl, rfl⟩ ⟨by decide, by decide⟩ rfl hl.1 rfl (Nat.le_of_ble_eq_true rfl) dX11_areTwo_8 ⟨Nat.zero_le _, Nat.zero_le _⟩) (fun r4 σ3 H locs hr4 hw => ?_)
    rw [hr4.1] at hw
    have hr4 := hr4.2
    refine lv_if_eq (tgt := 23) hx hb dX11_areTwo_11 (by decide) (fun c11 => ?_) (fun c11 => ?_)
    · have c11i := congrArg Int32.toInt c11
      have p11 := bz0 hr4 c11
      refine lv_iconst (v := 0) hx hb dX11_areTwo_23 (by decide) ?_
      exact ret (0 : Int32) σ _ _ 24 _ (rfl) (⟨rfl, by first | exact Or.inl ⟨rfl, by omega⟩ | exact Or.inr ⟨rfl, by omega⟩ | omega⟩) hw dX11_areTwo_24
    · have c11i := mt Int32.toInt_inj.mp c11
      have p11 := bz1 hr4 c11
      refine lv_iload_n hx hb dX11_areTwo_14 rfl (lv_at hl 0 rfl) ?_
      refine lv_iload_n hx hb dX11_areTwo_15 rfl (lv_at hl 1 rfl) ?_
      refine lv_icmp_eq (tgt := 23) hx hb dX11_areTwo_16 (by decide) (fun c16 => ?_) (fun c16 => ?_)
      · have c16i := congrArg Int32.toInt c16
        refine lv_iconst (v := 0) hx hb dX11_areTwo_23 (by decide) ?_
        exact ret (0 : Int32) σ _ _ 24 _ (rfl) (⟨rfl, by first | exact Or.inl ⟨rfl, by omega⟩ | exact Or.inr ⟨rfl, by omega⟩ | omega⟩) hw dX11_areTwo_24
      · have c16i := mt Int32.toInt_inj.mp c16
        refine lv_iconst (v := 1) hx hb dX11_areTwo_19 (by decide) ?_
        refine lv_goto (tgt := 24) hx hb dX11_areTwo_20 (by decide) ?_
        exact ret (1 : Int32) σ _ _ 24 _ (rfl) (⟨rfl, by first | exact Or.inl ⟨rfl, by omega⟩ | exact Or.inr ⟨rfl, by omega⟩ | omega⟩) hw dX11_areTwo_24
set_option maxHeartbeats 4000000 in
set_option maxRecDepth 100000 in
theorem c_X11_swapBags (l : Launch) (G : Gg) (hG : Ginj G) (σ : Sg) (hI0 : Inv σ) (i : Nat) (hi : nk i = 132) (v : Int32) (w : Int32) (g1 : 0 ≤ v.toInt ∧ v.toInt ≤ 3) (g2 : 0 ≤ w.toInt ∧ w.toInt ≤ 3) : MV l G yX11_swapBags cX11_swapBags 5 (rmO 0 0) σ [.ref (ad G (i)), .int v, .int w] (fun σ' => K0 σ σ' ∧ (True)) := by
  refine MV.of (by decide +kernel) (Nat.le_of_ble_eq_true rfl) ?_
  intro p e s m a below meth c ls Q hx hb hml hts hown hk hw ret hl
  have hown : s.vm.findClass RX11 = some m.cls := hown
  have hl : lv_has ls 5 [(0, .ref (ad G (i))), (1, .int v), (2, .int w)] := hl
  have hI : K0 σ σ := K0.rf hI0
  have L0 : (0 : Int32).toInt = 0 := by decide
  have L1 : (1 : Int32).toInt = 1 := by decide
  have L2 : (2 : Int32).toInt = 2 := by decide
  have L3 : (3 : Int32).toInt = 3 := by decide
  have L8 : (8 : Int32).toInt = 8 := by decide
  generalize hHe : s.heap = H at hw ⊢
  generalize hLe : ([] : List Loc) = locs at hw ⊢
  refine lv_iconst (v := 2) hx hb dX11_swapBags_0 (by decide) ?_
  refine lv_istore_n (lv' := [(3, .int (2 : Int32)), (0, .ref (ad G (i))), (1, .int v), (2, .int w)]) hx hb dX11_swapBags_1 rfl hl (by decide) rfl (fun ls hl => ?_)
  have cut2 : ∀ (n : Nat) (z3_2 : Int32) (σc2 : Sg) (H : Heap) (locs : List Loc) (ls : Array Slot), (0 ≤ z3_2.toInt ∧ z3_2.toInt ≤ 4) → K0 σ σc2 → ((4 - z3_2.toInt).toNat : Int) < (n : Int) → Wo G σc2 s H locs → lv_has ls 5 [(0, .ref (ad G (i))), (1, .int v), (2, .int w), (3, .int z3_2)] → W p l e (rmO 0 0) s m a below meth c H locs 0 0 Q (F0 m 2 ls []) := by
    intro n2
    induction n2 with
    | zero =>
      intro z3_2 σc2 H locs ls f2_0 hI hm2 hw hl
      exfalso; omega
    | succ n2 ih2 =>
      intro z3_2 σc2 H locs ls f2_0 hI hm2 hw hl
      refine lv_iload_n hx hb dX11_swapBags_2 rfl (lv_at hl 3 rfl) ?_
      refine lv_iconst (v := 3) hx hb dX11_swapBags_3 (by decide) ?_
      refine lv_icmp_gt (tgt := 49) hx hb dX11_swapBags_4 (by decide) (fun c4 => ?_) (fun c4 => ?_)
      · have c4i := Int32.lt_iff_toInt_lt.mp c4
        exact ret σc2 _ _ 49 _ (⟨hI, trivial⟩) hw dX11_swapBags_49
      · have c4i := mt Int32.lt_iff_toInt_lt.mpr c4
        refine lv_aload_n hx hb dX11_swapBags_7 rfl (lv_at hl 0 rfl) ?_
        refine lv_bipush (v := 8) hx hb dX11_swapBags_8 (by decide) ?_
        refine lv_iload_n hx hb dX11_swapBags_10 rfl (lv_at hl 1 rfl) ?_
        refine lv_imul hx hb dX11_swapBags_11 ?_
        refine lv_topi (fun x1 ex1 => ?_)
        have tx1 : x1.toInt = 8 * v.toInt := by rw [ex1, Jvm.Kit.i32_mul (by rw [L8]; omega) (by rw [L8]; omega), L8]
        refine lv_iload_n hx hb dX11_swapBags_12 rfl (lv_at hl 3 rfl) ?_
        refine lv_iadd hx hb dX11_swapBags_13 ?_
        refine lv_topi (fun x2 ex2 => ?_)
        have tx2 : x2.toInt = x1.toInt + z3_2.toInt := by rw [ex2]; exact Jvm.Kit.i32_add (by omega) (by omega)
        have hv14 : vp_in x2 32 := vin ⟨by omega, by omega⟩
        have kc14 := clI x2 (by omega)
        refine tg_iald hx hb hk hw (en132 hi) hv14 dX11_swapBags_14 ?_
        refine lv_topi (fun x3 ex3 => ?_)
        have bx3 : x2.toNatClampNeg % 8 = 2 → 0 ≤ x3.toInt ∧ x3.toInt ≤ 3 := fun q => by rw [ex3]; exact rd132 hI.1 hi q
        refine lv_istore (lv' := [(4, .int x3), (0, .ref (ad G (i))), (1, .int v), (2, .int w), (3, .int z3_2)]) hx hb dX11_swapBags_15 hl (by decide) rfl (fun ls hl => ?_)
        refine lv_aload_n hx hb dX11_swapBags_17 rfl (lv_at hl 1 rfl) ?_
        refine lv_bipush (v := 8) hx hb dX11_swapBags_18 (by decide) ?_
        refine lv_iload_n hx hb dX11_swapBags_20 rfl (lv_at hl 2 rfl) ?_
        refine lv_imul hx hb dX11_swapBags_21 ?_
        refine lv_topi (fun x4 ex4 => ?_)
        have tx4 : x4.toInt = 8 * v.toInt := by rw [ex4, Jvm.Kit.i32_mul (by rw [L8]; omega) (by rw [L8]; omega), L8]
        refine lv_iload_n hx hb dX11_swapBags_22 rfl (lv_at hl 4 rfl) ?_
        refine lv_iadd hx hb dX11_swapBags_23 ?_
        refine lv_topi (fun x5 ex5 => ?_)
        have tx5 : x5.toInt = x4.toInt + z3_2.toInt := by rw [ex5]; exact Jvm.Kit.i32_add (by omega) (by omega)
        refine lv_aload_n hx hb dX11_swapBags_24 rfl (lv_at hl 1 rfl) ?_
        refine lv_bipush (v := 8) hx hb dX11_swapBags_25 (by decide) ?_
        refine lv_iload_n hx hb dX11_swapBags_27 rfl (lv_at hl 3 rfl) ?_
        refine lv_imul hx hb dX11_swapBags_28 ?_
        refine lv_topi (fun x6 ex6 => ?_)
        have tx6 : x6.toInt = 8 * w.toInt := by rw [ex6, Jvm.Kit.i32_mul (by rw [L8]; omega) (by rw [L8]; omega), L8]
        refine lv_iload_n hx hb dX11_swapBags_29 rfl (lv_at hl 4 rfl) ?_
        refine lv_iadd hx hb dX11_swapBags_30 ?_
        refine lv_topi (fun x7 ex7 => ?_)
        have tx7 : x7.toInt = x6.toInt + z3_2.toInt := by rw [ex7]; exact Jvm.Kit.i32_add (by omega) (by omega)
        have hv31 : vp_in x7 32 := vin ⟨by omega, by omega⟩
        have kc31 := clI x7 (by omega)
        refine tg_iald hx hb hk hw (en132 hi) hv31 dX11_swapBags_31 ?_
        refine lv_topi (fun x8 ex8 => ?_)
        have bx8 : x7.toNatClampNeg % 8 = 2 → 0 ≤ x8.toInt ∧ x8.toInt ≤ 3 := fun q => by rw [ex8]; exact rd132 hI.1 hi q
        have hv32 : vp_in x5 32 := vin ⟨by omega, by omega⟩
        have kc32 := clI x5 (by omega)
        refine tg_iast hx hb hk hG hw (ea132 hi) hv32 dX11_swapBags_32 (fun H locs hw => ?_)
        obtain ⟨σ9, eσ9⟩ : ∃ z, z = up2 σc2 (i) x5.toNatClampNeg x8 := ⟨_, rfl⟩
        rw [← eσ9] at hw
        have hI : K0 σ σ9 := by rw [eσ9]; exact hI.up (tr132 hi) (rg132 hi (fun q => by omega))
        refine lv_aload_n hx hb dX11_swapBags_33 rfl (lv_at hl 1 rfl) ?_
        refine lv_bipush (v := 8) hx hb dX11_swapBags_34 (by decide) ?_
        refine lv_iload_n hx hb dX11_swapBags_36 rfl (lv_at hl 3 rfl) ?_
        refine lv_imul hx hb dX11_swapBags_37 ?_
        refine lv_topi (fun x10 ex10 => ?_)
        have tx10 : x10.toInt = 8 * w.toInt := by rw [ex10, Jvm.Kit.i32_mul (by rw [L8]; omega) (by rw [L8]; omega), L8]
        refine lv_iload_n hx hb dX11_swapBags_38 rfl (lv_at hl 4 rfl) ?_
        refine lv_iadd hx hb dX11_swapBags_39 ?_
        refine lv_topi (fun x11 ex11 => ?_)
        have tx11 : x11.toInt = x10.toInt + z3_2.toInt := by rw [ex11]; exact Jvm.Kit.i32_add (by omega) (by omega)
        refine lv_iload hx hb dX11_swapBags_40 (lv_at hl 0 rfl) ?_
        have hv42 : vp_in x11 32 := vin ⟨by omega, by omega⟩
        have kc42 := clI x11 (by omega)
        refine tg_iast hx hb hk hG hw (ea132 hi) hv42 dX11_swapBags_42 (fun H locs hw => ?_)
        obtain ⟨σ12, eσ12⟩ : ∃ z, z = up2 σ9 (i) x11.toNatClampNeg x3 := ⟨_, rfl⟩
        rw [← eσ12] at hw
        have hI : K0 σ σ12 := by rw [eσ12]; exact hI.up (tr132 hi) (rg132 hi (fun q => by omega))
        obtain ⟨x13, ex13⟩ : ∃ z : Int32, z = z3_2 + (1 : Int32) := ⟨_, rfl⟩
        refine lv_iinc (v := x13) (lv' := [(3, .int x13), (4, .int x3), (0, .ref (ad G (i))), (1, .int v), (2, .int w)]) hx hb dX11_swapBags_43 hl (k := 4) rfl (by rw [ex13]; rfl) (by decide) rfl (fun ls hl => ?_)
        have tx13 : x13.toInt = z3_2.toInt + 1 := by rw [ex13, Jvm.Kit.i32_add (by omega) (by omega)]; omega
        refine lv_goto (tgt := 2) hx hb dX11_swapBags_46 (by decide) ?_
        exact ih2 x13 σ12 _ _ _ (by omega) hI (by omega) hw (lv_sub hl [2, 3, 4, 0] rfl)
  exact cut2 ((((4 - (2 : Int32).toInt).toNat : Int)).toNat + 1) (2 : Int32) σ _ _ _ (by omega) hI (by omega) hw (lv_sub hl [1, 2, 3, 0] rfl)
