set_option maxHeartbeats 4000000 in
set_option maxRecDepth 100000 in
theorem c_X10_within (l : Launch) (G : Gg) (hG : Ginj G) (σ : Sg) (hI0 : Inv σ) (v : Int32) (lo : Int32) (hi : Int32) : MI l G yX10_within cX10_within 3 .boolean (rmO 0 0) σ [.int v, .int lo, .int hi] (fun r σ' => σ' = σ ∧ ((r = 1 ∧ (lo.toInt ≤ v.toInt ∧ v.toInt ≤ hi.toInt)) ∨ (r = 0 ∧ ¬ (lo.toInt ≤ v.toInt ∧ v.toInt ≤ hi.toInt)))) := by
  refine MI.of (by decide +kernel) (Nat.le_of_ble_eq_true rfl) ?_
  intro p e s m a below meth c ls Q hx hb hml hts hown hk hw ret hl
  have hown : s.vm.findClass RX10 = some m.cls := hown
  have hl : lv_has ls 3 [(0, .int v), (1, .int lo), (2, .int hi)] := hl
  have hI : K0 σ σ := K0.rf hI0
  have L0 : (0 : Int32).toInt = 0 := by decide
  have L1 : (1 : Int32).toInt = 1 := by decide
  generalize hHe : s.heap = H at hw ⊢
  generalize hLe : ([] : List Loc) = locs at hw ⊢
  refine lv_iload_n hx hb dX10_within_0 rfl (lv_at hl 0 rfl) ?_
  refine lv_iload_n hx hb dX10_within_1 rfl (lv_at hl 1 rfl) ?_
  refine lv_icmp_lt (tgt := 14) hx hb dX10_within_2 (by decide) (fun c2 => ?_) (fun c2 => ?_)
  · have ov := i32b v
    have olo := i32b lo
    have c2i := Int32.lt_iff_toInt_lt.mp c2
    refine lv_iconst (v := 0) hx hb dX10_within_14 (by decide) ?_
    exact ret (0 : Int32) σ _ _ 15 _ (rfl) (⟨rfl, by first | exact Or.inl ⟨rfl, by omega⟩ | exact Or.inr ⟨rfl, by omega⟩ | omega⟩) hw dX10_within_15
  · have ov := i32b v
    have olo := i32b lo
    have c2i := mt Int32.lt_iff_toInt_lt.mpr c2
    refine lv_iload_n hx hb dX10_within_5 rfl (lv_at hl 0 rfl) ?_
    refine lv_iload_n hx hb dX10_within_6 rfl (lv_at hl 2 rfl) ?_
    refine lv_icmp_gt (tgt := 14) hx hb dX10_within_7 (by decide) (fun c7 => ?_) (fun c7 => ?_)
    · have ov := i32b v
      have ohi := i32b hi
      have c7i := Int32.lt_iff_toInt_lt.mp c7
      refine lv_iconst (v := 0) hx hb dX10_within_14 (by decide) ?_
      exact ret (0 : Int32) σ _ _ 15 _ (rfl) (⟨rfl, by first | exact Or.inl ⟨rfl, by omega⟩ | exact Or.inr ⟨rfl, by omega⟩ | omega⟩) hw dX10_within_15
    · have ov := i32b v
      have ohi := i32b hi
      have c7i := mt Int32.lt_iff_toInt_lt.mpr c7
      refine lv_iconst (v := 1) hx hb dX10_within_10 (by decide) ?_
      refine lv_goto (tgt := 15) hx hb dX10_within_11 (by decide) ?_
      exact ret (1 : Int32) σ _ _ 15 _ (rfl) (⟨rfl, by first | exact Or.inl ⟨rfl, by omega⟩ | exact Or.inr ⟨rfl, by omega⟩ | omega⟩) hw dX10_within_15
set_option maxHeartbeats 4000000 in
set_option maxRecDepth 100000 in
theorem c_X10_isSower (l : Launch) (G : Gg) (hG : Ginj G) (σ : Sg) (hI0 : Inv σ) (v : Int32) : MI l G yX10_isSower cX10_isSower 1 .boolean (rmO 1 22) σ [.int v] (fun r σ' => σ' = σ ∧ ((r = 1 ∧ (0 ≤ v.toInt ∧ v.toInt ≤ 3)) ∨ (r = 0 ∧ ¬ (0 ≤ v.toInt ∧ v.toInt ≤ 3)))) := by
  refine MI.of (by decide +kernel) (Nat.le_of_ble_eq_true rfl) ?_
  intro p e s m a below meth c ls Q hx hb hml hts hown hk hw ret hl
  have hown : s.vm.findClass RX10 = some m.cls := hown
  have hl : lv_has ls 1 [(0, .int v)] := hl
  have hI : K0 σ σ := K0.rf hI0
  have L0 : (0 : Int32).toInt = 0 := by decide
  have L3 : (3 : Int32).toInt = 3 := by decide
  generalize hHe : s.heap = H at hw ⊢
  generalize hLe : ([] : List Loc) = locs at hw ⊢
  refine lv_iload_n hx hb dX10_isSower_0 rfl (lv_at hl 0 rfl) ?_
  refine lv_iconst (v := 0) hx hb dX10_isSower_1 (by decide) ?_
  refine lv_iconst (v := 3) hx hb dX10_isSower_2 (by decide) ?_
  refine te_vi hw (ru_S (As := [.int v, .int (0 : Int32), .int (3 : Int32)]) (rest := []) hx hb hml hts hown hk hw (c_X10_within l G hG σ hI.1 v (0 : Int32) (3 : Int32)) (m3_in wd128 wd129 wd2) wd130 nm_yX10_within ⟨rfl, rfl⟩ ⟨by decide, by decide⟩ rfl hl.1 rfl (Nat.le_of_ble_eq_true rfl) dX10_isSower_3 ⟨Nat.zero_le _, Nat.zero_le _⟩) (fun r2 σ1 H locs hr2 hw => ?_)
  rw [hr2.1] at hw
  have hr2 := hr2.2
  exact ret r2 σ _ _ 6 _ (bzn hr2) (⟨rfl, by have q := hr2; simp only [L0, L3] at q; exact q⟩) hw dX10_isSower_6
set_option maxHeartbeats 4000000 in
set_option maxRecDepth 100000 in
theorem c_X10_areTwoSowers (l : Launch) (G : Gg) (hG : Ginj G) (σ : Sg) (hI0 : Inv σ) (v : Int32) (w : Int32) : MI l G yX10_areTwoSowers cX10_areTwoSowers 2 .boolean (rmO 2 42) σ [.int v, .int w] (fun r σ' => σ' = σ ∧ ((r = 1 ∧ (0 ≤ v.toInt ∧ v.toInt ≤ 3 ∧ 0 ≤ w.toInt ∧ w.toInt ≤ 3 ∧ ¬ v.toInt = w.toInt)) ∨ (r = 0 ∧ ¬ (0 ≤ v.toInt ∧ v.toInt ≤ 3 ∧ 0 ≤ w.toInt ∧ w.toInt ≤ 3 ∧ ¬ v.toInt = w.toInt)))) := by
  refine MI.of (by decide +kernel) (Nat.le_of_ble_eq_true rfl) ?_
  intro p e s m a below meth c ls Q hx hb hml hts hown hk hw ret hl
  have hown : s.vm.findClass RX10 = some m.cls := hown
  have hl : lv_has ls 2 [(0, .int v), (1, .int w)] := hl
  have hI : K0 σ σ := K0.rf hI0
  have L0 : (0 : Int32).toInt = 0 := by decide
  have L1 : (1 : Int32).toInt = 1 := by decide
  generalize hHe : s.heap = H at hw ⊢
  generalize hLe : ([] : List Loc) = locs at hw ⊢
  refine lv_iload_n hx hb dX10_areTwoSowers_0 rfl (lv_at hl 0 rfl) ?_
  refine te_vi hw (ru_S (As := [.int v]) (rest := []) hx hb hml hts hown hk hw (c_X10_isSower l G hG σ hI.1 v) (m3_in wd125 wd126 wd2) wd127 nm_yX10_isSower ⟨rfl, rfl⟩ ⟨by decide, by decide⟩ rfl hl.1 rfl (Nat.le_of_ble_eq_true rfl) dX10_areTwoSowers_1 ⟨Nat.zero_le _, Nat.zero_le _⟩) (fun r2 σ1 H locs hr2 hw => ?_)
  rw [hr2.1] at hw
  have hr2 := hr2.2
  refine lv_if_eq (tgt := 23) hx hb dX10_areTwoSowers_4 (by decide) (fun c4 => ?_) (fun c4 => ?_)
  · have c4i := congrArg Int32.toInt c4
    have p4 := bz0 hr2 c4
    refine lv_iconst (v := 0) hx hb dX10_areTwoSowers_23 (by decide) ?_
    exact ret (0 : Int32) σ _ _ 24 _ (rfl) (⟨rfl, by first | exact Or.inl ⟨rfl, by omega⟩ | exact Or.inr ⟨rfl, by omega⟩ | omega⟩) hw dX10_areTwoSowers_24
  · have c4i := mt Int32.toInt_inj.mp c4
    have p4 := bz1 hr2 c4
    refine lv_iload_n hx hb dX10_areTwoSowers_7 rfl (lv_at hl 1 rfl) ?_
    refine te_vi hw (ru_S (As := [.int w]) (rest := []) hx hb hml hts hown hk hw (c_X10_isSower l G hG σ hI.1 w) (m3_in wd125 wd126 wd2) wd127 nm_yX10_isSower ⟨rfl, rfl⟩ ⟨by decide, by decide⟩ rfl hl.1 rfl (Nat.le_of_ble_eq_true rfl) dX10_areTwoSowers_8 ⟨Nat.zero_le _, Nat.zero_le _⟩) (fun r4 σ3 H locs hr4 hw => ?_)
    rw [hr4.1] at hw
    have hr4 := hr4.2
    refine lv_if_eq (tgt := 23) hx hb dX10_areTwoSowers_11 (by decide) (fun c11 => ?_) (fun c11 => ?_)
    · have c11i := congrArg Int32.toInt c11
      have p11 := bz0 hr4 c11
      refine lv_iconst (v := 0) hx hb dX10_areTwoSowers_23 (by decide) ?_
      exact ret (0 : Int32) σ _ _ 24 _ (rfl) (⟨rfl, by first | exact Or.inl ⟨rfl, by omega⟩ | exact Or.inr ⟨rfl, by omega⟩ | omega⟩) hw dX10_areTwoSowers_24
    · have c11i := mt Int32.toInt_inj.mp c11
      have p11 := bz1 hr4 c11
      refine lv_iload_n hx hb dX10_areTwoSowers_14 rfl (lv_at hl 0 rfl) ?_
      refine lv_iload_n hx hb dX10_areTwoSowers_15 rfl (lv_at hl 1 rfl) ?_
      refine lv_icmp_eq (tgt := 23) hx hb dX10_areTwoSowers_16 (by decide) (fun c16 => ?_) (fun c16 => ?_)
      · have c16i := congrArg Int32.toInt c16
        refine lv_iconst (v := 0) hx hb dX10_areTwoSowers_23 (by decide) ?_
        exact ret (0 : Int32) σ _ _ 24 _ (rfl) (⟨rfl, by first | exact Or.inl ⟨rfl, by omega⟩ | exact Or.inr ⟨rfl, by omega⟩ | omega⟩) hw dX10_areTwoSowers_24
      · have c16i := mt Int32.toInt_inj.mp c16
        refine lv_iconst (v := 1) hx hb dX10_areTwoSowers_19 (by decide) ?_
        refine lv_goto (tgt := 24) hx hb dX10_areTwoSowers_20 (by decide) ?_
        exact ret (1 : Int32) σ _ _ 24 _ (rfl) (⟨rfl, by first | exact Or.inl ⟨rfl, by omega⟩ | exact Or.inr ⟨rfl, by omega⟩ | omega⟩) hw dX10_areTwoSowers_24
set_option maxHeartbeats 4000000 in
set_option maxRecDepth 100000 in
theorem c_X10_isKind (l : Launch) (G : Gg) (hG : Ginj G) (σ : Sg) (hI0 : Inv σ) (v : Int32) : MI l G yX10_isKind cX10_isKind 1 .boolean (rmO 1 22) σ [.int v] (fun r σ' => σ' = σ ∧ ((r = 1 ∧ (0 ≤ v.toInt ∧ v.toInt ≤ 3)) ∨ (r = 0 ∧ ¬ (0 ≤ v.toInt ∧ v.toInt ≤ 3)))) := by
  refine MI.of (by decide +kernel) (Nat.le_of_ble_eq_true rfl) ?_
  intro p e s m a below meth c ls Q hx hb hml hts hown hk hw ret hl
  have hown : s.vm.findClass RX10 = some m.cls := hown
  have hl : lv_has ls 1 [(0, .int v)] := hl
  have hI : K0 σ σ := K0.rf hI0
  have L0 : (0 : Int32).toInt = 0 := by decide
  have L3 : (3 : Int32).toInt = 3 := by decide
  generalize hHe : s.heap = H at hw ⊢
  generalize hLe : ([] : List Loc) = locs at hw ⊢
  refine lv_iload_n hx hb dX10_isKind_0 rfl (lv_at hl 0 rfl) ?_
  refine lv_iconst (v := 0) hx hb dX10_isKind_1 (by decide) ?_
  refine lv_iconst (v := 3) hx hb dX10_isKind_2 (by decide) ?_
  refine te_vi hw (ru_S (As := [.int v, .int (0 : Int32), .int (3 : Int32)]) (rest := []) hx hb hml hts hown hk hw (c_X10_within l G hG σ hI.1 v (0 : Int32) (3 : Int32)) (m3_in wd128 wd129 wd2) wd130 nm_yX10_within ⟨rfl, rfl⟩ ⟨by decide, by decide⟩ rfl hl.1 rfl (Nat.le_of_ble_eq_true rfl) dX10_isKind_3 ⟨Nat.zero_le _, Nat.zero_le _⟩) (fun r2 σ1 H locs hr2 hw => ?_)
  rw [hr2.1] at hw
  have hr2 := hr2.2
  exact ret r2 σ _ _ 6 _ (bzn hr2) (⟨rfl, by have q := hr2; simp only [L0, L3] at q; exact q⟩) hw dX10_isKind_6
set_option maxHeartbeats 4000000 in
set_option maxRecDepth 100000 in
theorem c_X10_isKindOrAll (l : Launch) (G : Gg) (hG : Ginj G) (σ : Sg) (hI0 : Inv σ) (v : Int32) : MI l G yX10_isKindOrAll cX10_isKindOrAll 1 .boolean (rmO 2 42) σ [.int v] (fun r σ' => σ' = σ ∧ ((r = 1 ∧ (-1 ≤ v.toInt ∧ v.toInt ≤ 3)) ∨ (r = 0 ∧ ¬ (-1 ≤ v.toInt ∧ v.toInt ≤ 3)))) := by
  refine MI.of (by decide +kernel) (Nat.le_of_ble_eq_true rfl) ?_
  intro p e s m a below meth c ls Q hx hb hml hts hown hk hw ret hl
  have hown : s.vm.findClass RX10 = some m.cls := hown
  have hl : lv_has ls 1 [(0, .int v)] := hl
  have hI : K0 σ σ := K0.rf hI0
  have Lm1 : (-1 : Int32).toInt = -1 := by decide
  have L0 : (0 : Int32).toInt = 0 := by decide
  have L1 : (1 : Int32).toInt = 1 := by decide
  generalize hHe : s.heap = H at hw ⊢
  generalize hLe : ([] : List Loc) = locs at hw ⊢
  refine lv_iload_n hx hb dX10_isKindOrAll_0 rfl (lv_at hl 0 rfl) ?_
  refine lv_iconst (v := -1) hx hb dX10_isKindOrAll_1 (by decide) ?_
  refine lv_icmp_eq (tgt := 12) hx hb dX10_isKindOrAll_2 (by decide) (fun c2 => ?_) (fun c2 => ?_)
  · have ov := i32b v
    have c2i := congrArg Int32.toInt c2
    refine lv_iconst (v := 1) hx hb dX10_isKindOrAll_12 (by decide) ?_
    refine lv_goto (tgt := 17) hx hb dX10_isKindOrAll_13 (by decide) ?_
    exact ret (1 : Int32) σ _ _ 17 _ (rfl) (⟨rfl, by first | exact Or.inl ⟨rfl, by omega⟩ | exact Or.inr ⟨rfl, by omega⟩ | omega⟩) hw dX10_isKindOrAll_17
  · have ov := i32b v
    have c2i := mt Int32.toInt_inj.mp c2
    refine lv_iload_n hx hb dX10_isKindOrAll_5 rfl (lv_at hl 0 rfl) ?_
    refine te_vi hw (ru_S (As := [.int v]) (rest := []) hx hb hml hts hown hk hw (c_X10_isKind l G hG σ hI.1 v) (m3_in wd131 wd132 wd2) wd133 nm_yX10_isKind ⟨rfl, rfl⟩ ⟨by decide, by decide⟩ rfl hl.1 rfl (Nat.le_of_ble_eq_true rfl) dX10_isKindOrAll_6 ⟨Nat.zero_le _, Nat.zero_le _⟩) (fun r2 σ1 H locs hr2 hw => ?_)
    rw [hr2.1] at hw
    have hr2 := hr2.2
    refine lv_if_eq (tgt := 16) hx hb dX10_isKindOrAll_9 (by decide) (fun c9 => ?_) (fun c9 => ?_)
    · have c9i := congrArg Int32.toInt c9
      have p9 := bz0 hr2 c9
      refine lv_iconst (v := 0) hx hb dX10_isKindOrAll_16 (by decide) ?_
      exact ret (0 : Int32) σ _ _ 17 _ (rfl) (⟨rfl, by first | exact Or.inl ⟨rfl, by omega⟩ | exact Or.inr ⟨rfl, by omega⟩ | omega⟩) hw dX10_isKindOrAll_17
    · have c9i := mt Int32.toInt_inj.mp c9
      have p9 := bz1 hr2 c9
      refine lv_iconst (v := 1) hx hb dX10_isKindOrAll_12 (by decide) ?_
      refine lv_goto (tgt := 17) hx hb dX10_isKindOrAll_13 (by decide) ?_
      exact ret (1 : Int32) σ _ _ 17 _ (rfl) (⟨rfl, by first | exact Or.inl ⟨rfl, by omega⟩ | exact Or.inr ⟨rfl, by omega⟩ | omega⟩) hw dX10_isKindOrAll_17
set_option maxHeartbeats 4000000 in
set_option maxRecDepth 100000 in
theorem c_X10_isCell (l : Launch) (G : Gg) (hG : Ginj G) (σ : Sg) (hI0 : Inv σ) (v : Int32) : MI l G yX10_isCell cX10_isCell 1 .boolean (rmO 1 22) σ [.int v] (fun r σ' => σ' = σ ∧ ((r = 1 ∧ (0 ≤ v.toInt ∧ v.toInt ≤ 63)) ∨ (r = 0 ∧ ¬ (0 ≤ v.toInt ∧ v.toInt ≤ 63)))) := by
  refine MI.of (by decide +kernel) (Nat.le_of_ble_eq_true rfl) ?_
  intro p e s m a below meth c ls Q hx hb hml hts hown hk hw ret hl
  have hown : s.vm.findClass RX10 = some m.cls := hown
  have hl : lv_has ls 1 [(0, .int v)] := hl
  have hI : K0 σ σ := K0.rf hI0
  have L0 : (0 : Int32).toInt = 0 := by decide
  have L63 : (63 : Int32).toInt = 63 := by decide
  generalize hHe : s.heap = H at hw ⊢
  generalize hLe : ([] : List Loc) = locs at hw ⊢
  refine lv_iload_n hx hb dX10_isCell_0 rfl (lv_at hl 0 rfl) ?_
  refine lv_iconst (v := 0) hx hb dX10_isCell_1 (by decide) ?_
  refine lv_bipush (v := 63) hx hb dX10_isCell_2 (by decide) ?_
  refine te_vi hw (ru_S (As := [.int v, .int (0 : Int32), .int (63 : Int32)]) (rest := []) hx hb hml hts hown hk hw (c_X10_within l G hG σ hI.1 v (0 : Int32) (63 : Int32)) (m3_in wd128 wd129 wd2) wd130 nm_yX10_within ⟨rfl, rfl⟩ ⟨by decide, by decide⟩ rfl hl.1 rfl (Nat.le_of_ble_eq_true rfl) dX10_isCell_4 ⟨Nat.zero_le _, Nat.zero_le _⟩) (fun r2 σ1 H locs hr2 hw => ?_)
  rw [hr2.1] at hw
  have hr2 := hr2.2
  exact ret r2 σ _ _ 7 _ (bzn hr2) (⟨rfl, by have q := hr2; simp only [L0, L63] at q; exact q⟩) hw dX10_isCell_7
set_option maxHeartbeats 4000000 in
set_option maxRecDepth 100000 in
theorem c_X10_isWay (l : Launch) (G : Gg) (hG : Ginj G) (σ : Sg) (hI0 : Inv σ) (v : Int32) : MI l G yX10_isWay cX10_isWay 1 .boolean (rmO 1 22) σ [.int v] (fun r σ' => σ' = σ ∧ ((r = 1 ∧ (0 ≤ v.toInt ∧ v.toInt ≤ 7)) ∨ (r = 0 ∧ ¬ (0 ≤ v.toInt ∧ v.toInt ≤ 7)))) := by
  refine MI.of (by decide +kernel) (Nat.le_of_ble_eq_true rfl) ?_
  intro p e s m a below meth c ls Q hx hb hml hts hown hk hw ret hl
  have hown : s.vm.findClass RX10 = some m.cls := hown
  have hl : lv_has ls 1 [(0, .int v)] := hl
  have hI : K0 σ σ := K0.rf hI0
  have L0 : (0 : Int32).toInt = 0 := by decide
  have L7 : (7 : Int32).toInt = 7 := by decide
  generalize hHe : s.heap = H at hw ⊢
  generalize hLe : ([] : List Loc) = locs at hw ⊢
  refine lv_iload_n hx hb dX10_isWay_0 rfl (lv_at hl 0 rfl) ?_
  refine lv_iconst (v := 0) hx hb dX10_isWay_1 (by decide) ?_
  refine lv_bipush (v := 7) hx hb dX10_isWay_2 (by decide) ?_
  refine te_vi hw (ru_S (As := [.int v, .int (0 : Int32), .int (7 : Int32)]) (rest := []) hx hb hml hts hown hk hw (c_X10_within l G hG σ hI.1 v (0 : Int32) (7 : Int32)) (m3_in wd128 wd129 wd2) wd130 nm_yX10_within ⟨rfl, rfl⟩ ⟨by decide, by decide⟩ rfl hl.1 rfl (Nat.le_of_ble_eq_true rfl) dX10_isWay_4 ⟨Nat.zero_le _, Nat.zero_le _⟩) (fun r2 σ1 H locs hr2 hw => ?_)
  rw [hr2.1] at hw
  have hr2 := hr2.2
  exact ret r2 σ _ _ 7 _ (bzn hr2) (⟨rfl, by have q := hr2; simp only [L0, L7] at q; exact q⟩) hw dX10_isWay_7
set_option maxHeartbeats 4000000 in
set_option maxRecDepth 100000 in
theorem c_X10_isImage (l : Launch) (G : Gg) (hG : Ginj G) (σ : Sg) (hI0 : Inv σ) (v : Int32) : MI l G yX10_isImage cX10_isImage 1 .boolean (rmO 1 22) σ [.int v] (fun r σ' => σ' = σ ∧ ((r = 1 ∧ (0 ≤ v.toInt ∧ v.toInt ≤ 1)) ∨ (r = 0 ∧ ¬ (0 ≤ v.toInt ∧ v.toInt ≤ 1)))) := by
  refine MI.of (by decide +kernel) (Nat.le_of_ble_eq_true rfl) ?_
  intro p e s m a below meth c ls Q hx hb hml hts hown hk hw ret hl
  have hown : s.vm.findClass RX10 = some m.cls := hown
  have hl : lv_has ls 1 [(0, .int v)] := hl
  have hI : K0 σ σ := K0.rf hI0
  have L0 : (0 : Int32).toInt = 0 := by decide
  have L1 : (1 : Int32).toInt = 1 := by decide
  generalize hHe : s.heap = H at hw ⊢
  generalize hLe : ([] : List Loc) = locs at hw ⊢
  refine lv_iload_n hx hb dX10_isImage_0 rfl (lv_at hl 0 rfl) ?_
  refine lv_iconst (v := 0) hx hb dX10_isImage_1 (by decide) ?_
  refine lv_iconst (v := 1) hx hb dX10_isImage_2 (by decide) ?_
  refine te_vi hw (ru_S (As := [.int v, .int (0 : Int32), .int (1 : Int32)]) (rest := []) hx hb hml hts hown hk hw (c_X10_within l G hG σ hI.1 v (0 : Int32) (1 : Int32)) (m3_in wd128 wd129 wd2) wd130 nm_yX10_within ⟨rfl, rfl⟩ ⟨by decide, by decide⟩ rfl hl.1 rfl (Nat.le_of_ble_eq_true rfl) dX10_isImage_3 ⟨Nat.zero_le _, Nat.zero_le _⟩) (fun r2 σ1 H locs hr2 hw => ?_)
  rw [hr2.1] at hw
  have hr2 := hr2.2
  exact ret r2 σ _ _ 6 _ (bzn hr2) (⟨rfl, by have q := hr2; simp only [L0, L1] at q; exact q⟩) hw dX10_isImage_6
set_option maxHeartbeats 4000000 in
set_option maxRecDepth 100000 in
theorem c_X10_stepFrom (l : Launch) (G : Gg) (hG : Ginj G) (σ : Sg) (hI0 : Inv σ) (v : Int32) (w : Int32) : MI l G yX10_stepFrom cX10_stepFrom 4 .int (rmO 1 22) σ [.int v, .int w] (fun r σ' => σ' = σ ∧ (r.toInt = -6 ∨ (0 ≤ r.toInt ∧ r.toInt ≤ 63))) := by
  refine MI.of (by decide +kernel) (Nat.le_of_ble_eq_true rfl) ?_
  intro p e s m a below meth c ls Q hx hb hml hts hown hk hw ret hl
  have hown : s.vm.findClass RX10 = some m.cls := hown
  have hl : lv_has ls 4 [(0, .int v), (1, .int w)] := hl
  have hI : K0 σ σ := K0.rf hI0
  have Lm6 : (-6 : Int32).toInt = -6 := by decide
  have L0 : (0 : Int32).toInt = 0 := by decide
  have L7 : (7 : Int32).toInt = 7 := by decide
  have L8 : (8 : Int32).toInt = 8 := by decide
  generalize hHe : s.heap = H at hw ⊢
  generalize hLe : ([] : List Loc) = locs at hw ⊢
  refine lv_iload_n hx hb dX10_stepFrom_0 rfl (lv_at hl 0 rfl) ?_
  refine lv_bipush (v := 8) hx hb dX10_stepFrom_1 (by decide) ?_
  refine lv_irem hx hb dX10_stepFrom_3 (by decide) ?_
  refine lv_topi (fun x1 ex1 => ?_)
  have tx1 : -8 < x1.toInt ∧ x1.toInt < 8 := by rw [ex1]; exact irem_bd L8 (by decide)
  refine tg_gets hx hb hts hown hk.2.1.2.1 hw wd283 dX10_stepFrom_4 ?_
  refine lv_iload_n hx hb dX10_stepFrom_7 rfl (lv_at hl 1 rfl) ?_
  refine lv_bipush (v := 7) hx hb dX10_stepFrom_8 (by decide) ?_
  refine lv_iand hx hb dX10_stepFrom_10 ?_
  refine lv_topi (fun x2 ex2 => ?_)
  have tx2 : 0 ≤ x2.toInt ∧ x2.toInt ≤ 7 := by rw [ex2]; exact and7 _
  refine tg_ti hx hb hk.2.1.2.1 hw (vin ⟨by omega, by omega⟩) dX10_stepFrom_11 ?_
  refine lv_topi (fun x3 ex3 => ?_)
  have bx3 : -1 ≤ x3.toInt ∧ x3.toInt ≤ 1 := by rw [ex3]; exact stepXF_bd _
  refine lv_iadd hx hb dX10_stepFrom_12 ?_
  refine lv_topi (fun x4 ex4 => ?_)
  have tx4 : x4.toInt = x1.toInt + x3.toInt := by rw [ex4]; exact Jvm.Kit.i32_add (by omega) (by omega)
  refine lv_istore_n (lv' := [(2, .int x4), (0, .int v), (1, .int w)]) hx hb dX10_stepFrom_13 rfl hl (by decide) rfl (fun ls hl => ?_)
  refine lv_iload_n hx hb dX10_stepFrom_14 rfl (lv_at hl 1 rfl) ?_
  refine lv_bipush (v := 8) hx hb dX10_stepFrom_15 (by decide) ?_
  refine lv_idiv hx hb dX10_stepFrom_17 (by decide) ?_
  refine lv_topi (fun x5 ex5 => ?_)
  refine tg_gets hx hb hts hown hk.2.1.2.2 hw wd284 dX10_stepFrom_18 ?_
  refine lv_iload_n hx hb dX10_stepFrom_21 rfl (lv_at hl 2 rfl) ?_
  refine lv_bipush (v := 7) hx hb dX10_stepFrom_22 (by decide) ?_
  refine lv_iand hx hb dX10_stepFrom_24 ?_
  refine lv_topi (fun x6 ex6 => ?_)
  have tx6 : 0 ≤ x6.toInt ∧ x6.toInt ≤ 7 := by rw [ex6]; exact and7 _
  refine tg_ti hx hb hk.2.1.2.2 hw (vin ⟨by omega, by omega⟩) dX10_stepFrom_25 ?_
  refine lv_topi (fun x7 ex7 => ?_)
  have bx7 : -1 ≤ x7.toInt ∧ x7.toInt ≤ 1 := by rw [ex7]; exact stepYF_bd _
  refine lv_iadd hx hb dX10_stepFrom_26 ?_
  refine lv_topi (fun x8 ex8 => ?_)
  refine lv_istore_n (lv' := [(3, .int x8), (2, .int x4), (0, .int v), (1, .int w)]) hx hb dX10_stepFrom_27 rfl hl (by decide) rfl (fun ls hl => ?_)
  refine lv_iload_n hx hb dX10_stepFrom_28 rfl (lv_at hl 1 rfl) ?_
  refine lv_iconst (v := 0) hx hb dX10_stepFrom_29 (by decide) ?_
  refine lv_bipush (v := 7) hx hb dX10_stepFrom_30 (by decide) ?_
  refine te_vi hw (ru_S (As := [.int x4, .int (0 : Int32), .int (7 : Int32)]) (rest := []) hx hb hml hts hown hk hw (c_X10_within l G hG σ hI.1 x4 (0 : Int32) (7 : Int32)) (m3_in wd128 wd129 wd2) wd130 nm_yX10_within ⟨rfl, rfl⟩ ⟨by decide, by decide⟩ rfl hl.1 rfl (Nat.le_of_ble_eq_true rfl) dX10_stepFrom_32 ⟨Nat.zero_le _, Nat.zero_le _⟩) (fun r10 σ9 H locs hr10 hw => ?_)
  rw [hr10.1] at hw
  have hr10 := hr10.2
  refine lv_if_eq (tgt := 57) hx hb dX10_stepFrom_35 (by decide) (fun c35 => ?_) (fun c35 => ?_)
  · have c35i := congrArg Int32.toInt c35
    have p35 := bz0 hr10 c35
    refine lv_bipush (v := -6) hx hb dX10_stepFrom_57 (by decide) ?_
    exact ret (-6 : Int32) σ _ _ 59 _ (rfl) (⟨rfl, by omega⟩) hw dX10_stepFrom_59
  · have c35i := mt Int32.toInt_inj.mp c35
    have p35 := bz1 hr10 c35
    refine lv_iload_n hx hb dX10_stepFrom_38 rfl (lv_at hl 0 rfl) ?_
    refine lv_iconst (v := 0) hx hb dX10_stepFrom_39 (by decide) ?_
    refine lv_bipush (v := 7) hx hb dX10_stepFrom_40 (by decide) ?_
    refine te_vi hw (ru_S (As := [.int x8, .int (0 : Int32), .int (7 : Int32)]) (rest := []) hx hb hml hts hown hk hw (c_X10_within l G hG σ hI.1 x8 (0 : Int32) (7 : Int32)) (m3_in wd128 wd129 wd2) wd130 nm_yX10_within ⟨rfl, rfl⟩ ⟨by decide, by decide⟩ rfl hl.1 rfl (Nat.le_of_ble_eq_true rfl) dX10_stepFrom_42 ⟨Nat.zero_le _, Nat.zero_le _⟩) (fun r12 σ11 H locs hr12 hw => ?_)
    rw [hr12.1] at hw
    have hr12 := hr12.2
    refine lv_if_eq (tgt := 57) hx hb dX10_stepFrom_45 (by decide) (fun c45 => ?_) (fun c45 => ?_)
    · have c45i := congrArg Int32.toInt c45
      have p45 := bz0 hr12 c45
      refine lv_bipush (v := -6) hx hb dX10_stepFrom_57 (by decide) ?_
      exact ret (-6 : Int32) σ _ _ 59 _ (rfl) (⟨rfl, by omega⟩) hw dX10_stepFrom_59
    · have c45i := mt Int32.toInt_inj.mp c45
      have p45 := bz1 hr12 c45
      refine lv_iload_n hx hb dX10_stepFrom_48 rfl (lv_at hl 1 rfl) ?_
      refine lv_bipush (v := 8) hx hb dX10_stepFrom_49 (by decide) ?_
      refine lv_iload_n hx hb dX10_stepFrom_51 rfl (lv_at hl 0 rfl) ?_
      refine lv_imul hx hb dX10_stepFrom_52 ?_
      refine lv_topi (fun x13 ex13 => ?_)
      have tx13 : x13.toInt = 8 * x8.toInt := by rw [ex13, Jvm.Kit.i32_mul (by rw [L8]; omega) (by rw [L8]; omega), L8]
      refine lv_iadd hx hb dX10_stepFrom_53 ?_
      refine lv_topi (fun x14 ex14 => ?_)
      have tx14 : x14.toInt = x4.toInt + x13.toInt := by rw [ex14]; exact Jvm.Kit.i32_add (by omega) (by omega)
      refine lv_goto (tgt := 59) hx hb dX10_stepFrom_54 (by decide) ?_
      exact ret x14 σ _ _ 59 _ (rfl) (⟨rfl, by omega⟩) hw dX10_stepFrom_59
set_option maxHeartbeats 4000000 in
set_option maxRecDepth 100000 in
theorem c_X10_cellsApart (l : Launch) (G : Gg) (hG : Ginj G) (σ : Sg) (hI0 : Inv σ) (v : Int32) (w : Int32) : MI l G yX10_cellsApart cX10_cellsApart 4 .int (rmO 1 21) σ [.int v, .int w] (fun r σ' => σ' = σ ∧ (True)) := by
  refine MI.of (by decide +kernel) (Nat.le_of_ble_eq_true rfl) ?_
  intro p e s m a below meth c ls Q hx hb hml hts hown hk hw ret hl
  have hown : s.vm.findClass RX10 = some m.cls := hown
  have hl : lv_has ls 4 [(0, .int v), (1, .int w)] := hl
  have hI : K0 σ σ := K0.rf hI0
  have L8 : (8 : Int32).toInt = 8 := by decide
  generalize hHe : s.heap = H at hw ⊢
  generalize hLe : ([] : List Loc) = locs at hw ⊢
  refine lv_iload_n hx hb dX10_cellsApart_0 rfl (lv_at hl 0 rfl) ?_
  refine lv_bipush (v := 8) hx hb dX10_cellsApart_1 (by decide) ?_
  refine lv_irem hx hb dX10_cellsApart_3 (by decide) ?_
  refine lv_topi (fun x1 ex1 => ?_)
  have tx1 : -8 < x1.toInt ∧ x1.toInt < 8 := by rw [ex1]; exact irem_bd L8 (by decide)
  refine lv_iload_n hx hb dX10_cellsApart_4 rfl (lv_at hl 1 rfl) ?_
  refine lv_bipush (v := 8) hx hb dX10_cellsApart_5 (by decide) ?_
  refine lv_irem hx hb dX10_cellsApart_7 (by decide) ?_
  refine lv_topi (fun x2 ex2 => ?_)
  have tx2 : -8 < x2.toInt ∧ x2.toInt < 8 := by rw [ex2]; exact irem_bd L8 (by decide)
  refine lv_isub hx hb dX10_cellsApart_8 ?_
  refine lv_topi (fun x3 ex3 => ?_)
  have tx3 : x3.toInt = x1.toInt - x2.toInt := by rw [ex3]; exact Jvm.Kit.i32_sub (by omega) (by omega)
  refine va_mabs hx hb (hml.trans hl.1.symm) hown (hts _ wd312) (hts _ wd313) (hts _ wd314) (hts _ wd315) (by decide) (Nat.le_of_ble_eq_true rfl) (Nat.zero_le _) (Nat.zero_le _) dX10_cellsApart_9 ?_
  refine lv_topi (fun x4 ex4 => ?_)
  have tx4 : 0 ≤ x4.toInt ∧ x4.toInt ≤ 14 := by rw [ex4]; exact abs_bd (n := 14) (by omega) (by omega) (by omega)
  refine lv_istore_n (lv' := [(2, .int x4), (0, .int v), (1, .int w)]) hx hb dX10_cellsApart_12 rfl hl (by decide) rfl (fun ls hl => ?_)
  refine lv_iload_n hx hb dX10_cellsApart_13 rfl (lv_at hl 1 rfl) ?_
  refine lv_bipush (v := 8) hx hb dX10_cellsApart_14 (by decide) ?_
  refine lv_idiv hx hb dX10_cellsApart_16 (by decide) ?_
  refine lv_topi (fun x5 ex5 => ?_)
  refine lv_iload_n hx hb dX10_cellsApart_17 rfl (lv_at hl 2 rfl) ?_
  refine lv_bipush (v := 8) hx hb dX10_cellsApart_18 (by decide) ?_
  refine lv_idiv hx hb dX10_cellsApart_20 (by decide) ?_
  refine lv_topi (fun x6 ex6 => ?_)
  refine lv_isub hx hb dX10_cellsApart_21 ?_
  refine lv_topi (fun x7 ex7 => ?_)
  refine va_mabs hx hb (hml.trans hl.1.symm) hown (hts _ wd312) (hts _ wd313) (hts _ wd314) (hts _ wd315) (by decide) (Nat.le_of_ble_eq_true rfl) (Nat.zero_le _) (Nat.zero_le _) dX10_cellsApart_22 ?_
  refine lv_topi (fun x8 ex8 => ?_)
  refine lv_istore_n (lv' := [(3, .int x8), (2, .int x4), (0, .int v), (1, .int w)]) hx hb dX10_cellsApart_25 rfl hl (by decide) rfl (fun ls hl => ?_)
  refine lv_iload_n hx hb dX10_cellsApart_26 rfl (lv_at hl 1 rfl) ?_
  refine lv_iload_n hx hb dX10_cellsApart_27 rfl (lv_at hl 0 rfl) ?_
  refine va_mmax hx hb (hml.trans hl.1.symm) hown (hts _ wd316) (hts _ wd317) (hts _ wd314) (hts _ wd318) (by decide) (Nat.le_of_ble_eq_true rfl) (Nat.zero_le _) (Nat.zero_le _) dX10_cellsApart_28 ?_
  refine lv_topi (fun x9 ex9 => ?_)
  exact ret x9 σ _ _ 31 _ (rfl) (⟨rfl, trivial⟩) hw dX10_cellsApart_31
set_option maxHeartbeats 4000000 in
set_option maxRecDepth 100000 in
theorem c_X10_onEdge (l : Launch) (G : Gg) (hG : Ginj G) (σ : Sg) (hI0 : Inv σ) (v : Int32) : MI l G yX10_onEdge cX10_onEdge 3 .boolean (rmO 0 0) σ [.int v] (fun r σ' => σ' = σ ∧ (True)) := by
  refine MI.of (by decide +kernel) (Nat.le_of_ble_eq_true rfl) ?_
  intro p e s m a below meth c ls Q hx hb hml hts hown hk hw ret hl
  have hown : s.vm.findClass RX10 = some m.cls := hown
  have hl : lv_has ls 3 [(0, .int v)] := hl
  have hI : K0 σ σ := K0.rf hI0
  have L0 : (0 : Int32).toInt = 0 := by decide
  have L1 : (1 : Int32).toInt = 1 := by decide
  have L7 : (7 : Int32).toInt = 7 := by decide
  have L8 : (8 : Int32).toInt = 8 := by decide
  generalize hHe : s.heap = H at hw ⊢
  generalize hLe : ([] : List Loc) = locs at hw ⊢
  refine lv_iload_n hx hb dX10_onEdge_0 rfl (lv_at hl 0 rfl) ?_
  refine lv_bipush (v := 8) hx hb dX10_onEdge_1 (by decide) ?_
  refine lv_irem hx hb dX10_onEdge_3 (by decide) ?_
  refine lv_topi (fun x1 ex1 => ?_)
  have tx1 : -8 < x1.toInt ∧ x1.toInt < 8 := by rw [ex1]; exact irem_bd L8 (by decide)
  refine lv_istore_n (lv' := [(1, .int x1), (0, .int v)]) hx hb dX10_onEdge_4 rfl hl (by decide) rfl (fun ls hl => ?_)
  refine lv_iload_n hx hb dX10_onEdge_5 rfl (lv_at hl 1 rfl) ?_
  refine lv_bipush (v := 8) hx hb dX10_onEdge_6 (by decide) ?_
  refine lv_idiv hx hb dX10_onEdge_8 (by decide) ?_
  refine lv_topi (fun x2 ex2 => ?_)
  refine lv_istore_n (lv' := [(2, .int x2), (1, .int x1), (0, .int v)]) hx hb dX10_onEdge_9 rfl hl (by decide) rfl (fun ls hl => ?_)
  refine lv_iload_n hx hb dX10_onEdge_10 rfl (lv_at hl 1 rfl) ?_
  refine lv_if_eq (tgt := 30) hx hb dX10_onEdge_11 (by decide) (fun c11 => ?_) (fun c11 => ?_)
  · have c11i := congrArg Int32.toInt c11
    refine lv_iconst (v := 1) hx hb dX10_onEdge_30 (by decide) ?_
    refine lv_goto (tgt := 35) hx hb dX10_onEdge_31 (by decide) ?_
    exact ret (1 : Int32) σ _ _ 35 _ (rfl) (⟨rfl, trivial⟩) hw dX10_onEdge_35
  · have c11i := mt Int32.toInt_inj.mp c11
    refine lv_iload_n hx hb dX10_onEdge_14 rfl (lv_at hl 1 rfl) ?_
    refine lv_bipush (v := 7) hx hb dX10_onEdge_15 (by decide) ?_
    refine lv_icmp_eq (tgt := 30) hx hb dX10_onEdge_17 (by decide) (fun c17 => ?_) (fun c17 => ?_)
    · have c17i := congrArg Int32.toInt c17
      refine lv_iconst (v := 1) hx hb dX10_onEdge_30 (by decide) ?_
      refine lv_goto (tgt := 35) hx hb dX10_onEdge_31 (by decide) ?_
      exact ret (1 : Int32) σ _ _ 35 _ (rfl) (⟨rfl, trivial⟩) hw dX10_onEdge_35
    · have c17i := mt Int32.toInt_inj.mp c17
      refine lv_iload_n hx hb dX10_onEdge_20 rfl (lv_at hl 0 rfl) ?_
      refine lv_if_eq (tgt := 30) hx hb dX10_onEdge_21 (by decide) (fun c21 => ?_) (fun c21 => ?_)
      · have c21i := congrArg Int32.toInt c21
        refine lv_iconst (v := 1) hx hb dX10_onEdge_30 (by decide) ?_
        refine lv_goto (tgt := 35) hx hb dX10_onEdge_31 (by decide) ?_
        exact ret (1 : Int32) σ _ _ 35 _ (rfl) (⟨rfl, trivial⟩) hw dX10_onEdge_35
      · have c21i := mt Int32.toInt_inj.mp c21
        refine lv_iload_n hx hb dX10_onEdge_24 rfl (lv_at hl 0 rfl) ?_
        refine lv_bipush (v := 7) hx hb dX10_onEdge_25 (by decide) ?_
        refine lv_icmp_ne (tgt := 34) hx hb dX10_onEdge_27 (by decide) (fun c27 => ?_) (fun c27 => ?_)
        · have ox2 := i32b x2
          have c27i := mt Int32.toInt_inj.mp c27
          refine lv_iconst (v := 0) hx hb dX10_onEdge_34 (by decide) ?_
          exact ret (0 : Int32) σ _ _ 35 _ (rfl) (⟨rfl, trivial⟩) hw dX10_onEdge_35
        · have ox2 := i32b x2
          have c27i := congrArg Int32.toInt c27
          refine lv_iconst (v := 1) hx hb dX10_onEdge_30 (by decide) ?_
          refine lv_goto (tgt := 35) hx hb dX10_onEdge_31 (by decide) ?_
          exact ret (1 : Int32) σ _ _ 35 _ (rfl) (⟨rfl, trivial⟩) hw dX10_onEdge_35
set_option maxHeartbeats 4000000 in
set_option maxRecDepth 100000 in
theorem c_X10_bestWay (l : Launch) (G : Gg) (hG : Ginj G) (σ : Sg) (hI0 : Inv σ) (v : Int32) (w : Int32) : MI l G yX10_bestWay cX10_bestWay 9 .int (rmO 0 0) σ [.int v, .int w] (fun r σ' => σ' = σ ∧ (True)) := by
  refine MI.of (by decide +kernel) (Nat.le_of_ble_eq_true rfl) ?_
  intro p e s m a below meth c ls Q hx hb hml hts hown hk hw ret hl
  have hown : s.vm.findClass RX10 = some m.cls := hown
  have hl : lv_has ls 9 [(0, .int v), (1, .int w)] := hl
  have hI : K0 σ σ := K0.rf hI0
  have Lm1000000 : (-1000000 : Int32).toInt = -1000000 := by decide
  have L0 : (0 : Int32).toInt = 0 := by decide
  have L1 : (1 : Int32).toInt = 1 := by decide
  have L2 : (2 : Int32).toInt = 2 := by decide
  have L7 : (7 : Int32).toInt = 7 := by decide
  have L8 : (8 : Int32).toInt = 8 := by decide
  have L10 : (10 : Int32).toInt = 10 := by decide
  generalize hHe : s.heap = H at hw ⊢
  generalize hLe : ([] : List Loc) = locs at hw ⊢
  refine lv_iload_n hx hb dX10_bestWay_0 rfl (lv_at hl 1 rfl) ?_
  refine lv_bipush (v := 8) hx hb dX10_bestWay_1 (by decide) ?_
  refine lv_irem hx hb dX10_bestWay_3 (by decide) ?_
  refine lv_topi (fun x1 ex1 => ?_)
  have tx1 : -8 < x1.toInt ∧ x1.toInt < 8 := by rw [ex1]; exact irem_bd L8 (by decide)
  refine lv_iload_n hx hb dX10_bestWay_4 rfl (lv_at hl 0 rfl) ?_
  refine lv_bipush (v := 8) hx hb dX10_bestWay_5 (by decide) ?_
  refine lv_irem hx hb dX10_bestWay_7 (by decide) ?_
  refine lv_topi (fun x2 ex2 => ?_)
  have tx2 : -8 < x2.toInt ∧ x2.toInt < 8 := by rw [ex2]; exact irem_bd L8 (by decide)
  refine lv_isub hx hb dX10_bestWay_8 ?_
  refine lv_topi (fun x3 ex3 => ?_)
  have tx3 : x3.toInt = x1.toInt - x2.toInt := by rw [ex3]; exact Jvm.Kit.i32_sub (by omega) (by omega)
  refine lv_istore_n (lv' := [(2, .int x3), (0, .int v), (1, .int w)]) hx hb dX10_bestWay_9 rfl hl (by decide) rfl (fun ls hl => ?_)
  refine lv_iload_n hx hb dX10_bestWay_10 rfl (lv_at hl 2 rfl) ?_
  refine lv_bipush (v := 8) hx hb dX10_bestWay_11 (by decide) ?_
  refine lv_idiv hx hb dX10_bestWay_13 (by decide) ?_
  refine lv_topi (fun x4 ex4 => ?_)
  refine lv_iload_n hx hb dX10_bestWay_14 rfl (lv_at hl 1 rfl) ?_
  refine lv_bipush (v := 8) hx hb dX10_bestWay_15 (by decide) ?_
  refine lv_idiv hx hb dX10_bestWay_17 (by decide) ?_
  refine lv_topi (fun x5 ex5 => ?_)
  refine lv_isub hx hb dX10_bestWay_18 ?_
  refine lv_topi (fun x6 ex6 => ?_)
  refine lv_istore_n (lv' := [(3, .int x6), (2, .int x3), (0, .int v), (1, .int w)]) hx hb dX10_bestWay_19 rfl hl (by decide) rfl (fun ls hl => ?_)
  refine lv_iconst (v := 0) hx hb dX10_bestWay_20 (by decide) ?_
  refine lv_istore (lv' := [(4, .int (0 : Int32)), (3, .int x6), (2, .int x3), (0, .int v), (1, .int w)]) hx hb dX10_bestWay_21 hl (by decide) rfl (fun ls hl => ?_)
  refine lv_ldcw hx hb hown (hts _ wd325) dX10_bestWay_23 ?_
  refine lv_istore (lv' := [(5, .int (-1000000 : Int32)), (4, .int (0 : Int32)), (3, .int x6), (2, .int x3), (0, .int v), (1, .int w)]) hx hb dX10_bestWay_26 hl (by decide) rfl (fun ls hl => ?_)
  refine lv_iconst (v := 0) hx hb dX10_bestWay_28 (by decide) ?_
  refine lv_istore (lv' := [(6, .int (0 : Int32)), (5, .int (-1000000 : Int32)), (4, .int (0 : Int32)), (3, .int x6), (2, .int x3), (0, .int v), (1, .int w)]) hx hb dX10_bestWay_29 hl (by decide) rfl (fun ls hl => ?_)
  have cut31 : ∀ (n : Nat) (z4_31 : Int32) (z5_31 : Int32) (z6_31 : Int32) (H : Heap) (locs : List Loc) (ls : Array Slot), (0 ≤ z6_31.toInt ∧ z6_31.toInt ≤ 8) → ((8 - z6_31.toInt).toNat : Int) < (n : Int) → Wo G σ s H locs → lv_has ls 9 [(0, .int v), (1, .int w), (2, .int x3), (3, .int x6), (4, .int z4_31), (5, .int z5_31), (6, .int z6_31)] → W p l e (rmO 0 0) s m a below meth c H locs 0 0 Q (F0 m 31 ls []) := by
    intro n31
    induction n31 with
    | zero =>
      intro z4_31 z5_31 z6_31 H locs ls f31_0 hm31 hw hl
      exfalso; omega
    | succ n31 ih31 =>
      intro z4_31 z5_31 z6_31 H locs ls f31_0 hm31 hw hl
      refine lv_iload hx hb dX10_bestWay_31 (lv_at hl 6 rfl) ?_
      refine lv_bipush (v := 8) hx hb dX10_bestWay_33 (by decide) ?_
      refine lv_icmp_ge (tgt := 97) hx hb dX10_bestWay_35 (by decide) (fun c35 => ?_) (fun c35 => ?_)
      · have c35i := Int32.le_iff_toInt_le.mp c35
        refine lv_iload hx hb dX10_bestWay_97 (lv_at hl 4 rfl) ?_
        exact ret z4_31 σ _ _ 99 _ (rfl) (⟨rfl, trivial⟩) hw dX10_bestWay_99
      · have c35i := mt Int32.le_iff_toInt_le.mpr c35
        refine lv_iload hx hb dX10_bestWay_38 (lv_at hl 6 rfl) ?_
        refine lv_iconst (v := 2) hx hb dX10_bestWay_40 (by decide) ?_
        refine lv_irem hx hb dX10_bestWay_41 (by decide) ?_
        refine lv_topi (fun x7 ex7 => ?_)
        have tx7 : x7.toInt = z6_31.toInt % 2 := by rw [ex7]; exact irem_nn L2 (by omega)
        have bx7 : 0 ≤ x7.toInt ∧ x7.toInt ≤ 1 := by omega
        refine lv_if_ne (tgt := 50) hx hb dX10_bestWay_42 (by decide) (fun c42 => ?_) (fun c42 => ?_)
        · have c42i := mt Int32.toInt_inj.mp c42
          refine lv_bipush (v := 7) hx hb dX10_bestWay_50 (by decide) ?_
          refine lv_istore (lv' := [(7, .int (7 : Int32)), (0, .int v), (1, .int w), (2, .int x3), (3, .int x6), (4, .int z4_31), (5, .int z5_31), (6, .int z6_31)]) hx hb dX10_bestWay_52 hl (by decide) rfl (fun ls hl => ?_)
          refine tg_gets hx hb hts hown hk.2.1.2.1 hw wd283 dX10_bestWay_54 ?_
          refine lv_iload hx hb dX10_bestWay_57 (lv_at hl 7 rfl) ?_
          refine tg_ti hx hb hk.2.1.2.1 hw (vin ⟨by omega, by omega⟩) dX10_bestWay_59 ?_
          refine lv_topi (fun x8 ex8 => ?_)
          have bx8 : -1 ≤ x8.toInt ∧ x8.toInt ≤ 1 := by rw [ex8]; exact stepXF_bd _
          refine lv_iload_n hx hb dX10_bestWay_60 rfl (lv_at hl 3 rfl) ?_
          refine lv_imul hx hb dX10_bestWay_61 ?_
          refine lv_topi (fun x9 ex9 => ?_)
          refine tg_gets hx hb hts hown hk.2.1.2.2 hw wd284 dX10_bestWay_62 ?_
          refine lv_iload hx hb dX10_bestWay_65 (lv_at hl 7 rfl) ?_
          refine tg_ti hx hb hk.2.1.2.2 hw (vin ⟨by omega, by omega⟩) dX10_bestWay_67 ?_
          refine lv_topi (fun x10 ex10 => ?_)
          have bx10 : -1 ≤ x10.toInt ∧ x10.toInt ≤ 1 := by rw [ex10]; exact stepYF_bd _
          refine lv_iload_n hx hb dX10_bestWay_68 rfl (lv_at hl 4 rfl) ?_
          refine lv_imul hx hb dX10_bestWay_69 ?_
          refine lv_topi (fun x11 ex11 => ?_)
          refine lv_iadd hx hb dX10_bestWay_70 ?_
          refine lv_topi (fun x12 ex12 => ?_)
          refine lv_iload hx hb dX10_bestWay_71 (lv_at hl 0 rfl) ?_
          refine lv_imul hx hb dX10_bestWay_73 ?_
          refine lv_topi (fun x13 ex13 => ?_)
          refine lv_istore (lv' := [(8, .int x13), (7, .int (7 : Int32)), (0, .int v), (1, .int w), (2, .int x3), (3, .int x6), (4, .int z4_31), (5, .int z5_31), (6, .int z6_31)]) hx hb dX10_bestWay_74 hl (by decide) rfl (fun ls hl => ?_)
          refine lv_iload hx hb dX10_bestWay_76 (lv_at hl 0 rfl) ?_
          refine lv_iload hx hb dX10_bestWay_78 (lv_at hl 7 rfl) ?_
          refine lv_icmp_le (tgt := 91) hx hb dX10_bestWay_80 (by decide) (fun c80 => ?_) (fun c80 => ?_)
          · have ox13 := i32b x13
            have oz5_31 := i32b z5_31
            have c80i := Int32.le_iff_toInt_le.mp c80
            obtain ⟨x14, ex14⟩ : ∃ z : Int32, z = z6_31 + (1 : Int32) := ⟨_, rfl⟩
            refine lv_iinc (v := x14) (lv' := [(6, .int x14), (8, .int x13), (7, .int (7 : Int32)), (0, .int v), (1, .int w), (2, .int x3), (3, .int x6), (4, .int z4_31), (5, .int z5_31)]) hx hb dX10_bestWay_91 hl (k := 8) rfl (by rw [ex14]; rfl) (by decide) rfl (fun ls hl => ?_)
            have tx14 : x14.toInt = z6_31.toInt + 1 := by rw [ex14, Jvm.Kit.i32_add (by omega) (by omega)]; omega
            refine lv_goto (tgt := 31) hx hb dX10_bestWay_94 (by decide) ?_
            exact ih31 z4_31 z5_31 x14 _ _ _ (by omega) (by omega) hw (lv_sub hl [3, 4, 5, 6, 7, 8, 0] rfl)
          · have ox13 := i32b x13
            have oz5_31 := i32b z5_31
            have c80i := mt Int32.le_iff_toInt_le.mpr c80
            refine lv_iload hx hb dX10_bestWay_83 (lv_at hl 0 rfl) ?_
            refine lv_istore (lv' := [(5, .int x13), (8, .int x13), (7, .int (7 : Int32)), (0, .int v), (1, .int w), (2, .int x3), (3, .int x6), (4, .int z4_31), (6, .int z6_31)]) hx hb dX10_bestWay_85 hl (by decide) rfl (fun ls hl => ?_)
            refine lv_iload hx hb dX10_bestWay_87 (lv_at hl 8 rfl) ?_
            refine lv_istore (lv' := [(4, .int z6_31), (5, .int x13), (8, .int x13), (7, .int (7 : Int32)), (0, .int v), (1, .int w), (2, .int x3), (3, .int x6), (6, .int z6_31)]) hx hb dX10_bestWay_89 hl (by decide) rfl (fun ls hl => ?_)
            obtain ⟨x15, ex15⟩ : ∃ z : Int32, z = z6_31 + (1 : Int32) := ⟨_, rfl⟩
            refine lv_iinc (v := x15) (lv' := [(6, .int x15), (4, .int z6_31), (5, .int x13), (8, .int x13), (7, .int (7 : Int32)), (0, .int v), (1, .int w), (2, .int x3), (3, .int x6)]) hx hb dX10_bestWay_91 hl (k := 8) rfl (by rw [ex15]; rfl) (by decide) rfl (fun ls hl => ?_)
            have tx15 : x15.toInt = z6_31.toInt + 1 := by rw [ex15, Jvm.Kit.i32_add (by omega) (by omega)]; omega
            refine lv_goto (tgt := 31) hx hb dX10_bestWay_94 (by decide) ?_
            exact ih31 z6_31 x13 x15 _ _ _ (by omega) (by omega) hw (lv_sub hl [5, 6, 7, 8, 1, 2, 0] rfl)
        · have c42i := congrArg Int32.toInt c42
          refine lv_bipush (v := 10) hx hb dX10_bestWay_45 (by decide) ?_
          refine lv_goto (tgt := 52) hx hb dX10_bestWay_47 (by decide) ?_
          refine lv_istore (lv' := [(7, .int (10 : Int32)), (0, .int v), (1, .int w), (2, .int x3), (3, .int x6), (4, .int z4_31), (5, .int z5_31), (6, .int z6_31)]) hx hb dX10_bestWay_52 hl (by decide) rfl (fun ls hl => ?_)
          refine tg_gets hx hb hts hown hk.2.1.2.1 hw wd283 dX10_bestWay_54 ?_
          refine lv_iload hx hb dX10_bestWay_57 (lv_at hl 7 rfl) ?_
          refine tg_ti hx hb hk.2.1.2.1 hw (vin ⟨by omega, by omega⟩) dX10_bestWay_59 ?_
          refine lv_topi (fun x16 ex16 => ?_)
          have bx16 : -1 ≤ x16.toInt ∧ x16.toInt ≤ 1 := by rw [ex16]; exact stepXF_bd _
          refine lv_iload_n hx hb dX10_bestWay_60 rfl (lv_at hl 3 rfl) ?_
          refine lv_imul hx hb dX10_bestWay_61 ?_
          refine lv_topi (fun x17 ex17 => ?_)
          refine tg_gets hx hb hts hown hk.2.1.2.2 hw wd284 dX10_bestWay_62 ?_
          refine lv_iload hx hb dX10_bestWay_65 (lv_at hl 7 rfl) ?_
          refine tg_ti hx hb hk.2.1.2.2 hw (vin ⟨by omega, by omega⟩) dX10_bestWay_67 ?_
          refine lv_topi (fun x18 ex18 => ?_)
          have bx18 : -1 ≤ x18.toInt ∧ x18.toInt ≤ 1 := by rw [ex18]; exact stepYF_bd _
          refine lv_iload_n hx hb dX10_bestWay_68 rfl (lv_at hl 4 rfl) ?_
          refine lv_imul hx hb dX10_bestWay_69 ?_
          refine lv_topi (fun x19 ex19 => ?_)
          refine lv_iadd hx hb dX10_bestWay_70 ?_
          refine lv_topi (fun x20 ex20 => ?_)
          refine lv_iload hx hb dX10_bestWay_71 (lv_at hl 0 rfl) ?_
          refine lv_imul hx hb dX10_bestWay_73 ?_
          refine lv_topi (fun x21 ex21 => ?_)
          refine lv_istore (lv' := [(8, .int x21), (7, .int (10 : Int32)), (0, .int v), (1, .int w), (2, .int x3), (3, .int x6), (4, .int z4_31), (5, .int z5_31), (6, .int z6_31)]) hx hb dX10_bestWay_74 hl (by decide) rfl (fun ls hl => ?_)
          refine lv_iload hx hb dX10_bestWay_76 (lv_at hl 0 rfl) ?_
          refine lv_iload hx hb dX10_bestWay_78 (lv_at hl 7 rfl) ?_
          refine lv_icmp_le (tgt := 91) hx hb dX10_bestWay_80 (by decide) (fun c80 => ?_) (fun c80 => ?_)
          · have ox21 := i32b x21
            have oz5_31 := i32b z5_31
            have c80i := Int32.le_iff_toInt_le.mp c80
            obtain ⟨x22, ex22⟩ : ∃ z : Int32, z = z6_31 + (1 : Int32) := ⟨_, rfl⟩
            refine lv_iinc (v := x22) (lv' := [(6, .int x22), (8, .int x21), (7, .int (10 : Int32)), (0, .int v), (1, .int w), (2, .int x3), (3, .int x6), (4, .int z4_31), (5, .int z5_31)]) hx hb dX10_bestWay_91 hl (k := 8) rfl (by rw [ex22]; rfl) (by decide) rfl (fun ls hl => ?_)
            have tx22 : x22.toInt = z6_31.toInt + 1 := by rw [ex22, Jvm.Kit.i32_add (by omega) (by omega)]; omega
            refine lv_goto (tgt := 31) hx hb dX10_bestWay_94 (by decide) ?_
            exact ih31 z4_31 z5_31 x22 _ _ _ (by omega) (by omega) hw (lv_sub hl [3, 4, 5, 6, 7, 8, 0] rfl)
          · have ox21 := i32b x21
            have oz5_31 := i32b z5_31
            have c80i := mt Int32.le_iff_toInt_le.mpr c80
            refine lv_iload hx hb dX10_bestWay_83 (lv_at hl 0 rfl) ?_
            refine lv_istore (lv' := [(5, .int x21), (8, .int x21), (7, .int (10 : Int32)), (0, .int v), (1, .int w), (2, .int x3), (3, .int x6), (4, .int z4_31), (6, .int z6_31)]) hx hb dX10_bestWay_85 hl (by decide) rfl (fun ls hl => ?_)
            refine lv_iload hx hb dX10_bestWay_87 (lv_at hl 8 rfl) ?_
            refine lv_istore (lv' := [(4, .int z6_31), (5, .int x21), (8, .int x21), (7, .int (10 : Int32)), (0, .int v), (1, .int w), (2, .int x3), (3, .int x6), (6, .int z6_31)]) hx hb dX10_bestWay_89 hl (by decide) rfl (fun ls hl => ?_)
            obtain ⟨x23, ex23⟩ : ∃ z : Int32, z = z6_31 + (1 : Int32) := ⟨_, rfl⟩
            refine lv_iinc (v := x23) (lv' := [(6, .int x23), (4, .int z6_31), (5, .int x21), (8, .int x21), (7, .int (10 : Int32)), (0, .int v), (1, .int w), (2, .int x3), (3, .int x6)]) hx hb dX10_bestWay_91 hl (k := 8) rfl (by rw [ex23]; rfl) (by decide) rfl (fun ls hl => ?_)
            have tx23 : x23.toInt = z6_31.toInt + 1 := by rw [ex23, Jvm.Kit.i32_add (by omega) (by omega)]; omega
            refine lv_goto (tgt := 31) hx hb dX10_bestWay_94 (by decide) ?_
            exact ih31 z6_31 x21 x23 _ _ _ (by omega) (by omega) hw (lv_sub hl [5, 6, 7, 8, 1, 2, 0] rfl)
  exact cut31 ((((8 - (0 : Int32).toInt).toNat : Int)).toNat + 1) (0 : Int32) (-1000000 : Int32) (0 : Int32) _ _ _ (by omega) (by omega) hw (lv_sub hl [5, 6, 4, 3, 2, 1, 0] rfl)
set_option maxHeartbeats 4000000 in
set_option maxRecDepth 100000 in
theorem c_J9_floorMod_7cf53 (l : Launch) (G : Gg) (hG : Ginj G) (σ : Sg) (hI0 : Inv σ) (v : Int32) : MI l G yJ9_floorMod_7cf53 cJ9_floorMod_7cf53 3 .int (rmO 0 0) σ [.int v, .int (8 : Int32)] (fun r σ' => σ' = σ ∧ (0 ≤ r.toInt ∧ r.toInt ≤ 7)) := by
  refine MI.of (by decide +kernel) (Nat.le_of_ble_eq_true rfl) ?_
  intro p e s m a below meth c ls Q hx hb hml hts hown hk hw ret hl
  have hown : s.vm.findClass RJ9 = some m.cls := hown
  have hl : lv_has ls 3 [(0, .int v), (1, .int (8 : Int32))] := hl
  have hI : K0 σ σ := K0.rf hI0
  have L0 : (0 : Int32).toInt = 0 := by decide
  have L8 : (8 : Int32).toInt = 8 := by decide
  generalize hHe : s.heap = H at hw ⊢
  generalize hLe : ([] : List Loc) = locs at hw ⊢
  refine lv_iload_n hx hb dJ9_floorMod_7cf53_0 rfl (lv_at hl 0 rfl) ?_
  refine lv_iload_n hx hb dJ9_floorMod_7cf53_1 rfl (lv_at hl 1 rfl) ?_
  refine lv_irem hx hb dJ9_floorMod_7cf53_2 (by decide) ?_
  refine lv_topi (fun x1 ex1 => ?_)
  have tx1 : -8 < x1.toInt ∧ x1.toInt < 8 := by rw [ex1]; exact irem_bd L8 (by decide)
  refine lv_istore_n (lv' := [(2, .int x1), (0, .int v), (1, .int (8 : Int32))]) hx hb dJ9_floorMod_7cf53_3 rfl hl (by decide) rfl (fun ls hl => ?_)
  refine lv_iload_n hx hb dJ9_floorMod_7cf53_4 rfl (lv_at hl 1 rfl) ?_
  refine lv_iload_n hx hb dJ9_floorMod_7cf53_5 rfl (lv_at hl 2 rfl) ?_
  refine lv_ixor hx hb dJ9_floorMod_7cf53_6 ?_
  refine lv_topi (fun x2 ex2 => ?_)
  have q7 : 0 ≤ x2.toInt ↔ 0 ≤ v.toInt := by rw [ex2]; exact xor8 _
  have q8 := irem_sg v (8 : Int32)
  rw [← ex1] at q8
  refine lv_if_ge (tgt := 18) hx hb dJ9_floorMod_7cf53_7 (by decide) (fun c7 => ?_) (fun c7 => ?_)
  · have c7i := Int32.le_iff_toInt_le.mp c7
    refine lv_iload_n hx hb dJ9_floorMod_7cf53_18 rfl (lv_at hl 0 rfl) ?_
    exact ret x1 σ _ _ 19 _ (rfl) (⟨rfl, by omega⟩) hw dJ9_floorMod_7cf53_19
  · have c7i := mt Int32.le_iff_toInt_le.mpr c7
    refine lv_iload_n hx hb dJ9_floorMod_7cf53_10 rfl (lv_at hl 0 rfl) ?_
    refine lv_if_eq (tgt := 18) hx hb dJ9_floorMod_7cf53_11 (by decide) (fun c11 => ?_) (fun c11 => ?_)
    · have c11i := congrArg Int32.toInt c11
      refine lv_iload_n hx hb dJ9_floorMod_7cf53_18 rfl (lv_at hl 0 rfl) ?_
      exact ret x1 σ _ _ 19 _ (rfl) (⟨rfl, by omega⟩) hw dJ9_floorMod_7cf53_19
    · have c11i := mt Int32.toInt_inj.mp c11
      refine lv_iload_n hx hb dJ9_floorMod_7cf53_14 rfl (lv_at hl 0 rfl) ?_
      refine lv_iload_n hx hb dJ9_floorMod_7cf53_15 rfl (lv_at hl 2 rfl) ?_
      refine lv_iadd hx hb dJ9_floorMod_7cf53_16 ?_
      refine lv_topi (fun x3 ex3 => ?_)
      have tx3 : x3.toInt = x1.toInt + (8 : Int32).toInt := by rw [ex3]; exact Jvm.Kit.i32_add (by omega) (by omega)
      exact ret x3 σ _ _ 17 _ (rfl) (⟨rfl, by omega⟩) hw dJ9_floorMod_7cf53_17
set_option maxHeartbeats 4000000 in
set_option maxRecDepth 100000 in
theorem c_X10_turnsAllRound (l : Launch) (G : Gg) (hG : Ginj G) (σ : Sg) (hI0 : Inv σ) (v : Int32) : MI l G yX10_turnsAllRound cX10_turnsAllRound 2 .int (rmO 1 22) σ [.int v] (fun r σ' => σ' = σ ∧ (True)) := by
  refine MI.of (by decide +kernel) (Nat.le_of_ble_eq_true rfl) ?_
  intro p e s m a below meth c ls Q hx hb hml hts hown hk hw ret hl
  have hown : s.vm.findClass RX10 = some m.cls := hown
  have hl : lv_has ls 2 [(0, .int v)] := hl
  have hI : K0 σ σ := K0.rf hI0
  have L0 : (0 : Int32).toInt = 0 := by decide
  have L1 : (1 : Int32).toInt = 1 := by decide
  have L8 : (8 : Int32).toInt = 8 := by decide
  generalize hHe : s.heap = H at hw ⊢
  generalize hLe : ([] : List Loc) = locs at hw ⊢
  refine lv_iconst (v := 1) hx hb dX10_turnsAllRound_0 (by decide) ?_
  refine lv_istore_n (lv' := [(1, .int (1 : Int32)), (0, .int v)]) hx hb dX10_turnsAllRound_1 rfl hl (by decide) rfl (fun ls hl => ?_)
  have cut2 : ∀ (n : Nat) (z1_2 : Int32) (H : Heap) (locs : List Loc) (ls : Array Slot), (0 ≤ z1_2.toInt ∧ z1_2.toInt ≤ 8) → ((8 - z1_2.toInt).toNat : Int) < (n : Int) → Wo G σ s H locs → lv_has ls 2 [(0, .int v), (1, .int z1_2)] → W p l e (rmO 1 22) s m a below meth c H locs 0 0 Q (F0 m 2 ls []) := by
    intro n2
    induction n2 with
    | zero =>
      intro z1_2 H locs ls f2_0 hm2 hw hl
      exfalso; omega
    | succ n2 ih2 =>
      intro z1_2 H locs ls f2_0 hm2 hw hl
      refine lv_iload_n hx hb dX10_turnsAllRound_2 rfl (lv_at hl 1 rfl) ?_
      refine lv_bipush (v := 8) hx hb dX10_turnsAllRound_3 (by decide) ?_
      refine lv_icmp_ge (tgt := 25) hx hb dX10_turnsAllRound_5 (by decide) (fun c5 => ?_) (fun c5 => ?_)
      · have c5i := Int32.le_iff_toInt_le.mp c5
        refine lv_iload_n hx hb dX10_turnsAllRound_25 rfl (lv_at hl 1 rfl) ?_
        exact ret z1_2 σ _ _ 26 _ (rfl) (⟨rfl, trivial⟩) hw dX10_turnsAllRound_26
      · have c5i := mt Int32.le_iff_toInt_le.mpr c5
        refine lv_iload_n hx hb dX10_turnsAllRound_8 rfl (lv_at hl 1 rfl) ?_
        refine lv_iload_n hx hb dX10_turnsAllRound_9 rfl (lv_at hl 0 rfl) ?_
        refine lv_imul hx hb dX10_turnsAllRound_10 ?_
        refine lv_topi (fun x1 ex1 => ?_)
        refine lv_bipush (v := 8) hx hb dX10_turnsAllRound_11 (by decide) ?_
        refine te_vi hw (ru_S (As := [.int x1, .int (8 : Int32)]) (rest := []) hx hb hml hts hown hk hw (c_J9_floorMod_7cf53 l G hG σ hI.1 x1) (m3_in wd488 wd301 wd302) wd303 nm_yJ9_floorMod_7cf53 ⟨rfl, rfl⟩ ⟨by decide, by decide⟩ rfl hl.1 rfl (Nat.le_of_ble_eq_true rfl) dX10_turnsAllRound_13 ⟨Nat.zero_le _, Nat.zero_le _⟩) (fun r3 σ2 H locs hr3 hw => ?_)
        rw [hr3.1] at hw
        have hr3 := hr3.2
        refine lv_if_eq (tgt := 25) hx hb dX10_turnsAllRound_16 (by decide) (fun c16 => ?_) (fun c16 => ?_)
        · have c16i := congrArg Int32.toInt c16
          refine lv_iload_n hx hb dX10_turnsAllRound_25 rfl (lv_at hl 1 rfl) ?_
          exact ret z1_2 σ _ _ 26 _ (rfl) (⟨rfl, trivial⟩) hw dX10_turnsAllRound_26
        · have c16i := mt Int32.toInt_inj.mp c16
          obtain ⟨x4, ex4⟩ : ∃ z : Int32, z = z1_2 + (1 : Int32) := ⟨_, rfl⟩
          refine lv_iinc (v := x4) (lv' := [(1, .int x4), (0, .int v)]) hx hb dX10_turnsAllRound_19 hl (k := 1) rfl (by rw [ex4]; rfl) (by decide) rfl (fun ls hl => ?_)
          have tx4 : x4.toInt = z1_2.toInt + 1 := by rw [ex4, Jvm.Kit.i32_add (by omega) (by omega)]; omega
          refine lv_goto (tgt := 2) hx hb dX10_turnsAllRound_22 (by decide) ?_
          exact ih2 x4 _ _ _ (by omega) (by omega) hw (lv_sub hl [1, 0] rfl)
  exact cut2 ((((8 - (1 : Int32).toInt).toNat : Int)).toNat + 1) (1 : Int32) _ _ _ (by omega) (by omega) hw (lv_sub hl [1, 0] rfl)
