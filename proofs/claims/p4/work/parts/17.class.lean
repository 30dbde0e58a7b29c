set_option maxHeartbeats 4000000 in
set_option maxRecDepth 100000 in
theorem c_X10_set (l : Launch) (G : Gg) (hG : Ginj G) (σ : Sg) (hI0 : Inv σ) (v : Int32) (w : Int32) (u : Int32) : MI l G yX10_set cX10_set 6 .int (rmO 2 42) σ [.ref (ad G (0)), .int v, .int w, .int u] (fun r σ' => K0 σ σ' ∧ (True)) := by
  refine MI.of (by decide +kernel) (Nat.le_of_ble_eq_true rfl) ?_
  intro p e s m a below meth c ls Q hx hb hml hts hown hk hw ret hl
  have hown : s.vm.findClass RX10 = some m.cls := hown
  have hl : lv_has ls 6 [(0, .ref (ad G (0))), (1, .int v), (2, .int w), (3, .int u)] := hl
  have hI : K0 σ σ := K0.rf hI0
  have Lm2 : (-2 : Int32).toInt = -2 := by decide
  have Lm1 : (-1 : Int32).toInt = -1 := by decide
  have L0 : (0 : Int32).toInt = 0 := by decide
  have L2 : (2 : Int32).toInt = 2 := by decide
  have L5 : (5 : Int32).toInt = 5 := by decide
  generalize hHe : s.heap = H at hw ⊢
  generalize hLe : ([] : List Loc) = locs at hw ⊢
  refine lv_iload_n hx hb dX10_set_0 rfl (lv_at hl 1 rfl) ?_
  refine te_vi hw (ru_S (As := [.int v]) (rest := []) hx hb hml hts hown hk hw (c_X10_isSower l G hG σ hI.1 v) (m3_in wd125 wd126 wd2) wd127 nm_yX10_isSower ⟨rfl, rfl⟩ ⟨by decide, by decide⟩ rfl hl.1 rfl (Nat.le_of_ble_eq_true rfl) dX10_set_1 ⟨Nat.zero_le _, Nat.zero_le _⟩) (fun r2 σ1 H locs hr2 hw => ?_)
  rw [hr2.1] at hw
  have hr2 := hr2.2
  refine lv_if_eq (tgt := 19) hx hb dX10_set_4 (by decide) (fun c4 => ?_) (fun c4 => ?_)
  · have c4i := congrArg Int32.toInt c4
    have p4 := bz0 hr2 c4
    refine lv_iconst (v := -1) hx hb dX10_set_19 (by decide) ?_
    exact ret (-1 : Int32) σ _ _ 20 _ (rfl) (⟨hI, trivial⟩) hw dX10_set_20
  · have c4i := mt Int32.toInt_inj.mp c4
    have p4 := bz1 hr2 c4
    refine lv_iload_n hx hb dX10_set_7 rfl (lv_at hl 2 rfl) ?_
    refine lv_iconst (v := 2) hx hb dX10_set_8 (by decide) ?_
    refine lv_icmp_ne (tgt := 21) hx hb dX10_set_9 (by decide) (fun c9 => ?_) (fun c9 => ?_)
    · have ow := i32b w
      have c9i := mt Int32.toInt_inj.mp c9
      refine lv_iload_n hx hb dX10_set_21 rfl (lv_at hl 2 rfl) ?_
      refine lv_iconst (v := 0) hx hb dX10_set_22 (by decide) ?_
      refine lv_iconst (v := 5) hx hb dX10_set_23 (by decide) ?_
      refine te_vi hw (ru_S (As := [.int w, .int (0 : Int32), .int (5 : Int32)]) (rest := []) hx hb hml hts hown hk hw (c_X10_within l G hG σ hI.1 w (0 : Int32) (5 : Int32)) (m3_in wd128 wd129 wd2) wd130 nm_yX10_within ⟨rfl, rfl⟩ ⟨by decide, by decide⟩ rfl hl.1 rfl (Nat.le_of_ble_eq_true rfl) dX10_set_24 ⟨Nat.zero_le _, Nat.zero_le _⟩) (fun r4 σ3 H locs hr4 hw => ?_)
      rw [hr4.1] at hw
      have hr4 := hr4.2
      refine lv_if_eq (tgt := 43) hx hb dX10_set_27 (by decide) (fun c27 => ?_) (fun c27 => ?_)
      · have c27i := congrArg Int32.toInt c27
        have p27 := bz0 hr4 c27
        refine lv_bipush (v := -2) hx hb dX10_set_43 (by decide) ?_
        exact ret (-2 : Int32) σ _ _ 45 _ (rfl) (⟨hI, trivial⟩) hw dX10_set_45
      · have c27i := mt Int32.toInt_inj.mp c27
        have p27 := bz1 hr4 c27
        refine lv_iload_n hx hb dX10_set_30 rfl (lv_at hl 3 rfl) ?_
        refine lv_iconst (v := 0) hx hb dX10_set_31 (by decide) ?_
        refine tg_gets hx hb hts hown hk.2.1.1 hw wd122 dX10_set_32 ?_
        refine lv_iload_n hx hb dX10_set_35 rfl (lv_at hl 2 rfl) ?_
        refine tg_ti hx hb hk.2.1.1 hw (vin ⟨by omega, by omega⟩) dX10_set_36 ?_
        refine lv_topi (fun x5 ex5 => ?_)
        have bx5 : 0 ≤ x5.toInt ∧ x5.toInt ≤ 99 := by rw [ex5]; exact mostF_bd _
        refine te_vi hw (ru_S (As := [.int u, .int (0 : Int32), .int x5]) (rest := []) hx hb hml hts hown hk hw (c_X10_within l G hG σ hI.1 u (0 : Int32) x5) (m3_in wd128 wd129 wd2) wd130 nm_yX10_within ⟨rfl, rfl⟩ ⟨by decide, by decide⟩ rfl hl.1 rfl (Nat.le_of_ble_eq_true rfl) dX10_set_37 ⟨Nat.zero_le _, Nat.zero_le _⟩) (fun r7 σ6 H locs hr7 hw => ?_)
        rw [hr7.1] at hw
        have hr7 := hr7.2
        refine lv_if_ne (tgt := 46) hx hb dX10_set_40 (by decide) (fun c40 => ?_) (fun c40 => ?_)
        · have c40i := mt Int32.toInt_inj.mp c40
          have p40 := bz1 hr7 c40
          refine lv_aload_n hx hb dX10_set_46 rfl (lv_at hl 0 rfl) ?_
          refine tg_get (ci := 9) (k := 1) (v := .ref (ad G (3))) hx hb hts hown hk hw (en9 (rfl : nk 0 = 9)) rfl inlX10 (by decide) wd19 rfl dX10_set_47 ?_
          refine tg_get (ci := 3) (k := 1) (v := .ref (ad G (7))) hx hb hts hown hk hw (en3 (rfl : nk 3 = 3)) rfl inlX3 (by decide) wd123 rfl dX10_set_50 ?_
          refine tg_get (ci := 1) (k := 0) (v := .ref (ad G (8))) hx hb hts hown hk hw (en1 (rfl : nk 7 = 1)) rfl inlX1 (by decide) wd124 rfl dX10_set_53 ?_
          refine lv_iload_n hx hb dX10_set_56 rfl (lv_at hl 1 rfl) ?_
          have hv57 : vp_in v 4 := vin ⟨by omega, by omega⟩
          refine tg_aald14 hx hb hk hw (en14 (rfl : nk 8 = 14)) hv57 dX10_set_57 ?_
          have vl57 := vcl hv57
          refine lv_astore (lv' := [(4, .ref (ad G (8 + 2 + v.toNatClampNeg))), (0, .ref (ad G (0))), (1, .int v), (2, .int w), (3, .int u)]) hx hb dX10_set_58 hl (by decide) rfl (fun ls hl => ?_)
          refine lv_aload hx hb dX10_set_60 (lv_at hl 0 rfl) ?_
          refine lv_iload_n hx hb dX10_set_62 rfl (lv_at hl 3 rfl) ?_
          refine te_vi hw (ru_V (As := [.int w]) (rest := []) (C := RX6) hx hb hml hts hown hk hw (c_X6_fact l G hG σ hI.1 (8 + 2 + v.toNatClampNeg) (ke14 (rfl : nk 8 = 14) (vcl hv57)) w) (m4_in wd134 wd135 wd136 wd73) wd137 (en5 (ke14 (rfl : nk 8 = 14) (vcl hv57))) rfl rfl rfl nm_yX6_fact ⟨rfl, rfl⟩ ⟨by decide, by decide⟩ rfl hl.1 rfl (Nat.le_of_ble_eq_true rfl) dX10_set_63 ⟨Nat.zero_le _, Nat.zero_le _⟩) (fun r9 σ8 H locs hr9 hw => ?_)
          rw [hr9.1] at hw
          have hr9 := hr9.2
          refine lv_istore (lv' := [(5, .int r9), (4, .ref (ad G (8 + 2 + v.toNatClampNeg))), (0, .ref (ad G (0))), (1, .int v), (2, .int w), (3, .int u)]) hx hb dX10_set_66 hl (by decide) rfl (fun ls hl => ?_)
          refine lv_aload hx hb dX10_set_68 (lv_at hl 1 rfl) ?_
          refine lv_iload_n hx hb dX10_set_70 rfl (lv_at hl 4 rfl) ?_
          refine lv_iload_n hx hb dX10_set_71 rfl (lv_at hl 5 rfl) ?_
          refine te_vv hw (ru_V (As := [.int w, .int u]) (rest := []) (C := RX6) hx hb hml hts hown hk hw (c_X6_put l G hG σ hI.1 (8 + 2 + v.toNatClampNeg) (ke14 (rfl : nk 8 = 14) (vcl hv57)) w u) (m4_in wd143 wd144 wd145 wd73) wd146 (en5 (ke14 (rfl : nk 8 = 14) (vcl hv57))) rfl rfl rfl nm_yX6_put ⟨rfl, rfl⟩ ⟨by decide, by decide⟩ rfl hl.1 rfl (Nat.le_of_ble_eq_true rfl) dX10_set_72 ⟨Nat.zero_le _, Nat.zero_le _⟩) (fun σ10 H locs hr11 hw => ?_)
          have hI := hI.go hr11.1
          have hr11 := hr11.2
          refine lv_iload hx hb dX10_set_75 (lv_at hl 0 rfl) ?_
          exact ret r9 σ10 _ _ 77 _ (rfl) (⟨hI, trivial⟩) hw dX10_set_77
        · have c40i := congrArg Int32.toInt c40
          have p40 := bz0 hr7 c40
          refine lv_bipush (v := -2) hx hb dX10_set_43 (by decide) ?_
          exact ret (-2 : Int32) σ _ _ 45 _ (rfl) (⟨hI, trivial⟩) hw dX10_set_45
    · have ow := i32b w
      have c9i := congrArg Int32.toInt c9
      refine lv_iload_n hx hb dX10_set_12 rfl (lv_at hl 3 rfl) ?_
      refine te_vi hw (ru_S (As := [.int u]) (rest := []) hx hb hml hts hown hk hw (c_X10_isKind l G hG σ hI.1 u) (m3_in wd131 wd132 wd2) wd133 nm_yX10_isKind ⟨rfl, rfl⟩ ⟨by decide, by decide⟩ rfl hl.1 rfl (Nat.le_of_ble_eq_true rfl) dX10_set_13 ⟨Nat.zero_le _, Nat.zero_le _⟩) (fun r13 σ12 H locs hr13 hw => ?_)
      rw [hr13.1] at hw
      have hr13 := hr13.2
      refine lv_if_ne (tgt := 21) hx hb dX10_set_16 (by decide) (fun c16 => ?_) (fun c16 => ?_)
      · have c16i := mt Int32.toInt_inj.mp c16
        have p16 := bz1 hr13 c16
        refine lv_iload_n hx hb dX10_set_21 rfl (lv_at hl 2 rfl) ?_
        refine lv_iconst (v := 0) hx hb dX10_set_22 (by decide) ?_
        refine lv_iconst (v := 5) hx hb dX10_set_23 (by decide) ?_
        refine te_vi hw (ru_S (As := [.int w, .int (0 : Int32), .int (5 : Int32)]) (rest := []) hx hb hml hts hown hk hw (c_X10_within l G hG σ hI.1 w (0 : Int32) (5 : Int32)) (m3_in wd128 wd129 wd2) wd130 nm_yX10_within ⟨rfl, rfl⟩ ⟨by decide, by decide⟩ rfl hl.1 rfl (Nat.le_of_ble_eq_true rfl) dX10_set_24 ⟨Nat.zero_le _, Nat.zero_le _⟩) (fun r15 σ14 H locs hr15 hw => ?_)
        rw [hr15.1] at hw
        have hr15 := hr15.2
        refine lv_if_eq (tgt := 43) hx hb dX10_set_27 (by decide) (fun c27 => ?_) (fun c27 => ?_)
        · have c27i := congrArg Int32.toInt c27
          have p27 := bz0 hr15 c27
          refine lv_bipush (v := -2) hx hb dX10_set_43 (by decide) ?_
          exact ret (-2 : Int32) σ _ _ 45 _ (rfl) (⟨hI, trivial⟩) hw dX10_set_45
        · have c27i := mt Int32.toInt_inj.mp c27
          have p27 := bz1 hr15 c27
          refine lv_iload_n hx hb dX10_set_30 rfl (lv_at hl 3 rfl) ?_
          refine lv_iconst (v := 0) hx hb dX10_set_31 (by decide) ?_
          refine tg_gets hx hb hts hown hk.2.1.1 hw wd122 dX10_set_32 ?_
          refine lv_iload_n hx hb dX10_set_35 rfl (lv_at hl 2 rfl) ?_
          refine tg_ti hx hb hk.2.1.1 hw (vin ⟨by omega, by omega⟩) dX10_set_36 ?_
          refine lv_topi (fun x16 ex16 => ?_)
          have bx16 : 0 ≤ x16.toInt ∧ x16.toInt ≤ 99 := by rw [ex16]; exact mostF_bd _
          refine te_vi hw (ru_S (As := [.int u, .int (0 : Int32), .int x16]) (rest := []) hx hb hml hts hown hk hw (c_X10_within l G hG σ hI.1 u (0 : Int32) x16) (m3_in wd128 wd129 wd2) wd130 nm_yX10_within ⟨rfl, rfl⟩ ⟨by decide, by decide⟩ rfl hl.1 rfl (Nat.le_of_ble_eq_true rfl) dX10_set_37 ⟨Nat.zero_le _, Nat.zero_le _⟩) (fun r18 σ17 H locs hr18 hw => ?_)
          rw [hr18.1] at hw
          have hr18 := hr18.2
          refine lv_if_ne (tgt := 46) hx hb dX10_set_40 (by decide) (fun c40 => ?_) (fun c40 => ?_)
          · have c40i := mt Int32.toInt_inj.mp c40
            have p40 := bz1 hr18 c40
            refine lv_aload_n hx hb dX10_set_46 rfl (lv_at hl 0 rfl) ?_
            refine tg_get (ci := 9) (k := 1) (v := .ref (ad G (3))) hx hb hts hown hk hw (en9 (rfl : nk 0 = 9)) rfl inlX10 (by decide) wd19 rfl dX10_set_47 ?_
            refine tg_get (ci := 3) (k := 1) (v := .ref (ad G (7))) hx hb hts hown hk hw (en3 (rfl : nk 3 = 3)) rfl inlX3 (by decide) wd123 rfl dX10_set_50 ?_
            refine tg_get (ci := 1) (k := 0) (v := .ref (ad G (8))) hx hb hts hown hk hw (en1 (rfl : nk 7 = 1)) rfl inlX1 (by decide) wd124 rfl dX10_set_53 ?_
            refine lv_iload_n hx hb dX10_set_56 rfl (lv_at hl 1 rfl) ?_
            have hv57 : vp_in v 4 := vin ⟨by omega, by omega⟩
            refine tg_aald14 hx hb hk hw (en14 (rfl : nk 8 = 14)) hv57 dX10_set_57 ?_
            have vl57 := vcl hv57
            refine lv_astore (lv' := [(4, .ref (ad G (8 + 2 + v.toNatClampNeg))), (0, .ref (ad G (0))), (1, .int v), (2, .int w), (3, .int u)]) hx hb dX10_set_58 hl (by decide) rfl (fun ls hl => ?_)
            refine lv_aload hx hb dX10_set_60 (lv_at hl 0 rfl) ?_
            refine lv_iload_n hx hb dX10_set_62 rfl (lv_at hl 3 rfl) ?_
            refine te_vi hw (ru_V (As := [.int w]) (rest := []) (C := RX6) hx hb hml hts hown hk hw (c_X6_fact l G hG σ hI.1 (8 + 2 + v.toNatClampNeg) (ke14 (rfl : nk 8 = 14) (vcl hv57)) w) (m4_in wd134 wd135 wd136 wd73) wd137 (en5 (ke14 (rfl : nk 8 = 14) (vcl hv57))) rfl rfl rfl nm_yX6_fact ⟨rfl, rfl⟩ ⟨by decide, by decide⟩ rfl hl.1 rfl (Nat.le_of_ble_eq_true rfl) dX10_set_63 ⟨Nat.zero_le _, Nat.zero_le _⟩) (fun r20 σ19 H locs hr20 hw => ?_)
            rw [hr20.1] at hw
            have hr20 := hr20.2
            refine lv_istore (lv' := [(5, .int r20), (4, .ref (ad G (8 + 2 + v.toNatClampNeg))), (0, .ref (ad G (0))), (1, .int v), (2, .int w), (3, .int u)]) hx hb dX10_set_66 hl (by decide) rfl (fun ls hl => ?_)
            refine lv_aload hx hb dX10_set_68 (lv_at hl 1 rfl) ?_
            refine lv_iload_n hx hb dX10_set_70 rfl (lv_at hl 4 rfl) ?_
            refine lv_iload_n hx hb dX10_set_71 rfl (lv_at hl 5 rfl) ?_
            refine te_vv hw (ru_V (As := [.int w, .int u]) (rest := []) (C := RX6) hx hb hml hts hown hk hw (c_X6_put l G hG σ hI.1 (8 + 2 + v.toNatClampNeg) (ke14 (rfl : nk 8 = 14) (vcl hv57)) w u) (m4_in wd143 wd144 wd145 wd73) wd146 (en5 (ke14 (rfl : nk 8 = 14) (vcl hv57))) rfl rfl rfl nm_yX6_put ⟨rfl, rfl⟩ ⟨by decide, by decide⟩ rfl hl.1 rfl (Nat.le_of_ble_eq_true rfl) dX10_set_72 ⟨Nat.zero_le _, Nat.zero_le _⟩) (fun σ21 H locs hr22 hw => ?_)
            have hI := hI.go hr22.1
            have hr22 := hr22.2
            refine lv_iload hx hb dX10_set_75 (lv_at hl 0 rfl) ?_
            exact ret r20 σ21 _ _ 77 _ (rfl) (⟨hI, trivial⟩) hw dX10_set_77
          · have c40i := congrArg Int32.toInt c40
            have p40 := bz0 hr18 c40
            refine lv_bipush (v := -2) hx hb dX10_set_43 (by decide) ?_
            exact ret (-2 : Int32) σ _ _ 45 _ (rfl) (⟨hI, trivial⟩) hw dX10_set_45
      · have c16i := congrArg Int32.toInt c16
        have p16 := bz0 hr13 c16
        refine lv_iconst (v := -1) hx hb dX10_set_19 (by decide) ?_
        exact ret (-1 : Int32) σ _ _ 20 _ (rfl) (⟨hI, trivial⟩) hw dX10_set_20
set_option maxHeartbeats 4000000 in
set_option maxRecDepth 100000 in
theorem c_X10_post (l : Launch) (G : Gg) (hG : Ginj G) (σ : Sg) (hI0 : Inv σ) (v : Int32) : MI l G yX10_post cX10_post 2 .int (rmO 2 42) σ [.ref (ad G (0)), .int v] (fun r σ' => postP 7 2 9 σ σ' v r) := by
  refine MI.of (by decide +kernel) (Nat.le_of_ble_eq_true rfl) ?_
  intro p e s m a below meth c ls Q hx hb hml hts hown hk hw ret hl
  have hown : s.vm.findClass RX10 = some m.cls := hown
  have hl : lv_has ls 2 [(0, .ref (ad G (0))), (1, .int v)] := hl
  have hI : K0 σ σ := K0.rf hI0
  have Lm5 : (-5 : Int32).toInt = -5 := by decide
  have Lm4 : (-4 : Int32).toInt = -4 := by decide
  have Lm2 : (-2 : Int32).toInt = -2 := by decide
  have L0 : (0 : Int32).toInt = 0 := by decide
  have L4 : (4 : Int32).toInt = 4 := by decide
  generalize hHe : s.heap = H at hw ⊢
  generalize hLe : ([] : List Loc) = locs at hw ⊢
  refine lv_iload_n hx hb dX10_post_0 rfl (lv_at hl 1 rfl) ?_
  refine te_vi hw (ru_S (As := [.int v]) (rest := []) hx hb hml hts hown hk hw (c_X10_isCell l G hG σ hI.1 v) (m3_in wd168 wd169 wd2) wd170 nm_yX10_isCell ⟨rfl, rfl⟩ ⟨by decide, by decide⟩ rfl hl.1 rfl (Nat.le_of_ble_eq_true rfl) dX10_post_1 ⟨Nat.zero_le _, Nat.zero_le _⟩) (fun r2 σ1 H locs hr2 hw => ?_)
  rw [hr2.1] at hw
  have hr2 := hr2.2
  refine lv_if_ne (tgt := 10) hx hb dX10_post_4 (by decide) (fun c4 => ?_) (fun c4 => ?_)
  · have c4i := mt Int32.toInt_inj.mp c4
    have p4 := bz1 hr2 c4
    refine lv_aload_n hx hb dX10_post_10 rfl (lv_at hl 0 rfl) ?_
    refine tg_get (ci := 9) (k := 1) (v := .ref (ad G (3))) hx hb hts hown hk hw (en9 (rfl : nk 0 = 9)) rfl inlX10 (by decide) wd19 rfl dX10_post_11 ?_
    refine tg_get (ci := 3) (k := 1) (v := .ref (ad G (7))) hx hb hts hown hk hw (en3 (rfl : nk 3 = 3)) rfl inlX3 (by decide) wd123 rfl dX10_post_14 ?_
    refine lv_iload_n hx hb dX10_post_17 rfl (lv_at hl 1 rfl) ?_
    refine te_vi hw (ru_V (As := [.int v]) (rest := []) (C := RX1) hx hb hml hts hown hk hw (c_X1_hasPost l G hG σ hI.1 7 (rfl : nk 7 = 1) v) (m4_in wd171 wd172 wd173 wd52) wd174 (en1 (rfl : nk 7 = 1)) rfl rfl rfl nm_yX1_hasPost ⟨rfl, rfl⟩ ⟨by decide, by decide⟩ rfl hl.1 rfl (Nat.le_of_ble_eq_true rfl) dX10_post_18 ⟨Nat.zero_le _, Nat.zero_le _⟩) (fun r4 σ3 H locs hr4 hw => ?_)
    rw [hr4.1] at hw
    have hr4 := hr4.2
    refine lv_if_eq (tgt := 27) hx hb dX10_post_21 (by decide) (fun c21 => ?_) (fun c21 => ?_)
    · have c21i := congrArg Int32.toInt c21
      have p21 := bz0 hr4 c21
      refine lv_aload_n hx hb dX10_post_27 rfl (lv_at hl 0 rfl) ?_
      refine tg_get (ci := 9) (k := 1) (v := .ref (ad G (3))) hx hb hts hown hk hw (en9 (rfl : nk 0 = 9)) rfl inlX10 (by decide) wd19 rfl dX10_post_28 ?_
      refine tg_get (ci := 3) (k := 1) (v := .ref (ad G (7))) hx hb hts hown hk hw (en3 (rfl : nk 3 = 3)) rfl inlX3 (by decide) wd123 rfl dX10_post_31 ?_
      refine tg_get (ci := 1) (k := 2) (v := .int (σ (7) 2)) hx hb hts hown hk hw (en1 (rfl : nk 7 = 1)) rfl inlX1 (by decide) wd167 rfl dX10_post_34 ?_
      refine lv_topi (fun x5 ex5 => ?_)
      have bx5 : 0 ≤ x5.toInt ∧ x5.toInt ≤ 4 := by rw [ex5]; exact hI.1 _ _ _ _ (by rw [(rfl : nk 7 = 1)]; rfl)
      have ux5 : x5.toInt = (σ (7) 2).toInt := by rw [ex5]
      refine lv_iconst (v := 4) hx hb dX10_post_37 (by decide) ?_
      refine lv_icmp_lt (tgt := 44) hx hb dX10_post_38 (by decide) (fun c38 => ?_) (fun c38 => ?_)
      · have c38i := Int32.lt_iff_toInt_lt.mp c38
        refine lv_aload_n hx hb dX10_post_44 rfl (lv_at hl 0 rfl) ?_
        refine tg_get (ci := 9) (k := 1) (v := .ref (ad G (3))) hx hb hts hown hk hw (en9 (rfl : nk 0 = 9)) rfl inlX10 (by decide) wd19 rfl dX10_post_45 ?_
        refine tg_get (ci := 3) (k := 1) (v := .ref (ad G (7))) hx hb hts hown hk hw (en3 (rfl : nk 3 = 3)) rfl inlX3 (by decide) wd123 rfl dX10_post_48 ?_
        refine lv_iload_n hx hb dX10_post_51 rfl (lv_at hl 1 rfl) ?_
        refine te_vv hw (ru_V (As := [.int v]) (rest := []) (C := RX1) hx hb hml hts hown hk hw (c_X1_addPost l G hG σ hI.1 v (by omega)) (m4_in wd176 wd177 wd178 wd52) wd179 (en1 (rfl : nk 7 = 1)) rfl rfl rfl nm_yX1_addPost ⟨rfl, rfl⟩ ⟨by decide, by decide⟩ rfl hl.1 rfl (Nat.le_of_ble_eq_true rfl) dX10_post_52 ⟨Nat.zero_le _, Nat.zero_le _⟩) (fun σ6 H locs hr7 hw => ?_)
        have hI := hr7
        refine lv_aload_n hx hb dX10_post_55 rfl (lv_at hl 0 rfl) ?_
        refine tg_get (ci := 9) (k := 1) (v := .ref (ad G (3))) hx hb hts hown hk hw (en9 (rfl : nk 0 = 9)) rfl inlX10 (by decide) wd19 rfl dX10_post_56 ?_
        refine tg_get (ci := 3) (k := 1) (v := .ref (ad G (7))) hx hb hts hown hk hw (en3 (rfl : nk 3 = 3)) rfl inlX3 (by decide) wd123 rfl dX10_post_59 ?_
        refine tg_get (ci := 1) (k := 2) (v := .int (σ6 (7) 2)) hx hb hts hown hk hw (en1 (rfl : nk 7 = 1)) rfl inlX1 (by decide) wd167 rfl dX10_post_62 ?_
        refine lv_topi (fun x8 ex8 => ?_)
        have bx8 : 0 ≤ x8.toInt ∧ x8.toInt ≤ 4 := by rw [ex8]; exact hI.1 _ _ _ _ (by rw [(rfl : nk 7 = 1)]; rfl)
        have ux8 : x8.toInt = (σ6 (7) 2).toInt := by rw [ex8]
        have a62 : x8 = σ 7 2 + 1 := by rw [ex8, hI.2 7 2 rfl, up2_self]
        exact ret x8 σ6 _ _ 65 _ (rfl) (Or.inr (Or.inr (Or.inr ⟨by omega, p21, by omega, hI, a62⟩))) hw dX10_post_65
      · have c38i := mt Int32.lt_iff_toInt_lt.mpr c38
        refine lv_bipush (v := -4) hx hb dX10_post_41 (by decide) ?_
        exact ret (-4 : Int32) σ _ _ 43 _ (rfl) (Or.inr (Or.inr (Or.inl ⟨by omega, p21, by omega, hI, rfl⟩))) hw dX10_post_43
    · have c21i := mt Int32.toInt_inj.mp c21
      have p21 := bz1 hr4 c21
      refine lv_bipush (v := -5) hx hb dX10_post_24 (by decide) ?_
      exact ret (-5 : Int32) σ _ _ 26 _ (rfl) (Or.inr (Or.inl ⟨by omega, p21, hI, rfl⟩)) hw dX10_post_26
  · have c4i := congrArg Int32.toInt c4
    have p4 := bz0 hr2 c4
    refine lv_bipush (v := -2) hx hb dX10_post_7 (by decide) ?_
    exact ret (-2 : Int32) σ _ _ 9 _ (rfl) (Or.inl ⟨by omega, hI, rfl⟩) hw dX10_post_9
set_option maxHeartbeats 4000000 in
set_option maxRecDepth 100000 in
theorem c_X10_clear (l : Launch) (G : Gg) (hG : Ginj G) (σ : Sg) (hI0 : Inv σ) : MI l G yX10_clear cX10_clear 2 .int (rmO 0 0) σ [.ref (ad G (0))] (fun r σ' => K0 (up2 σ 7 2 0) σ' ∧ r = σ 7 2) := by
  refine MI.of (by decide +kernel) (Nat.le_of_ble_eq_true rfl) ?_
  intro p e s m a below meth c ls Q hx hb hml hts hown hk hw ret hl
  have hown : s.vm.findClass RX10 = some m.cls := hown
  have hl : lv_has ls 2 [(0, .ref (ad G (0)))] := hl
  have hI : K0 σ σ := K0.rf hI0
  have L0 : (0 : Int32).toInt = 0 := by decide
  generalize hHe : s.heap = H at hw ⊢
  generalize hLe : ([] : List Loc) = locs at hw ⊢
  refine lv_aload_n hx hb dX10_clear_0 rfl (lv_at hl 0 rfl) ?_
  refine tg_get (ci := 9) (k := 1) (v := .ref (ad G (3))) hx hb hts hown hk hw (en9 (rfl : nk 0 = 9)) rfl inlX10 (by decide) wd19 rfl dX10_clear_1 ?_
  refine tg_get (ci := 3) (k := 1) (v := .ref (ad G (7))) hx hb hts hown hk hw (en3 (rfl : nk 3 = 3)) rfl inlX3 (by decide) wd123 rfl dX10_clear_4 ?_
  refine tg_get (ci := 1) (k := 2) (v := .int (σ (7) 2)) hx hb hts hown hk hw (en1 (rfl : nk 7 = 1)) rfl inlX1 (by decide) wd167 rfl dX10_clear_7 ?_
  refine lv_topi (fun x1 ex1 => ?_)
  have bx1 : 0 ≤ x1.toInt ∧ x1.toInt ≤ 4 := by rw [ex1]; exact hI.1 _ _ _ _ (by rw [(rfl : nk 7 = 1)]; rfl)
  have ux1 : x1.toInt = (σ (7) 2).toInt := by rw [ex1]
  have a7 := ex1
  refine lv_istore_n (lv' := [(1, .int x1), (0, .ref (ad G (0)))]) hx hb dX10_clear_10 rfl hl (by decide) rfl (fun ls hl => ?_)
  refine lv_aload_n hx hb dX10_clear_11 rfl (lv_at hl 1 rfl) ?_
  refine tg_get (ci := 9) (k := 1) (v := .ref (ad G (3))) hx hb hts hown hk hw (en9 (rfl : nk 0 = 9)) rfl inlX10 (by decide) wd19 rfl dX10_clear_12 ?_
  refine tg_get (ci := 3) (k := 1) (v := .ref (ad G (7))) hx hb hts hown hk hw (en3 (rfl : nk 3 = 3)) rfl inlX3 (by decide) wd123 rfl dX10_clear_15 ?_
  refine lv_iconst (v := 0) hx hb dX10_clear_18 (by decide) ?_
  refine tg_put (ci := 1) (k := 2) (σ' := up2 σ (7) 2 (0 : Int32)) hx hb hts hown hk hG hw tyX1 (en1 (rfl : nk 7 = 1)) rfl inlX1 tyX1_ok nmX1 (by decide) wd167 rfl rfl rfl (Nat.le_of_ble_eq_true rfl) (pu1_2 (rfl : nk 7 = 1)) (fun _ h => up2_ne h) dX10_clear_19 (fun H locs hw => ?_)
  obtain ⟨σ2, eσ2⟩ : ∃ z, z = up2 σ (7) 2 (0 : Int32) := ⟨_, rfl⟩
  rw [← eσ2] at hw
  have hI : K0 (up2 σ 7 2 (0 : Int32)) σ2 := by rw [eσ2]; exact hI.put (rg_is (by rw [(rfl : nk 7 = 1)]; rfl) (by omega) (by omega))
  refine lv_iload_n hx hb dX10_clear_22 rfl (lv_at hl 0 rfl) ?_
  exact ret x1 σ2 _ _ 23 _ (rfl) (⟨hI, a7⟩) hw dX10_clear_23
set_option maxHeartbeats 4000000 in
set_option maxRecDepth 100000 in
theorem c_X10_say (l : Launch) (G : Gg) (hG : Ginj G) (σ : Sg) (hI0 : Inv σ) (v : Int32) : MI l G yX10_say cX10_say 2 .int (rmO 1 22) σ [.ref (ad G (0)), .int v] (fun r σ' => K0 σ σ' ∧ (True)) := by
  refine MI.of (by decide +kernel) (Nat.le_of_ble_eq_true rfl) ?_
  intro p e s m a below meth c ls Q hx hb hml hts hown hk hw ret hl
  have hown : s.vm.findClass RX10 = some m.cls := hown
  have hl : lv_has ls 2 [(0, .ref (ad G (0))), (1, .int v)] := hl
  have hI : K0 σ σ := K0.rf hI0
  have Lm4 : (-4 : Int32).toInt = -4 := by decide
  have Lm2 : (-2 : Int32).toInt = -2 := by decide
  have L0 : (0 : Int32).toInt = 0 := by decide
  have L33 : (33 : Int32).toInt = 33 := by decide
  have L40 : (40 : Int32).toInt = 40 := by decide
  have L126 : (126 : Int32).toInt = 126 := by decide
  generalize hHe : s.heap = H at hw ⊢
  generalize hLe : ([] : List Loc) = locs at hw ⊢
  refine lv_iload_n hx hb dX10_say_0 rfl (lv_at hl 1 rfl) ?_
  refine lv_bipush (v := 33) hx hb dX10_say_1 (by decide) ?_
  refine lv_bipush (v := 126) hx hb dX10_say_3 (by decide) ?_
  refine te_vi hw (ru_S (As := [.int v, .int (33 : Int32), .int (126 : Int32)]) (rest := []) hx hb hml hts hown hk hw (c_X10_within l G hG σ hI.1 v (33 : Int32) (126 : Int32)) (m3_in wd128 wd129 wd2) wd130 nm_yX10_within ⟨rfl, rfl⟩ ⟨by decide, by decide⟩ rfl hl.1 rfl (Nat.le_of_ble_eq_true rfl) dX10_say_5 ⟨Nat.zero_le _, Nat.zero_le _⟩) (fun r2 σ1 H locs hr2 hw => ?_)
  rw [hr2.1] at hw
  have hr2 := hr2.2
  refine lv_if_ne (tgt := 14) hx hb dX10_say_8 (by decide) (fun c8 => ?_) (fun c8 => ?_)
  · have c8i := mt Int32.toInt_inj.mp c8
    have p8 := bz1 hr2 c8
    refine lv_aload_n hx hb dX10_say_14 rfl (lv_at hl 0 rfl) ?_
    refine tg_get (ci := 9) (k := 0) (v := .ref (ad G (1))) hx hb hts hown hk hw (en9 (rfl : nk 0 = 9)) rfl inlX10 (by decide) wd15 rfl dX10_say_15 ?_
    refine tg_get (ci := 4) (k := 1) (v := .int (σ (1) 1)) hx hb hts hown hk hw (en4 (rfl : nk 1 = 4)) rfl inlX4 (by decide) wd201 rfl dX10_say_18 ?_
    refine lv_topi (fun x3 ex3 => ?_)
    have bx3 : 0 ≤ x3.toInt ∧ x3.toInt ≤ 40 := by rw [ex3]; exact hI.1 _ _ _ _ (by rw [(rfl : nk 1 = 4)]; rfl)
    have ux3 : x3.toInt = (σ (1) 1).toInt := by rw [ex3]
    refine lv_bipush (v := 40) hx hb dX10_say_21 (by decide) ?_
    refine lv_icmp_lt (tgt := 29) hx hb dX10_say_23 (by decide) (fun c23 => ?_) (fun c23 => ?_)
    · have c23i := Int32.lt_iff_toInt_lt.mp c23
      refine lv_aload_n hx hb dX10_say_29 rfl (lv_at hl 0 rfl) ?_
      refine tg_get (ci := 9) (k := 0) (v := .ref (ad G (1))) hx hb hts hown hk hw (en9 (rfl : nk 0 = 9)) rfl inlX10 (by decide) wd15 rfl dX10_say_30 ?_
      refine lv_iload_n hx hb dX10_say_33 rfl (lv_at hl 1 rfl) ?_
      refine te_vv hw (ru_V (As := [.int v]) (rest := []) (C := RX4) hx hb hml hts hown hk hw (c_X4_add l G hG σ hI.1 v) (m4_in wd202 wd203 wd204 wd14) wd205 (en4 (rfl : nk 1 = 4)) rfl rfl rfl nm_yX4_add ⟨rfl, rfl⟩ ⟨by decide, by decide⟩ rfl hl.1 rfl (Nat.le_of_ble_eq_true rfl) dX10_say_34 ⟨Nat.zero_le _, Nat.zero_le _⟩) (fun σ4 H locs hr5 hw => ?_)
      have hI := hI.go hr5.1
      have hr5 := hr5.2
      refine lv_aload_n hx hb dX10_say_37 rfl (lv_at hl 0 rfl) ?_
      refine tg_get (ci := 9) (k := 0) (v := .ref (ad G (1))) hx hb hts hown hk hw (en9 (rfl : nk 0 = 9)) rfl inlX10 (by decide) wd15 rfl dX10_say_38 ?_
      refine tg_get (ci := 4) (k := 1) (v := .int (σ4 (1) 1)) hx hb hts hown hk hw (en4 (rfl : nk 1 = 4)) rfl inlX4 (by decide) wd201 rfl dX10_say_41 ?_
      refine lv_topi (fun x6 ex6 => ?_)
      have bx6 : 0 ≤ x6.toInt ∧ x6.toInt ≤ 40 := by rw [ex6]; exact hI.1 _ _ _ _ (by rw [(rfl : nk 1 = 4)]; rfl)
      have ux6 : x6.toInt = (σ4 (1) 1).toInt := by rw [ex6]
      exact ret x6 σ4 _ _ 44 _ (rfl) (⟨hI, trivial⟩) hw dX10_say_44
    · have c23i := mt Int32.lt_iff_toInt_lt.mpr c23
      refine lv_bipush (v := -4) hx hb dX10_say_26 (by decide) ?_
      exact ret (-4 : Int32) σ _ _ 28 _ (rfl) (⟨hI, trivial⟩) hw dX10_say_28
  · have c8i := congrArg Int32.toInt c8
    have p8 := bz0 hr2 c8
    refine lv_bipush (v := -2) hx hb dX10_say_11 (by decide) ?_
    exact ret (-2 : Int32) σ _ _ 13 _ (rfl) (⟨hI, trivial⟩) hw dX10_say_13
set_option maxHeartbeats 4000000 in
set_option maxRecDepth 100000 in
theorem c_X10_wipe (l : Launch) (G : Gg) (hG : Ginj G) (σ : Sg) (hI0 : Inv σ) : MI l G yX10_wipe cX10_wipe 2 .int (rmO 0 0) σ [.ref (ad G (0))] (fun r σ' => K0 σ σ' ∧ (True)) := by
  refine MI.of (by decide +kernel) (Nat.le_of_ble_eq_true rfl) ?_
  intro p e s m a below meth c ls Q hx hb hml hts hown hk hw ret hl
  have hown : s.vm.findClass RX10 = some m.cls := hown
  have hl : lv_has ls 2 [(0, .ref (ad G (0)))] := hl
  have hI : K0 σ σ := K0.rf hI0
  have L0 : (0 : Int32).toInt = 0 := by decide
  generalize hHe : s.heap = H at hw ⊢
  generalize hLe : ([] : List Loc) = locs at hw ⊢
  refine lv_aload_n hx hb dX10_wipe_0 rfl (lv_at hl 0 rfl) ?_
  refine tg_get (ci := 9) (k := 0) (v := .ref (ad G (1))) hx hb hts hown hk hw (en9 (rfl : nk 0 = 9)) rfl inlX10 (by decide) wd15 rfl dX10_wipe_1 ?_
  refine tg_get (ci := 4) (k := 1) (v := .int (σ (1) 1)) hx hb hts hown hk hw (en4 (rfl : nk 1 = 4)) rfl inlX4 (by decide) wd201 rfl dX10_wipe_4 ?_
  refine lv_topi (fun x1 ex1 => ?_)
  have bx1 : 0 ≤ x1.toInt ∧ x1.toInt ≤ 40 := by rw [ex1]; exact hI.1 _ _ _ _ (by rw [(rfl : nk 1 = 4)]; rfl)
  have ux1 : x1.toInt = (σ (1) 1).toInt := by rw [ex1]
  refine lv_istore_n (lv' := [(1, .int x1), (0, .ref (ad G (0)))]) hx hb dX10_wipe_7 rfl hl (by decide) rfl (fun ls hl => ?_)
  refine lv_aload_n hx hb dX10_wipe_8 rfl (lv_at hl 1 rfl) ?_
  refine tg_get (ci := 9) (k := 0) (v := .ref (ad G (1))) hx hb hts hown hk hw (en9 (rfl : nk 0 = 9)) rfl inlX10 (by decide) wd15 rfl dX10_wipe_9 ?_
  refine lv_iconst (v := 0) hx hb dX10_wipe_12 (by decide) ?_
  refine tg_put (ci := 4) (k := 1) (σ' := up2 σ (1) 1 (0 : Int32)) hx hb hts hown hk hG hw tyX4 (en4 (rfl : nk 1 = 4)) rfl inlX4 tyX4_ok nmX4 (by decide) wd201 rfl rfl rfl (Nat.le_of_ble_eq_true rfl) (pu4_1 (rfl : nk 1 = 4)) (fun _ h => up2_ne h) dX10_wipe_13 (fun H locs hw => ?_)
  obtain ⟨σ2, eσ2⟩ : ∃ z, z = up2 σ (1) 1 (0 : Int32) := ⟨_, rfl⟩
  rw [← eσ2] at hw
  have hI : K0 σ σ2 := by rw [eσ2]; exact hI.up (rfl) (rg_is (by rw [(rfl : nk 1 = 4)]; rfl) (by omega) (by omega))
  refine lv_iload_n hx hb dX10_wipe_16 rfl (lv_at hl 0 rfl) ?_
  exact ret x1 σ2 _ _ 17 _ (rfl) (⟨hI, trivial⟩) hw dX10_wipe_17
set_option maxHeartbeats 4000000 in
set_option maxRecDepth 100000 in
theorem c_X10_fault (l : Launch) (G : Gg) (hG : Ginj G) (σ : Sg) (hI0 : Inv σ) : MI l G yX10_fault cX10_fault 1 .int (rmO 3 66) σ [.ref (ad G (0))] (fun r σ' => σ' = σ ∧ (True)) := by
  refine MI.of (by decide +kernel) (Nat.le_of_ble_eq_true rfl) ?_
  intro p e s m a below meth c ls Q hx hb hml hts hown hk hw ret hl
  have hown : s.vm.findClass RX10 = some m.cls := hown
  have hl : lv_has ls 1 [(0, .ref (ad G (0)))] := hl
  have hI : K0 σ σ := K0.rf hI0
  generalize hHe : s.heap = H at hw ⊢
  generalize hLe : ([] : List Loc) = locs at hw ⊢
  refine lv_aload_n hx hb dX10_fault_0 rfl (lv_at hl 0 rfl) ?_
  refine tg_get (ci := 9) (k := 0) (v := .ref (ad G (1))) hx hb hts hown hk hw (en9 (rfl : nk 0 = 9)) rfl inlX10 (by decide) wd15 rfl dX10_fault_1 ?_
  refine te_vi hw (ru_V (As := []) (rest := []) (C := RX4) hx hb hml hts hown hk hw (c_X4_firstFault l G hG σ hI.1) (m4_in wd226 wd227 wd228 wd14) wd229 (en4 (rfl : nk 1 = 4)) rfl rfl rfl nm_yX4_firstFault ⟨rfl, rfl⟩ ⟨by decide, by decide⟩ rfl hl.1 rfl (Nat.le_of_ble_eq_true rfl) dX10_fault_4 ⟨Nat.zero_le _, Nat.zero_le _⟩) (fun r2 σ1 H locs hr2 hw => ?_)
  rw [hr2.1] at hw
  have hr2 := hr2.2
  exact ret r2 σ _ _ 7 _ (rfl) (⟨rfl, trivial⟩) hw dX10_fault_7
set_option maxHeartbeats 4000000 in
set_option maxRecDepth 100000 in
theorem c_X10_night (l : Launch) (G : Gg) (hG : Ginj G) (σ : Sg) (hI0 : Inv σ) : MI l G yX10_night cX10_night 2 .int (rmO 5 124) σ [.ref (ad G (0))] (fun r σ' => K0 σ σ' ∧ (True)) := by
  refine MI.of (by decide +kernel) (Nat.le_of_ble_eq_true rfl) ?_
  intro p e s m a below meth c ls Q hx hb hml hts hown hk hw ret hl
  have hown : s.vm.findClass RX10 = some m.cls := hown
  have hl : lv_has ls 2 [(0, .ref (ad G (0)))] := hl
  have hI : K0 σ σ := K0.rf hI0
  have Lm6 : (-6 : Int32).toInt = -6 := by decide
  have Lm5 : (-5 : Int32).toInt = -5 := by decide
  have L0 : (0 : Int32).toInt = 0 := by decide
  generalize hHe : s.heap = H at hw ⊢
  generalize hLe : ([] : List Loc) = locs at hw ⊢
  refine lv_aload_n hx hb dX10_night_0 rfl (lv_at hl 0 rfl) ?_
  refine tg_get (ci := 9) (k := 0) (v := .ref (ad G (1))) hx hb hts hown hk hw (en9 (rfl : nk 0 = 9)) rfl inlX10 (by decide) wd15 rfl dX10_night_1 ?_
  refine te_vi hw (ru_V (As := []) (rest := []) (C := RX4) hx hb hml hts hown hk hw (c_X4_firstFault l G hG σ hI.1) (m4_in wd226 wd227 wd228 wd14) wd229 (en4 (rfl : nk 1 = 4)) rfl rfl rfl nm_yX4_firstFault ⟨rfl, rfl⟩ ⟨by decide, by decide⟩ rfl hl.1 rfl (Nat.le_of_ble_eq_true rfl) dX10_night_4 ⟨Nat.zero_le _, Nat.zero_le _⟩) (fun r2 σ1 H locs hr2 hw => ?_)
  rw [hr2.1] at hw
  have hr2 := hr2.2
  refine lv_bipush (v := -6) hx hb dX10_night_7 (by decide) ?_
  refine lv_icmp_eq (tgt := 15) hx hb dX10_night_9 (by decide) (fun c9 => ?_) (fun c9 => ?_)
  · have or2 := i32b r2
    have c9i := congrArg Int32.toInt c9
    refine lv_aload_n hx hb dX10_night_15 rfl (lv_at hl 0 rfl) ?_
    refine tg_get (ci := 9) (k := 1) (v := .ref (ad G (3))) hx hb hts hown hk hw (en9 (rfl : nk 0 = 9)) rfl inlX10 (by decide) wd19 rfl dX10_night_16 ?_
    refine tg_get (ci := 3) (k := 1) (v := .ref (ad G (7))) hx hb hts hown hk hw (en3 (rfl : nk 3 = 3)) rfl inlX3 (by decide) wd123 rfl dX10_night_19 ?_
    refine lv_aload_n hx hb dX10_night_22 rfl (lv_at hl 0 rfl) ?_
    refine tg_get (ci := 9) (k := 0) (v := .ref (ad G (1))) hx hb hts hown hk hw (en9 (rfl : nk 0 = 9)) rfl inlX10 (by decide) wd15 rfl dX10_night_23 ?_
    refine lv_aload_n hx hb dX10_night_26 rfl (lv_at hl 0 rfl) ?_
    refine tg_get (ci := 9) (k := 1) (v := .ref (ad G (3))) hx hb hts hown hk hw (en9 (rfl : nk 0 = 9)) rfl inlX10 (by decide) wd19 rfl dX10_night_27 ?_
    refine tg_get (ci := 3) (k := 0) (v := .ref (ad G (4))) hx hb hts hown hk hw (en3 (rfl : nk 3 = 3)) rfl inlX3 (by decide) wd261 rfl dX10_night_30 ?_
    refine te_vi hw (ru_V (As := [.ref (ad G (1)), .ref (ad G (4))]) (rest := []) (C := RX1) hx hb hml hts hown hk hw (c_X1_goThrough l G hG σ hI.1 7 (rfl : nk 7 = 1) 4 (rfl : nk 4 = 2)) (m4_in wd262 wd263 wd264 wd52) wd265 (en1 (rfl : nk 7 = 1)) rfl rfl rfl nm_yX1_goThrough ⟨rfl, rfl⟩ ⟨by decide, by decide⟩ rfl hl.1 rfl (Nat.le_of_ble_eq_true rfl) dX10_night_33 ⟨Nat.zero_le _, Nat.zero_le _⟩) (fun r4 σ3 H locs hr4 hw => ?_)
    have hI := hI.go hr4.1
    have hr4 := hr4.2
    refine lv_istore_n (lv' := [(1, .int r4), (0, .ref (ad G (0)))]) hx hb dX10_night_36 rfl hl (by decide) rfl (fun ls hl => ?_)
    refine lv_aload_n hx hb dX10_night_37 rfl (lv_at hl 1 rfl) ?_
    refine tg_get (ci := 9) (k := 0) (v := .ref (ad G (1))) hx hb hts hown hk hw (en9 (rfl : nk 0 = 9)) rfl inlX10 (by decide) wd15 rfl dX10_night_38 ?_
    refine lv_iconst (v := 0) hx hb dX10_night_41 (by decide) ?_
    refine tg_put (ci := 4) (k := 1) (σ' := up2 σ3 (1) 1 (0 : Int32)) hx hb hts hown hk hG hw tyX4 (en4 (rfl : nk 1 = 4)) rfl inlX4 tyX4_ok nmX4 (by decide) wd201 rfl rfl rfl (Nat.le_of_ble_eq_true rfl) (pu4_1 (rfl : nk 1 = 4)) (fun _ h => up2_ne h) dX10_night_42 (fun H locs hw => ?_)
    obtain ⟨σ5, eσ5⟩ : ∃ z, z = up2 σ3 (1) 1 (0 : Int32) := ⟨_, rfl⟩
    rw [← eσ5] at hw
    have hI : K0 σ σ5 := by rw [eσ5]; exact hI.up (rfl) (rg_is (by rw [(rfl : nk 1 = 4)]; rfl) (by omega) (by omega))
    refine lv_iload_n hx hb dX10_night_45 rfl (lv_at hl 0 rfl) ?_
    exact ret r4 σ5 _ _ 46 _ (rfl) (⟨hI, trivial⟩) hw dX10_night_46
  · have or2 := i32b r2
    have c9i := mt Int32.toInt_inj.mp c9
    refine lv_bipush (v := -5) hx hb dX10_night_12 (by decide) ?_
    exact ret (-5 : Int32) σ _ _ 14 _ (rfl) (⟨hI, trivial⟩) hw dX10_night_14
set_option maxHeartbeats 4000000 in
set_option maxRecDepth 100000 in
theorem c_X10_about (l : Launch) (G : Gg) (hG : Ginj G) (σ : Sg) (hI0 : Inv σ) (v : Int32) (w : Int32) : MI l G yX10_about cX10_about 3 .int (rmO 2 42) σ [.ref (ad G (0)), .int v, .int w] (fun r σ' => σ' = σ ∧ (True)) := by
  refine MI.of (by decide +kernel) (Nat.le_of_ble_eq_true rfl) ?_
  intro p e s m a below meth c ls Q hx hb hml hts hown hk hw ret hl
  have hown : s.vm.findClass RX10 = some m.cls := hown
  have hl : lv_has ls 3 [(0, .ref (ad G (0))), (1, .int v), (2, .int w)] := hl
  have hI : K0 σ σ := K0.rf hI0
  have Lm2 : (-2 : Int32).toInt = -2 := by decide
  have Lm1 : (-1 : Int32).toInt = -1 := by decide
  have L0 : (0 : Int32).toInt = 0 := by decide
  have L7 : (7 : Int32).toInt = 7 := by decide
  generalize hHe : s.heap = H at hw ⊢
  generalize hLe : ([] : List Loc) = locs at hw ⊢
  refine lv_iload_n hx hb dX10_about_0 rfl (lv_at hl 1 rfl) ?_
  refine te_vi hw (ru_S (As := [.int v]) (rest := []) hx hb hml hts hown hk hw (c_X10_isSower l G hG σ hI.1 v) (m3_in wd125 wd126 wd2) wd127 nm_yX10_isSower ⟨rfl, rfl⟩ ⟨by decide, by decide⟩ rfl hl.1 rfl (Nat.le_of_ble_eq_true rfl) dX10_about_1 ⟨Nat.zero_le _, Nat.zero_le _⟩) (fun r2 σ1 H locs hr2 hw => ?_)
  rw [hr2.1] at hw
  have hr2 := hr2.2
  refine lv_if_ne (tgt := 9) hx hb dX10_about_4 (by decide) (fun c4 => ?_) (fun c4 => ?_)
  · have c4i := mt Int32.toInt_inj.mp c4
    have p4 := bz1 hr2 c4
    refine lv_iload_n hx hb dX10_about_9 rfl (lv_at hl 2 rfl) ?_
    refine lv_iconst (v := 0) hx hb dX10_about_10 (by decide) ?_
    refine lv_bipush (v := 7) hx hb dX10_about_11 (by decide) ?_
    refine te_vi hw (ru_S (As := [.int w, .int (0 : Int32), .int (7 : Int32)]) (rest := []) hx hb hml hts hown hk hw (c_X10_within l G hG σ hI.1 w (0 : Int32) (7 : Int32)) (m3_in wd128 wd129 wd2) wd130 nm_yX10_within ⟨rfl, rfl⟩ ⟨by decide, by decide⟩ rfl hl.1 rfl (Nat.le_of_ble_eq_true rfl) dX10_about_13 ⟨Nat.zero_le _, Nat.zero_le _⟩) (fun r4 σ3 H locs hr4 hw => ?_)
    rw [hr4.1] at hw
    have hr4 := hr4.2
    refine lv_if_ne (tgt := 22) hx hb dX10_about_16 (by decide) (fun c16 => ?_) (fun c16 => ?_)
    · have c16i := mt Int32.toInt_inj.mp c16
      have p16 := bz1 hr4 c16
      refine lv_aload_n hx hb dX10_about_22 rfl (lv_at hl 0 rfl) ?_
      refine tg_get (ci := 9) (k := 1) (v := .ref (ad G (3))) hx hb hts hown hk hw (en9 (rfl : nk 0 = 9)) rfl inlX10 (by decide) wd19 rfl dX10_about_23 ?_
      refine tg_get (ci := 3) (k := 1) (v := .ref (ad G (7))) hx hb hts hown hk hw (en3 (rfl : nk 3 = 3)) rfl inlX3 (by decide) wd123 rfl dX10_about_26 ?_
      refine tg_get (ci := 1) (k := 0) (v := .ref (ad G (8))) hx hb hts hown hk hw (en1 (rfl : nk 7 = 1)) rfl inlX1 (by decide) wd124 rfl dX10_about_29 ?_
      refine lv_iload_n hx hb dX10_about_32 rfl (lv_at hl 1 rfl) ?_
      have hv33 : vp_in v 4 := vin ⟨by omega, by omega⟩
      refine tg_aald14 hx hb hk hw (en14 (rfl : nk 8 = 14)) hv33 dX10_about_33 ?_
      have vl33 := vcl hv33
      refine lv_iload_n hx hb dX10_about_34 rfl (lv_at hl 2 rfl) ?_
      refine te_vi hw (ru_V (As := [.int w]) (rest := []) (C := RX6) hx hb hml hts hown hk hw (c_X6_fact l G hG σ hI.1 (8 + 2 + v.toNatClampNeg) (ke14 (rfl : nk 8 = 14) (vcl hv33)) w) (m4_in wd134 wd135 wd136 wd73) wd137 (en5 (ke14 (rfl : nk 8 = 14) (vcl hv33))) rfl rfl rfl nm_yX6_fact ⟨rfl, rfl⟩ ⟨by decide, by decide⟩ rfl hl.1 rfl (Nat.le_of_ble_eq_true rfl) dX10_about_35 ⟨Nat.zero_le _, Nat.zero_le _⟩) (fun r6 σ5 H locs hr6 hw => ?_)
      rw [hr6.1] at hw
      have hr6 := hr6.2
      exact ret r6 σ _ _ 38 _ (rfl) (⟨rfl, trivial⟩) hw dX10_about_38
    · have c16i := congrArg Int32.toInt c16
      have p16 := bz0 hr4 c16
      refine lv_bipush (v := -2) hx hb dX10_about_19 (by decide) ?_
      exact ret (-2 : Int32) σ _ _ 21 _ (rfl) (⟨rfl, trivial⟩) hw dX10_about_21
  · have c4i := congrArg Int32.toInt c4
    have p4 := bz0 hr2 c4
    refine lv_iconst (v := -1) hx hb dX10_about_7 (by decide) ?_
    exact ret (-1 : Int32) σ _ _ 8 _ (rfl) (⟨rfl, trivial⟩) hw dX10_about_8
set_option maxHeartbeats 4000000 in
set_option maxRecDepth 100000 in
theorem c_X10_up (l : Launch) (G : Gg) (hG : Ginj G) (σ : Sg) (hI0 : Inv σ) (v : Int32) (w : Int32) : MI l G yX10_up cX10_up 3 .int (rmO 3 62) σ [.ref (ad G (0)), .int v, .int w] (fun r σ' => σ' = σ ∧ (True)) := by
  refine MI.of (by decide +kernel) (Nat.le_of_ble_eq_true rfl) ?_
  intro p e s m a below meth c ls Q hx hb hml hts hown hk hw ret hl
  have hown : s.vm.findClass RX10 = some m.cls := hown
  have hl : lv_has ls 3 [(0, .ref (ad G (0))), (1, .int v), (2, .int w)] := hl
  have hI : K0 σ σ := K0.rf hI0
  have Lm2 : (-2 : Int32).toInt = -2 := by decide
  have Lm1 : (-1 : Int32).toInt = -1 := by decide
  have L0 : (0 : Int32).toInt = 0 := by decide
  generalize hHe : s.heap = H at hw ⊢
  generalize hLe : ([] : List Loc) = locs at hw ⊢
  refine lv_iload_n hx hb dX10_up_0 rfl (lv_at hl 2 rfl) ?_
  refine te_vi hw (ru_S (As := [.int w]) (rest := []) hx hb hml hts hown hk hw (c_X10_isKindOrAll l G hG σ hI.1 w) (m3_in wd388 wd389 wd2) wd390 nm_yX10_isKindOrAll ⟨rfl, rfl⟩ ⟨by decide, by decide⟩ rfl hl.1 rfl (Nat.le_of_ble_eq_true rfl) dX10_up_1 ⟨Nat.zero_le _, Nat.zero_le _⟩) (fun r2 σ1 H locs hr2 hw => ?_)
  rw [hr2.1] at hw
  have hr2 := hr2.2
  refine lv_if_ne (tgt := 9) hx hb dX10_up_4 (by decide) (fun c4 => ?_) (fun c4 => ?_)
  · have c4i := mt Int32.toInt_inj.mp c4
    have p4 := bz1 hr2 c4
    refine lv_iload_n hx hb dX10_up_9 rfl (lv_at hl 1 rfl) ?_
    refine te_vi hw (ru_S (As := [.int v]) (rest := []) hx hb hml hts hown hk hw (c_X10_isCell l G hG σ hI.1 v) (m3_in wd168 wd169 wd2) wd170 nm_yX10_isCell ⟨rfl, rfl⟩ ⟨by decide, by decide⟩ rfl hl.1 rfl (Nat.le_of_ble_eq_true rfl) dX10_up_10 ⟨Nat.zero_le _, Nat.zero_le _⟩) (fun r4 σ3 H locs hr4 hw => ?_)
    rw [hr4.1] at hw
    have hr4 := hr4.2
    refine lv_if_ne (tgt := 19) hx hb dX10_up_13 (by decide) (fun c13 => ?_) (fun c13 => ?_)
    · have c13i := mt Int32.toInt_inj.mp c13
      have p13 := bz1 hr4 c13
      refine lv_aload_n hx hb dX10_up_19 rfl (lv_at hl 0 rfl) ?_
      refine tg_get (ci := 9) (k := 1) (v := .ref (ad G (3))) hx hb hts hown hk hw (en9 (rfl : nk 0 = 9)) rfl inlX10 (by decide) wd19 rfl dX10_up_20 ?_
      refine tg_get (ci := 3) (k := 0) (v := .ref (ad G (4))) hx hb hts hown hk hw (en3 (rfl : nk 3 = 3)) rfl inlX3 (by decide) wd261 rfl dX10_up_23 ?_
      refine lv_iload_n hx hb dX10_up_26 rfl (lv_at hl 1 rfl) ?_
      refine lv_iload_n hx hb dX10_up_27 rfl (lv_at hl 2 rfl) ?_
      refine te_vi hw (ru_V (As := [.int v, .int w]) (rest := []) (C := RX2) hx hb hml hts hown hk hw (c_X2_grainsIn l G hG σ hI.1 4 (rfl : nk 4 = 2) v w (by omega) (by omega)) (m4_in wd391 wd392 wd393 wd48) wd394 (en2 (rfl : nk 4 = 2)) rfl rfl rfl nm_yX2_grainsIn ⟨rfl, rfl⟩ ⟨by decide, by decide⟩ rfl hl.1 rfl (Nat.le_of_ble_eq_true rfl) dX10_up_28 ⟨Nat.zero_le _, Nat.zero_le _⟩) (fun r6 σ5 H locs hr6 hw => ?_)
      rw [hr6.1] at hw
      have hr6 := hr6.2
      exact ret r6 σ _ _ 31 _ (rfl) (⟨rfl, trivial⟩) hw dX10_up_31
    · have c13i := congrArg Int32.toInt c13
      have p13 := bz0 hr4 c13
      refine lv_bipush (v := -2) hx hb dX10_up_16 (by decide) ?_
      exact ret (-2 : Int32) σ _ _ 18 _ (rfl) (⟨rfl, trivial⟩) hw dX10_up_18
  · have c4i := congrArg Int32.toInt c4
    have p4 := bz0 hr2 c4
    refine lv_iconst (v := -1) hx hb dX10_up_7 (by decide) ?_
    exact ret (-1 : Int32) σ _ _ 8 _ (rfl) (⟨rfl, trivial⟩) hw dX10_up_8
set_option maxHeartbeats 4000000 in
set_option maxRecDepth 100000 in
theorem c_X10_row (l : Launch) (G : Gg) (hG : Ginj G) (σ : Sg) (hI0 : Inv σ) (v : Int32) (w : Int32) : MI l G yX10_row cX10_row 4 .int (rmO 3 62) σ [.ref (ad G (0)), .int v, .int w] (fun r σ' => rowP 6 σ σ' v w r) := by
  refine MI.of (by decide +kernel) (Nat.le_of_ble_eq_true rfl) ?_
  intro p e s m a below meth c ls Q hx hb hml hts hown hk hw ret hl
  have hown : s.vm.findClass RX10 = some m.cls := hown
  have hl : lv_has ls 4 [(0, .ref (ad G (0))), (1, .int v), (2, .int w)] := hl
  have hI : K0 σ σ := K0.rf hI0
  have Lm6 : (-6 : Int32).toInt = -6 := by decide
  have Lm2 : (-2 : Int32).toInt = -2 := by decide
  have Lm1 : (-1 : Int32).toInt = -1 := by decide
  have L0 : (0 : Int32).toInt = 0 := by decide
  generalize hHe : s.heap = H at hw ⊢
  generalize hLe : ([] : List Loc) = locs at hw ⊢
  refine lv_iload_n hx hb dX10_row_0 rfl (lv_at hl 2 rfl) ?_
  refine te_vi hw (ru_S (As := [.int w]) (rest := []) hx hb hml hts hown hk hw (c_X10_isKindOrAll l G hG σ hI.1 w) (m3_in wd388 wd389 wd2) wd390 nm_yX10_isKindOrAll ⟨rfl, rfl⟩ ⟨by decide, by decide⟩ rfl hl.1 rfl (Nat.le_of_ble_eq_true rfl) dX10_row_1 ⟨Nat.zero_le _, Nat.zero_le _⟩) (fun r2 σ1 H locs hr2 hw => ?_)
  rw [hr2.1] at hw
  have hr2 := hr2.2
  refine lv_if_ne (tgt := 9) hx hb dX10_row_4 (by decide) (fun c4 => ?_) (fun c4 => ?_)
  · have c4i := mt Int32.toInt_inj.mp c4
    have p4 := bz1 hr2 c4
    refine lv_iload_n hx hb dX10_row_9 rfl (lv_at hl 1 rfl) ?_
    refine te_vi hw (ru_S (As := [.int v]) (rest := []) hx hb hml hts hown hk hw (c_X10_isCell l G hG σ hI.1 v) (m3_in wd168 wd169 wd2) wd170 nm_yX10_isCell ⟨rfl, rfl⟩ ⟨by decide, by decide⟩ rfl hl.1 rfl (Nat.le_of_ble_eq_true rfl) dX10_row_10 ⟨Nat.zero_le _, Nat.zero_le _⟩) (fun r4 σ3 H locs hr4 hw => ?_)
    rw [hr4.1] at hw
    have hr4 := hr4.2
    refine lv_if_ne (tgt := 19) hx hb dX10_row_13 (by decide) (fun c13 => ?_) (fun c13 => ?_)
    · have c13i := mt Int32.toInt_inj.mp c13
      have p13 := bz1 hr4 c13
      refine lv_aload_n hx hb dX10_row_19 rfl (lv_at hl 0 rfl) ?_
      refine tg_get (ci := 9) (k := 1) (v := .ref (ad G (3))) hx hb hts hown hk hw (en9 (rfl : nk 0 = 9)) rfl inlX10 (by decide) wd19 rfl dX10_row_20 ?_
      refine tg_get (ci := 3) (k := 0) (v := .ref (ad G (4))) hx hb hts hown hk hw (en3 (rfl : nk 3 = 3)) rfl inlX3 (by decide) wd261 rfl dX10_row_23 ?_
      refine tg_get (ci := 2) (k := 1) (v := .ref (ad G (6))) hx hb hts hown hk hw (en2 (rfl : nk 4 = 2)) rfl inlX2 (by decide) wd410 rfl dX10_row_26 ?_
      refine lv_iload_n hx hb dX10_row_29 rfl (lv_at hl 1 rfl) ?_
      have hv30 : vp_in v 64 := vin ⟨by omega, by omega⟩
      refine tg_iald hx hb hk hw (en164 (rfl : nk 6 = 164)) hv30 dX10_row_30 ?_
      refine lv_topi (fun x5 ex5 => ?_)
      have aR := ex5
      refine lv_istore_n (lv' := [(3, .int x5), (0, .ref (ad G (0))), (1, .int v), (2, .int w)]) hx hb dX10_row_31 rfl hl (by decide) rfl (fun ls hl => ?_)
      refine lv_aload_n hx hb dX10_row_32 rfl (lv_at hl 1 rfl) ?_
      refine tg_get (ci := 9) (k := 1) (v := .ref (ad G (3))) hx hb hts hown hk hw (en9 (rfl : nk 0 = 9)) rfl inlX10 (by decide) wd19 rfl dX10_row_33 ?_
      refine tg_get (ci := 3) (k := 0) (v := .ref (ad G (4))) hx hb hts hown hk hw (en3 (rfl : nk 3 = 3)) rfl inlX3 (by decide) wd261 rfl dX10_row_36 ?_
      refine tg_get (ci := 2) (k := 1) (v := .ref (ad G (6))) hx hb hts hown hk hw (en2 (rfl : nk 4 = 2)) rfl inlX2 (by decide) wd410 rfl dX10_row_39 ?_
      refine lv_iload_n hx hb dX10_row_42 rfl (lv_at hl 2 rfl) ?_
      refine lv_iload_n hx hb dX10_row_43 rfl (lv_at hl 3 rfl) ?_
      refine lv_iconst (v := -1) hx hb dX10_row_44 (by decide) ?_
      refine lv_icmp_ne (tgt := 53) hx hb dX10_row_45 (by decide) (fun c45 => ?_) (fun c45 => ?_)
      · have c45i := mt Int32.toInt_inj.mp c45
        refine lv_iload_n hx hb dX10_row_53 rfl (lv_at hl 3 rfl) ?_
        have hv54 : vp_in v 64 := vin ⟨by omega, by omega⟩
        refine tg_iast hx hb hk hG hw (ea164 (rfl : nk 6 = 164)) hv54 dX10_row_54 (fun H locs hw => ?_)
        obtain ⟨σ6, eσ6⟩ : ∃ z, z = up2 σ (6) v.toNatClampNeg w := ⟨_, rfl⟩
        rw [← eσ6] at hw
        have hI : K0 (up2 σ 6 v.toNatClampNeg w) σ6 := by rw [eσ6]; exact hI.put (rg_no (by rw [(rfl : nk 6 = 164)]; rfl))
        refine lv_iload_n hx hb dX10_row_55 rfl (lv_at hl 0 rfl) ?_
        exact ret x5 σ6 _ _ 56 _ (rfl) (Or.inr (Or.inr ⟨by omega, by omega, (by first | (rw [if_neg c45]; exact hI) | (rw [if_pos c45]; exact hI)), aR⟩)) hw dX10_row_56
      · have c45i := congrArg Int32.toInt c45
        refine lv_bipush (v := -6) hx hb dX10_row_48 (by decide) ?_
        refine lv_goto (tgt := 54) hx hb dX10_row_50 (by decide) ?_
        have hv54 : vp_in v 64 := vin ⟨by omega, by omega⟩
        refine tg_iast hx hb hk hG hw (ea164 (rfl : nk 6 = 164)) hv54 dX10_row_54 (fun H locs hw => ?_)
        obtain ⟨σ7, eσ7⟩ : ∃ z, z = up2 σ (6) v.toNatClampNeg (-6 : Int32) := ⟨_, rfl⟩
        rw [← eσ7] at hw
        have hI : K0 (up2 σ 6 v.toNatClampNeg (-6 : Int32)) σ7 := by rw [eσ7]; exact hI.put (rg_no (by rw [(rfl : nk 6 = 164)]; rfl))
        refine lv_iload_n hx hb dX10_row_55 rfl (lv_at hl 0 rfl) ?_
        exact ret x5 σ7 _ _ 56 _ (rfl) (Or.inr (Or.inr ⟨by omega, by omega, (by first | (rw [if_neg c45]; exact hI) | (rw [if_pos c45]; exact hI)), aR⟩)) hw dX10_row_56
    · have c13i := congrArg Int32.toInt c13
      have p13 := bz0 hr4 c13
      refine lv_bipush (v := -2) hx hb dX10_row_16 (by decide) ?_
      exact ret (-2 : Int32) σ _ _ 18 _ (rfl) (Or.inr (Or.inl ⟨by omega, by omega, hI, rfl⟩)) hw dX10_row_18
  · have c4i := congrArg Int32.toInt c4
    have p4 := bz0 hr2 c4
    refine lv_iconst (v := -1) hx hb dX10_row_7 (by decide) ?_
    exact ret (-1 : Int32) σ _ _ 8 _ (rfl) (Or.inl ⟨by omega, hI, rfl⟩) hw dX10_row_8
set_option maxHeartbeats 4000000 in
set_option maxRecDepth 100000 in
theorem c_X10_strayed (l : Launch) (G : Gg) (hG : Ginj G) (σ : Sg) (hI0 : Inv σ) (v : Int32) (w : Int32) : MI l G yX10_strayed cX10_strayed 3 .int (rmO 3 66) σ [.ref (ad G (0)), .int v, .int w] (fun r σ' => σ' = σ ∧ (True)) := by
  refine MI.of (by decide +kernel) (Nat.le_of_ble_eq_true rfl) ?_
  intro p e s m a below meth c ls Q hx hb hml hts hown hk hw ret hl
  have hown : s.vm.findClass RX10 = some m.cls := hown
  have hl : lv_has ls 3 [(0, .ref (ad G (0))), (1, .int v), (2, .int w)] := hl
  have hI : K0 σ σ := K0.rf hI0
  have Lm2 : (-2 : Int32).toInt = -2 := by decide
  have Lm1 : (-1 : Int32).toInt = -1 := by decide
  have L0 : (0 : Int32).toInt = 0 := by decide
  have L1 : (1 : Int32).toInt = 1 := by decide
  generalize hHe : s.heap = H at hw ⊢
  generalize hLe : ([] : List Loc) = locs at hw ⊢
  refine lv_iload_n hx hb dX10_strayed_0 rfl (lv_at hl 1 rfl) ?_
  refine te_vi hw (ru_S (As := [.int v]) (rest := []) hx hb hml hts hown hk hw (c_X10_isKindOrAll l G hG σ hI.1 v) (m3_in wd388 wd389 wd2) wd390 nm_yX10_isKindOrAll ⟨rfl, rfl⟩ ⟨by decide, by decide⟩ rfl hl.1 rfl (Nat.le_of_ble_eq_true rfl) dX10_strayed_1 ⟨Nat.zero_le _, Nat.zero_le _⟩) (fun r2 σ1 H locs hr2 hw => ?_)
  rw [hr2.1] at hw
  have hr2 := hr2.2
  refine lv_if_ne (tgt := 9) hx hb dX10_strayed_4 (by decide) (fun c4 => ?_) (fun c4 => ?_)
  · have c4i := mt Int32.toInt_inj.mp c4
    have p4 := bz1 hr2 c4
    refine lv_iload_n hx hb dX10_strayed_9 rfl (lv_at hl 2 rfl) ?_
    refine lv_iconst (v := 0) hx hb dX10_strayed_10 (by decide) ?_
    refine lv_iconst (v := 1) hx hb dX10_strayed_11 (by decide) ?_
    refine te_vi hw (ru_S (As := [.int w, .int (0 : Int32), .int (1 : Int32)]) (rest := []) hx hb hml hts hown hk hw (c_X10_within l G hG σ hI.1 w (0 : Int32) (1 : Int32)) (m3_in wd128 wd129 wd2) wd130 nm_yX10_within ⟨rfl, rfl⟩ ⟨by decide, by decide⟩ rfl hl.1 rfl (Nat.le_of_ble_eq_true rfl) dX10_strayed_12 ⟨Nat.zero_le _, Nat.zero_le _⟩) (fun r4 σ3 H locs hr4 hw => ?_)
    rw [hr4.1] at hw
    have hr4 := hr4.2
    refine lv_if_ne (tgt := 21) hx hb dX10_strayed_15 (by decide) (fun c15 => ?_) (fun c15 => ?_)
    · have c15i := mt Int32.toInt_inj.mp c15
      have p15 := bz1 hr4 c15
      refine lv_iload_n hx hb dX10_strayed_21 rfl (lv_at hl 2 rfl) ?_
      refine lv_if_ne (tgt := 39) hx hb dX10_strayed_22 (by decide) (fun c22 => ?_) (fun c22 => ?_)
      · have c22i := mt Int32.toInt_inj.mp c22
        refine lv_aload_n hx hb dX10_strayed_39 rfl (lv_at hl 0 rfl) ?_
        refine tg_get (ci := 9) (k := 1) (v := .ref (ad G (3))) hx hb hts hown hk hw (en9 (rfl : nk 0 = 9)) rfl inlX10 (by decide) wd19 rfl dX10_strayed_40 ?_
        refine tg_get (ci := 3) (k := 0) (v := .ref (ad G (4))) hx hb hts hown hk hw (en3 (rfl : nk 3 = 3)) rfl inlX3 (by decide) wd261 rfl dX10_strayed_43 ?_
        refine lv_iload_n hx hb dX10_strayed_46 rfl (lv_at hl 1 rfl) ?_
        refine te_vi hw (ru_V (As := [.int v]) (rest := []) (C := RX2) hx hb hml hts hown hk hw (c_X2_bareCells l G hG σ hI.1 4 (rfl : nk 4 = 2) v) (m4_in wd423 wd424 wd425 wd48) wd426 (en2 (rfl : nk 4 = 2)) rfl rfl rfl nm_yX2_bareCells ⟨rfl, rfl⟩ ⟨by decide, by decide⟩ rfl hl.1 rfl (Nat.le_of_ble_eq_true rfl) dX10_strayed_47 ⟨Nat.zero_le _, Nat.zero_le _⟩) (fun r6 σ5 H locs hr6 hw => ?_)
        rw [hr6.1] at hw
        have hr6 := hr6.2
        exact ret r6 σ _ _ 50 _ (rfl) (⟨rfl, trivial⟩) hw dX10_strayed_50
      · have c22i := congrArg Int32.toInt c22
        refine lv_aload_n hx hb dX10_strayed_25 rfl (lv_at hl 0 rfl) ?_
        refine tg_get (ci := 9) (k := 1) (v := .ref (ad G (3))) hx hb hts hown hk hw (en9 (rfl : nk 0 = 9)) rfl inlX10 (by decide) wd19 rfl dX10_strayed_26 ?_
        refine tg_get (ci := 3) (k := 0) (v := .ref (ad G (4))) hx hb hts hown hk hw (en3 (rfl : nk 3 = 3)) rfl inlX3 (by decide) wd261 rfl dX10_strayed_29 ?_
        refine lv_iload_n hx hb dX10_strayed_32 rfl (lv_at hl 1 rfl) ?_
        refine te_vi hw (ru_V (As := [.int v]) (rest := []) (C := RX2) hx hb hml hts hown hk hw (c_X2_strays l G hG σ hI.1 4 (rfl : nk 4 = 2) v) (m4_in wd419 wd420 wd421 wd48) wd422 (en2 (rfl : nk 4 = 2)) rfl rfl rfl nm_yX2_strays ⟨rfl, rfl⟩ ⟨by decide, by decide⟩ rfl hl.1 rfl (Nat.le_of_ble_eq_true rfl) dX10_strayed_33 ⟨Nat.zero_le _, Nat.zero_le _⟩) (fun r8 σ7 H locs hr8 hw => ?_)
        rw [hr8.1] at hw
        have hr8 := hr8.2
        refine lv_goto (tgt := 50) hx hb dX10_strayed_36 (by decide) ?_
        exact ret r8 σ _ _ 50 _ (rfl) (⟨rfl, trivial⟩) hw dX10_strayed_50
    · have c15i := congrArg Int32.toInt c15
      have p15 := bz0 hr4 c15
      refine lv_bipush (v := -2) hx hb dX10_strayed_18 (by decide) ?_
      exact ret (-2 : Int32) σ _ _ 20 _ (rfl) (⟨rfl, trivial⟩) hw dX10_strayed_20
  · have c4i := congrArg Int32.toInt c4
    have p4 := bz0 hr2 c4
    refine lv_iconst (v := -1) hx hb dX10_strayed_7 (by decide) ?_
    exact ret (-1 : Int32) σ _ _ 8 _ (rfl) (⟨rfl, trivial⟩) hw dX10_strayed_8
set_option maxHeartbeats 4000000 in
set_option maxRecDepth 100000 in
theorem c_X10_guessed (l : Launch) (G : Gg) (hG : Ginj G) (σ : Sg) (hI0 : Inv σ) (v : Int32) (w : Int32) : MI l G yX10_guessed cX10_guessed 5 .int (rmO 5 124) σ [.ref (ad G (0)), .int v, .int w] (fun r σ' => K0 σ σ' ∧ (True)) := by
  refine MI.of (by decide +kernel) (Nat.le_of_ble_eq_true rfl) ?_
  intro p e s m a below meth c ls Q hx hb hml hts hown hk hw ret hl
  have hown : s.vm.findClass RX10 = some m.cls := hown
  have hl : lv_has ls 5 [(0, .ref (ad G (0))), (1, .int v), (2, .int w)] := hl
  have hI : K0 σ σ := K0.rf hI0
  have Lm6 : (-6 : Int32).toInt = -6 := by decide
  have Lm5 : (-5 : Int32).toInt = -5 := by decide
  have Lm3 : (-3 : Int32).toInt = -3 := by decide
  have Lm2 : (-2 : Int32).toInt = -2 := by decide
  have Lm1 : (-1 : Int32).toInt = -1 := by decide
  have L0 : (0 : Int32).toInt = 0 := by decide
  have L1 : (1 : Int32).toInt = 1 := by decide
  have L4 : (4 : Int32).toInt = 4 := by decide
  generalize hHe : s.heap = H at hw ⊢
  generalize hLe : ([] : List Loc) = locs at hw ⊢
  refine lv_iload_n hx hb dX10_guessed_0 rfl (lv_at hl 1 rfl) ?_
  refine te_vi hw (ru_S (As := [.int v]) (rest := []) hx hb hml hts hown hk hw (c_X10_isSower l G hG σ hI.1 v) (m3_in wd125 wd126 wd2) wd127 nm_yX10_isSower ⟨rfl, rfl⟩ ⟨by decide, by decide⟩ rfl hl.1 rfl (Nat.le_of_ble_eq_true rfl) dX10_guessed_1 ⟨Nat.zero_le _, Nat.zero_le _⟩) (fun r2 σ1 H locs hr2 hw => ?_)
  rw [hr2.1] at hw
  have hr2 := hr2.2
  refine lv_if_ne (tgt := 9) hx hb dX10_guessed_4 (by decide) (fun c4 => ?_) (fun c4 => ?_)
  · have c4i := mt Int32.toInt_inj.mp c4
    have p4 := bz1 hr2 c4
    refine lv_iload_n hx hb dX10_guessed_9 rfl (lv_at hl 2 rfl) ?_
    refine te_vi hw (ru_S (As := [.int w]) (rest := []) hx hb hml hts hown hk hw (c_X10_isImage l G hG σ hI.1 w) (m3_in wd436 wd437 wd2) wd438 nm_yX10_isImage ⟨rfl, rfl⟩ ⟨by decide, by decide⟩ rfl hl.1 rfl (Nat.le_of_ble_eq_true rfl) dX10_guessed_10 ⟨Nat.zero_le _, Nat.zero_le _⟩) (fun r4 σ3 H locs hr4 hw => ?_)
    rw [hr4.1] at hw
    have hr4 := hr4.2
    refine lv_if_ne (tgt := 19) hx hb dX10_guessed_13 (by decide) (fun c13 => ?_) (fun c13 => ?_)
    · have c13i := mt Int32.toInt_inj.mp c13
      have p13 := bz1 hr4 c13
      refine lv_aload_n hx hb dX10_guessed_19 rfl (lv_at hl 0 rfl) ?_
      refine tg_get (ci := 9) (k := 3) (v := .ref (ad G (40))) hx hb hts hown hk hw (en9 (rfl : nk 0 = 9)) rfl inlX10 (by decide) wd22 rfl dX10_guessed_20 ?_
      refine lv_iload_n hx hb dX10_guessed_23 rfl (lv_at hl 2 rfl) ?_
      have hv24 : vp_in w 2 := vin ⟨by omega, by omega⟩
      refine tg_zald hx hb hk hw (en12 (rfl : nk 40 = 12)) hv24 dX10_guessed_24 ?_
      refine lv_topi (fun x5 ex5 => ?_)
      refine lv_if_ne (tgt := 31) hx hb dX10_guessed_25 (by decide) (fun c25 => ?_) (fun c25 => ?_)
      · have c25i := mt Int32.toInt_inj.mp c25
        refine lv_aload_n hx hb dX10_guessed_31 rfl (lv_at hl 0 rfl) ?_
        refine tg_get (ci := 9) (k := 0) (v := .ref (ad G (1))) hx hb hts hown hk hw (en9 (rfl : nk 0 = 9)) rfl inlX10 (by decide) wd15 rfl dX10_guessed_32 ?_
        refine te_vi hw (ru_V (As := []) (rest := []) (C := RX4) hx hb hml hts hown hk hw (c_X4_firstFault l G hG σ hI.1) (m4_in wd226 wd227 wd228 wd14) wd229 (en4 (rfl : nk 1 = 4)) rfl rfl rfl nm_yX4_firstFault ⟨rfl, rfl⟩ ⟨by decide, by decide⟩ rfl hl.1 rfl (Nat.le_of_ble_eq_true rfl) dX10_guessed_35 ⟨Nat.zero_le _, Nat.zero_le _⟩) (fun r7 σ6 H locs hr7 hw => ?_)
        rw [hr7.1] at hw
        have hr7 := hr7.2
        refine lv_bipush (v := -6) hx hb dX10_guessed_38 (by decide) ?_
        refine lv_icmp_eq (tgt := 46) hx hb dX10_guessed_40 (by decide) (fun c40 => ?_) (fun c40 => ?_)
        · have or7 := i32b r7
          have c40i := congrArg Int32.toInt c40
          refine lv_iconst (v := 0) hx hb dX10_guessed_46 (by decide) ?_
          refine lv_istore_n (lv' := [(3, .int (0 : Int32)), (0, .ref (ad G (0))), (1, .int v), (2, .int w)]) hx hb dX10_guessed_47 rfl hl (by decide) rfl (fun ls hl => ?_)
          refine lv_iconst (v := 0) hx hb dX10_guessed_48 (by decide) ?_
          refine lv_istore (lv' := [(4, .int (0 : Int32)), (3, .int (0 : Int32)), (0, .ref (ad G (0))), (1, .int v), (2, .int w)]) hx hb dX10_guessed_49 hl (by decide) rfl (fun ls hl => ?_)
          have cut51 : ∀ (n : Nat) (z3_51 : Int32) (z4_51 : Int32) (σc51 : Sg) (H : Heap) (locs : List Loc) (ls : Array Slot), (0 ≤ z4_51.toInt ∧ z4_51.toInt ≤ 5) → K0 σ σc51 → ((5 - z4_51.toInt).toNat : Int) < (n : Int) → Wo G σc51 s H locs → lv_has ls 5 [(0, .ref (ad G (0))), (1, .int v), (2, .int w), (3, .int z3_51), (4, .int z4_51)] → W p l e (rmO 5 124) s m a below meth c H locs 0 0 Q (F0 m 51 ls []) := by
            intro n51
            induction n51 with
            | zero =>
              intro z3_51 z4_51 σc51 H locs ls f51_0 hI hm51 hw hl
              exfalso; omega
            | succ n51 ih51 =>
              intro z3_51 z4_51 σc51 H locs ls f51_0 hI hm51 hw hl
              refine lv_iload hx hb dX10_guessed_51 (lv_at hl 4 rfl) ?_
              refine tg_gets hx hb hts hown hk.2.1.1 hw wd122 dX10_guessed_53 ?_
              refine lv_iconst (v := 4) hx hb dX10_guessed_56 (by decide) ?_
              refine tg_ti hx hb hk.2.1.1 hw (vin ⟨by omega, by omega⟩) dX10_guessed_57 ?_
              refine lv_topi (fun x8 ex8 => ?_)
              have bx8 : 0 ≤ x8.toInt ∧ x8.toInt ≤ 99 := by rw [ex8]; exact mostF_bd _
              have m57 : x8.toInt = 4 := by rw [ex8]; decide
              refine lv_icmp_gt (tgt := 147) hx hb dX10_guessed_58 (by decide) (fun c58 => ?_) (fun c58 => ?_)
              · have c58i := Int32.lt_iff_toInt_lt.mp c58
                refine lv_iload_n hx hb dX10_guessed_147 rfl (lv_at hl 3 rfl) ?_
                exact ret z3_51 σc51 _ _ 148 _ (rfl) (⟨hI, trivial⟩) hw dX10_guessed_148
              · have c58i := mt Int32.lt_iff_toInt_lt.mpr c58
                refine lv_aload_n hx hb dX10_guessed_61 rfl (lv_at hl 0 rfl) ?_
                refine tg_get (ci := 9) (k := 4) (v := .ref (ad G (41))) hx hb hts hown hk hw (en9 (rfl : nk 0 = 9)) rfl inlX10 (by decide) wd23 rfl dX10_guessed_62 ?_
                refine lv_aload_n hx hb dX10_guessed_65 rfl (lv_at hl 0 rfl) ?_
                refine tg_get (ci := 9) (k := 2) (v := .ref (ad G (15))) hx hb hts hown hk hw (en9 (rfl : nk 0 = 9)) rfl inlX10 (by decide) wd20 rfl dX10_guessed_66 ?_
                refine lv_iload_n hx hb dX10_guessed_69 rfl (lv_at hl 2 rfl) ?_
                have hv70 : vp_in w 2 := vin ⟨by omega, by omega⟩
                refine tg_aald13 hx hb hk hw (en13 (rfl : nk 15 = 13)) hv70 dX10_guessed_70 ?_
                have vl70 := vcl hv70
                refine te_vv hw (ru_V (As := [.ref (ad G (15 + 1 + 12 * w.toNatClampNeg))]) (rest := []) (C := RX3) hx hb hml hts hown hk hw (c_X3_copyFrom l G hG σc51 hI.1 41 (rfl : nk 41 = 3) (15 + 1 + 12 * w.toNatClampNeg) (ke13 (rfl : nk 15 = 13) (vcl hv70)) (by omega)) (m4_in wd439 wd440 wd441 wd18) wd442 (en3 (rfl : nk 41 = 3)) rfl rfl rfl nm_yX3_copyFrom ⟨rfl, rfl⟩ ⟨by decide, by decide⟩ rfl hl.1 rfl (Nat.le_of_ble_eq_true rfl) dX10_guessed_71 ⟨Nat.zero_le _, Nat.zero_le _⟩) (fun σ9 H locs hr10 hw => ?_)
                have hI := hI.fr hr10.1 hr10.2.1 (fun x k hx => trU (by omega))
                have ghr10 := hr10.2.1
                have hr10 := hr10.2.2
                refine lv_aload_n hx hb dX10_guessed_74 rfl (lv_at hl 0 rfl) ?_
                refine tg_get (ci := 9) (k := 4) (v := .ref (ad G (41))) hx hb hts hown hk hw (en9 (rfl : nk 0 = 9)) rfl inlX10 (by decide) wd23 rfl dX10_guessed_75 ?_
                refine tg_get (ci := 3) (k := 1) (v := .ref (ad G (45))) hx hb hts hown hk hw (en3 (rfl : nk 41 = 3)) rfl inlX3 (by decide) wd123 rfl dX10_guessed_78 ?_
                refine tg_get (ci := 1) (k := 0) (v := .ref (ad G (46))) hx hb hts hown hk hw (en1 (rfl : nk 45 = 1)) rfl inlX1 (by decide) wd124 rfl dX10_guessed_81 ?_
                refine lv_iload_n hx hb dX10_guessed_84 rfl (lv_at hl 1 rfl) ?_
                have hv85 : vp_in v 4 := vin ⟨by omega, by omega⟩
                refine tg_aald14 hx hb hk hw (en14 (rfl : nk 46 = 14)) hv85 dX10_guessed_85 ?_
                have vl85 := vcl hv85
                refine lv_iconst (v := 4) hx hb dX10_guessed_86 (by decide) ?_
                refine lv_iload hx hb dX10_guessed_87 (lv_at hl 4 rfl) ?_
                refine te_vv hw (ru_V (As := [.int (4 : Int32), .int z4_51]) (rest := []) (C := RX6) hx hb hml hts hown hk hw (c_X6_put l G hG σ9 hI.1 (46 + 2 + v.toNatClampNeg) (ke14 (rfl : nk 46 = 14) (vcl hv85)) (4 : Int32) z4_51) (m4_in wd143 wd144 wd145 wd73) wd146 (en5 (ke14 (rfl : nk 46 = 14) (vcl hv85))) rfl rfl rfl nm_yX6_put ⟨rfl, rfl⟩ ⟨by decide, by decide⟩ rfl hl.1 rfl (Nat.le_of_ble_eq_true rfl) dX10_guessed_89 ⟨Nat.zero_le _, Nat.zero_le _⟩) (fun σ11 H locs hr12 hw => ?_)
                have hI := hI.go hr12.1
                have hr12 := hr12.2
                refine lv_aload_n hx hb dX10_guessed_92 rfl (lv_at hl 0 rfl) ?_
                refine tg_get (ci := 9) (k := 4) (v := .ref (ad G (41))) hx hb hts hown hk hw (en9 (rfl : nk 0 = 9)) rfl inlX10 (by decide) wd23 rfl dX10_guessed_93 ?_
                refine tg_get (ci := 3) (k := 1) (v := .ref (ad G (45))) hx hb hts hown hk hw (en3 (rfl : nk 41 = 3)) rfl inlX3 (by decide) wd123 rfl dX10_guessed_96 ?_
                refine lv_aload_n hx hb dX10_guessed_99 rfl (lv_at hl 0 rfl) ?_
                refine tg_get (ci := 9) (k := 0) (v := .ref (ad G (1))) hx hb hts hown hk hw (en9 (rfl : nk 0 = 9)) rfl inlX10 (by decide) wd15 rfl dX10_guessed_100 ?_
                refine lv_aload_n hx hb dX10_guessed_103 rfl (lv_at hl 0 rfl) ?_
                refine tg_get (ci := 9) (k := 4) (v := .ref (ad G (41))) hx hb hts hown hk hw (en9 (rfl : nk 0 = 9)) rfl inlX10 (by decide) wd23 rfl dX10_guessed_104 ?_
                refine tg_get (ci := 3) (k := 0) (v := .ref (ad G (42))) hx hb hts hown hk hw (en3 (rfl : nk 41 = 3)) rfl inlX3 (by decide) wd261 rfl dX10_guessed_107 ?_
                refine te_vi hw (ru_V (As := [.ref (ad G (1)), .ref (ad G (42))]) (rest := []) (C := RX1) hx hb hml hts hown hk hw (c_X1_goThrough l G hG σ11 hI.1 45 (rfl : nk 45 = 1) 42 (rfl : nk 42 = 2)) (m4_in wd262 wd263 wd264 wd52) wd265 (en1 (rfl : nk 45 = 1)) rfl rfl rfl nm_yX1_goThrough ⟨rfl, rfl⟩ ⟨by decide, by decide⟩ rfl hl.1 rfl (Nat.le_of_ble_eq_true rfl) dX10_guessed_110 ⟨Nat.zero_le _, Nat.zero_le _⟩) (fun r14 σ13 H locs hr14 hw => ?_)
                have hI := hI.go hr14.1
                have hr14 := hr14.2
                refine lv_pop hx hb dX10_guessed_113 rfl ?_
                refine lv_aload_n hx hb dX10_guessed_114 rfl (lv_at hl 0 rfl) ?_
                refine tg_get (ci := 9) (k := 4) (v := .ref (ad G (41))) hx hb hts hown hk hw (en9 (rfl : nk 0 = 9)) rfl inlX10 (by decide) wd23 rfl dX10_guessed_115 ?_
                refine tg_get (ci := 3) (k := 0) (v := .ref (ad G (42))) hx hb hts hown hk hw (en3 (rfl : nk 41 = 3)) rfl inlX3 (by decide) wd261 rfl dX10_guessed_118 ?_
                refine lv_aload_n hx hb dX10_guessed_121 rfl (lv_at hl 0 rfl) ?_
                refine tg_get (ci := 9) (k := 1) (v := .ref (ad G (3))) hx hb hts hown hk hw (en9 (rfl : nk 0 = 9)) rfl inlX10 (by decide) wd19 rfl dX10_guessed_122 ?_
                refine tg_get (ci := 3) (k := 0) (v := .ref (ad G (4))) hx hb hts hown hk hw (en3 (rfl : nk 3 = 3)) rfl inlX3 (by decide) wd261 rfl dX10_guessed_125 ?_
                refine te_vi hw (ru_V (As := [.ref (ad G (4))]) (rest := []) (C := RX2) hx hb hml hts hown hk hw (c_X2_hasGrainsOf l G hG σ13 hI.1 42 (rfl : nk 42 = 2) 4 (rfl : nk 4 = 2)) (m4_in wd465 wd466 wd467 wd48) wd468 (en2 (rfl : nk 42 = 2)) rfl rfl rfl nm_yX2_hasGrainsOf ⟨rfl, rfl⟩ ⟨by decide, by decide⟩ rfl hl.1 rfl (Nat.le_of_ble_eq_true rfl) dX10_guessed_128 ⟨Nat.zero_le _, Nat.zero_le _⟩) (fun r16 σ15 H locs hr16 hw => ?_)
                rw [hr16.1] at hw
                have hr16 := hr16.2
                refine lv_if_eq (tgt := 141) hx hb dX10_guessed_131 (by decide) (fun c131 => ?_) (fun c131 => ?_)
                · have c131i := congrArg Int32.toInt c131
                  obtain ⟨x17, ex17⟩ : ∃ z : Int32, z = z4_51 + (1 : Int32) := ⟨_, rfl⟩
                  refine lv_iinc (v := x17) (lv' := [(4, .int x17), (0, .ref (ad G (0))), (1, .int v), (2, .int w), (3, .int z3_51)]) hx hb dX10_guessed_141 hl (k := 4) rfl (by rw [ex17]; rfl) (by decide) rfl (fun ls hl => ?_)
                  have tx17 : x17.toInt = z4_51.toInt + 1 := by rw [ex17, Jvm.Kit.i32_add (by omega) (by omega)]; omega
                  refine lv_goto (tgt := 51) hx hb dX10_guessed_144 (by decide) ?_
                  exact ih51 z3_51 x17 σ13 _ _ _ (by omega) hI (by omega) hw (lv_sub hl [1, 2, 3, 4, 0] rfl)
                · have c131i := mt Int32.toInt_inj.mp c131
                  refine lv_iload_n hx hb dX10_guessed_134 rfl (lv_at hl 3 rfl) ?_
                  refine lv_iconst (v := 1) hx hb dX10_guessed_135 (by decide) ?_
                  refine lv_iload hx hb dX10_guessed_136 (lv_at hl 4 rfl) ?_
                  refine lv_ishl hx hb dX10_guessed_138 ?_
                  refine lv_topi (fun x18 ex18 => ?_)
                  refine lv_ior hx hb dX10_guessed_139 ?_
                  refine lv_topi (fun x19 ex19 => ?_)
                  refine lv_istore_n (lv' := [(3, .int x19), (0, .ref (ad G (0))), (1, .int v), (2, .int w), (4, .int z4_51)]) hx hb dX10_guessed_140 rfl hl (by decide) rfl (fun ls hl => ?_)
                  obtain ⟨x20, ex20⟩ : ∃ z : Int32, z = z4_51 + (1 : Int32) := ⟨_, rfl⟩
                  refine lv_iinc (v := x20) (lv' := [(4, .int x20), (3, .int x19), (0, .ref (ad G (0))), (1, .int v), (2, .int w)]) hx hb dX10_guessed_141 hl (k := 4) rfl (by rw [ex20]; rfl) (by decide) rfl (fun ls hl => ?_)
                  have tx20 : x20.toInt = z4_51.toInt + 1 := by rw [ex20, Jvm.Kit.i32_add (by omega) (by omega)]; omega
                  refine lv_goto (tgt := 51) hx hb dX10_guessed_144 (by decide) ?_
                  exact ih51 x19 x20 σ13 _ _ _ (by omega) hI (by omega) hw (lv_sub hl [2, 3, 4, 1, 0] rfl)
          exact cut51 ((((5 - (0 : Int32).toInt).toNat : Int)).toNat + 1) (0 : Int32) (0 : Int32) σ _ _ _ (by omega) hI (by omega) hw (lv_sub hl [2, 3, 4, 1, 0] rfl)
        · have or7 := i32b r7
          have c40i := mt Int32.toInt_inj.mp c40
          refine lv_bipush (v := -5) hx hb dX10_guessed_43 (by decide) ?_
          exact ret (-5 : Int32) σ _ _ 45 _ (rfl) (⟨hI, trivial⟩) hw dX10_guessed_45
      · have c25i := congrArg Int32.toInt c25
        refine lv_bipush (v := -3) hx hb dX10_guessed_28 (by decide) ?_
        exact ret (-3 : Int32) σ _ _ 30 _ (rfl) (⟨hI, trivial⟩) hw dX10_guessed_30
    · have c13i := congrArg Int32.toInt c13
      have p13 := bz0 hr4 c13
      refine lv_bipush (v := -2) hx hb dX10_guessed_16 (by decide) ?_
      exact ret (-2 : Int32) σ _ _ 18 _ (rfl) (⟨hI, trivial⟩) hw dX10_guessed_18
  · have c4i := congrArg Int32.toInt c4
    have p4 := bz0 hr2 c4
    refine lv_iconst (v := -1) hx hb dX10_guessed_7 (by decide) ?_
    exact ret (-1 : Int32) σ _ _ 8 _ (rfl) (⟨hI, trivial⟩) hw dX10_guessed_8
set_option maxHeartbeats 4000000 in
set_option maxRecDepth 100000 in
theorem c_X10_spiral (l : Launch) (G : Gg) (hG : Ginj G) (σ : Sg) (hI0 : Inv σ) (v : Int32) (w : Int32) (u : Int32) : MI l G yX10_spiral cX10_spiral 6 .int (rmO 2 51) σ [.ref (ad G (0)), .int v, .int w, .int u] (fun r σ' => K0 σ σ' ∧ (True)) := by
  refine MI.of (by decide +kernel) (Nat.le_of_ble_eq_true rfl) ?_
  intro p e s m a below meth c ls Q hx hb hml hts hown hk hw ret hl
  have hown : s.vm.findClass RX10 = some m.cls := hown
  have hl : lv_has ls 6 [(0, .ref (ad G (0))), (1, .int v), (2, .int w), (3, .int u)] := hl
  have hI : K0 σ σ := K0.rf hI0
  have Lm6 : (-6 : Int32).toInt = -6 := by decide
  have Lm2 : (-2 : Int32).toInt = -2 := by decide
  have L0 : (0 : Int32).toInt = 0 := by decide
  have L1 : (1 : Int32).toInt = 1 := by decide
  have L2 : (2 : Int32).toInt = 2 := by decide
  have L4 : (4 : Int32).toInt = 4 := by decide
  have L9 : (9 : Int32).toInt = 9 := by decide
  generalize hHe : s.heap = H at hw ⊢
  generalize hLe : ([] : List Loc) = locs at hw ⊢
  refine lv_iload_n hx hb dX10_spiral_0 rfl (lv_at hl 1 rfl) ?_
  refine lv_iconst (v := 1) hx hb dX10_spiral_1 (by decide) ?_
  refine lv_bipush (v := 9) hx hb dX10_spiral_2 (by decide) ?_
  refine te_vi hw (ru_S (As := [.int v, .int (1 : Int32), .int (9 : Int32)]) (rest := []) hx hb hml hts hown hk hw (c_X10_within l G hG σ hI.1 v (1 : Int32) (9 : Int32)) (m3_in wd128 wd129 wd2) wd130 nm_yX10_within ⟨rfl, rfl⟩ ⟨by decide, by decide⟩ rfl hl.1 rfl (Nat.le_of_ble_eq_true rfl) dX10_spiral_4 ⟨Nat.zero_le _, Nat.zero_le _⟩) (fun r2 σ1 H locs hr2 hw => ?_)
  rw [hr2.1] at hw
  have hr2 := hr2.2
  refine lv_if_eq (tgt := 32) hx hb dX10_spiral_7 (by decide) (fun c7 => ?_) (fun c7 => ?_)
  · have c7i := congrArg Int32.toInt c7
    have p7 := bz0 hr2 c7
    refine lv_bipush (v := -2) hx hb dX10_spiral_32 (by decide) ?_
    exact ret (-2 : Int32) σ _ _ 34 _ (rfl) (⟨hI, trivial⟩) hw dX10_spiral_34
  · have c7i := mt Int32.toInt_inj.mp c7
    have p7 := bz1 hr2 c7
    refine lv_iload_n hx hb dX10_spiral_10 rfl (lv_at hl 2 rfl) ?_
    refine lv_iconst (v := 0) hx hb dX10_spiral_11 (by decide) ?_
    refine tg_gets hx hb hts hown hk.2.1.1 hw wd122 dX10_spiral_12 ?_
    refine lv_iconst (v := 4) hx hb dX10_spiral_15 (by decide) ?_
    refine tg_ti hx hb hk.2.1.1 hw (vin ⟨by omega, by omega⟩) dX10_spiral_16 ?_
    refine lv_topi (fun x3 ex3 => ?_)
    have bx3 : 0 ≤ x3.toInt ∧ x3.toInt ≤ 99 := by rw [ex3]; exact mostF_bd _
    refine te_vi hw (ru_S (As := [.int w, .int (0 : Int32), .int x3]) (rest := []) hx hb hml hts hown hk hw (c_X10_within l G hG σ hI.1 w (0 : Int32) x3) (m3_in wd128 wd129 wd2) wd130 nm_yX10_within ⟨rfl, rfl⟩ ⟨by decide, by decide⟩ rfl hl.1 rfl (Nat.le_of_ble_eq_true rfl) dX10_spiral_17 ⟨Nat.zero_le _, Nat.zero_le _⟩) (fun r5 σ4 H locs hr5 hw => ?_)
    rw [hr5.1] at hw
    have hr5 := hr5.2
    refine lv_if_eq (tgt := 32) hx hb dX10_spiral_20 (by decide) (fun c20 => ?_) (fun c20 => ?_)
    · have c20i := congrArg Int32.toInt c20
      have p20 := bz0 hr5 c20
      refine lv_bipush (v := -2) hx hb dX10_spiral_32 (by decide) ?_
      exact ret (-2 : Int32) σ _ _ 34 _ (rfl) (⟨hI, trivial⟩) hw dX10_spiral_34
    · have c20i := mt Int32.toInt_inj.mp c20
      have p20 := bz1 hr5 c20
      refine lv_iload_n hx hb dX10_spiral_23 rfl (lv_at hl 3 rfl) ?_
      refine lv_iconst (v := 0) hx hb dX10_spiral_24 (by decide) ?_
      refine lv_iconst (v := 1) hx hb dX10_spiral_25 (by decide) ?_
      refine te_vi hw (ru_S (As := [.int u, .int (0 : Int32), .int (1 : Int32)]) (rest := []) hx hb hml hts hown hk hw (c_X10_within l G hG σ hI.1 u (0 : Int32) (1 : Int32)) (m3_in wd128 wd129 wd2) wd130 nm_yX10_within ⟨rfl, rfl⟩ ⟨by decide, by decide⟩ rfl hl.1 rfl (Nat.le_of_ble_eq_true rfl) dX10_spiral_26 ⟨Nat.zero_le _, Nat.zero_le _⟩) (fun r7 σ6 H locs hr7 hw => ?_)
      rw [hr7.1] at hw
      have hr7 := hr7.2
      refine lv_if_ne (tgt := 35) hx hb dX10_spiral_29 (by decide) (fun c29 => ?_) (fun c29 => ?_)
      · have c29i := mt Int32.toInt_inj.mp c29
        have p29 := bz1 hr7 c29
        refine lv_iconst (v := 1) hx hb dX10_spiral_35 (by decide) ?_
        refine lv_iload_n hx hb dX10_spiral_36 rfl (lv_at hl 2 rfl) ?_
        refine lv_iadd hx hb dX10_spiral_37 ?_
        refine lv_topi (fun x8 ex8 => ?_)
        have tx8 : x8.toInt = (1 : Int32).toInt + w.toInt := by rw [ex8]; exact Jvm.Kit.i32_add (by omega) (by omega)
        refine lv_iconst (v := 2) hx hb dX10_spiral_38 (by decide) ?_
        refine lv_isub hx hb dX10_spiral_39 ?_
        refine lv_topi (fun x9 ex9 => ?_)
        have tx9 : x9.toInt = x8.toInt - (2 : Int32).toInt := by rw [ex9]; exact Jvm.Kit.i32_sub (by omega) (by omega)
        refine lv_istore (lv' := [(4, .int x9), (0, .ref (ad G (0))), (1, .int v), (2, .int w), (3, .int u)]) hx hb dX10_spiral_40 hl (by decide) rfl (fun ls hl => ?_)
        refine lv_iload hx hb dX10_spiral_42 (lv_at hl 0 rfl) ?_
        refine lv_if_ne (tgt := 50) hx hb dX10_spiral_44 (by decide) (fun c44 => ?_) (fun c44 => ?_)
        · have c44i := mt Int32.toInt_inj.mp c44
          refine lv_iload hx hb dX10_spiral_50 (lv_at hl 0 rfl) ?_
          refine te_vi hw (ru_S (As := [.int x9]) (rest := []) hx hb hml hts hown hk hw (c_X10_turnsAllRound l G hG σ hI.1 x9) (m3_in wd485 wd486 wd2) wd487 nm_yX10_turnsAllRound ⟨rfl, rfl⟩ ⟨by decide, by decide⟩ rfl hl.1 rfl (Nat.le_of_ble_eq_true rfl) dX10_spiral_52 ⟨Nat.zero_le _, Nat.zero_le _⟩) (fun r11 σ10 H locs hr11 hw => ?_)
          rw [hr11.1] at hw
          have hr11 := hr11.2
          refine lv_istore (lv' := [(5, .int r11), (4, .int x9), (0, .ref (ad G (0))), (1, .int v), (2, .int w), (3, .int u)]) hx hb dX10_spiral_55 hl (by decide) rfl (fun ls hl => ?_)
          refine lv_iload_n hx hb dX10_spiral_57 rfl (lv_at hl 5 rfl) ?_
          refine lv_if_ne (tgt := 66) hx hb dX10_spiral_58 (by decide) (fun c58 => ?_) (fun c58 => ?_)
          · have c58i := mt Int32.toInt_inj.mp c58
            refine lv_aload_n hx hb dX10_spiral_66 rfl (lv_at hl 2 rfl) ?_
            refine tg_get (ci := 9) (k := 8) (v := .ref (ad G (75))) hx hb hts hown hk hw (en9 (rfl : nk 0 = 9)) rfl inlX10 (by decide) wd36 rfl dX10_spiral_67 ?_
            refine lv_iload_n hx hb dX10_spiral_70 rfl (lv_at hl 3 rfl) ?_
            refine lv_iload hx hb dX10_spiral_71 (lv_at hl 1 rfl) ?_
            refine lv_iload hx hb dX10_spiral_73 (lv_at hl 0 rfl) ?_
            refine te_vi hw (ru_V (As := [.int v, .int x9, .int r11]) (rest := []) (C := RX9) hx hb hml hts hown hk hw (c_X9_cellsOf l G hG σ hI.1 v x9 r11) (m4_in wd489 wd490 wd491 wd35) wd492 (en8 (rfl : nk 75 = 8)) rfl rfl rfl nm_yX9_cellsOf ⟨rfl, rfl⟩ ⟨by decide, by decide⟩ rfl hl.1 rfl (Nat.le_of_ble_eq_true rfl) dX10_spiral_75 ⟨Nat.zero_le _, Nat.zero_le _⟩) (fun r13 σ12 H locs hr13 hw => ?_)
            have hI := hI.go hr13.1
            have hr13 := hr13.2
            exact ret r13 σ12 _ _ 78 _ (rfl) (⟨hI, trivial⟩) hw dX10_spiral_78
          · have c58i := congrArg Int32.toInt c58
            refine lv_iload hx hb dX10_spiral_61 (lv_at hl 0 rfl) ?_
            refine lv_goto (tgt := 78) hx hb dX10_spiral_63 (by decide) ?_
            exact ret r11 σ _ _ 78 _ (rfl) (⟨hI, trivial⟩) hw dX10_spiral_78
        · have c44i := congrArg Int32.toInt c44
          refine lv_bipush (v := -6) hx hb dX10_spiral_47 (by decide) ?_
          exact ret (-6 : Int32) σ _ _ 49 _ (rfl) (⟨hI, trivial⟩) hw dX10_spiral_49
      · have c29i := congrArg Int32.toInt c29
        have p29 := bz0 hr7 c29
        refine lv_bipush (v := -2) hx hb dX10_spiral_32 (by decide) ?_
        exact ret (-2 : Int32) σ _ _ 34 _ (rfl) (⟨hI, trivial⟩) hw dX10_spiral_34
set_option maxHeartbeats 4000000 in
set_option maxRecDepth 100000 in
theorem c_X10_bells (l : Launch) (G : Gg) (hG : Ginj G) (σ : Sg) (hI0 : Inv σ) (v : Int32) (w : Int32) : MI l G yX10_bells cX10_bells 3 .int (rmO 6 154) σ [.ref (ad G (0)), .int v, .int w] (fun r σ' => K0 σ σ' ∧ (True)) := by
  refine MI.of (by decide +kernel) (Nat.le_of_ble_eq_true rfl) ?_
  intro p e s m a below meth c ls Q hx hb hml hts hown hk hw ret hl
  have hown : s.vm.findClass RX10 = some m.cls := hown
  have hl : lv_has ls 3 [(0, .ref (ad G (0))), (1, .int v), (2, .int w)] := hl
  have hI : K0 σ σ := K0.rf hI0
  have Lm6 : (-6 : Int32).toInt = -6 := by decide
  have Lm5 : (-5 : Int32).toInt = -5 := by decide
  have Lm2 : (-2 : Int32).toInt = -2 := by decide
  have Lm1 : (-1 : Int32).toInt = -1 := by decide
  have L0 : (0 : Int32).toInt = 0 := by decide
  have L1 : (1 : Int32).toInt = 1 := by decide
  have L2 : (2 : Int32).toInt = 2 := by decide
  generalize hHe : s.heap = H at hw ⊢
  generalize hLe : ([] : List Loc) = locs at hw ⊢
  refine lv_iload_n hx hb dX10_bells_0 rfl (lv_at hl 1 rfl) ?_
  refine lv_iconst (v := 0) hx hb dX10_bells_1 (by decide) ?_
  refine lv_iconst (v := 2) hx hb dX10_bells_2 (by decide) ?_
  refine te_vi hw (ru_S (As := [.int v, .int (0 : Int32), .int (2 : Int32)]) (rest := []) hx hb hml hts hown hk hw (c_X10_within l G hG σ hI.1 v (0 : Int32) (2 : Int32)) (m3_in wd128 wd129 wd2) wd130 nm_yX10_within ⟨rfl, rfl⟩ ⟨by decide, by decide⟩ rfl hl.1 rfl (Nat.le_of_ble_eq_true rfl) dX10_bells_3 ⟨Nat.zero_le _, Nat.zero_le _⟩) (fun r2 σ1 H locs hr2 hw => ?_)
  rw [hr2.1] at hw
  have hr2 := hr2.2
  refine lv_if_eq (tgt := 18) hx hb dX10_bells_6 (by decide) (fun c6 => ?_) (fun c6 => ?_)
  · have c6i := congrArg Int32.toInt c6
    have p6 := bz0 hr2 c6
    refine lv_bipush (v := -2) hx hb dX10_bells_18 (by decide) ?_
    exact ret (-2 : Int32) σ _ _ 20 _ (rfl) (⟨hI, trivial⟩) hw dX10_bells_20
  · have c6i := mt Int32.toInt_inj.mp c6
    have p6 := bz1 hr2 c6
    refine lv_iload_n hx hb dX10_bells_9 rfl (lv_at hl 2 rfl) ?_
    refine lv_iconst (v := 0) hx hb dX10_bells_10 (by decide) ?_
    refine lv_iconst (v := 2) hx hb dX10_bells_11 (by decide) ?_
    refine te_vi hw (ru_S (As := [.int w, .int (0 : Int32), .int (2 : Int32)]) (rest := []) hx hb hml hts hown hk hw (c_X10_within l G hG σ hI.1 w (0 : Int32) (2 : Int32)) (m3_in wd128 wd129 wd2) wd130 nm_yX10_within ⟨rfl, rfl⟩ ⟨by decide, by decide⟩ rfl hl.1 rfl (Nat.le_of_ble_eq_true rfl) dX10_bells_12 ⟨Nat.zero_le _, Nat.zero_le _⟩) (fun r4 σ3 H locs hr4 hw => ?_)
    rw [hr4.1] at hw
    have hr4 := hr4.2
    refine lv_if_ne (tgt := 21) hx hb dX10_bells_15 (by decide) (fun c15 => ?_) (fun c15 => ?_)
    · have c15i := mt Int32.toInt_inj.mp c15
      have p15 := bz1 hr4 c15
      refine lv_aload_n hx hb dX10_bells_21 rfl (lv_at hl 0 rfl) ?_
      refine tg_get (ci := 9) (k := 0) (v := .ref (ad G (1))) hx hb hts hown hk hw (en9 (rfl : nk 0 = 9)) rfl inlX10 (by decide) wd15 rfl dX10_bells_22 ?_
      refine te_vi hw (ru_V (As := []) (rest := []) (C := RX4) hx hb hml hts hown hk hw (c_X4_firstFault l G hG σ hI.1) (m4_in wd226 wd227 wd228 wd14) wd229 (en4 (rfl : nk 1 = 4)) rfl rfl rfl nm_yX4_firstFault ⟨rfl, rfl⟩ ⟨by decide, by decide⟩ rfl hl.1 rfl (Nat.le_of_ble_eq_true rfl) dX10_bells_25 ⟨Nat.zero_le _, Nat.zero_le _⟩) (fun r6 σ5 H locs hr6 hw => ?_)
      rw [hr6.1] at hw
      have hr6 := hr6.2
      refine lv_bipush (v := -6) hx hb dX10_bells_28 (by decide) ?_
      refine lv_icmp_eq (tgt := 36) hx hb dX10_bells_30 (by decide) (fun c30 => ?_) (fun c30 => ?_)
      · have or6 := i32b r6
        have c30i := congrArg Int32.toInt c30
        refine lv_iload_n hx hb dX10_bells_36 rfl (lv_at hl 2 rfl) ?_
        refine lv_iload_n hx hb dX10_bells_37 rfl (lv_at hl 1 rfl) ?_
        refine lv_icmp_le (tgt := 44) hx hb dX10_bells_38 (by decide) (fun c38 => ?_) (fun c38 => ?_)
        · have c38i := Int32.le_iff_toInt_le.mp c38
          refine lv_aload_n hx hb dX10_bells_44 rfl (lv_at hl 0 rfl) ?_
          refine tg_get (ci := 9) (k := 6) (v := .ref (ad G (65))) hx hb hts hown hk hw (en9 (rfl : nk 0 = 9)) rfl inlX10 (by decide) wd28 rfl dX10_bells_45 ?_
          refine lv_iload_n hx hb dX10_bells_48 rfl (lv_at hl 1 rfl) ?_
          refine lv_aload_n hx hb dX10_bells_49 rfl (lv_at hl 0 rfl) ?_
          refine tg_get (ci := 9) (k := 1) (v := .ref (ad G (3))) hx hb hts hown hk hw (en9 (rfl : nk 0 = 9)) rfl inlX10 (by decide) wd19 rfl dX10_bells_50 ?_
          refine lv_aload_n hx hb dX10_bells_53 rfl (lv_at hl 0 rfl) ?_
          refine tg_get (ci := 9) (k := 0) (v := .ref (ad G (1))) hx hb hts hown hk hw (en9 (rfl : nk 0 = 9)) rfl inlX10 (by decide) wd15 rfl dX10_bells_54 ?_
          refine te_vv hw (ru_V (As := [.int v, .ref (ad G (3)), .ref (ad G (1))]) (rest := []) (C := RX0) hx hb hml hts hown hk hw (c_X0_seek l G hG σ hI.1 v (by omega)) (m4_in wd517 wd518 wd519 wd27) wd520 (en0 (rfl : nk 65 = 0)) rfl rfl rfl nm_yX0_seek ⟨rfl, rfl⟩ ⟨by decide, by decide⟩ rfl hl.1 rfl (Nat.le_of_ble_eq_true rfl) dX10_bells_57 ⟨Nat.zero_le _, Nat.zero_le _⟩) (fun σ7 H locs hr8 hw => ?_)
          have hI := hI.go hr8.1
          have hr8 := hr8.2
          refine lv_iload_n hx hb dX10_bells_60 rfl (lv_at hl 2 rfl) ?_
          refine lv_if_ne (tgt := 84) hx hb dX10_bells_61 (by decide) (fun c61 => ?_) (fun c61 => ?_)
          · have c61i := mt Int32.toInt_inj.mp c61
            refine lv_iload_n hx hb dX10_bells_84 rfl (lv_at hl 2 rfl) ?_
            refine lv_iconst (v := 1) hx hb dX10_bells_85 (by decide) ?_
            refine lv_icmp_ne (tgt := 99) hx hb dX10_bells_86 (by decide) (fun c86 => ?_) (fun c86 => ?_)
            · have c86i := mt Int32.toInt_inj.mp c86
              refine lv_aload_n hx hb dX10_bells_99 rfl (lv_at hl 0 rfl) ?_
              refine tg_get (ci := 9) (k := 6) (v := .ref (ad G (65))) hx hb hts hown hk hw (en9 (rfl : nk 0 = 9)) rfl inlX10 (by decide) wd28 rfl dX10_bells_100 ?_
              refine tg_get (ci := 0) (k := 4) (v := .int (σ7 (65) 4)) hx hb hts hown hk hw (en0 (rfl : nk 65 = 0)) rfl inlX0 (by decide) wd516 rfl dX10_bells_103 ?_
              refine lv_topi (fun x9 ex9 => ?_)
              exact ret x9 σ7 _ _ 106 _ (rfl) (⟨hI, trivial⟩) hw dX10_bells_106
            · have c86i := congrArg Int32.toInt c86
              refine lv_aload_n hx hb dX10_bells_89 rfl (lv_at hl 0 rfl) ?_
              refine tg_get (ci := 9) (k := 6) (v := .ref (ad G (65))) hx hb hts hown hk hw (en9 (rfl : nk 0 = 9)) rfl inlX10 (by decide) wd28 rfl dX10_bells_90 ?_
              refine tg_get (ci := 0) (k := 3) (v := .int (σ7 (65) 3)) hx hb hts hown hk hw (en0 (rfl : nk 65 = 0)) rfl inlX0 (by decide) wd515 rfl dX10_bells_93 ?_
              refine lv_topi (fun x10 ex10 => ?_)
              refine lv_goto (tgt := 106) hx hb dX10_bells_96 (by decide) ?_
              exact ret x10 σ7 _ _ 106 _ (rfl) (⟨hI, trivial⟩) hw dX10_bells_106
          · have c61i := congrArg Int32.toInt c61
            refine lv_aload_n hx hb dX10_bells_64 rfl (lv_at hl 0 rfl) ?_
            refine tg_get (ci := 9) (k := 1) (v := .ref (ad G (3))) hx hb hts hown hk hw (en9 (rfl : nk 0 = 9)) rfl inlX10 (by decide) wd19 rfl dX10_bells_65 ?_
            refine tg_get (ci := 3) (k := 0) (v := .ref (ad G (4))) hx hb hts hown hk hw (en3 (rfl : nk 3 = 3)) rfl inlX3 (by decide) wd261 rfl dX10_bells_68 ?_
            refine lv_iconst (v := -1) hx hb dX10_bells_71 (by decide) ?_
            refine te_vi hw (ru_V (As := [.int (-1 : Int32)]) (rest := []) (C := RX2) hx hb hml hts hown hk hw (c_X2_strays l G hG σ7 hI.1 4 (rfl : nk 4 = 2) (-1 : Int32)) (m4_in wd419 wd420 wd421 wd48) wd422 (en2 (rfl : nk 4 = 2)) rfl rfl rfl nm_yX2_strays ⟨rfl, rfl⟩ ⟨by decide, by decide⟩ rfl hl.1 rfl (Nat.le_of_ble_eq_true rfl) dX10_bells_72 ⟨Nat.zero_le _, Nat.zero_le _⟩) (fun r12 σ11 H locs hr12 hw => ?_)
            rw [hr12.1] at hw
            have hr12 := hr12.2
            refine lv_aload_n hx hb dX10_bells_75 rfl (lv_at hl 0 rfl) ?_
            refine tg_get (ci := 9) (k := 6) (v := .ref (ad G (65))) hx hb hts hown hk hw (en9 (rfl : nk 0 = 9)) rfl inlX10 (by decide) wd28 rfl dX10_bells_76 ?_
            refine tg_get (ci := 0) (k := 2) (v := .int (σ7 (65) 2)) hx hb hts hown hk hw (en0 (rfl : nk 65 = 0)) rfl inlX0 (by decide) wd514 rfl dX10_bells_79 ?_
            refine lv_topi (fun x13 ex13 => ?_)
            refine lv_iadd hx hb dX10_bells_82 ?_
            refine lv_topi (fun x14 ex14 => ?_)
            exact ret x14 σ7 _ _ 83 _ (rfl) (⟨hI, trivial⟩) hw dX10_bells_83
        · have c38i := mt Int32.le_iff_toInt_le.mpr c38
          refine lv_bipush (v := -6) hx hb dX10_bells_41 (by decide) ?_
          exact ret (-6 : Int32) σ _ _ 43 _ (rfl) (⟨hI, trivial⟩) hw dX10_bells_43
      · have or6 := i32b r6
        have c30i := mt Int32.toInt_inj.mp c30
        refine lv_bipush (v := -5) hx hb dX10_bells_33 (by decide) ?_
        exact ret (-5 : Int32) σ _ _ 35 _ (rfl) (⟨hI, trivial⟩) hw dX10_bells_35
    · have c15i := congrArg Int32.toInt c15
      have p15 := bz0 hr4 c15
      refine lv_bipush (v := -2) hx hb dX10_bells_18 (by decide) ?_
      exact ret (-2 : Int32) σ _ _ 20 _ (rfl) (⟨hI, trivial⟩) hw dX10_bells_20
set_option maxHeartbeats 4000000 in
set_option maxRecDepth 100000 in
theorem c_X10_thief (l : Launch) (G : Gg) (hG : Ginj G) (σ : Sg) (hI0 : Inv σ) (v : Int32) (w : Int32) (u : Int32) : MI l G yX10_thief cX10_thief 4 .int (rmO 5 112) σ [.ref (ad G (0)), .int v, .int w, .int u] (fun r σ' => K0 σ σ' ∧ (True)) := by
  refine MI.of (by decide +kernel) (Nat.le_of_ble_eq_true rfl) ?_
  intro p e s m a below meth c ls Q hx hb hml hts hown hk hw ret hl
  have hown : s.vm.findClass RX10 = some m.cls := hown
  have hl : lv_has ls 4 [(0, .ref (ad G (0))), (1, .int v), (2, .int w), (3, .int u)] := hl
  have hI : K0 σ σ := K0.rf hI0
  have Lm2 : (-2 : Int32).toInt = -2 := by decide
  have L0 : (0 : Int32).toInt = 0 := by decide
  have L1 : (1 : Int32).toInt = 1 := by decide
  have L2 : (2 : Int32).toInt = 2 := by decide
  generalize hHe : s.heap = H at hw ⊢
  generalize hLe : ([] : List Loc) = locs at hw ⊢
  refine lv_iload_n hx hb dX10_thief_0 rfl (lv_at hl 1 rfl) ?_
  refine te_vi hw (ru_S (As := [.int v]) (rest := []) hx hb hml hts hown hk hw (c_X10_isCell l G hG σ hI.1 v) (m3_in wd168 wd169 wd2) wd170 nm_yX10_isCell ⟨rfl, rfl⟩ ⟨by decide, by decide⟩ rfl hl.1 rfl (Nat.le_of_ble_eq_true rfl) dX10_thief_1 ⟨Nat.zero_le _, Nat.zero_le _⟩) (fun r2 σ1 H locs hr2 hw => ?_)
  rw [hr2.1] at hw
  have hr2 := hr2.2
  refine lv_if_eq (tgt := 23) hx hb dX10_thief_4 (by decide) (fun c4 => ?_) (fun c4 => ?_)
  · have c4i := congrArg Int32.toInt c4
    have p4 := bz0 hr2 c4
    refine lv_bipush (v := -2) hx hb dX10_thief_23 (by decide) ?_
    exact ret (-2 : Int32) σ _ _ 25 _ (rfl) (⟨hI, trivial⟩) hw dX10_thief_25
  · have c4i := mt Int32.toInt_inj.mp c4
    have p4 := bz1 hr2 c4
    refine lv_iload_n hx hb dX10_thief_7 rfl (lv_at hl 2 rfl) ?_
    refine te_vi hw (ru_S (As := [.int w]) (rest := []) hx hb hml hts hown hk hw (c_X10_isWay l G hG σ hI.1 w) (m3_in wd568 wd569 wd2) wd570 nm_yX10_isWay ⟨rfl, rfl⟩ ⟨by decide, by decide⟩ rfl hl.1 rfl (Nat.le_of_ble_eq_true rfl) dX10_thief_8 ⟨Nat.zero_le _, Nat.zero_le _⟩) (fun r4 σ3 H locs hr4 hw => ?_)
    rw [hr4.1] at hw
    have hr4 := hr4.2
    refine lv_if_eq (tgt := 23) hx hb dX10_thief_11 (by decide) (fun c11 => ?_) (fun c11 => ?_)
    · have c11i := congrArg Int32.toInt c11
      have p11 := bz0 hr4 c11
      refine lv_bipush (v := -2) hx hb dX10_thief_23 (by decide) ?_
      exact ret (-2 : Int32) σ _ _ 25 _ (rfl) (⟨hI, trivial⟩) hw dX10_thief_25
    · have c11i := mt Int32.toInt_inj.mp c11
      have p11 := bz1 hr4 c11
      refine lv_iload_n hx hb dX10_thief_14 rfl (lv_at hl 3 rfl) ?_
      refine lv_iconst (v := 0) hx hb dX10_thief_15 (by decide) ?_
      refine lv_iconst (v := 2) hx hb dX10_thief_16 (by decide) ?_
      refine te_vi hw (ru_S (As := [.int u, .int (0 : Int32), .int (2 : Int32)]) (rest := []) hx hb hml hts hown hk hw (c_X10_within l G hG σ hI.1 u (0 : Int32) (2 : Int32)) (m3_in wd128 wd129 wd2) wd130 nm_yX10_within ⟨rfl, rfl⟩ ⟨by decide, by decide⟩ rfl hl.1 rfl (Nat.le_of_ble_eq_true rfl) dX10_thief_17 ⟨Nat.zero_le _, Nat.zero_le _⟩) (fun r6 σ5 H locs hr6 hw => ?_)
      rw [hr6.1] at hw
      have hr6 := hr6.2
      refine lv_if_ne (tgt := 26) hx hb dX10_thief_20 (by decide) (fun c20 => ?_) (fun c20 => ?_)
      · have c20i := mt Int32.toInt_inj.mp c20
        have p20 := bz1 hr6 c20
        refine lv_aload_n hx hb dX10_thief_26 rfl (lv_at hl 0 rfl) ?_
        refine tg_get (ci := 9) (k := 7) (v := .ref (ad G (74))) hx hb hts hown hk hw (en9 (rfl : nk 0 = 9)) rfl inlX10 (by decide) wd32 rfl dX10_thief_27 ?_
        refine lv_aload_n hx hb dX10_thief_30 rfl (lv_at hl 0 rfl) ?_
        refine tg_get (ci := 9) (k := 1) (v := .ref (ad G (3))) hx hb hts hown hk hw (en9 (rfl : nk 0 = 9)) rfl inlX10 (by decide) wd19 rfl dX10_thief_31 ?_
        refine lv_iload_n hx hb dX10_thief_34 rfl (lv_at hl 1 rfl) ?_
        refine lv_iload_n hx hb dX10_thief_35 rfl (lv_at hl 2 rfl) ?_
        refine te_vv hw (ru_V (As := [.ref (ad G (3)), .int v, .int w]) (rest := []) (C := RX8) hx hb hml hts hown hk hw (c_X8_go l G hG σ hI.1 v w (by omega)) (m4_in wd571 wd572 wd573 wd31) wd574 (en7 (rfl : nk 74 = 7)) rfl rfl rfl nm_yX8_go ⟨rfl, rfl⟩ ⟨by decide, by decide⟩ rfl hl.1 rfl (Nat.le_of_ble_eq_true rfl) dX10_thief_36 ⟨Nat.zero_le _, Nat.zero_le _⟩) (fun σ7 H locs hr8 hw => ?_)
        have hI := hI.go hr8.1
        have hr8 := hr8.2
        refine lv_iload_n hx hb dX10_thief_39 rfl (lv_at hl 3 rfl) ?_
        refine lv_if_ne (tgt := 51) hx hb dX10_thief_40 (by decide) (fun c40 => ?_) (fun c40 => ?_)
        · have c40i := mt Int32.toInt_inj.mp c40
          refine lv_iload_n hx hb dX10_thief_51 rfl (lv_at hl 3 rfl) ?_
          refine lv_iconst (v := 1) hx hb dX10_thief_52 (by decide) ?_
          refine lv_icmp_ne (tgt := 66) hx hb dX10_thief_53 (by decide) (fun c53 => ?_) (fun c53 => ?_)
          · have c53i := mt Int32.toInt_inj.mp c53
            refine lv_aload_n hx hb dX10_thief_66 rfl (lv_at hl 0 rfl) ?_
            refine tg_get (ci := 9) (k := 7) (v := .ref (ad G (74))) hx hb hts hown hk hw (en9 (rfl : nk 0 = 9)) rfl inlX10 (by decide) wd32 rfl dX10_thief_67 ?_
            refine tg_get (ci := 7) (k := 2) (v := .int (σ7 (74) 2)) hx hb hts hown hk hw (en7 (rfl : nk 74 = 7)) rfl inlX8 (by decide) wd567 rfl dX10_thief_70 ?_
            refine lv_topi (fun x9 ex9 => ?_)
            exact ret x9 σ7 _ _ 73 _ (rfl) (⟨hI, trivial⟩) hw dX10_thief_73
          · have c53i := congrArg Int32.toInt c53
            refine lv_aload_n hx hb dX10_thief_56 rfl (lv_at hl 0 rfl) ?_
            refine tg_get (ci := 9) (k := 7) (v := .ref (ad G (74))) hx hb hts hown hk hw (en9 (rfl : nk 0 = 9)) rfl inlX10 (by decide) wd32 rfl dX10_thief_57 ?_
            refine tg_get (ci := 7) (k := 1) (v := .int (σ7 (74) 1)) hx hb hts hown hk hw (en7 (rfl : nk 74 = 7)) rfl inlX8 (by decide) wd566 rfl dX10_thief_60 ?_
            refine lv_topi (fun x10 ex10 => ?_)
            refine lv_goto (tgt := 73) hx hb dX10_thief_63 (by decide) ?_
            exact ret x10 σ7 _ _ 73 _ (rfl) (⟨hI, trivial⟩) hw dX10_thief_73
        · have c40i := congrArg Int32.toInt c40
          refine lv_aload_n hx hb dX10_thief_43 rfl (lv_at hl 0 rfl) ?_
          refine tg_get (ci := 9) (k := 7) (v := .ref (ad G (74))) hx hb hts hown hk hw (en9 (rfl : nk 0 = 9)) rfl inlX10 (by decide) wd32 rfl dX10_thief_44 ?_
          refine tg_get (ci := 7) (k := 0) (v := .int (σ7 (74) 0)) hx hb hts hown hk hw (en7 (rfl : nk 74 = 7)) rfl inlX8 (by decide) wd565 rfl dX10_thief_47 ?_
          refine lv_topi (fun x11 ex11 => ?_)
          exact ret x11 σ7 _ _ 50 _ (rfl) (⟨hI, trivial⟩) hw dX10_thief_50
      · have c20i := congrArg Int32.toInt c20
        have p20 := bz0 hr6 c20
        refine lv_bipush (v := -2) hx hb dX10_thief_23 (by decide) ?_
        exact ret (-2 : Int32) σ _ _ 25 _ (rfl) (⟨hI, trivial⟩) hw dX10_thief_25
set_option maxHeartbeats 4000000 in
set_option maxRecDepth 100000 in
theorem c_X10_safest (l : Launch) (G : Gg) (hG : Ginj G) (σ : Sg) (hI0 : Inv σ) (v : Int32) : MI l G yX10_safest cX10_safest 7 .int (rmO 5 112) σ [.ref (ad G (0)), .int v] (fun r σ' => K0 σ σ' ∧ (True)) := by
  refine MI.of (by decide +kernel) (Nat.le_of_ble_eq_true rfl) ?_
  intro p e s m a below meth c ls Q hx hb hml hts hown hk hw ret hl
  have hown : s.vm.findClass RX10 = some m.cls := hown
  have hl : lv_has ls 7 [(0, .ref (ad G (0))), (1, .int v)] := hl
  have hI : K0 σ σ := K0.rf hI0
  have Lm6 : (-6 : Int32).toInt = -6 := by decide
  have Lm2 : (-2 : Int32).toInt = -2 := by decide
  have L0 : (0 : Int32).toInt = 0 := by decide
  have L1 : (1 : Int32).toInt = 1 := by decide
  have L2 : (2 : Int32).toInt = 2 := by decide
  have L8 : (8 : Int32).toInt = 8 := by decide
  have L64 : (64 : Int32).toInt = 64 := by decide
  generalize hHe : s.heap = H at hw ⊢
  generalize hLe : ([] : List Loc) = locs at hw ⊢
  refine lv_iload_n hx hb dX10_safest_0 rfl (lv_at hl 1 rfl) ?_
  refine lv_iconst (v := 0) hx hb dX10_safest_1 (by decide) ?_
  refine lv_iconst (v := 2) hx hb dX10_safest_2 (by decide) ?_
  refine te_vi hw (ru_S (As := [.int v, .int (0 : Int32), .int (2 : Int32)]) (rest := []) hx hb hml hts hown hk hw (c_X10_within l G hG σ hI.1 v (0 : Int32) (2 : Int32)) (m3_in wd128 wd129 wd2) wd130 nm_yX10_within ⟨rfl, rfl⟩ ⟨by decide, by decide⟩ rfl hl.1 rfl (Nat.le_of_ble_eq_true rfl) dX10_safest_3 ⟨Nat.zero_le _, Nat.zero_le _⟩) (fun r2 σ1 H locs hr2 hw => ?_)
  rw [hr2.1] at hw
  have hr2 := hr2.2
  refine lv_if_ne (tgt := 12) hx hb dX10_safest_6 (by decide) (fun c6 => ?_) (fun c6 => ?_)
  · have c6i := mt Int32.toInt_inj.mp c6
    have p6 := bz1 hr2 c6
    refine lv_bipush (v := -6) hx hb dX10_safest_12 (by decide) ?_
    refine lv_istore_n (lv' := [(2, .int (-6 : Int32)), (0, .ref (ad G (0))), (1, .int v)]) hx hb dX10_safest_14 rfl hl (by decide) rfl (fun ls hl => ?_)
    refine lv_bipush (v := -6) hx hb dX10_safest_15 (by decide) ?_
    refine lv_istore_n (lv' := [(3, .int (-6 : Int32)), (2, .int (-6 : Int32)), (0, .ref (ad G (0))), (1, .int v)]) hx hb dX10_safest_17 rfl hl (by decide) rfl (fun ls hl => ?_)
    refine lv_bipush (v := -6) hx hb dX10_safest_18 (by decide) ?_
    refine lv_istore (lv' := [(4, .int (-6 : Int32)), (3, .int (-6 : Int32)), (2, .int (-6 : Int32)), (0, .ref (ad G (0))), (1, .int v)]) hx hb dX10_safest_20 hl (by decide) rfl (fun ls hl => ?_)
    refine lv_iconst (v := 0) hx hb dX10_safest_22 (by decide) ?_
    refine lv_istore (lv' := [(5, .int (0 : Int32)), (4, .int (-6 : Int32)), (3, .int (-6 : Int32)), (2, .int (-6 : Int32)), (0, .ref (ad G (0))), (1, .int v)]) hx hb dX10_safest_23 hl (by decide) rfl (fun ls hl => ?_)
    have cut25 : ∀ (n : Nat) (z2_25 : Int32) (z3_25 : Int32) (z4_25 : Int32) (z5_25 : Int32) (σc25 : Sg) (H : Heap) (locs : List Loc) (ls : Array Slot), (0 ≤ z5_25.toInt ∧ z5_25.toInt ≤ 64) → K0 σ σc25 → ((64 - z5_25.toInt).toNat : Int) < (n : Int) → Wo G σc25 s H locs → lv_has ls 7 [(0, .ref (ad G (0))), (1, .int v), (2, .int z2_25), (3, .int z3_25), (4, .int z4_25), (5, .int z5_25)] → W p l e (rmO 5 112) s m a below meth c H locs 0 0 Q (F0 m 25 ls []) := by
      intro n25
      induction n25 with
      | zero =>
        intro z2_25 z3_25 z4_25 z5_25 σc25 H locs ls f25_0 hI hm25 hw hl
        exfalso; omega
      | succ n25 ih25 =>
        intro z2_25 z3_25 z4_25 z5_25 σc25 H locs ls f25_0 hI hm25 hw hl
        refine lv_iload hx hb dX10_safest_25 (lv_at hl 5 rfl) ?_
        refine lv_bipush (v := 64) hx hb dX10_safest_27 (by decide) ?_
        refine lv_icmp_ge (tgt := 103) hx hb dX10_safest_29 (by decide) (fun c29 => ?_) (fun c29 => ?_)
        · have c29i := Int32.le_iff_toInt_le.mp c29
          refine lv_iload_n hx hb dX10_safest_103 rfl (lv_at hl 1 rfl) ?_
          refine lv_if_ne (tgt := 109) hx hb dX10_safest_104 (by decide) (fun c104 => ?_) (fun c104 => ?_)
          · have c104i := mt Int32.toInt_inj.mp c104
            refine lv_iload_n hx hb dX10_safest_109 rfl (lv_at hl 1 rfl) ?_
            refine lv_iconst (v := 1) hx hb dX10_safest_110 (by decide) ?_
            refine lv_icmp_ne (tgt := 118) hx hb dX10_safest_111 (by decide) (fun c111 => ?_) (fun c111 => ?_)
            · have c111i := mt Int32.toInt_inj.mp c111
              refine lv_iload hx hb dX10_safest_118 (lv_at hl 4 rfl) ?_
              exact ret z4_25 σc25 _ _ 120 _ (rfl) (⟨hI, trivial⟩) hw dX10_safest_120
            · have c111i := congrArg Int32.toInt c111
              refine lv_iload_n hx hb dX10_safest_114 rfl (lv_at hl 3 rfl) ?_
              refine lv_goto (tgt := 120) hx hb dX10_safest_115 (by decide) ?_
              exact ret z3_25 σc25 _ _ 120 _ (rfl) (⟨hI, trivial⟩) hw dX10_safest_120
          · have c104i := congrArg Int32.toInt c104
            refine lv_iload_n hx hb dX10_safest_107 rfl (lv_at hl 2 rfl) ?_
            exact ret z2_25 σc25 _ _ 108 _ (rfl) (⟨hI, trivial⟩) hw dX10_safest_108
        · have c29i := mt Int32.le_iff_toInt_le.mpr c29
          refine lv_iconst (v := 0) hx hb dX10_safest_32 (by decide) ?_
          refine lv_istore (lv' := [(6, .int (0 : Int32)), (0, .ref (ad G (0))), (1, .int v), (2, .int z2_25), (3, .int z3_25), (4, .int z4_25), (5, .int z5_25)]) hx hb dX10_safest_33 hl (by decide) rfl (fun ls hl => ?_)
          have cut35 : ∀ (n : Nat) (z2_35 : Int32) (z3_35 : Int32) (z4_35 : Int32) (z6_35 : Int32) (σc35 : Sg) (H : Heap) (locs : List Loc) (ls : Array Slot), (0 ≤ z6_35.toInt ∧ z6_35.toInt ≤ 8) → K0 σ σc35 → ((8 - z6_35.toInt).toNat : Int) < (n : Int) → Wo G σc35 s H locs → lv_has ls 7 [(0, .ref (ad G (0))), (1, .int v), (2, .int z2_35), (3, .int z3_35), (4, .int z4_35), (5, .int z5_25), (6, .int z6_35)] → W p l e (rmO 5 112) s m a below meth c H locs 0 0 Q (F0 m 35 ls []) := by
            intro n35
            induction n35 with
            | zero =>
              intro z2_35 z3_35 z4_35 z6_35 σc35 H locs ls f35_0 hI hm35 hw hl
              exfalso; omega
            | succ n35 ih35 =>
              intro z2_35 z3_35 z4_35 z6_35 σc35 H locs ls f35_0 hI hm35 hw hl
              refine lv_iload hx hb dX10_safest_35 (lv_at hl 6 rfl) ?_
              refine lv_bipush (v := 8) hx hb dX10_safest_37 (by decide) ?_
              refine lv_icmp_ge (tgt := 97) hx hb dX10_safest_39 (by decide) (fun c39 => ?_) (fun c39 => ?_)
              · have c39i := Int32.le_iff_toInt_le.mp c39
                obtain ⟨x3, ex3⟩ : ∃ z : Int32, z = z5_25 + (1 : Int32) := ⟨_, rfl⟩
                refine lv_iinc (v := x3) (lv' := [(5, .int x3), (0, .ref (ad G (0))), (1, .int v), (2, .int z2_35), (3, .int z3_35), (4, .int z4_35), (6, .int z6_35)]) hx hb dX10_safest_97 hl (k := 5) rfl (by rw [ex3]; rfl) (by decide) rfl (fun ls hl => ?_)
                have tx3 : x3.toInt = z5_25.toInt + 1 := by rw [ex3, Jvm.Kit.i32_add (by omega) (by omega)]; omega
                refine lv_goto (tgt := 25) hx hb dX10_safest_100 (by decide) ?_
                exact ih25 z2_35 z3_35 z4_35 x3 σc35 _ _ _ (by omega) hI (by omega) hw (lv_sub hl [1, 2, 3, 4, 5, 0] rfl)
              · have c39i := mt Int32.le_iff_toInt_le.mpr c39
                refine lv_iload hx hb dX10_safest_42 (lv_at hl 5 rfl) ?_
                refine te_vi hw (ru_S (As := [.int z5_25]) (rest := []) hx hb hml hts hown hk hw (c_X10_onEdge l G hG σc35 hI.1 z5_25) (m3_in wd608 wd609 wd2) wd610 nm_yX10_onEdge ⟨rfl, rfl⟩ ⟨by decide, by decide⟩ rfl hl.1 rfl (Nat.le_of_ble_eq_true rfl) dX10_safest_44 ⟨Nat.zero_le _, Nat.zero_le _⟩) (fun r5 σ4 H locs hr5 hw => ?_)
                rw [hr5.1] at hw
                have hr5 := hr5.2
                refine lv_if_eq (tgt := 97) hx hb dX10_safest_47 (by decide) (fun c47 => ?_) (fun c47 => ?_)
                · have c47i := congrArg Int32.toInt c47
                  obtain ⟨x6, ex6⟩ : ∃ z : Int32, z = z5_25 + (1 : Int32) := ⟨_, rfl⟩
                  refine lv_iinc (v := x6) (lv' := [(5, .int x6), (0, .ref (ad G (0))), (1, .int v), (2, .int z2_35), (3, .int z3_35), (4, .int z4_35), (6, .int z6_35)]) hx hb dX10_safest_97 hl (k := 5) rfl (by rw [ex6]; rfl) (by decide) rfl (fun ls hl => ?_)
                  have tx6 : x6.toInt = z5_25.toInt + 1 := by rw [ex6, Jvm.Kit.i32_add (by omega) (by omega)]; omega
                  refine lv_goto (tgt := 25) hx hb dX10_safest_100 (by decide) ?_
                  exact ih25 z2_35 z3_35 z4_35 x6 σc35 _ _ _ (by omega) hI (by omega) hw (lv_sub hl [1, 2, 3, 4, 5, 0] rfl)
                · have c47i := mt Int32.toInt_inj.mp c47
                  refine lv_aload_n hx hb dX10_safest_50 rfl (lv_at hl 0 rfl) ?_
                  refine tg_get (ci := 9) (k := 7) (v := .ref (ad G (74))) hx hb hts hown hk hw (en9 (rfl : nk 0 = 9)) rfl inlX10 (by decide) wd32 rfl dX10_safest_51 ?_
                  refine lv_aload_n hx hb dX10_safest_54 rfl (lv_at hl 0 rfl) ?_
                  refine tg_get (ci := 9) (k := 1) (v := .ref (ad G (3))) hx hb hts hown hk hw (en9 (rfl : nk 0 = 9)) rfl inlX10 (by decide) wd19 rfl dX10_safest_55 ?_
                  refine lv_iload hx hb dX10_safest_58 (lv_at hl 5 rfl) ?_
                  refine lv_iload hx hb dX10_safest_60 (lv_at hl 6 rfl) ?_
                  refine te_vv hw (ru_V (As := [.ref (ad G (3)), .int z5_25, .int z6_35]) (rest := []) (C := RX8) hx hb hml hts hown hk hw (c_X8_go l G hG σc35 hI.1 z5_25 z6_35 (by omega)) (m4_in wd571 wd572 wd573 wd31) wd574 (en7 (rfl : nk 74 = 7)) rfl rfl rfl nm_yX8_go ⟨rfl, rfl⟩ ⟨by decide, by decide⟩ rfl hl.1 rfl (Nat.le_of_ble_eq_true rfl) dX10_safest_62 ⟨Nat.zero_le _, Nat.zero_le _⟩) (fun σ7 H locs hr8 hw => ?_)
                  have hI := hI.go hr8.1
                  have hr8 := hr8.2
                  refine lv_aload_n hx hb dX10_safest_65 rfl (lv_at hl 0 rfl) ?_
                  refine tg_get (ci := 9) (k := 7) (v := .ref (ad G (74))) hx hb hts hown hk hw (en9 (rfl : nk 0 = 9)) rfl inlX10 (by decide) wd32 rfl dX10_safest_66 ?_
                  refine tg_get (ci := 7) (k := 2) (v := .int (σ7 (74) 2)) hx hb hts hown hk hw (en7 (rfl : nk 74 = 7)) rfl inlX8 (by decide) wd567 rfl dX10_safest_69 ?_
                  refine lv_topi (fun x9 ex9 => ?_)
                  refine lv_iload_n hx hb dX10_safest_72 rfl (lv_at hl 2 rfl) ?_
                  refine lv_icmp_le (tgt := 91) hx hb dX10_safest_73 (by decide) (fun c73 => ?_) (fun c73 => ?_)
                  · have ox9 := i32b x9
                    have oz2_35 := i32b z2_35
                    have c73i := Int32.le_iff_toInt_le.mp c73
                    obtain ⟨x10, ex10⟩ : ∃ z : Int32, z = z6_35 + (1 : Int32) := ⟨_, rfl⟩
                    refine lv_iinc (v := x10) (lv' := [(6, .int x10), (0, .ref (ad G (0))), (1, .int v), (2, .int z2_35), (3, .int z3_35), (4, .int z4_35), (5, .int z5_25)]) hx hb dX10_safest_91 hl (k := 6) rfl (by rw [ex10]; rfl) (by decide) rfl (fun ls hl => ?_)
                    have tx10 : x10.toInt = z6_35.toInt + 1 := by rw [ex10, Jvm.Kit.i32_add (by omega) (by omega)]; omega
                    refine lv_goto (tgt := 35) hx hb dX10_safest_94 (by decide) ?_
                    exact ih35 z2_35 z3_35 z4_35 x10 σ7 _ _ _ (by omega) hI (by omega) hw (lv_sub hl [1, 2, 3, 4, 5, 6, 0] rfl)
                  · have ox9 := i32b x9
                    have oz2_35 := i32b z2_35
                    have c73i := mt Int32.le_iff_toInt_le.mpr c73
                    refine lv_aload_n hx hb dX10_safest_76 rfl (lv_at hl 0 rfl) ?_
                    refine tg_get (ci := 9) (k := 7) (v := .ref (ad G (74))) hx hb hts hown hk hw (en9 (rfl : nk 0 = 9)) rfl inlX10 (by decide) wd32 rfl dX10_safest_77 ?_
                    refine tg_get (ci := 7) (k := 2) (v := .int (σ7 (74) 2)) hx hb hts hown hk hw (en7 (rfl : nk 74 = 7)) rfl inlX8 (by decide) wd567 rfl dX10_safest_80 ?_
                    refine lv_topi (fun x11 ex11 => ?_)
                    have qx11 : x11.toInt = x9.toInt := by rw [ex11, ex9]
                    refine lv_istore_n (lv' := [(2, .int x11), (0, .ref (ad G (0))), (1, .int v), (3, .int z3_35), (4, .int z4_35), (5, .int z5_25), (6, .int z6_35)]) hx hb dX10_safest_83 rfl hl (by decide) rfl (fun ls hl => ?_)
                    refine lv_iload hx hb dX10_safest_84 (lv_at hl 5 rfl) ?_
                    refine lv_istore_n (lv' := [(3, .int z5_25), (2, .int x11), (0, .ref (ad G (0))), (1, .int v), (4, .int z4_35), (5, .int z5_25), (6, .int z6_35)]) hx hb dX10_safest_86 rfl hl (by decide) rfl (fun ls hl => ?_)
                    refine lv_iload hx hb dX10_safest_87 (lv_at hl 6 rfl) ?_
                    refine lv_istore (lv' := [(4, .int z6_35), (3, .int z5_25), (2, .int x11), (0, .ref (ad G (0))), (1, .int v), (5, .int z5_25), (6, .int z6_35)]) hx hb dX10_safest_89 hl (by decide) rfl (fun ls hl => ?_)
                    obtain ⟨x12, ex12⟩ : ∃ z : Int32, z = z6_35 + (1 : Int32) := ⟨_, rfl⟩
                    refine lv_iinc (v := x12) (lv' := [(6, .int x12), (4, .int z6_35), (3, .int z5_25), (2, .int x11), (0, .ref (ad G (0))), (1, .int v), (5, .int z5_25)]) hx hb dX10_safest_91 hl (k := 6) rfl (by rw [ex12]; rfl) (by decide) rfl (fun ls hl => ?_)
                    have tx12 : x12.toInt = z6_35.toInt + 1 := by rw [ex12, Jvm.Kit.i32_add (by omega) (by omega)]; omega
                    refine lv_goto (tgt := 35) hx hb dX10_safest_94 (by decide) ?_
                    exact ih35 x11 z5_25 z6_35 x12 σ7 _ _ _ (by omega) hI (by omega) hw (lv_sub hl [4, 5, 3, 2, 1, 6, 0] rfl)
          exact cut35 ((((8 - (0 : Int32).toInt).toNat : Int)).toNat + 1) z2_25 z3_25 z4_25 (0 : Int32) σc25 _ _ _ (by omega) hI (by omega) hw (lv_sub hl [1, 2, 3, 4, 5, 6, 0] rfl)
    exact cut25 ((((64 - (0 : Int32).toInt).toNat : Int)).toNat + 1) (-6 : Int32) (-6 : Int32) (-6 : Int32) (0 : Int32) σ _ _ _ (by omega) hI (by omega) hw (lv_sub hl [4, 5, 3, 2, 1, 0] rfl)
  · have c6i := congrArg Int32.toInt c6
    have p6 := bz0 hr2 c6
    refine lv_bipush (v := -2) hx hb dX10_safest_9 (by decide) ?_
    exact ret (-2 : Int32) σ _ _ 11 _ (rfl) (⟨hI, trivial⟩) hw dX10_safest_11
set_option maxHeartbeats 4000000 in
set_option maxRecDepth 100000 in
theorem c_X10_swap (l : Launch) (G : Gg) (hG : Ginj G) (σ : Sg) (hI0 : Inv σ) (v : Int32) (w : Int32) : MI l G yX10_swap cX10_swap 3 .int (rmO 3 63) σ [.ref (ad G (0)), .int v, .int w] (fun r σ' => K0 σ σ' ∧ (r = if (0 ≤ v.toInt ∧ v.toInt ≤ 3 ∧ 0 ≤ w.toInt ∧ w.toInt ≤ 3 ∧ ¬ v.toInt = w.toInt) then 1 else -1)) := by
  refine MI.of (by decide +kernel) (Nat.le_of_ble_eq_true rfl) ?_
  intro p e s m a below meth c ls Q hx hb hml hts hown hk hw ret hl
  have hown : s.vm.findClass RX10 = some m.cls := hown
  have hl : lv_has ls 3 [(0, .ref (ad G (0))), (1, .int v), (2, .int w)] := hl
  have hI : K0 σ σ := K0.rf hI0
  have Lm1 : (-1 : Int32).toInt = -1 := by decide
  have L0 : (0 : Int32).toInt = 0 := by decide
  have L1 : (1 : Int32).toInt = 1 := by decide
  generalize hHe : s.heap = H at hw ⊢
  generalize hLe : ([] : List Loc) = locs at hw ⊢
  refine lv_iload_n hx hb dX10_swap_0 rfl (lv_at hl 1 rfl) ?_
  refine lv_iload_n hx hb dX10_swap_1 rfl (lv_at hl 2 rfl) ?_
  refine te_vi hw (ru_S (As := [.int v, .int w]) (rest := []) hx hb hml hts hown hk hw (c_X10_areTwoSowers l G hG σ hI.1 v w) (m3_in wd622 wd623 wd2) wd624 nm_yX10_areTwoSowers ⟨rfl, rfl⟩ ⟨by decide, by decide⟩ rfl hl.1 rfl (Nat.le_of_ble_eq_true rfl) dX10_swap_2 ⟨Nat.zero_le _, Nat.zero_le _⟩) (fun r2 σ1 H locs hr2 hw => ?_)
  rw [hr2.1] at hw
  have hr2 := hr2.2
  refine lv_if_ne (tgt := 10) hx hb dX10_swap_5 (by decide) (fun c5 => ?_) (fun c5 => ?_)
  · have c5i := mt Int32.toInt_inj.mp c5
    have p5 := bz1 hr2 c5
    refine lv_aload_n hx hb dX10_swap_10 rfl (lv_at hl 0 rfl) ?_
    refine tg_get (ci := 9) (k := 1) (v := .ref (ad G (3))) hx hb hts hown hk hw (en9 (rfl : nk 0 = 9)) rfl inlX10 (by decide) wd19 rfl dX10_swap_11 ?_
    refine tg_get (ci := 3) (k := 1) (v := .ref (ad G (7))) hx hb hts hown hk hw (en3 (rfl : nk 3 = 3)) rfl inlX3 (by decide) wd123 rfl dX10_swap_14 ?_
    refine lv_iload_n hx hb dX10_swap_17 rfl (lv_at hl 1 rfl) ?_
    refine lv_iload_n hx hb dX10_swap_18 rfl (lv_at hl 2 rfl) ?_
    refine te_vv hw (ru_V (As := [.int v, .int w]) (rest := []) (C := RX1) hx hb hml hts hown hk hw (c_X1_exchangeBags l G hG σ hI.1 7 (rfl : nk 7 = 1) v w (by omega) (by omega)) (m4_in wd625 wd626 wd627 wd52) wd628 (en1 (rfl : nk 7 = 1)) rfl rfl rfl nm_yX1_exchangeBags ⟨rfl, rfl⟩ ⟨by decide, by decide⟩ rfl hl.1 rfl (Nat.le_of_ble_eq_true rfl) dX10_swap_19 ⟨Nat.zero_le _, Nat.zero_le _⟩) (fun σ3 H locs hr4 hw => ?_)
    have hI := hI.go hr4.1
    have hr4 := hr4.2
    refine lv_iconst (v := 1) hx hb dX10_swap_22 (by decide) ?_
    exact ret (1 : Int32) σ3 _ _ 23 _ (rfl) (⟨hI, by split <;> first | rfl | (exfalso; omega)⟩) hw dX10_swap_23
  · have c5i := congrArg Int32.toInt c5
    have p5 := bz0 hr2 c5
    refine lv_iconst (v := -1) hx hb dX10_swap_8 (by decide) ?_
    exact ret (-1 : Int32) σ _ _ 9 _ (rfl) (⟨hI, by split <;> first | rfl | (exfalso; omega)⟩) hw dX10_swap_9
set_option maxHeartbeats 4000000 in
set_option maxRecDepth 100000 in
theorem c_X10_found (l : Launch) (G : Gg) (hG : Ginj G) (σ : Sg) (hI0 : Inv σ) (v : Int32) (w : Int32) : MI l G yX10_found cX10_found 5 .int (rmO 4 102) σ [.ref (ad G (0)), .int v, .int w] (fun r σ' => K0 σ σ' ∧ (True)) := by
  refine MI.of (by decide +kernel) (Nat.le_of_ble_eq_true rfl) ?_
  intro p e s m a below meth c ls Q hx hb hml hts hown hk hw ret hl
  have hown : s.vm.findClass RX10 = some m.cls := hown
  have hl : lv_has ls 5 [(0, .ref (ad G (0))), (1, .int v), (2, .int w)] := hl
  have hI : K0 σ σ := K0.rf hI0
  have Lm6 : (-6 : Int32).toInt = -6 := by decide
  have Lm5 : (-5 : Int32).toInt = -5 := by decide
  have Lm1 : (-1 : Int32).toInt = -1 := by decide
  have L0 : (0 : Int32).toInt = 0 := by decide
  have L1 : (1 : Int32).toInt = 1 := by decide
  generalize hHe : s.heap = H at hw ⊢
  generalize hLe : ([] : List Loc) = locs at hw ⊢
  refine lv_iload_n hx hb dX10_found_0 rfl (lv_at hl 1 rfl) ?_
  refine lv_iload_n hx hb dX10_found_1 rfl (lv_at hl 2 rfl) ?_
  refine te_vi hw (ru_S (As := [.int v, .int w]) (rest := []) hx hb hml hts hown hk hw (c_X10_areTwoSowers l G hG σ hI.1 v w) (m3_in wd622 wd623 wd2) wd624 nm_yX10_areTwoSowers ⟨rfl, rfl⟩ ⟨by decide, by decide⟩ rfl hl.1 rfl (Nat.le_of_ble_eq_true rfl) dX10_found_2 ⟨Nat.zero_le _, Nat.zero_le _⟩) (fun r2 σ1 H locs hr2 hw => ?_)
  rw [hr2.1] at hw
  have hr2 := hr2.2
  refine lv_if_ne (tgt := 10) hx hb dX10_found_5 (by decide) (fun c5 => ?_) (fun c5 => ?_)
  · have c5i := mt Int32.toInt_inj.mp c5
    have p5 := bz1 hr2 c5
    refine lv_aload_n hx hb dX10_found_10 rfl (lv_at hl 0 rfl) ?_
    refine tg_get (ci := 9) (k := 0) (v := .ref (ad G (1))) hx hb hts hown hk hw (en9 (rfl : nk 0 = 9)) rfl inlX10 (by decide) wd15 rfl dX10_found_11 ?_
    refine te_vi hw (ru_V (As := []) (rest := []) (C := RX4) hx hb hml hts hown hk hw (c_X4_firstFault l G hG σ hI.1) (m4_in wd226 wd227 wd228 wd14) wd229 (en4 (rfl : nk 1 = 4)) rfl rfl rfl nm_yX4_firstFault ⟨rfl, rfl⟩ ⟨by decide, by decide⟩ rfl hl.1 rfl (Nat.le_of_ble_eq_true rfl) dX10_found_14 ⟨Nat.zero_le _, Nat.zero_le _⟩) (fun r4 σ3 H locs hr4 hw => ?_)
    rw [hr4.1] at hw
    have hr4 := hr4.2
    refine lv_bipush (v := -6) hx hb dX10_found_17 (by decide) ?_
    refine lv_icmp_eq (tgt := 25) hx hb dX10_found_19 (by decide) (fun c19 => ?_) (fun c19 => ?_)
    · have or4 := i32b r4
      have c19i := congrArg Int32.toInt c19
      refine lv_aload_n hx hb dX10_found_25 rfl (lv_at hl 0 rfl) ?_
      refine tg_get (ci := 9) (k := 4) (v := .ref (ad G (41))) hx hb hts hown hk hw (en9 (rfl : nk 0 = 9)) rfl inlX10 (by decide) wd23 rfl dX10_found_26 ?_
      refine lv_aload_n hx hb dX10_found_29 rfl (lv_at hl 0 rfl) ?_
      refine tg_get (ci := 9) (k := 1) (v := .ref (ad G (3))) hx hb hts hown hk hw (en9 (rfl : nk 0 = 9)) rfl inlX10 (by decide) wd19 rfl dX10_found_30 ?_
      refine te_vv hw (ru_V (As := [.ref (ad G (3))]) (rest := []) (C := RX3) hx hb hml hts hown hk hw (c_X3_copyFrom l G hG σ hI.1 41 (rfl : nk 41 = 3) 3 (rfl : nk 3 = 3) (by omega)) (m4_in wd439 wd440 wd441 wd18) wd442 (en3 (rfl : nk 41 = 3)) rfl rfl rfl nm_yX3_copyFrom ⟨rfl, rfl⟩ ⟨by decide, by decide⟩ rfl hl.1 rfl (Nat.le_of_ble_eq_true rfl) dX10_found_33 ⟨Nat.zero_le _, Nat.zero_le _⟩) (fun σ5 H locs hr6 hw => ?_)
      have hI := hI.fr hr6.1 hr6.2.1 (fun x k hx => trU (by omega))
      have ghr6 := hr6.2.1
      have hr6 := hr6.2.2
      refine lv_aload_n hx hb dX10_found_36 rfl (lv_at hl 0 rfl) ?_
      refine tg_get (ci := 9) (k := 5) (v := .ref (ad G (53))) hx hb hts hown hk hw (en9 (rfl : nk 0 = 9)) rfl inlX10 (by decide) wd24 rfl dX10_found_37 ?_
      refine lv_aload_n hx hb dX10_found_40 rfl (lv_at hl 0 rfl) ?_
      refine tg_get (ci := 9) (k := 1) (v := .ref (ad G (3))) hx hb hts hown hk hw (en9 (rfl : nk 0 = 9)) rfl inlX10 (by decide) wd19 rfl dX10_found_41 ?_
      refine te_vv hw (ru_V (As := [.ref (ad G (3))]) (rest := []) (C := RX3) hx hb hml hts hown hk hw (c_X3_copyFrom l G hG σ5 hI.1 53 (rfl : nk 53 = 3) 3 (rfl : nk 3 = 3) (by omega)) (m4_in wd439 wd440 wd441 wd18) wd442 (en3 (rfl : nk 53 = 3)) rfl rfl rfl nm_yX3_copyFrom ⟨rfl, rfl⟩ ⟨by decide, by decide⟩ rfl hl.1 rfl (Nat.le_of_ble_eq_true rfl) dX10_found_44 ⟨Nat.zero_le _, Nat.zero_le _⟩) (fun σ7 H locs hr8 hw => ?_)
      have hI := hI.fr hr8.1 hr8.2.1 (fun x k hx => trU (by omega))
      have ghr8 := hr8.2.1
      have hr8 := hr8.2.2
      refine lv_aload_n hx hb dX10_found_47 rfl (lv_at hl 0 rfl) ?_
      refine tg_get (ci := 9) (k := 5) (v := .ref (ad G (53))) hx hb hts hown hk hw (en9 (rfl : nk 0 = 9)) rfl inlX10 (by decide) wd24 rfl dX10_found_48 ?_
      refine tg_get (ci := 3) (k := 1) (v := .ref (ad G (57))) hx hb hts hown hk hw (en3 (rfl : nk 53 = 3)) rfl inlX3 (by decide) wd123 rfl dX10_found_51 ?_
      refine lv_iload_n hx hb dX10_found_54 rfl (lv_at hl 1 rfl) ?_
      refine lv_iload_n hx hb dX10_found_55 rfl (lv_at hl 2 rfl) ?_
      refine te_vv hw (ru_V (As := [.int v, .int w]) (rest := []) (C := RX1) hx hb hml hts hown hk hw (c_X1_exchangeBags l G hG σ7 hI.1 57 (rfl : nk 57 = 1) v w (by omega) (by omega)) (m4_in wd625 wd626 wd627 wd52) wd628 (en1 (rfl : nk 57 = 1)) rfl rfl rfl nm_yX1_exchangeBags ⟨rfl, rfl⟩ ⟨by decide, by decide⟩ rfl hl.1 rfl (Nat.le_of_ble_eq_true rfl) dX10_found_56 ⟨Nat.zero_le _, Nat.zero_le _⟩) (fun σ9 H locs hr10 hw => ?_)
      have hI := hI.go hr10.1
      have hr10 := hr10.2
      refine lv_aload_n hx hb dX10_found_59 rfl (lv_at hl 0 rfl) ?_
      refine tg_get (ci := 9) (k := 4) (v := .ref (ad G (41))) hx hb hts hown hk hw (en9 (rfl : nk 0 = 9)) rfl inlX10 (by decide) wd23 rfl dX10_found_60 ?_
      refine tg_get (ci := 3) (k := 1) (v := .ref (ad G (45))) hx hb hts hown hk hw (en3 (rfl : nk 41 = 3)) rfl inlX3 (by decide) wd123 rfl dX10_found_63 ?_
      refine lv_bipush (v := -6) hx hb dX10_found_66 (by decide) ?_
      refine tg_put (ci := 1) (k := 3) (σ' := up2 σ9 (45) 3 (-6 : Int32)) hx hb hts hown hk hG hw tyX1 (en1 (rfl : nk 45 = 1)) rfl inlX1 tyX1_ok nmX1 (by decide) wd645 rfl rfl rfl (Nat.le_of_ble_eq_true rfl) (pu1_3 (rfl : nk 45 = 1)) (fun _ h => up2_ne h) dX10_found_68 (fun H locs hw => ?_)
      obtain ⟨σ11, eσ11⟩ : ∃ z, z = up2 σ9 (45) 3 (-6 : Int32) := ⟨_, rfl⟩
      rw [← eσ11] at hw
      have hI : K0 σ σ11 := by rw [eσ11]; exact hI.up (rfl) (rg_no (by rw [(rfl : nk 45 = 1)]; rfl))
      refine lv_aload_n hx hb dX10_found_71 rfl (lv_at hl 0 rfl) ?_
      refine tg_get (ci := 9) (k := 5) (v := .ref (ad G (53))) hx hb hts hown hk hw (en9 (rfl : nk 0 = 9)) rfl inlX10 (by decide) wd24 rfl dX10_found_72 ?_
      refine tg_get (ci := 3) (k := 1) (v := .ref (ad G (57))) hx hb hts hown hk hw (en3 (rfl : nk 53 = 3)) rfl inlX3 (by decide) wd123 rfl dX10_found_75 ?_
      refine lv_bipush (v := -6) hx hb dX10_found_78 (by decide) ?_
      refine tg_put (ci := 1) (k := 3) (σ' := up2 σ11 (57) 3 (-6 : Int32)) hx hb hts hown hk hG hw tyX1 (en1 (rfl : nk 57 = 1)) rfl inlX1 tyX1_ok nmX1 (by decide) wd645 rfl rfl rfl (Nat.le_of_ble_eq_true rfl) (pu1_3 (rfl : nk 57 = 1)) (fun _ h => up2_ne h) dX10_found_80 (fun H locs hw => ?_)
      obtain ⟨σ12, eσ12⟩ : ∃ z, z = up2 σ11 (57) 3 (-6 : Int32) := ⟨_, rfl⟩
      rw [← eσ12] at hw
      have hI : K0 σ σ12 := by rw [eσ12]; exact hI.up (rfl) (rg_no (by rw [(rfl : nk 57 = 1)]; rfl))
      refine lv_iconst (v := 0) hx hb dX10_found_83 (by decide) ?_
      refine lv_istore_n (lv' := [(3, .int (0 : Int32)), (0, .ref (ad G (0))), (1, .int v), (2, .int w)]) hx hb dX10_found_84 rfl hl (by decide) rfl (fun ls hl => ?_)
      refine lv_iconst (v := 0) hx hb dX10_found_85 (by decide) ?_
      refine lv_istore (lv' := [(4, .int (0 : Int32)), (3, .int (0 : Int32)), (0, .ref (ad G (0))), (1, .int v), (2, .int w)]) hx hb dX10_found_86 hl (by decide) rfl (fun ls hl => ?_)
      have cut88 : ∀ (n : Nat) (z3_88 : Int32) (z4_88 : Int32) (σc88 : Sg) (H : Heap) (locs : List Loc) (ls : Array Slot), (0 ≤ z4_88.toInt ∧ z4_88.toInt ≤ 40) → K0 σ σc88 → ((40 - z4_88.toInt).toNat : Int) < (n : Int) → Wo G σc88 s H locs → lv_has ls 5 [(0, .ref (ad G (0))), (1, .int v), (2, .int w), (3, .int z3_88), (4, .int z4_88)] → W p l e (rmO 4 102) s m a below meth c H locs 0 0 Q (F0 m 88 ls []) := by
        intro n88
        induction n88 with
        | zero =>
          intro z3_88 z4_88 σc88 H locs ls f88_0 hI hm88 hw hl
          exfalso; omega
        | succ n88 ih88 =>
          intro z3_88 z4_88 σc88 H locs ls f88_0 hI hm88 hw hl
          refine lv_iload hx hb dX10_found_88 (lv_at hl 4 rfl) ?_
          refine lv_aload_n hx hb dX10_found_90 rfl (lv_at hl 0 rfl) ?_
          refine tg_get (ci := 9) (k := 0) (v := .ref (ad G (1))) hx hb hts hown hk hw (en9 (rfl : nk 0 = 9)) rfl inlX10 (by decide) wd15 rfl dX10_found_91 ?_
          refine tg_get (ci := 4) (k := 1) (v := .int (σc88 (1) 1)) hx hb hts hown hk hw (en4 (rfl : nk 1 = 4)) rfl inlX4 (by decide) wd201 rfl dX10_found_94 ?_
          refine lv_topi (fun x13 ex13 => ?_)
          have bx13 : 0 ≤ x13.toInt ∧ x13.toInt ≤ 40 := by rw [ex13]; exact hI.1 _ _ _ _ (by rw [(rfl : nk 1 = 4)]; rfl)
          have ux13 : x13.toInt = (σc88 (1) 1).toInt := by rw [ex13]
          refine lv_icmp_ge (tgt := 192) hx hb dX10_found_97 (by decide) (fun c97 => ?_) (fun c97 => ?_)
          · have c97i := Int32.le_iff_toInt_le.mp c97
            refine lv_bipush (v := -6) hx hb dX10_found_192 (by decide) ?_
            exact ret (-6 : Int32) σc88 _ _ 194 _ (rfl) (⟨hI, trivial⟩) hw dX10_found_194
          · have c97i := mt Int32.le_iff_toInt_le.mpr c97
            refine lv_aload_n hx hb dX10_found_100 rfl (lv_at hl 0 rfl) ?_
            refine tg_get (ci := 9) (k := 0) (v := .ref (ad G (1))) hx hb hts hown hk hw (en9 (rfl : nk 0 = 9)) rfl inlX10 (by decide) wd15 rfl dX10_found_101 ?_
            refine lv_iload hx hb dX10_found_104 (lv_at hl 4 rfl) ?_
            refine te_vi hw (ru_V (As := [.int z4_88]) (rest := []) (C := RX4) hx hb hml hts hown hk hw (c_X4_startsPart l G hG σc88 hI.1 z4_88) (m4_in wd646 wd268 wd269 wd14) wd270 (en4 (rfl : nk 1 = 4)) rfl rfl rfl nm_yX4_startsPart ⟨rfl, rfl⟩ ⟨by decide, by decide⟩ rfl hl.1 rfl (Nat.le_of_ble_eq_true rfl) dX10_found_106 ⟨Nat.zero_le _, Nat.zero_le _⟩) (fun r15 σ14 H locs hr15 hw => ?_)
            rw [hr15.1] at hw
            have hr15 := hr15.2
            refine lv_if_ne (tgt := 115) hx hb dX10_found_109 (by decide) (fun c109 => ?_) (fun c109 => ?_)
            · have c109i := mt Int32.toInt_inj.mp c109
              refine lv_aload_n hx hb dX10_found_115 rfl (lv_at hl 0 rfl) ?_
              refine tg_get (ci := 9) (k := 4) (v := .ref (ad G (41))) hx hb hts hown hk hw (en9 (rfl : nk 0 = 9)) rfl inlX10 (by decide) wd23 rfl dX10_found_116 ?_
              refine tg_get (ci := 3) (k := 1) (v := .ref (ad G (45))) hx hb hts hown hk hw (en3 (rfl : nk 41 = 3)) rfl inlX3 (by decide) wd123 rfl dX10_found_119 ?_
              refine lv_aload_n hx hb dX10_found_122 rfl (lv_at hl 0 rfl) ?_
              refine tg_get (ci := 9) (k := 0) (v := .ref (ad G (1))) hx hb hts hown hk hw (en9 (rfl : nk 0 = 9)) rfl inlX10 (by decide) wd15 rfl dX10_found_123 ?_
              refine lv_iload hx hb dX10_found_126 (lv_at hl 4 rfl) ?_
              refine lv_aload_n hx hb dX10_found_128 rfl (lv_at hl 0 rfl) ?_
              refine tg_get (ci := 9) (k := 4) (v := .ref (ad G (41))) hx hb hts hown hk hw (en9 (rfl : nk 0 = 9)) rfl inlX10 (by decide) wd23 rfl dX10_found_129 ?_
              refine tg_get (ci := 3) (k := 0) (v := .ref (ad G (42))) hx hb hts hown hk hw (en3 (rfl : nk 41 = 3)) rfl inlX3 (by decide) wd261 rfl dX10_found_132 ?_
              refine te_vv hw (ru_V (As := [.ref (ad G (1)), .int z4_88, .ref (ad G (42))]) (rest := []) (C := RX1) hx hb hml hts hown hk hw (c_X1_goPartF l G hG σc88 hI.1 45 (rfl : nk 45 = 1) z4_88 42 (rfl : nk 42 = 2)) (m4_in wd647 wd272 wd273 wd52) wd274 (en1 (rfl : nk 45 = 1)) rfl rfl rfl nm_yX1_goPart ⟨rfl, rfl⟩ ⟨by decide, by decide⟩ rfl hl.1 rfl (Nat.le_of_ble_eq_true rfl) dX10_found_135 ⟨Nat.zero_le _, Nat.zero_le _⟩) (fun σ16 H locs hr17 hw => ?_)
              have hI := hI.go hr17.1
              have hr17 := hr17.2
              refine lv_aload_n hx hb dX10_found_138 rfl (lv_at hl 0 rfl) ?_
              refine tg_get (ci := 9) (k := 5) (v := .ref (ad G (53))) hx hb hts hown hk hw (en9 (rfl : nk 0 = 9)) rfl inlX10 (by decide) wd24 rfl dX10_found_139 ?_
              refine tg_get (ci := 3) (k := 1) (v := .ref (ad G (57))) hx hb hts hown hk hw (en3 (rfl : nk 53 = 3)) rfl inlX3 (by decide) wd123 rfl dX10_found_142 ?_
              refine lv_aload_n hx hb dX10_found_145 rfl (lv_at hl 0 rfl) ?_
              refine tg_get (ci := 9) (k := 0) (v := .ref (ad G (1))) hx hb hts hown hk hw (en9 (rfl : nk 0 = 9)) rfl inlX10 (by decide) wd15 rfl dX10_found_146 ?_
              refine lv_iload hx hb dX10_found_149 (lv_at hl 4 rfl) ?_
              refine lv_aload_n hx hb dX10_found_151 rfl (lv_at hl 0 rfl) ?_
              refine tg_get (ci := 9) (k := 5) (v := .ref (ad G (53))) hx hb hts hown hk hw (en9 (rfl : nk 0 = 9)) rfl inlX10 (by decide) wd24 rfl dX10_found_152 ?_
              refine tg_get (ci := 3) (k := 0) (v := .ref (ad G (54))) hx hb hts hown hk hw (en3 (rfl : nk 53 = 3)) rfl inlX3 (by decide) wd261 rfl dX10_found_155 ?_
              refine te_vv hw (ru_V (As := [.ref (ad G (1)), .int z4_88, .ref (ad G (54))]) (rest := []) (C := RX1) hx hb hml hts hown hk hw (c_X1_goPartF l G hG σ16 hI.1 57 (rfl : nk 57 = 1) z4_88 54 (rfl : nk 54 = 2)) (m4_in wd647 wd272 wd273 wd52) wd274 (en1 (rfl : nk 57 = 1)) rfl rfl rfl nm_yX1_goPart ⟨rfl, rfl⟩ ⟨by decide, by decide⟩ rfl hl.1 rfl (Nat.le_of_ble_eq_true rfl) dX10_found_158 ⟨Nat.zero_le _, Nat.zero_le _⟩) (fun σ18 H locs hr19 hw => ?_)
              have hI := hI.go hr19.1
              have hr19 := hr19.2
              refine lv_aload_n hx hb dX10_found_161 rfl (lv_at hl 0 rfl) ?_
              refine tg_get (ci := 9) (k := 5) (v := .ref (ad G (53))) hx hb hts hown hk hw (en9 (rfl : nk 0 = 9)) rfl inlX10 (by decide) wd24 rfl dX10_found_162 ?_
              refine tg_get (ci := 3) (k := 0) (v := .ref (ad G (54))) hx hb hts hown hk hw (en3 (rfl : nk 53 = 3)) rfl inlX3 (by decide) wd261 rfl dX10_found_165 ?_
              refine lv_aload_n hx hb dX10_found_168 rfl (lv_at hl 0 rfl) ?_
              refine tg_get (ci := 9) (k := 4) (v := .ref (ad G (41))) hx hb hts hown hk hw (en9 (rfl : nk 0 = 9)) rfl inlX10 (by decide) wd23 rfl dX10_found_169 ?_
              refine tg_get (ci := 3) (k := 0) (v := .ref (ad G (42))) hx hb hts hown hk hw (en3 (rfl : nk 41 = 3)) rfl inlX3 (by decide) wd261 rfl dX10_found_172 ?_
              refine te_vi hw (ru_V (As := [.ref (ad G (42))]) (rest := []) (C := RX2) hx hb hml hts hown hk hw (c_X2_hasGrainsOf l G hG σ18 hI.1 54 (rfl : nk 54 = 2) 42 (rfl : nk 42 = 2)) (m4_in wd465 wd466 wd467 wd48) wd468 (en2 (rfl : nk 54 = 2)) rfl rfl rfl nm_yX2_hasGrainsOf ⟨rfl, rfl⟩ ⟨by decide, by decide⟩ rfl hl.1 rfl (Nat.le_of_ble_eq_true rfl) dX10_found_175 ⟨Nat.zero_le _, Nat.zero_le _⟩) (fun r21 σ20 H locs hr21 hw => ?_)
              rw [hr21.1] at hw
              have hr21 := hr21.2
              refine lv_if_ne (tgt := 183) hx hb dX10_found_178 (by decide) (fun c178 => ?_) (fun c178 => ?_)
              · have c178i := mt Int32.toInt_inj.mp c178
                obtain ⟨x22, ex22⟩ : ∃ z : Int32, z = z3_88 + (1 : Int32) := ⟨_, rfl⟩
                refine lv_iinc (v := x22) (lv' := [(3, .int x22), (0, .ref (ad G (0))), (1, .int v), (2, .int w), (4, .int z4_88)]) hx hb dX10_found_183 hl (k := 3) rfl (by rw [ex22]; rfl) (by decide) rfl (fun ls hl => ?_)
                obtain ⟨x23, ex23⟩ : ∃ z : Int32, z = z4_88 + (1 : Int32) := ⟨_, rfl⟩
                refine lv_iinc (v := x23) (lv' := [(4, .int x23), (3, .int x22), (0, .ref (ad G (0))), (1, .int v), (2, .int w)]) hx hb dX10_found_186 hl (k := 4) rfl (by rw [ex23]; rfl) (by decide) rfl (fun ls hl => ?_)
                have tx23 : x23.toInt = z4_88.toInt + 1 := by rw [ex23, Jvm.Kit.i32_add (by omega) (by omega)]; omega
                refine lv_goto (tgt := 88) hx hb dX10_found_189 (by decide) ?_
                exact ih88 x22 x23 σ18 _ _ _ (by omega) hI (by omega) hw (lv_sub hl [2, 3, 4, 1, 0] rfl)
              · have c178i := congrArg Int32.toInt c178
                refine lv_iload_n hx hb dX10_found_181 rfl (lv_at hl 3 rfl) ?_
                exact ret z3_88 σ18 _ _ 182 _ (rfl) (⟨hI, trivial⟩) hw dX10_found_182
            · have c109i := congrArg Int32.toInt c109
              refine lv_goto (tgt := 186) hx hb dX10_found_112 (by decide) ?_
              obtain ⟨x24, ex24⟩ : ∃ z : Int32, z = z4_88 + (1 : Int32) := ⟨_, rfl⟩
              refine lv_iinc (v := x24) (lv' := [(4, .int x24), (0, .ref (ad G (0))), (1, .int v), (2, .int w), (3, .int z3_88)]) hx hb dX10_found_186 hl (k := 4) rfl (by rw [ex24]; rfl) (by decide) rfl (fun ls hl => ?_)
              have tx24 : x24.toInt = z4_88.toInt + 1 := by rw [ex24, Jvm.Kit.i32_add (by omega) (by omega)]; omega
              refine lv_goto (tgt := 88) hx hb dX10_found_189 (by decide) ?_
              exact ih88 z3_88 x24 σc88 _ _ _ (by omega) hI (by omega) hw (lv_sub hl [1, 2, 3, 4, 0] rfl)
      exact cut88 ((((40 - (0 : Int32).toInt).toNat : Int)).toNat + 1) (0 : Int32) (0 : Int32) σ12 _ _ _ (by omega) hI (by omega) hw (lv_sub hl [2, 3, 4, 1, 0] rfl)
    · have or4 := i32b r4
      have c19i := mt Int32.toInt_inj.mp c19
      refine lv_bipush (v := -5) hx hb dX10_found_22 (by decide) ?_
      exact ret (-5 : Int32) σ _ _ 24 _ (rfl) (⟨hI, trivial⟩) hw dX10_found_24
  · have c5i := congrArg Int32.toInt c5
    have p5 := bz0 hr2 c5
    refine lv_iconst (v := -1) hx hb dX10_found_8 (by decide) ?_
    exact ret (-1 : Int32) σ _ _ 9 _ (rfl) (⟨hI, trivial⟩) hw dX10_found_9
set_option maxHeartbeats 4000000 in
set_option maxRecDepth 100000 in
theorem c_X10_over (l : Launch) (G : Gg) (hG : Ginj G) (σ : Sg) (hI0 : Inv σ) (v : Int32) (w : Int32) : MI l G yX10_over cX10_over 4 .int (rmO 3 68) σ [.ref (ad G (0)), .int v, .int w] (fun r σ' => σ' = σ ∧ (True)) := by
  refine MI.of (by decide +kernel) (Nat.le_of_ble_eq_true rfl) ?_
  intro p e s m a below meth c ls Q hx hb hml hts hown hk hw ret hl
  have hown : s.vm.findClass RX10 = some m.cls := hown
  have hl : lv_has ls 4 [(0, .ref (ad G (0))), (1, .int v), (2, .int w)] := hl
  have hI : K0 σ σ := K0.rf hI0
  have Lm2 : (-2 : Int32).toInt = -2 := by decide
  have Lm1 : (-1 : Int32).toInt = -1 := by decide
  have L0 : (0 : Int32).toInt = 0 := by decide
  have L3 : (3 : Int32).toInt = 3 := by decide
  have L7 : (7 : Int32).toInt = 7 := by decide
  have L10 : (10 : Int32).toInt = 10 := by decide
  generalize hHe : s.heap = H at hw ⊢
  generalize hLe : ([] : List Loc) = locs at hw ⊢
  refine lv_iload_n hx hb dX10_over_0 rfl (lv_at hl 1 rfl) ?_
  refine te_vi hw (ru_S (As := [.int v]) (rest := []) hx hb hml hts hown hk hw (c_X10_isKindOrAll l G hG σ hI.1 v) (m3_in wd388 wd389 wd2) wd390 nm_yX10_isKindOrAll ⟨rfl, rfl⟩ ⟨by decide, by decide⟩ rfl hl.1 rfl (Nat.le_of_ble_eq_true rfl) dX10_over_1 ⟨Nat.zero_le _, Nat.zero_le _⟩) (fun r2 σ1 H locs hr2 hw => ?_)
  rw [hr2.1] at hw
  have hr2 := hr2.2
  refine lv_if_ne (tgt := 9) hx hb dX10_over_4 (by decide) (fun c4 => ?_) (fun c4 => ?_)
  · have c4i := mt Int32.toInt_inj.mp c4
    have p4 := bz1 hr2 c4
    refine lv_iload_n hx hb dX10_over_9 rfl (lv_at hl 2 rfl) ?_
    refine lv_iconst (v := 0) hx hb dX10_over_10 (by decide) ?_
    refine lv_bipush (v := 7) hx hb dX10_over_11 (by decide) ?_
    refine te_vi hw (ru_S (As := [.int w, .int (0 : Int32), .int (7 : Int32)]) (rest := []) hx hb hml hts hown hk hw (c_X10_within l G hG σ hI.1 w (0 : Int32) (7 : Int32)) (m3_in wd128 wd129 wd2) wd130 nm_yX10_within ⟨rfl, rfl⟩ ⟨by decide, by decide⟩ rfl hl.1 rfl (Nat.le_of_ble_eq_true rfl) dX10_over_13 ⟨Nat.zero_le _, Nat.zero_le _⟩) (fun r4 σ3 H locs hr4 hw => ?_)
    rw [hr4.1] at hw
    have hr4 := hr4.2
    refine lv_if_ne (tgt := 22) hx hb dX10_over_16 (by decide) (fun c16 => ?_) (fun c16 => ?_)
    · have c16i := mt Int32.toInt_inj.mp c16
      have p16 := bz1 hr4 c16
      refine lv_aload_n hx hb dX10_over_22 rfl (lv_at hl 0 rfl) ?_
      refine tg_get (ci := 9) (k := 1) (v := .ref (ad G (3))) hx hb hts hown hk hw (en9 (rfl : nk 0 = 9)) rfl inlX10 (by decide) wd19 rfl dX10_over_23 ?_
      refine tg_get (ci := 3) (k := 0) (v := .ref (ad G (4))) hx hb hts hown hk hw (en3 (rfl : nk 3 = 3)) rfl inlX3 (by decide) wd261 rfl dX10_over_26 ?_
      refine lv_iload_n hx hb dX10_over_29 rfl (lv_at hl 2 rfl) ?_
      refine lv_iload_n hx hb dX10_over_30 rfl (lv_at hl 1 rfl) ?_
      refine te_vi hw (ru_V (As := [.int w, .int v]) (rest := []) (C := RX2) hx hb hml hts hown hk hw (c_X2_grainsBeyond l G hG σ hI.1 4 (rfl : nk 4 = 2) w v (by omega)) (m4_in wd659 wd660 wd661 wd48) wd662 (en2 (rfl : nk 4 = 2)) rfl rfl rfl nm_yX2_grainsBeyond ⟨rfl, rfl⟩ ⟨by decide, by decide⟩ rfl hl.1 rfl (Nat.le_of_ble_eq_true rfl) dX10_over_31 ⟨Nat.zero_le _, Nat.zero_le _⟩) (fun r6 σ5 H locs hr6 hw => ?_)
      rw [hr6.1] at hw
      have hr6 := hr6.2
      refine lv_istore_n (lv' := [(3, .int r6), (0, .ref (ad G (0))), (1, .int v), (2, .int w)]) hx hb dX10_over_34 rfl hl (by decide) rfl (fun ls hl => ?_)
      refine lv_iload_n hx hb dX10_over_35 rfl (lv_at hl 2 rfl) ?_
      refine lv_iconst (v := -1) hx hb dX10_over_36 (by decide) ?_
      refine lv_icmp_eq (tgt := 42) hx hb dX10_over_37 (by decide) (fun c37 => ?_) (fun c37 => ?_)
      · have c37i := congrArg Int32.toInt c37
        refine lv_iconst (v := 3) hx hb dX10_over_42 (by decide) ?_
        refine lv_iload_n hx hb dX10_over_43 rfl (lv_at hl 0 rfl) ?_
        refine lv_bipush (v := 10) hx hb dX10_over_44 (by decide) ?_
        refine lv_idiv hx hb dX10_over_46 (by decide) ?_
        refine lv_topi (fun x7 ex7 => ?_)
        refine lv_imul hx hb dX10_over_47 ?_
        refine lv_topi (fun x8 ex8 => ?_)
        refine lv_aload_n hx hb dX10_over_48 rfl (lv_at hl 1 rfl) ?_
        refine tg_get (ci := 9) (k := 1) (v := .ref (ad G (3))) hx hb hts hown hk hw (en9 (rfl : nk 0 = 9)) rfl inlX10 (by decide) wd19 rfl dX10_over_49 ?_
        refine tg_get (ci := 3) (k := 0) (v := .ref (ad G (4))) hx hb hts hown hk hw (en3 (rfl : nk 3 = 3)) rfl inlX3 (by decide) wd261 rfl dX10_over_52 ?_
        refine te_vi hw (ru_V (As := []) (rest := [.int x8]) (C := RX2) hx hb hml hts hown hk hw (c_X2_allGrains l G hG σ hI.1 4 (rfl : nk 4 = 2)) (m4_in wd663 wd664 wd665 wd48) wd666 (en2 (rfl : nk 4 = 2)) rfl rfl rfl nm_yX2_allGrains ⟨rfl, rfl⟩ ⟨by decide, by decide⟩ rfl hl.1 rfl (Nat.le_of_ble_eq_true rfl) dX10_over_55 ⟨Nat.zero_le _, Nat.zero_le _⟩) (fun r10 σ9 H locs hr10 hw => ?_)
        rw [hr10.1] at hw
        have hr10 := hr10.2
        refine lv_iload_n hx hb dX10_over_58 rfl (lv_at hl 0 rfl) ?_
        refine lv_isub hx hb dX10_over_59 ?_
        refine lv_topi (fun x11 ex11 => ?_)
        refine va_mmin hx hb (hml.trans hl.1.symm) hown (hts _ wd656) (hts _ wd657) (hts _ wd314) (hts _ wd658) (by decide) (Nat.le_of_ble_eq_true rfl) (Nat.zero_le _) (Nat.zero_le _) dX10_over_60 ?_
        refine lv_topi (fun x12 ex12 => ?_)
        exact ret x12 σ _ _ 63 _ (rfl) (⟨rfl, trivial⟩) hw dX10_over_63
      · have c37i := mt Int32.toInt_inj.mp c37
        refine lv_iload_n hx hb dX10_over_40 rfl (lv_at hl 0 rfl) ?_
        exact ret r6 σ _ _ 41 _ (rfl) (⟨rfl, trivial⟩) hw dX10_over_41
    · have c16i := congrArg Int32.toInt c16
      have p16 := bz0 hr4 c16
      refine lv_bipush (v := -2) hx hb dX10_over_19 (by decide) ?_
      exact ret (-2 : Int32) σ _ _ 21 _ (rfl) (⟨rfl, trivial⟩) hw dX10_over_21
  · have c4i := congrArg Int32.toInt c4
    have p4 := bz0 hr2 c4
    refine lv_iconst (v := -1) hx hb dX10_over_7 (by decide) ?_
    exact ret (-1 : Int32) σ _ _ 8 _ (rfl) (⟨rfl, trivial⟩) hw dX10_over_8
set_option maxHeartbeats 4000000 in
set_option maxRecDepth 100000 in
theorem c_X10_fruit (l : Launch) (G : Gg) (hG : Ginj G) (σ : Sg) (hI0 : Inv σ) (v : Int32) (w : Int32) : MI l G yX10_fruit cX10_fruit 4 .int (rmO 2 42) σ [.ref (ad G (0)), .int v, .int w] (fun r σ' => fruP 14 σ σ' v w r) := by
  refine MI.of (by decide +kernel) (Nat.le_of_ble_eq_true rfl) ?_
  intro p e s m a below meth c ls Q hx hb hml hts hown hk hw ret hl
  have hown : s.vm.findClass RX10 = some m.cls := hown
  have hl : lv_has ls 4 [(0, .ref (ad G (0))), (1, .int v), (2, .int w)] := hl
  have hI : K0 σ σ := K0.rf hI0
  have Lm2 : (-2 : Int32).toInt = -2 := by decide
  have Lm1 : (-1 : Int32).toInt = -1 := by decide
  have L0 : (0 : Int32).toInt = 0 := by decide
  have L1 : (1 : Int32).toInt = 1 := by decide
  have L9 : (9 : Int32).toInt = 9 := by decide
  generalize hHe : s.heap = H at hw ⊢
  generalize hLe : ([] : List Loc) = locs at hw ⊢
  refine lv_iload_n hx hb dX10_fruit_0 rfl (lv_at hl 1 rfl) ?_
  refine te_vi hw (ru_S (As := [.int v]) (rest := []) hx hb hml hts hown hk hw (c_X10_isKind l G hG σ hI.1 v) (m3_in wd131 wd132 wd2) wd133 nm_yX10_isKind ⟨rfl, rfl⟩ ⟨by decide, by decide⟩ rfl hl.1 rfl (Nat.le_of_ble_eq_true rfl) dX10_fruit_1 ⟨Nat.zero_le _, Nat.zero_le _⟩) (fun r2 σ1 H locs hr2 hw => ?_)
  rw [hr2.1] at hw
  have hr2 := hr2.2
  refine lv_if_ne (tgt := 9) hx hb dX10_fruit_4 (by decide) (fun c4 => ?_) (fun c4 => ?_)
  · have c4i := mt Int32.toInt_inj.mp c4
    have p4 := bz1 hr2 c4
    refine lv_iload_n hx hb dX10_fruit_9 rfl (lv_at hl 2 rfl) ?_
    refine lv_iconst (v := 1) hx hb dX10_fruit_10 (by decide) ?_
    refine lv_bipush (v := 9) hx hb dX10_fruit_11 (by decide) ?_
    refine te_vi hw (ru_S (As := [.int w, .int (1 : Int32), .int (9 : Int32)]) (rest := []) hx hb hml hts hown hk hw (c_X10_within l G hG σ hI.1 w (1 : Int32) (9 : Int32)) (m3_in wd128 wd129 wd2) wd130 nm_yX10_within ⟨rfl, rfl⟩ ⟨by decide, by decide⟩ rfl hl.1 rfl (Nat.le_of_ble_eq_true rfl) dX10_fruit_13 ⟨Nat.zero_le _, Nat.zero_le _⟩) (fun r4 σ3 H locs hr4 hw => ?_)
    rw [hr4.1] at hw
    have hr4 := hr4.2
    refine lv_if_ne (tgt := 22) hx hb dX10_fruit_16 (by decide) (fun c16 => ?_) (fun c16 => ?_)
    · have c16i := mt Int32.toInt_inj.mp c16
      have p16 := bz1 hr4 c16
      refine lv_aload_n hx hb dX10_fruit_22 rfl (lv_at hl 0 rfl) ?_
      refine tg_get (ci := 9) (k := 1) (v := .ref (ad G (3))) hx hb hts hown hk hw (en9 (rfl : nk 0 = 9)) rfl inlX10 (by decide) wd19 rfl dX10_fruit_23 ?_
      refine tg_get (ci := 3) (k := 2) (v := .ref (ad G (14))) hx hb hts hown hk hw (en3 (rfl : nk 3 = 3)) rfl inlX3 (by decide) wd680 rfl dX10_fruit_26 ?_
      refine lv_iload_n hx hb dX10_fruit_29 rfl (lv_at hl 1 rfl) ?_
      have hv30 : vp_in v 4 := vin ⟨by omega, by omega⟩
      refine tg_iald hx hb hk hw (en104 (rfl : nk 14 = 104)) hv30 dX10_fruit_30 ?_
      refine lv_topi (fun x5 ex5 => ?_)
      have aR := ex5
      refine lv_istore_n (lv' := [(3, .int x5), (0, .ref (ad G (0))), (1, .int v), (2, .int w)]) hx hb dX10_fruit_31 rfl hl (by decide) rfl (fun ls hl => ?_)
      refine lv_aload_n hx hb dX10_fruit_32 rfl (lv_at hl 1 rfl) ?_
      refine tg_get (ci := 9) (k := 1) (v := .ref (ad G (3))) hx hb hts hown hk hw (en9 (rfl : nk 0 = 9)) rfl inlX10 (by decide) wd19 rfl dX10_fruit_33 ?_
      refine tg_get (ci := 3) (k := 2) (v := .ref (ad G (14))) hx hb hts hown hk hw (en3 (rfl : nk 3 = 3)) rfl inlX3 (by decide) wd680 rfl dX10_fruit_36 ?_
      refine lv_iload_n hx hb dX10_fruit_39 rfl (lv_at hl 2 rfl) ?_
      refine lv_iload_n hx hb dX10_fruit_40 rfl (lv_at hl 3 rfl) ?_
      have hv41 : vp_in v 4 := vin ⟨by omega, by omega⟩
      refine tg_iast hx hb hk hG hw (ea104 (rfl : nk 14 = 104)) hv41 dX10_fruit_41 (fun H locs hw => ?_)
      obtain ⟨σ6, eσ6⟩ : ∃ z, z = up2 σ (14) v.toNatClampNeg w := ⟨_, rfl⟩
      rw [← eσ6] at hw
      have hI : K0 (up2 σ 14 v.toNatClampNeg w) σ6 := by rw [eσ6]; exact hI.put (rg_no (by rw [(rfl : nk 14 = 104)]; rfl))
      refine lv_iload_n hx hb dX10_fruit_42 rfl (lv_at hl 0 rfl) ?_
      exact ret x5 σ6 _ _ 43 _ (rfl) (Or.inr (Or.inr ⟨by omega, by omega, hI, aR⟩)) hw dX10_fruit_43
    · have c16i := congrArg Int32.toInt c16
      have p16 := bz0 hr4 c16
      refine lv_bipush (v := -2) hx hb dX10_fruit_19 (by decide) ?_
      exact ret (-2 : Int32) σ _ _ 21 _ (rfl) (Or.inr (Or.inl ⟨by omega, by omega, hI, rfl⟩)) hw dX10_fruit_21
  · have c4i := congrArg Int32.toInt c4
    have p4 := bz0 hr2 c4
    refine lv_iconst (v := -1) hx hb dX10_fruit_7 (by decide) ?_
    exact ret (-1 : Int32) σ _ _ 8 _ (rfl) (Or.inl ⟨by omega, hI, rfl⟩) hw dX10_fruit_8
set_option maxHeartbeats 4000000 in
set_option maxRecDepth 100000 in
theorem c_X10_share (l : Launch) (G : Gg) (hG : Ginj G) (σ : Sg) (hI0 : Inv σ) (v : Int32) : MI l G yX10_share cX10_share 2 .int (rmO 4 106) σ [.ref (ad G (0)), .int v] (fun r σ' => σ' = σ ∧ (True)) := by
  refine MI.of (by decide +kernel) (Nat.le_of_ble_eq_true rfl) ?_
  intro p e s m a below meth c ls Q hx hb hml hts hown hk hw ret hl
  have hown : s.vm.findClass RX10 = some m.cls := hown
  have hl : lv_has ls 2 [(0, .ref (ad G (0))), (1, .int v)] := hl
  have hI : K0 σ σ := K0.rf hI0
  have Lm1 : (-1 : Int32).toInt = -1 := by decide
  have L0 : (0 : Int32).toInt = 0 := by decide
  generalize hHe : s.heap = H at hw ⊢
  generalize hLe : ([] : List Loc) = locs at hw ⊢
  refine lv_iload_n hx hb dX10_share_0 rfl (lv_at hl 1 rfl) ?_
  refine lv_iconst (v := -1) hx hb dX10_share_1 (by decide) ?_
  refine lv_icmp_eq (tgt := 14) hx hb dX10_share_2 (by decide) (fun c2 => ?_) (fun c2 => ?_)
  · have ov := i32b v
    have c2i := congrArg Int32.toInt c2
    refine lv_iload_n hx hb dX10_share_14 rfl (lv_at hl 1 rfl) ?_
    refine lv_iconst (v := -1) hx hb dX10_share_15 (by decide) ?_
    refine lv_icmp_ne (tgt := 29) hx hb dX10_share_16 (by decide) (fun c16 => ?_) (fun c16 => ?_)
    · have c16i := mt Int32.toInt_inj.mp c16
      exfalso; omega
    · have c16i := congrArg Int32.toInt c16
      refine lv_aload_n hx hb dX10_share_19 rfl (lv_at hl 0 rfl) ?_
      refine tg_get (ci := 9) (k := 1) (v := .ref (ad G (3))) hx hb hts hown hk hw (en9 (rfl : nk 0 = 9)) rfl inlX10 (by decide) wd19 rfl dX10_share_20 ?_
      refine te_vi hw (ru_V (As := []) (rest := []) (C := RX3) hx hb hml hts hown hk hw (c_X3_harvest l G hG σ hI.1 3 (rfl : nk 3 = 3)) (m4_in wd689 wd690 wd691 wd18) wd692 (en3 (rfl : nk 3 = 3)) rfl rfl rfl nm_yX3_harvest ⟨rfl, rfl⟩ ⟨by decide, by decide⟩ rfl hl.1 rfl (Nat.le_of_ble_eq_true rfl) dX10_share_23 ⟨Nat.zero_le _, Nat.zero_le _⟩) (fun r2 σ1 H locs hr2 hw => ?_)
      rw [hr2.1] at hw
      have hr2 := hr2.2
      refine lv_goto (tgt := 37) hx hb dX10_share_26 (by decide) ?_
      exact ret r2 σ _ _ 37 _ (rfl) (⟨rfl, trivial⟩) hw dX10_share_37
  · have ov := i32b v
    have c2i := mt Int32.toInt_inj.mp c2
    refine lv_iload_n hx hb dX10_share_5 rfl (lv_at hl 1 rfl) ?_
    refine te_vi hw (ru_S (As := [.int v]) (rest := []) hx hb hml hts hown hk hw (c_X10_isSower l G hG σ hI.1 v) (m3_in wd125 wd126 wd2) wd127 nm_yX10_isSower ⟨rfl, rfl⟩ ⟨by decide, by decide⟩ rfl hl.1 rfl (Nat.le_of_ble_eq_true rfl) dX10_share_6 ⟨Nat.zero_le _, Nat.zero_le _⟩) (fun r4 σ3 H locs hr4 hw => ?_)
    rw [hr4.1] at hw
    have hr4 := hr4.2
    refine lv_if_ne (tgt := 14) hx hb dX10_share_9 (by decide) (fun c9 => ?_) (fun c9 => ?_)
    · have c9i := mt Int32.toInt_inj.mp c9
      have p9 := bz1 hr4 c9
      refine lv_iload_n hx hb dX10_share_14 rfl (lv_at hl 1 rfl) ?_
      refine lv_iconst (v := -1) hx hb dX10_share_15 (by decide) ?_
      refine lv_icmp_ne (tgt := 29) hx hb dX10_share_16 (by decide) (fun c16 => ?_) (fun c16 => ?_)
      · have c16i := mt Int32.toInt_inj.mp c16
        refine lv_aload_n hx hb dX10_share_29 rfl (lv_at hl 0 rfl) ?_
        refine tg_get (ci := 9) (k := 1) (v := .ref (ad G (3))) hx hb hts hown hk hw (en9 (rfl : nk 0 = 9)) rfl inlX10 (by decide) wd19 rfl dX10_share_30 ?_
        refine lv_iload_n hx hb dX10_share_33 rfl (lv_at hl 1 rfl) ?_
        refine te_vi hw (ru_V (As := [.int v]) (rest := []) (C := RX3) hx hb hml hts hown hk hw (c_X3_partOfHarvest l G hG σ hI.1 3 (rfl : nk 3 = 3) v (by omega)) (m4_in wd694 wd695 wd696 wd18) wd697 (en3 (rfl : nk 3 = 3)) rfl rfl rfl nm_yX3_partOfHarvest ⟨rfl, rfl⟩ ⟨by decide, by decide⟩ rfl hl.1 rfl (Nat.le_of_ble_eq_true rfl) dX10_share_34 ⟨Nat.zero_le _, Nat.zero_le _⟩) (fun r6 σ5 H locs hr6 hw => ?_)
        rw [hr6.1] at hw
        have hr6 := hr6.2
        exact ret r6 σ _ _ 37 _ (rfl) (⟨rfl, trivial⟩) hw dX10_share_37
      · have c16i := congrArg Int32.toInt c16
        exfalso; omega
    · have c9i := congrArg Int32.toInt c9
      have p9 := bz0 hr4 c9
      refine lv_iconst (v := -1) hx hb dX10_share_12 (by decide) ?_
      exact ret (-1 : Int32) σ _ _ 13 _ (rfl) (⟨rfl, trivial⟩) hw dX10_share_13
set_option maxHeartbeats 4000000 in
set_option maxRecDepth 100000 in
theorem c_X10_facing (l : Launch) (G : Gg) (hG : Ginj G) (σ : Sg) (hI0 : Inv σ) (v : Int32) (w : Int32) : MI l G yX10_facing cX10_facing 3 .int (rmO 2 46) σ [.ref (ad G (0)), .int v, .int w] (fun r σ' => σ' = σ ∧ (True)) := by
  refine MI.of (by decide +kernel) (Nat.le_of_ble_eq_true rfl) ?_
  intro p e s m a below meth c ls Q hx hb hml hts hown hk hw ret hl
  have hown : s.vm.findClass RX10 = some m.cls := hown
  have hl : lv_has ls 3 [(0, .ref (ad G (0))), (1, .int v), (2, .int w)] := hl
  have hI : K0 σ σ := K0.rf hI0
  have Lm2 : (-2 : Int32).toInt = -2 := by decide
  have Lm1 : (-1 : Int32).toInt = -1 := by decide
  have L0 : (0 : Int32).toInt = 0 := by decide
  generalize hHe : s.heap = H at hw ⊢
  generalize hLe : ([] : List Loc) = locs at hw ⊢
  refine lv_iload_n hx hb dX10_facing_0 rfl (lv_at hl 1 rfl) ?_
  refine te_vi hw (ru_S (As := [.int v]) (rest := []) hx hb hml hts hown hk hw (c_X10_isSower l G hG σ hI.1 v) (m3_in wd125 wd126 wd2) wd127 nm_yX10_isSower ⟨rfl, rfl⟩ ⟨by decide, by decide⟩ rfl hl.1 rfl (Nat.le_of_ble_eq_true rfl) dX10_facing_1 ⟨Nat.zero_le _, Nat.zero_le _⟩) (fun r2 σ1 H locs hr2 hw => ?_)
  rw [hr2.1] at hw
  have hr2 := hr2.2
  refine lv_if_ne (tgt := 9) hx hb dX10_facing_4 (by decide) (fun c4 => ?_) (fun c4 => ?_)
  · have c4i := mt Int32.toInt_inj.mp c4
    have p4 := bz1 hr2 c4
    refine lv_iload_n hx hb dX10_facing_9 rfl (lv_at hl 2 rfl) ?_
    refine te_vi hw (ru_S (As := [.int w]) (rest := []) hx hb hml hts hown hk hw (c_X10_isWay l G hG σ hI.1 w) (m3_in wd568 wd569 wd2) wd570 nm_yX10_isWay ⟨rfl, rfl⟩ ⟨by decide, by decide⟩ rfl hl.1 rfl (Nat.le_of_ble_eq_true rfl) dX10_facing_10 ⟨Nat.zero_le _, Nat.zero_le _⟩) (fun r4 σ3 H locs hr4 hw => ?_)
    rw [hr4.1] at hw
    have hr4 := hr4.2
    refine lv_if_ne (tgt := 19) hx hb dX10_facing_13 (by decide) (fun c13 => ?_) (fun c13 => ?_)
    · have c13i := mt Int32.toInt_inj.mp c13
      have p13 := bz1 hr4 c13
      refine lv_aload_n hx hb dX10_facing_19 rfl (lv_at hl 0 rfl) ?_
      refine tg_get (ci := 9) (k := 1) (v := .ref (ad G (3))) hx hb hts hown hk hw (en9 (rfl : nk 0 = 9)) rfl inlX10 (by decide) wd19 rfl dX10_facing_20 ?_
      refine tg_get (ci := 3) (k := 1) (v := .ref (ad G (7))) hx hb hts hown hk hw (en3 (rfl : nk 3 = 3)) rfl inlX3 (by decide) wd123 rfl dX10_facing_23 ?_
      refine tg_get (ci := 1) (k := 0) (v := .ref (ad G (8))) hx hb hts hown hk hw (en1 (rfl : nk 7 = 1)) rfl inlX1 (by decide) wd124 rfl dX10_facing_26 ?_
      refine lv_iload_n hx hb dX10_facing_29 rfl (lv_at hl 1 rfl) ?_
      have hv30 : vp_in v 4 := vin ⟨by omega, by omega⟩
      refine tg_aald14 hx hb hk hw (en14 (rfl : nk 8 = 14)) hv30 dX10_facing_30 ?_
      have vl30 := vcl hv30
      refine lv_iload_n hx hb dX10_facing_31 rfl (lv_at hl 2 rfl) ?_
      refine te_vi hw (ru_V (As := [.int w]) (rest := []) (C := RX6) hx hb hml hts hown hk hw (c_X6_turnsToFace l G hG σ hI.1 (8 + 2 + v.toNatClampNeg) (ke14 (rfl : nk 8 = 14) (vcl hv30)) w) (m4_in wd734 wd735 wd736 wd73) wd737 (en5 (ke14 (rfl : nk 8 = 14) (vcl hv30))) rfl rfl rfl nm_yX6_turnsToFace ⟨rfl, rfl⟩ ⟨by decide, by decide⟩ rfl hl.1 rfl (Nat.le_of_ble_eq_true rfl) dX10_facing_32 ⟨Nat.zero_le _, Nat.zero_le _⟩) (fun r6 σ5 H locs hr6 hw => ?_)
      rw [hr6.1] at hw
      have hr6 := hr6.2
      exact ret r6 σ _ _ 35 _ (rfl) (⟨rfl, trivial⟩) hw dX10_facing_35
    · have c13i := congrArg Int32.toInt c13
      have p13 := bz0 hr4 c13
      refine lv_bipush (v := -2) hx hb dX10_facing_16 (by decide) ?_
      exact ret (-2 : Int32) σ _ _ 18 _ (rfl) (⟨rfl, trivial⟩) hw dX10_facing_18
  · have c4i := congrArg Int32.toInt c4
    have p4 := bz0 hr2 c4
    refine lv_iconst (v := -1) hx hb dX10_facing_7 (by decide) ?_
    exact ret (-1 : Int32) σ _ _ 8 _ (rfl) (⟨rfl, trivial⟩) hw dX10_facing_8
set_option maxHeartbeats 4000000 in
set_option maxRecDepth 100000 in
theorem c_X10_rest (l : Launch) (G : Gg) (hG : Ginj G) (σ : Sg) (hI0 : Inv σ) (v : Int32) : MI l G yX10_rest cX10_rest 2 .int (rmO 3 69) σ [.ref (ad G (0)), .int v] (fun r σ' => σ' = σ ∧ (True)) := by
  refine MI.of (by decide +kernel) (Nat.le_of_ble_eq_true rfl) ?_
  intro p e s m a below meth c ls Q hx hb hml hts hown hk hw ret hl
  have hown : s.vm.findClass RX10 = some m.cls := hown
  have hl : lv_has ls 2 [(0, .ref (ad G (0))), (1, .int v)] := hl
  have hI : K0 σ σ := K0.rf hI0
  have Lm1 : (-1 : Int32).toInt = -1 := by decide
  have L0 : (0 : Int32).toInt = 0 := by decide
  generalize hHe : s.heap = H at hw ⊢
  generalize hLe : ([] : List Loc) = locs at hw ⊢
  refine lv_iload_n hx hb dX10_rest_0 rfl (lv_at hl 1 rfl) ?_
  refine te_vi hw (ru_S (As := [.int v]) (rest := []) hx hb hml hts hown hk hw (c_X10_isSower l G hG σ hI.1 v) (m3_in wd125 wd126 wd2) wd127 nm_yX10_isSower ⟨rfl, rfl⟩ ⟨by decide, by decide⟩ rfl hl.1 rfl (Nat.le_of_ble_eq_true rfl) dX10_rest_1 ⟨Nat.zero_le _, Nat.zero_le _⟩) (fun r2 σ1 H locs hr2 hw => ?_)
  rw [hr2.1] at hw
  have hr2 := hr2.2
  refine lv_if_ne (tgt := 9) hx hb dX10_rest_4 (by decide) (fun c4 => ?_) (fun c4 => ?_)
  · have c4i := mt Int32.toInt_inj.mp c4
    have p4 := bz1 hr2 c4
    refine lv_aload_n hx hb dX10_rest_9 rfl (lv_at hl 0 rfl) ?_
    refine tg_get (ci := 9) (k := 1) (v := .ref (ad G (3))) hx hb hts hown hk hw (en9 (rfl : nk 0 = 9)) rfl inlX10 (by decide) wd19 rfl dX10_rest_10 ?_
    refine tg_get (ci := 3) (k := 0) (v := .ref (ad G (4))) hx hb hts hown hk hw (en3 (rfl : nk 3 = 3)) rfl inlX3 (by decide) wd261 rfl dX10_rest_13 ?_
    refine lv_aload_n hx hb dX10_rest_16 rfl (lv_at hl 0 rfl) ?_
    refine tg_get (ci := 9) (k := 1) (v := .ref (ad G (3))) hx hb hts hown hk hw (en9 (rfl : nk 0 = 9)) rfl inlX10 (by decide) wd19 rfl dX10_rest_17 ?_
    refine tg_get (ci := 3) (k := 1) (v := .ref (ad G (7))) hx hb hts hown hk hw (en3 (rfl : nk 3 = 3)) rfl inlX3 (by decide) wd123 rfl dX10_rest_20 ?_
    refine tg_get (ci := 1) (k := 0) (v := .ref (ad G (8))) hx hb hts hown hk hw (en1 (rfl : nk 7 = 1)) rfl inlX1 (by decide) wd124 rfl dX10_rest_23 ?_
    refine lv_iload_n hx hb dX10_rest_26 rfl (lv_at hl 1 rfl) ?_
    have hv27 : vp_in v 4 := vin ⟨by omega, by omega⟩
    refine tg_aald14 hx hb hk hw (en14 (rfl : nk 8 = 14)) hv27 dX10_rest_27 ?_
    have vl27 := vcl hv27
    refine tg_get (ci := 5) (k := 0) (v := .int (σ (8 + 2 + v.toNatClampNeg) 0)) hx hb hts hown hk hw (en5 (ke14 (rfl : nk 8 = 14) (vcl hv27))) rfl inlX6 (by decide) wd746 rfl dX10_rest_28 ?_
    refine lv_topi (fun x3 ex3 => ?_)
    refine te_vi hw (ru_V (As := [.int x3]) (rest := []) (C := RX2) hx hb hml hts hown hk hw (c_X2_nearestEmpty l G hG σ hI.1 4 (rfl : nk 4 = 2) x3) (m4_in wd747 wd748 wd749 wd48) wd750 (en2 (rfl : nk 4 = 2)) rfl rfl rfl nm_yX2_nearestEmpty ⟨rfl, rfl⟩ ⟨by decide, by decide⟩ rfl hl.1 rfl (Nat.le_of_ble_eq_true rfl) dX10_rest_31 ⟨Nat.zero_le _, Nat.zero_le _⟩) (fun r5 σ4 H locs hr5 hw => ?_)
    rw [hr5.1] at hw
    have hr5 := hr5.2
    exact ret r5 σ _ _ 34 _ (rfl) (⟨rfl, trivial⟩) hw dX10_rest_34
  · have c4i := congrArg Int32.toInt c4
    have p4 := bz0 hr2 c4
    refine lv_iconst (v := -1) hx hb dX10_rest_7 (by decide) ?_
    exact ret (-1 : Int32) σ _ _ 8 _ (rfl) (⟨rfl, trivial⟩) hw dX10_rest_8
set_option maxHeartbeats 4000000 in
set_option maxRecDepth 100000 in
theorem c_X10_image (l : Launch) (G : Gg) (hG : Ginj G) (σ : Sg) (hI0 : Inv σ) (v : Int32) : MI l G yX10_image cX10_image 2 .int (rmO 4 102) σ [.ref (ad G (0)), .int v] (fun r σ' => imgC σ σ' v r) := by
  refine MI.of (by decide +kernel) (Nat.le_of_ble_eq_true rfl) ?_
  intro p e s m a below meth c ls Q hx hb hml hts hown hk hw ret hl
  have hown : s.vm.findClass RX10 = some m.cls := hown
  have hl : lv_has ls 2 [(0, .ref (ad G (0))), (1, .int v)] := hl
  have hI : K0 σ σ := K0.rf hI0
  have Lm2 : (-2 : Int32).toInt = -2 := by decide
  have L0 : (0 : Int32).toInt = 0 := by decide
  have L1 : (1 : Int32).toInt = 1 := by decide
  generalize hHe : s.heap = H at hw ⊢
  generalize hLe : ([] : List Loc) = locs at hw ⊢
  refine lv_iload_n hx hb dX10_image_0 rfl (lv_at hl 1 rfl) ?_
  refine te_vi hw (ru_S (As := [.int v]) (rest := []) hx hb hml hts hown hk hw (c_X10_isImage l G hG σ hI.1 v) (m3_in wd436 wd437 wd2) wd438 nm_yX10_isImage ⟨rfl, rfl⟩ ⟨by decide, by decide⟩ rfl hl.1 rfl (Nat.le_of_ble_eq_true rfl) dX10_image_1 ⟨Nat.zero_le _, Nat.zero_le _⟩) (fun r2 σ1 H locs hr2 hw => ?_)
  rw [hr2.1] at hw
  have hr2 := hr2.2
  refine lv_if_ne (tgt := 10) hx hb dX10_image_4 (by decide) (fun c4 => ?_) (fun c4 => ?_)
  · have c4i := mt Int32.toInt_inj.mp c4
    have p4 := bz1 hr2 c4
    refine lv_aload_n hx hb dX10_image_10 rfl (lv_at hl 0 rfl) ?_
    refine tg_get (ci := 9) (k := 2) (v := .ref (ad G (15))) hx hb hts hown hk hw (en9 (rfl : nk 0 = 9)) rfl inlX10 (by decide) wd20 rfl dX10_image_11 ?_
    refine lv_iload_n hx hb dX10_image_14 rfl (lv_at hl 1 rfl) ?_
    have hv15 : vp_in v 2 := vin ⟨by omega, by omega⟩
    refine tg_aald13 hx hb hk hw (en13 (rfl : nk 15 = 13)) hv15 dX10_image_15 ?_
    have vl15 := vcl hv15
    refine lv_aload_n hx hb dX10_image_16 rfl (lv_at hl 0 rfl) ?_
    refine tg_get (ci := 9) (k := 1) (v := .ref (ad G (3))) hx hb hts hown hk hw (en9 (rfl : nk 0 = 9)) rfl inlX10 (by decide) wd19 rfl dX10_image_17 ?_
    refine te_vv hw (ru_V (As := [.ref (ad G (3))]) (rest := []) (C := RX3) hx hb hml hts hown hk hw (c_X3_copyFrom l G hG σ hI.1 (15 + 1 + 12 * v.toNatClampNeg) (ke13 (rfl : nk 15 = 13) (vcl hv15)) 3 (rfl : nk 3 = 3) (by omega)) (m4_in wd439 wd440 wd441 wd18) wd442 (en3 (ke13 (rfl : nk 15 = 13) (vcl hv15))) rfl rfl rfl nm_yX3_copyFrom ⟨rfl, rfl⟩ ⟨by decide, by decide⟩ rfl hl.1 rfl (Nat.le_of_ble_eq_true rfl) dX10_image_20 ⟨Nat.zero_le _, Nat.zero_le _⟩) (fun σ3 H locs hr4 hw => ?_)
    have hIo := hI
    have hI : K0 σ3 σ3 := K0.rf hr4.1
    have ghr4 := hr4.2.1
    have hr4 := hr4.2.2
    have gX := ghr4
    have fX := hr4
    refine lv_aload_n hx hb dX10_image_23 rfl (lv_at hl 0 rfl) ?_
    refine tg_get (ci := 9) (k := 3) (v := .ref (ad G (40))) hx hb hts hown hk hw (en9 (rfl : nk 0 = 9)) rfl inlX10 (by decide) wd22 rfl dX10_image_24 ?_
    refine lv_iload_n hx hb dX10_image_27 rfl (lv_at hl 1 rfl) ?_
    refine lv_iconst (v := 1) hx hb dX10_image_28 (by decide) ?_
    have hv29 : vp_in v 2 := vin ⟨by omega, by omega⟩
    refine tg_zast hx hb hk hG hw (ea12 (rfl : nk 40 = 12)) hv29 dX10_image_29 (fun H locs hw => ?_)
    obtain ⟨σ5, eσ5⟩ : ∃ z, z = up2 σ3 (40) v.toNatClampNeg (vp_nar .boolean (1 : Int32)) := ⟨_, rfl⟩
    rw [← eσ5] at hw
    have hI : K0 (up2 σ3 40 v.toNatClampNeg (vp_nar .boolean (1 : Int32))) σ5 := by rw [eσ5]; exact hI.put (rg_no (by rw [(rfl : nk 40 = 12)]; rfl))
    refine lv_iconst (v := 1) hx hb dX10_image_30 (by decide) ?_
    exact ret (1 : Int32) σ5 _ _ 31 _ (rfl) (Or.inr ⟨by omega, rfl, _, gX, cpL_of fX, by rw [show vp_nar .boolean (1 : Int32) = 1 from by decide] at hI; exact hI⟩) hw dX10_image_31
  · have c4i := congrArg Int32.toInt c4
    have p4 := bz0 hr2 c4
    refine lv_bipush (v := -2) hx hb dX10_image_7 (by decide) ?_
    exact ret (-2 : Int32) σ _ _ 9 _ (rfl) (Or.inl ⟨by omega, hI, rfl⟩) hw dX10_image_9
set_option maxHeartbeats 4000000 in
set_option maxRecDepth 100000 in
theorem c_X10_restore (l : Launch) (G : Gg) (hG : Ginj G) (σ : Sg) (hI0 : Inv σ) (v : Int32) : MI l G yX10_restore cX10_restore 2 .int (rmO 4 102) σ [.ref (ad G (0)), .int v] (fun r σ' => resC σ σ' v r) := by
  refine MI.of (by decide +kernel) (Nat.le_of_ble_eq_true rfl) ?_
  intro p e s m a below meth c ls Q hx hb hml hts hown hk hw ret hl
  have hown : s.vm.findClass RX10 = some m.cls := hown
  have hl : lv_has ls 2 [(0, .ref (ad G (0))), (1, .int v)] := hl
  have hI : K0 σ σ := K0.rf hI0
  have Lm3 : (-3 : Int32).toInt = -3 := by decide
  have Lm2 : (-2 : Int32).toInt = -2 := by decide
  have L0 : (0 : Int32).toInt = 0 := by decide
  have L1 : (1 : Int32).toInt = 1 := by decide
  generalize hHe : s.heap = H at hw ⊢
  generalize hLe : ([] : List Loc) = locs at hw ⊢
  refine lv_iload_n hx hb dX10_restore_0 rfl (lv_at hl 1 rfl) ?_
  refine te_vi hw (ru_S (As := [.int v]) (rest := []) hx hb hml hts hown hk hw (c_X10_isImage l G hG σ hI.1 v) (m3_in wd436 wd437 wd2) wd438 nm_yX10_isImage ⟨rfl, rfl⟩ ⟨by decide, by decide⟩ rfl hl.1 rfl (Nat.le_of_ble_eq_true rfl) dX10_restore_1 ⟨Nat.zero_le _, Nat.zero_le _⟩) (fun r2 σ1 H locs hr2 hw => ?_)
  rw [hr2.1] at hw
  have hr2 := hr2.2
  refine lv_if_ne (tgt := 10) hx hb dX10_restore_4 (by decide) (fun c4 => ?_) (fun c4 => ?_)
  · have c4i := mt Int32.toInt_inj.mp c4
    have p4 := bz1 hr2 c4
    refine lv_aload_n hx hb dX10_restore_10 rfl (lv_at hl 0 rfl) ?_
    refine tg_get (ci := 9) (k := 3) (v := .ref (ad G (40))) hx hb hts hown hk hw (en9 (rfl : nk 0 = 9)) rfl inlX10 (by decide) wd22 rfl dX10_restore_11 ?_
    refine lv_iload_n hx hb dX10_restore_14 rfl (lv_at hl 1 rfl) ?_
    have hv15 : vp_in v 2 := vin ⟨by omega, by omega⟩
    refine tg_zald hx hb hk hw (en12 (rfl : nk 40 = 12)) hv15 dX10_restore_15 ?_
    refine lv_topi (fun x3 ex3 => ?_)
    have eK := ex3
    refine lv_if_ne (tgt := 22) hx hb dX10_restore_16 (by decide) (fun c16 => ?_) (fun c16 => ?_)
    · have c16i := mt Int32.toInt_inj.mp c16
      refine lv_aload_n hx hb dX10_restore_22 rfl (lv_at hl 0 rfl) ?_
      refine tg_get (ci := 9) (k := 1) (v := .ref (ad G (3))) hx hb hts hown hk hw (en9 (rfl : nk 0 = 9)) rfl inlX10 (by decide) wd19 rfl dX10_restore_23 ?_
      refine lv_aload_n hx hb dX10_restore_26 rfl (lv_at hl 0 rfl) ?_
      refine tg_get (ci := 9) (k := 2) (v := .ref (ad G (15))) hx hb hts hown hk hw (en9 (rfl : nk 0 = 9)) rfl inlX10 (by decide) wd20 rfl dX10_restore_27 ?_
      refine lv_iload_n hx hb dX10_restore_30 rfl (lv_at hl 1 rfl) ?_
      have hv31 : vp_in v 2 := vin ⟨by omega, by omega⟩
      refine tg_aald13 hx hb hk hw (en13 (rfl : nk 15 = 13)) hv31 dX10_restore_31 ?_
      have vl31 := vcl hv31
      refine te_vv hw (ru_V (As := [.ref (ad G (15 + 1 + 12 * v.toNatClampNeg))]) (rest := []) (C := RX3) hx hb hml hts hown hk hw (c_X3_copyFrom l G hG σ hI.1 3 (rfl : nk 3 = 3) (15 + 1 + 12 * v.toNatClampNeg) (ke13 (rfl : nk 15 = 13) (vcl hv31)) (by omega)) (m4_in wd439 wd440 wd441 wd18) wd442 (en3 (rfl : nk 3 = 3)) rfl rfl rfl nm_yX3_copyFrom ⟨rfl, rfl⟩ ⟨by decide, by decide⟩ rfl hl.1 rfl (Nat.le_of_ble_eq_true rfl) dX10_restore_32 ⟨Nat.zero_le _, Nat.zero_le _⟩) (fun σ4 H locs hr5 hw => ?_)
      have hIo := hI
      have hI : K0 σ4 σ4 := K0.rf hr5.1
      have ghr5 := hr5.2.1
      have hr5 := hr5.2.2
      have gX := ghr5
      have fX := hr5
      refine lv_iconst (v := 1) hx hb dX10_restore_35 (by decide) ?_
      exact ret (1 : Int32) σ4 _ _ 36 _ (rfl) (Or.inr (Or.inr ⟨by omega, by rw [← eK]; exact c16, rfl, hI.1, gX, cpL_of fX⟩)) hw dX10_restore_36
    · have c16i := congrArg Int32.toInt c16
      refine lv_bipush (v := -3) hx hb dX10_restore_19 (by decide) ?_
      exact ret (-3 : Int32) σ _ _ 21 _ (rfl) (Or.inr (Or.inl ⟨by omega, by rw [← eK]; exact c16, hI, rfl⟩)) hw dX10_restore_21
  · have c4i := congrArg Int32.toInt c4
    have p4 := bz0 hr2 c4
    refine lv_bipush (v := -2) hx hb dX10_restore_7 (by decide) ?_
    exact ret (-2 : Int32) σ _ _ 9 _ (rfl) (Or.inl ⟨by omega, hI, rfl⟩) hw dX10_restore_9
set_option maxHeartbeats 4000000 in
set_option maxRecDepth 100000 in
theorem c_X10_told (l : Launch) (G : Gg) (hG : Ginj G) (σ : Sg) (hI0 : Inv σ) (v : Int32) : MI l G yX10_told cX10_told 2 .int (rmO 3 68) σ [.ref (ad G (0)), .int v] (fun r σ' => σ' = σ ∧ (True)) := by
  refine MI.of (by decide +kernel) (Nat.le_of_ble_eq_true rfl) ?_
  intro p e s m a below meth c ls Q hx hb hml hts hown hk hw ret hl
  have hown : s.vm.findClass RX10 = some m.cls := hown
  have hl : lv_has ls 2 [(0, .ref (ad G (0))), (1, .int v)] := hl
  have hI : K0 σ σ := K0.rf hI0
  have Lm2 : (-2 : Int32).toInt = -2 := by decide
  have L0 : (0 : Int32).toInt = 0 := by decide
  have L1 : (1 : Int32).toInt = 1 := by decide
  have L2 : (2 : Int32).toInt = 2 := by decide
  have L6 : (6 : Int32).toInt = 6 := by decide
  have L10 : (10 : Int32).toInt = 10 := by decide
  have L11 : (11 : Int32).toInt = 11 := by decide
  generalize hHe : s.heap = H at hw ⊢
  generalize hLe : ([] : List Loc) = locs at hw ⊢
  refine lv_iload_n hx hb dX10_told_0 rfl (lv_at hl 1 rfl) ?_
  refine lv_iconst (v := 0) hx hb dX10_told_1 (by decide) ?_
  refine lv_bipush (v := 11) hx hb dX10_told_2 (by decide) ?_
  refine te_vi hw (ru_S (As := [.int v, .int (0 : Int32), .int (11 : Int32)]) (rest := []) hx hb hml hts hown hk hw (c_X10_within l G hG σ hI.1 v (0 : Int32) (11 : Int32)) (m3_in wd128 wd129 wd2) wd130 nm_yX10_within ⟨rfl, rfl⟩ ⟨by decide, by decide⟩ rfl hl.1 rfl (Nat.le_of_ble_eq_true rfl) dX10_told_4 ⟨Nat.zero_le _, Nat.zero_le _⟩) (fun r2 σ1 H locs hr2 hw => ?_)
  rw [hr2.1] at hw
  have hr2 := hr2.2
  refine lv_if_ne (tgt := 13) hx hb dX10_told_7 (by decide) (fun c7 => ?_) (fun c7 => ?_)
  · have c7i := mt Int32.toInt_inj.mp c7
    have p7 := bz1 hr2 c7
    refine lv_iload_n hx hb dX10_told_13 rfl (lv_at hl 1 rfl) ?_
    refine lv_if_ne (tgt := 25) hx hb dX10_told_14 (by decide) (fun c14 => ?_) (fun c14 => ?_)
    · have c14i := mt Int32.toInt_inj.mp c14
      refine lv_iload_n hx hb dX10_told_25 rfl (lv_at hl 1 rfl) ?_
      refine lv_iconst (v := 1) hx hb dX10_told_26 (by decide) ?_
      refine lv_icmp_ne (tgt := 41) hx hb dX10_told_27 (by decide) (fun c27 => ?_) (fun c27 => ?_)
      · have c27i := mt Int32.toInt_inj.mp c27
        refine lv_iload_n hx hb dX10_told_41 rfl (lv_at hl 1 rfl) ?_
        refine lv_bipush (v := 6) hx hb dX10_told_42 (by decide) ?_
        refine lv_icmp_ge (tgt := 61) hx hb dX10_told_44 (by decide) (fun c44 => ?_) (fun c44 => ?_)
        · have c44i := Int32.le_iff_toInt_le.mp c44
          refine lv_iload_n hx hb dX10_told_61 rfl (lv_at hl 1 rfl) ?_
          refine lv_bipush (v := 10) hx hb dX10_told_62 (by decide) ?_
          refine lv_icmp_ge (tgt := 80) hx hb dX10_told_64 (by decide) (fun c64 => ?_) (fun c64 => ?_)
          · have c64i := Int32.le_iff_toInt_le.mp c64
            refine lv_iload_n hx hb dX10_told_80 rfl (lv_at hl 1 rfl) ?_
            refine lv_bipush (v := 10) hx hb dX10_told_81 (by decide) ?_
            refine lv_icmp_ne (tgt := 99) hx hb dX10_told_83 (by decide) (fun c83 => ?_) (fun c83 => ?_)
            · have c83i := mt Int32.toInt_inj.mp c83
              refine lv_aload_n hx hb dX10_told_99 rfl (lv_at hl 0 rfl) ?_
              refine tg_get (ci := 9) (k := 1) (v := .ref (ad G (3))) hx hb hts hown hk hw (en9 (rfl : nk 0 = 9)) rfl inlX10 (by decide) wd19 rfl dX10_told_100 ?_
              refine tg_get (ci := 3) (k := 1) (v := .ref (ad G (7))) hx hb hts hown hk hw (en3 (rfl : nk 3 = 3)) rfl inlX3 (by decide) wd123 rfl dX10_told_103 ?_
              refine te_vi hw (ru_V (As := []) (rest := []) (C := RX1) hx hb hml hts hown hk hw (c_X1_grainsInBags l G hG σ hI.1 7 (rfl : nk 7 = 1)) (m4_in wd789 wd790 wd791 wd52) wd792 (en1 (rfl : nk 7 = 1)) rfl rfl rfl nm_yX1_grainsInBags ⟨rfl, rfl⟩ ⟨by decide, by decide⟩ rfl hl.1 rfl (Nat.le_of_ble_eq_true rfl) dX10_told_106 ⟨Nat.zero_le _, Nat.zero_le _⟩) (fun r4 σ3 H locs hr4 hw => ?_)
              rw [hr4.1] at hw
              have hr4 := hr4.2
              exact ret r4 σ _ _ 109 _ (rfl) (⟨rfl, trivial⟩) hw dX10_told_109
            · have c83i := congrArg Int32.toInt c83
              refine lv_aload_n hx hb dX10_told_86 rfl (lv_at hl 0 rfl) ?_
              refine tg_get (ci := 9) (k := 1) (v := .ref (ad G (3))) hx hb hts hown hk hw (en9 (rfl : nk 0 = 9)) rfl inlX10 (by decide) wd19 rfl dX10_told_87 ?_
              refine tg_get (ci := 3) (k := 0) (v := .ref (ad G (4))) hx hb hts hown hk hw (en3 (rfl : nk 3 = 3)) rfl inlX3 (by decide) wd261 rfl dX10_told_90 ?_
              refine te_vi hw (ru_V (As := []) (rest := []) (C := RX2) hx hb hml hts hown hk hw (c_X2_allGrains l G hG σ hI.1 4 (rfl : nk 4 = 2)) (m4_in wd663 wd664 wd665 wd48) wd666 (en2 (rfl : nk 4 = 2)) rfl rfl rfl nm_yX2_allGrains ⟨rfl, rfl⟩ ⟨by decide, by decide⟩ rfl hl.1 rfl (Nat.le_of_ble_eq_true rfl) dX10_told_93 ⟨Nat.zero_le _, Nat.zero_le _⟩) (fun r6 σ5 H locs hr6 hw => ?_)
              rw [hr6.1] at hw
              have hr6 := hr6.2
              refine lv_goto (tgt := 109) hx hb dX10_told_96 (by decide) ?_
              exact ret r6 σ _ _ 109 _ (rfl) (⟨rfl, trivial⟩) hw dX10_told_109
          · have c64i := mt Int32.le_iff_toInt_le.mpr c64
            refine lv_aload_n hx hb dX10_told_67 rfl (lv_at hl 0 rfl) ?_
            refine tg_get (ci := 9) (k := 1) (v := .ref (ad G (3))) hx hb hts hown hk hw (en9 (rfl : nk 0 = 9)) rfl inlX10 (by decide) wd19 rfl dX10_told_68 ?_
            refine tg_get (ci := 3) (k := 2) (v := .ref (ad G (14))) hx hb hts hown hk hw (en3 (rfl : nk 3 = 3)) rfl inlX3 (by decide) wd680 rfl dX10_told_71 ?_
            refine lv_iload_n hx hb dX10_told_74 rfl (lv_at hl 1 rfl) ?_
            refine lv_bipush (v := 6) hx hb dX10_told_75 (by decide) ?_
            refine lv_isub hx hb dX10_told_77 ?_
            refine lv_topi (fun x7 ex7 => ?_)
            have tx7 : x7.toInt = v.toInt - (6 : Int32).toInt := by rw [ex7]; exact Jvm.Kit.i32_sub (by omega) (by omega)
            have hv78 : vp_in x7 4 := vin ⟨by omega, by omega⟩
            refine tg_iald hx hb hk hw (en104 (rfl : nk 14 = 104)) hv78 dX10_told_78 ?_
            refine lv_topi (fun x8 ex8 => ?_)
            exact ret x8 σ _ _ 79 _ (rfl) (⟨rfl, trivial⟩) hw dX10_told_79
        · have c44i := mt Int32.le_iff_toInt_le.mpr c44
          refine lv_aload_n hx hb dX10_told_47 rfl (lv_at hl 0 rfl) ?_
          refine tg_get (ci := 9) (k := 1) (v := .ref (ad G (3))) hx hb hts hown hk hw (en9 (rfl : nk 0 = 9)) rfl inlX10 (by decide) wd19 rfl dX10_told_48 ?_
          refine tg_get (ci := 3) (k := 1) (v := .ref (ad G (7))) hx hb hts hown hk hw (en3 (rfl : nk 3 = 3)) rfl inlX3 (by decide) wd123 rfl dX10_told_51 ?_
          refine lv_iload_n hx hb dX10_told_54 rfl (lv_at hl 1 rfl) ?_
          refine lv_iconst (v := 2) hx hb dX10_told_55 (by decide) ?_
          refine lv_isub hx hb dX10_told_56 ?_
          refine lv_topi (fun x9 ex9 => ?_)
          have tx9 : x9.toInt = v.toInt - (2 : Int32).toInt := by rw [ex9]; exact Jvm.Kit.i32_sub (by omega) (by omega)
          refine te_vi hw (ru_V (As := [.int x9]) (rest := []) (C := RX1) hx hb hml hts hown hk hw (c_X1_postAt l G hG σ hI.1 7 (rfl : nk 7 = 1) x9) (m4_in wd785 wd786 wd787 wd52) wd788 (en1 (rfl : nk 7 = 1)) rfl rfl rfl nm_yX1_postAt ⟨rfl, rfl⟩ ⟨by decide, by decide⟩ rfl hl.1 rfl (Nat.le_of_ble_eq_true rfl) dX10_told_57 ⟨Nat.zero_le _, Nat.zero_le _⟩) (fun r11 σ10 H locs hr11 hw => ?_)
          rw [hr11.1] at hw
          have hr11 := hr11.2
          exact ret r11 σ _ _ 60 _ (rfl) (⟨rfl, trivial⟩) hw dX10_told_60
      · have c27i := congrArg Int32.toInt c27
        refine lv_aload_n hx hb dX10_told_30 rfl (lv_at hl 0 rfl) ?_
        refine tg_get (ci := 9) (k := 1) (v := .ref (ad G (3))) hx hb hts hown hk hw (en9 (rfl : nk 0 = 9)) rfl inlX10 (by decide) wd19 rfl dX10_told_31 ?_
        refine tg_get (ci := 3) (k := 1) (v := .ref (ad G (7))) hx hb hts hown hk hw (en3 (rfl : nk 3 = 3)) rfl inlX3 (by decide) wd123 rfl dX10_told_34 ?_
        refine tg_get (ci := 1) (k := 2) (v := .int (σ (7) 2)) hx hb hts hown hk hw (en1 (rfl : nk 7 = 1)) rfl inlX1 (by decide) wd167 rfl dX10_told_37 ?_
        refine lv_topi (fun x12 ex12 => ?_)
        have bx12 : 0 ≤ x12.toInt ∧ x12.toInt ≤ 4 := by rw [ex12]; exact hI.1 _ _ _ _ (by rw [(rfl : nk 7 = 1)]; rfl)
        have ux12 : x12.toInt = (σ (7) 2).toInt := by rw [ex12]
        exact ret x12 σ _ _ 40 _ (rfl) (⟨rfl, trivial⟩) hw dX10_told_40
    · have c14i := congrArg Int32.toInt c14
      refine lv_aload_n hx hb dX10_told_17 rfl (lv_at hl 0 rfl) ?_
      refine tg_get (ci := 9) (k := 0) (v := .ref (ad G (1))) hx hb hts hown hk hw (en9 (rfl : nk 0 = 9)) rfl inlX10 (by decide) wd15 rfl dX10_told_18 ?_
      refine tg_get (ci := 4) (k := 1) (v := .int (σ (1) 1)) hx hb hts hown hk hw (en4 (rfl : nk 1 = 4)) rfl inlX4 (by decide) wd201 rfl dX10_told_21 ?_
      refine lv_topi (fun x13 ex13 => ?_)
      have bx13 : 0 ≤ x13.toInt ∧ x13.toInt ≤ 40 := by rw [ex13]; exact hI.1 _ _ _ _ (by rw [(rfl : nk 1 = 4)]; rfl)
      have ux13 : x13.toInt = (σ (1) 1).toInt := by rw [ex13]
      exact ret x13 σ _ _ 24 _ (rfl) (⟨rfl, trivial⟩) hw dX10_told_24
  · have c7i := congrArg Int32.toInt c7
    have p7 := bz0 hr2 c7
    refine lv_bipush (v := -2) hx hb dX10_told_10 (by decide) ?_
    exact ret (-2 : Int32) σ _ _ 12 _ (rfl) (⟨rfl, trivial⟩) hw dX10_told_12
