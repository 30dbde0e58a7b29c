set_option maxHeartbeats 4000000 in
set_option maxRecDepth 100000 in
theorem c_X11_strayedNow (l : Launch) (G : Gg) (hG : Ginj G) (σ : Sg) (hI0 : Inv σ) : MI l G yX11_strayedNow cX11_strayedNow 4 .int (rmO 0 0) σ [.ref (ad G (78))] (fun r σ' => σ' = σ ∧ (True)) := by
  refine MI.of (by decide +kernel) (Nat.le_of_ble_eq_true rfl) ?_
  intro p e s m a below meth c ls Q hx hb hml hts hown hk hw ret hl
  have hown : s.vm.findClass RX11 = some m.cls := hown
  have hl : lv_has ls 4 [(0, .ref (ad G (78)))] := hl
  have hI : K0 σ σ := K0.rf hI0
  have L0 : (0 : Int32).toInt = 0 := by decide
  have L1 : (1 : Int32).toInt = 1 := by decide
  have L4 : (4 : Int32).toInt = 4 := by decide
  have L64 : (64 : Int32).toInt = 64 := by decide
  generalize hHe : s.heap = H at hw ⊢
  generalize hLe : ([] : List Loc) = locs at hw ⊢
  refine lv_iconst (v := 0) hx hb dX11_strayedNow_0 (by decide) ?_
  refine lv_istore_n (lv' := [(1, .int (0 : Int32)), (0, .ref (ad G (78)))]) hx hb dX11_strayedNow_1 rfl hl (by decide) rfl (fun ls hl => ?_)
  refine lv_iconst (v := 0) hx hb dX11_strayedNow_2 (by decide) ?_
  refine lv_istore_n (lv' := [(2, .int (0 : Int32)), (1, .int (0 : Int32)), (0, .ref (ad G (78)))]) hx hb dX11_strayedNow_3 rfl hl (by decide) rfl (fun ls hl => ?_)
  have cut4 : ∀ (n : Nat) (z1_4 : Int32) (z2_4 : Int32) (H : Heap) (locs : List Loc) (ls : Array Slot), (0 ≤ z2_4.toInt ∧ z2_4.toInt ≤ 64) → ((64 - z2_4.toInt).toNat : Int) < (n : Int) → Wo G σ s H locs → lv_has ls 4 [(0, .ref (ad G (78))), (1, .int z1_4), (2, .int z2_4)] → W p l e (rmO 0 0) s m a below meth c H locs 0 0 Q (F0 m 4 ls []) := by
    intro n4
    induction n4 with
    | zero =>
      intro z1_4 z2_4 H locs ls f4_0 hm4 hw hl
      exfalso; omega
    | succ n4 ih4 =>
      intro z1_4 z2_4 H locs ls f4_0 hm4 hw hl
      refine lv_iload_n hx hb dX11_strayedNow_4 rfl (lv_at hl 2 rfl) ?_
      refine lv_bipush (v := 64) hx hb dX11_strayedNow_5 (by decide) ?_
      refine lv_icmp_ge (tgt := 56) hx hb dX11_strayedNow_7 (by decide) (fun c7 => ?_) (fun c7 => ?_)
      · have c7i := Int32.le_iff_toInt_le.mp c7
        refine lv_iload_n hx hb dX11_strayedNow_56 rfl (lv_at hl 1 rfl) ?_
        exact ret z1_4 σ _ _ 57 _ (rfl) (⟨rfl, trivial⟩) hw dX11_strayedNow_57
      · have c7i := mt Int32.le_iff_toInt_le.mpr c7
        refine lv_iconst (v := 0) hx hb dX11_strayedNow_10 (by decide) ?_
        refine lv_istore_n (lv' := [(3, .int (0 : Int32)), (0, .ref (ad G (78))), (1, .int z1_4), (2, .int z2_4)]) hx hb dX11_strayedNow_11 rfl hl (by decide) rfl (fun ls hl => ?_)
        have cut12 : ∀ (n : Nat) (z1_12 : Int32) (z3_12 : Int32) (H : Heap) (locs : List Loc) (ls : Array Slot), (0 ≤ z3_12.toInt ∧ z3_12.toInt ≤ 4) → ((4 - z3_12.toInt).toNat : Int) < (n : Int) → Wo G σ s H locs → lv_has ls 4 [(0, .ref (ad G (78))), (1, .int z1_12), (2, .int z2_4), (3, .int z3_12)] → W p l e (rmO 0 0) s m a below meth c H locs 0 0 Q (F0 m 12 ls []) := by
          intro n12
          induction n12 with
          | zero =>
            intro z1_12 z3_12 H locs ls f12_0 hm12 hw hl
            exfalso; omega
          | succ n12 ih12 =>
            intro z1_12 z3_12 H locs ls f12_0 hm12 hw hl
            refine lv_iload_n hx hb dX11_strayedNow_12 rfl (lv_at hl 3 rfl) ?_
            refine lv_iconst (v := 4) hx hb dX11_strayedNow_13 (by decide) ?_
            refine lv_icmp_ge (tgt := 50) hx hb dX11_strayedNow_14 (by decide) (fun c14 => ?_) (fun c14 => ?_)
            · have c14i := Int32.le_iff_toInt_le.mp c14
              obtain ⟨x1, ex1⟩ : ∃ z : Int32, z = z2_4 + (1 : Int32) := ⟨_, rfl⟩
              refine lv_iinc (v := x1) (lv' := [(2, .int x1), (0, .ref (ad G (78))), (1, .int z1_12), (3, .int z3_12)]) hx hb dX11_strayedNow_50 hl (k := 2) rfl (by rw [ex1]; rfl) (by decide) rfl (fun ls hl => ?_)
              have tx1 : x1.toInt = z2_4.toInt + 1 := by rw [ex1, Jvm.Kit.i32_add (by omega) (by omega)]; omega
              refine lv_goto (tgt := 4) hx hb dX11_strayedNow_53 (by decide) ?_
              exact ih4 z1_12 x1 _ _ _ (by omega) (by omega) hw (lv_sub hl [1, 2, 0] rfl)
            · have c14i := mt Int32.le_iff_toInt_le.mpr c14
              refine lv_iload_n hx hb dX11_strayedNow_17 rfl (lv_at hl 1 rfl) ?_
              refine lv_aload_n hx hb dX11_strayedNow_18 rfl (lv_at hl 0 rfl) ?_
              refine tg_get (ci := 10) (k := 4) (v := .ref (ad G (82))) hx hb hts hown hk hw (en10 (rfl : nk 78 = 10)) rfl inlX11 (by decide) wd108 rfl dX11_strayedNow_19 ?_
              refine lv_iload_n hx hb dX11_strayedNow_22 rfl (lv_at hl 2 rfl) ?_
              have hv23 : vp_in z2_4 64 := vin ⟨by omega, by omega⟩
              refine tg_iald hx hb hk hw (en164 (rfl : nk 82 = 164)) hv23 dX11_strayedNow_23 ?_
              refine lv_topi (fun x2 ex2 => ?_)
              refine lv_iload_n hx hb dX11_strayedNow_24 rfl (lv_at hl 3 rfl) ?_
              refine lv_icmp_ne (tgt := 32) hx hb dX11_strayedNow_25 (by decide) (fun c25 => ?_) (fun c25 => ?_)
              · have ox2 := i32b x2
                have c25i := mt Int32.toInt_inj.mp c25
                refine lv_aload_n hx hb dX11_strayedNow_32 rfl (lv_at hl 0 rfl) ?_
                refine tg_get (ci := 10) (k := 9) (v := .ref (ad G (86))) hx hb hts hown hk hw (en10 (rfl : nk 78 = 10)) rfl inlX11 (by decide) wd112 rfl dX11_strayedNow_33 ?_
                refine lv_iconst (v := 4) hx hb dX11_strayedNow_36 (by decide) ?_
                refine lv_iload_n hx hb dX11_strayedNow_37 rfl (lv_at hl 2 rfl) ?_
                refine lv_imul hx hb dX11_strayedNow_38 ?_
                refine lv_topi (fun x3 ex3 => ?_)
                have tx3 : x3.toInt = 4 * z2_4.toInt := by rw [ex3, Jvm.Kit.i32_mul (by rw [L4]; omega) (by rw [L4]; omega), L4]
                refine lv_iload_n hx hb dX11_strayedNow_39 rfl (lv_at hl 3 rfl) ?_
                refine lv_iadd hx hb dX11_strayedNow_40 ?_
                refine lv_topi (fun x4 ex4 => ?_)
                have tx4 : x4.toInt = x3.toInt + z3_12.toInt := by rw [ex4]; exact Jvm.Kit.i32_add (by omega) (by omega)
                have hv41 : vp_in x4 256 := vin ⟨by omega, by omega⟩
                refine tg_iald hx hb hk hw (en356 (rfl : nk 86 = 356)) hv41 dX11_strayedNow_41 ?_
                refine lv_topi (fun x5 ex5 => ?_)
                refine lv_iadd hx hb dX11_strayedNow_42 ?_
                refine lv_topi (fun x6 ex6 => ?_)
                refine lv_istore_n (lv' := [(1, .int x6), (0, .ref (ad G (78))), (2, .int z2_4), (3, .int z3_12)]) hx hb dX11_strayedNow_43 rfl hl (by decide) rfl (fun ls hl => ?_)
                obtain ⟨x7, ex7⟩ : ∃ z : Int32, z = z3_12 + (1 : Int32) := ⟨_, rfl⟩
                refine lv_iinc (v := x7) (lv' := [(3, .int x7), (1, .int x6), (0, .ref (ad G (78))), (2, .int z2_4)]) hx hb dX11_strayedNow_44 hl (k := 3) rfl (by rw [ex7]; rfl) (by decide) rfl (fun ls hl => ?_)
                have tx7 : x7.toInt = z3_12.toInt + 1 := by rw [ex7, Jvm.Kit.i32_add (by omega) (by omega)]; omega
                refine lv_goto (tgt := 12) hx hb dX11_strayedNow_47 (by decide) ?_
                exact ih12 x6 x7 _ _ _ (by omega) (by omega) hw (lv_sub hl [2, 1, 3, 0] rfl)
              · have ox2 := i32b x2
                have c25i := congrArg Int32.toInt c25
                refine lv_iconst (v := 0) hx hb dX11_strayedNow_28 (by decide) ?_
                refine lv_goto (tgt := 42) hx hb dX11_strayedNow_29 (by decide) ?_
                refine lv_iadd hx hb dX11_strayedNow_42 ?_
                refine lv_topi (fun x8 ex8 => ?_)
                have oz1_12 := i32b z1_12
                have tx8 : x8.toInt = z1_12.toInt + (0 : Int32).toInt := by rw [ex8]; exact Jvm.Kit.i32_add (by omega) (by omega)
                refine lv_istore_n (lv' := [(1, .int x8), (0, .ref (ad G (78))), (2, .int z2_4), (3, .int z3_12)]) hx hb dX11_strayedNow_43 rfl hl (by decide) rfl (fun ls hl => ?_)
                obtain ⟨x9, ex9⟩ : ∃ z : Int32, z = z3_12 + (1 : Int32) := ⟨_, rfl⟩
                refine lv_iinc (v := x9) (lv' := [(3, .int x9), (1, .int x8), (0, .ref (ad G (78))), (2, .int z2_4)]) hx hb dX11_strayedNow_44 hl (k := 3) rfl (by rw [ex9]; rfl) (by decide) rfl (fun ls hl => ?_)
                have tx9 : x9.toInt = z3_12.toInt + 1 := by rw [ex9, Jvm.Kit.i32_add (by omega) (by omega)]; omega
                refine lv_goto (tgt := 12) hx hb dX11_strayedNow_47 (by decide) ?_
                exact ih12 x8 x9 _ _ _ (by omega) (by omega) hw (lv_sub hl [2, 1, 3, 0] rfl)
        exact cut12 ((((4 - (0 : Int32).toInt).toNat : Int)).toNat + 1) z1_4 (0 : Int32) _ _ _ (by omega) (by omega) hw (lv_sub hl [1, 2, 3, 0] rfl)
  exact cut4 ((((64 - (0 : Int32).toInt).toNat : Int)).toNat + 1) (0 : Int32) (0 : Int32) _ _ _ (by omega) (by omega) hw (lv_sub hl [2, 1, 0] rfl)
set_option maxHeartbeats 4000000 in
set_option maxRecDepth 100000 in
theorem c_X11_tryBells (l : Launch) (G : Gg) (hG : Ginj G) (σ : Sg) (hI0 : Inv σ) (v : Int32) (w : Int32) (u : Int32) (g1 : 0 ≤ v.toInt ∧ v.toInt ≤ 2) (hN : 0 < (σ 78 7).toInt → ¬ ((σ 84 ((σ 78 7).toInt - 1).toNat).toInt = 102 ∨ (σ 84 ((σ 78 7).toInt - 1).toNat).toInt = 119)) : MV l G yX11_tryBells cX11_tryBells 5 (rmO 5 121) σ [.ref (ad G (78)), .int v, .int w, .int u] (fun σ' => K0 σ σ' ∧ (True)) := by
  refine MV.of (by decide +kernel) (Nat.le_of_ble_eq_true rfl) ?_
  intro p e s m a below meth c ls Q hx hb hml hts hown hk hw ret hl
  have hown : s.vm.findClass RX11 = some m.cls := hown
  have hl : lv_has ls 5 [(0, .ref (ad G (78))), (1, .int v), (2, .int w), (3, .int u)] := hl
  have hI : K0 σ σ := K0.rf hI0
  have Lm6 : (-6 : Int32).toInt = -6 := by decide
  have L0 : (0 : Int32).toInt = 0 := by decide
  have L1 : (1 : Int32).toInt = 1 := by decide
  have L40 : (40 : Int32).toInt = 40 := by decide
  generalize hHe : s.heap = H at hw ⊢
  generalize hLe : ([] : List Loc) = locs at hw ⊢
  refine lv_aload_n hx hb dX11_tryBells_0 rfl (lv_at hl 0 rfl) ?_
  refine te_vv hw (ru_V (As := []) (rest := []) (C := RX11) hx hb hml hts hown hk hw (c_X11_lay l G hG σ hI.1) (m4_in wd331 wd332 wd333 wd5) wd334 (en10 (rfl : nk 78 = 10)) rfl rfl rfl nm_yX11_lay ⟨rfl, rfl⟩ ⟨by decide, by decide⟩ rfl hl.1 rfl (Nat.le_of_ble_eq_true rfl) dX11_tryBells_1 ⟨Nat.zero_le _, Nat.zero_le _⟩) (fun σ1 H locs hr2 hw => ?_)
  have hI := hI.go hr2.1
  have hr2 := hr2.2
  refine lv_aload_n hx hb dX11_tryBells_4 rfl (lv_at hl 0 rfl) ?_
  refine lv_iload_n hx hb dX11_tryBells_5 rfl (lv_at hl 1 rfl) ?_
  refine tg_put (ci := 10) (k := 11) (σ' := up2 σ1 (78) 11 v) hx hb hts hown hk hG hw tyX11 (en10 (rfl : nk 78 = 10)) rfl inlX11 tyX11_ok nmX11 (by decide) wd335 rfl rfl rfl (Nat.le_of_ble_eq_true rfl) (pu10_11 (rfl : nk 78 = 10)) (fun _ h => up2_ne h) dX11_tryBells_6 (fun H locs hw => ?_)
  obtain ⟨σ3, eσ3⟩ : ∃ z, z = up2 σ1 (78) 11 v := ⟨_, rfl⟩
  rw [← eσ3] at hw
  have hI : K0 σ σ3 := by rw [eσ3]; exact hI.up (rfl) (rg_is (by rw [(rfl : nk 78 = 10)]; rfl) (by omega) (by omega))
  refine lv_aload_n hx hb dX11_tryBells_9 rfl (lv_at hl 0 rfl) ?_
  refine tg_get (ci := 10) (k := 10) (v := .ref (ad G (87))) hx hb hts hown hk hw (en10 (rfl : nk 78 = 10)) rfl inlX11 (by decide) wd113 rfl dX11_tryBells_10 ?_
  refine lv_iconst (v := 0) hx hb dX11_tryBells_13 (by decide) ?_
  refine lv_iload_n hx hb dX11_tryBells_14 rfl (lv_at hl 2 rfl) ?_
  have hv15 : vp_in (0 : Int32) 4 := vin ⟨by omega, by omega⟩
  refine tg_iast hx hb hk hG hw (ea104 (rfl : nk 87 = 104)) hv15 dX11_tryBells_15 (fun H locs hw => ?_)
  obtain ⟨σ4, eσ4⟩ : ∃ z, z = up2 σ3 (87) ((0 : Int32).toNatClampNeg) w := ⟨_, rfl⟩
  rw [← eσ4] at hw
  have hI : K0 σ σ4 := by rw [eσ4]; exact hI.up (rfl) (rg_no (by rw [(rfl : nk 87 = 104)]; rfl))
  refine lv_aload_n hx hb dX11_tryBells_16 rfl (lv_at hl 0 rfl) ?_
  refine tg_get (ci := 10) (k := 10) (v := .ref (ad G (87))) hx hb hts hown hk hw (en10 (rfl : nk 78 = 10)) rfl inlX11 (by decide) wd113 rfl dX11_tryBells_17 ?_
  refine lv_iconst (v := 1) hx hb dX11_tryBells_20 (by decide) ?_
  refine lv_iload_n hx hb dX11_tryBells_21 rfl (lv_at hl 3 rfl) ?_
  have hv22 : vp_in (1 : Int32) 4 := vin ⟨by omega, by omega⟩
  refine tg_iast hx hb hk hG hw (ea104 (rfl : nk 87 = 104)) hv22 dX11_tryBells_22 (fun H locs hw => ?_)
  obtain ⟨σ5, eσ5⟩ : ∃ z, z = up2 σ4 (87) ((1 : Int32).toNatClampNeg) u := ⟨_, rfl⟩
  rw [← eσ5] at hw
  have hI : K0 σ σ5 := by rw [eσ5]; exact hI.up (rfl) (rg_no (by rw [(rfl : nk 87 = 104)]; rfl))
  refine lv_aload_n hx hb dX11_tryBells_23 rfl (lv_at hl 0 rfl) ?_
  refine lv_bipush (v := 40) hx hb dX11_tryBells_24 (by decide) ?_
  refine te_vv hw (ru_V (As := [.int (40 : Int32)]) (rest := []) (C := RX11) hx hb hml hts hown hk hw (c_X11_goNight l G hG σ5 hI.1 (40 : Int32) (by rw [hI.2 78 7 rfl]; intro q; rw [hI.2 84 _ rfl]; exact hN q)) (m4_in wd340 wd341 wd342 wd5) wd343 (en10 (rfl : nk 78 = 10)) rfl rfl rfl nm_yX11_goNight ⟨rfl, rfl⟩ ⟨by decide, by decide⟩ rfl hl.1 rfl (Nat.le_of_ble_eq_true rfl) dX11_tryBells_26 ⟨Nat.zero_le _, Nat.zero_le _⟩) (fun σ6 H locs hr7 hw => ?_)
  have hI := hI.go hr7.1
  have hr7 := hr7.2
  refine lv_aload_n hx hb dX11_tryBells_29 rfl (lv_at hl 0 rfl) ?_
  refine te_vi hw (ru_V (As := []) (rest := []) (C := RX11) hx hb hml hts hown hk hw (c_X11_strayedNow l G hG σ6 hI.1) (m4_in wd557 wd558 wd559 wd5) wd560 (en10 (rfl : nk 78 = 10)) rfl rfl rfl nm_yX11_strayedNow ⟨rfl, rfl⟩ ⟨by decide, by decide⟩ rfl hl.1 rfl (Nat.le_of_ble_eq_true rfl) dX11_tryBells_30 ⟨Nat.zero_le _, Nat.zero_le _⟩) (fun r9 σ8 H locs hr9 hw => ?_)
  rw [hr9.1] at hw
  have hr9 := hr9.2
  refine lv_istore (lv' := [(4, .int r9), (0, .ref (ad G (78))), (1, .int v), (2, .int w), (3, .int u)]) hx hb dX11_tryBells_33 hl (by decide) rfl (fun ls hl => ?_)
  refine lv_aload_n hx hb dX11_tryBells_35 rfl (lv_at hl 1 rfl) ?_
  refine tg_get (ci := 10) (k := 14) (v := .int (σ6 (78) 14)) hx hb hts hown hk hw (en10 (rfl : nk 78 = 10)) rfl inlX11 (by decide) wd550 rfl dX11_tryBells_36 ?_
  refine lv_topi (fun x10 ex10 => ?_)
  refine lv_if_lt (tgt := 51) hx hb dX11_tryBells_39 (by decide) (fun c39 => ?_) (fun c39 => ?_)
  · have c39i := Int32.lt_iff_toInt_lt.mp c39
    refine lv_aload_n hx hb dX11_tryBells_51 rfl (lv_at hl 1 rfl) ?_
    refine lv_iload hx hb dX11_tryBells_52 (lv_at hl 0 rfl) ?_
    refine tg_put (ci := 10) (k := 14) (σ' := up2 σ6 (78) 14 r9) hx hb hts hown hk hG hw tyX11 (en10 (rfl : nk 78 = 10)) rfl inlX11 tyX11_ok nmX11 (by decide) wd550 rfl rfl rfl (Nat.le_of_ble_eq_true rfl) (pu10_14 (rfl : nk 78 = 10)) (fun _ h => up2_ne h) dX11_tryBells_54 (fun H locs hw => ?_)
    obtain ⟨σ11, eσ11⟩ : ∃ z, z = up2 σ6 (78) 14 r9 := ⟨_, rfl⟩
    rw [← eσ11] at hw
    have hI : K0 σ σ11 := by rw [eσ11]; exact hI.up (rfl) (rg_no (by rw [(rfl : nk 78 = 10)]; rfl))
    refine lv_aload_n hx hb dX11_tryBells_57 rfl (lv_at hl 1 rfl) ?_
    refine lv_iload_n hx hb dX11_tryBells_58 rfl (lv_at hl 2 rfl) ?_
    refine lv_if_le (tgt := 66) hx hb dX11_tryBells_59 (by decide) (fun c59 => ?_) (fun c59 => ?_)
    · have c59i := Int32.le_iff_toInt_le.mp c59
      refine lv_bipush (v := -6) hx hb dX11_tryBells_66 (by decide) ?_
      refine tg_put (ci := 10) (k := 15) (σ' := up2 σ11 (78) 15 (-6 : Int32)) hx hb hts hown hk hG hw tyX11 (en10 (rfl : nk 78 = 10)) rfl inlX11 tyX11_ok nmX11 (by decide) wd551 rfl rfl rfl (Nat.le_of_ble_eq_true rfl) (pu10_15 (rfl : nk 78 = 10)) (fun _ h => up2_ne h) dX11_tryBells_68 (fun H locs hw => ?_)
      obtain ⟨σ12, eσ12⟩ : ∃ z, z = up2 σ11 (78) 15 (-6 : Int32) := ⟨_, rfl⟩
      rw [← eσ12] at hw
      have hI : K0 σ σ12 := by rw [eσ12]; exact hI.up (rfl) (rg_no (by rw [(rfl : nk 78 = 10)]; rfl))
      refine lv_aload_n hx hb dX11_tryBells_71 rfl (lv_at hl 1 rfl) ?_
      refine lv_iload_n hx hb dX11_tryBells_72 rfl (lv_at hl 2 rfl) ?_
      refine lv_iconst (v := 1) hx hb dX11_tryBells_73 (by decide) ?_
      refine lv_icmp_le (tgt := 81) hx hb dX11_tryBells_74 (by decide) (fun c74 => ?_) (fun c74 => ?_)
      · have c74i := Int32.le_iff_toInt_le.mp c74
        refine lv_bipush (v := -6) hx hb dX11_tryBells_81 (by decide) ?_
        refine tg_put (ci := 10) (k := 16) (σ' := up2 σ12 (78) 16 (-6 : Int32)) hx hb hts hown hk hG hw tyX11 (en10 (rfl : nk 78 = 10)) rfl inlX11 tyX11_ok nmX11 (by decide) wd552 rfl rfl rfl (Nat.le_of_ble_eq_true rfl) (pu10_16 (rfl : nk 78 = 10)) (fun _ h => up2_ne h) dX11_tryBells_83 (fun H locs hw => ?_)
        obtain ⟨σ13, eσ13⟩ : ∃ z, z = up2 σ12 (78) 16 (-6 : Int32) := ⟨_, rfl⟩
        rw [← eσ13] at hw
        have hI : K0 σ σ13 := by rw [eσ13]; exact hI.up (rfl) (rg_no (by rw [(rfl : nk 78 = 10)]; rfl))
        exact ret σ13 _ _ 86 _ (⟨hI, trivial⟩) hw dX11_tryBells_86
      · have c74i := mt Int32.le_iff_toInt_le.mpr c74
        exfalso; omega
    · have c59i := mt Int32.le_iff_toInt_le.mpr c59
      refine lv_iload_n hx hb dX11_tryBells_62 rfl (lv_at hl 3 rfl) ?_
      refine lv_goto (tgt := 68) hx hb dX11_tryBells_63 (by decide) ?_
      refine tg_put (ci := 10) (k := 15) (σ' := up2 σ11 (78) 15 w) hx hb hts hown hk hG hw tyX11 (en10 (rfl : nk 78 = 10)) rfl inlX11 tyX11_ok nmX11 (by decide) wd551 rfl rfl rfl (Nat.le_of_ble_eq_true rfl) (pu10_15 (rfl : nk 78 = 10)) (fun _ h => up2_ne h) dX11_tryBells_68 (fun H locs hw => ?_)
      obtain ⟨σ14, eσ14⟩ : ∃ z, z = up2 σ11 (78) 15 w := ⟨_, rfl⟩
      rw [← eσ14] at hw
      have hI : K0 σ σ14 := by rw [eσ14]; exact hI.up (rfl) (rg_no (by rw [(rfl : nk 78 = 10)]; rfl))
      refine lv_aload_n hx hb dX11_tryBells_71 rfl (lv_at hl 1 rfl) ?_
      refine lv_iload_n hx hb dX11_tryBells_72 rfl (lv_at hl 2 rfl) ?_
      refine lv_iconst (v := 1) hx hb dX11_tryBells_73 (by decide) ?_
      refine lv_icmp_le (tgt := 81) hx hb dX11_tryBells_74 (by decide) (fun c74 => ?_) (fun c74 => ?_)
      · have c74i := Int32.le_iff_toInt_le.mp c74
        refine lv_bipush (v := -6) hx hb dX11_tryBells_81 (by decide) ?_
        refine tg_put (ci := 10) (k := 16) (σ' := up2 σ14 (78) 16 (-6 : Int32)) hx hb hts hown hk hG hw tyX11 (en10 (rfl : nk 78 = 10)) rfl inlX11 tyX11_ok nmX11 (by decide) wd552 rfl rfl rfl (Nat.le_of_ble_eq_true rfl) (pu10_16 (rfl : nk 78 = 10)) (fun _ h => up2_ne h) dX11_tryBells_83 (fun H locs hw => ?_)
        obtain ⟨σ15, eσ15⟩ : ∃ z, z = up2 σ14 (78) 16 (-6 : Int32) := ⟨_, rfl⟩
        rw [← eσ15] at hw
        have hI : K0 σ σ15 := by rw [eσ15]; exact hI.up (rfl) (rg_no (by rw [(rfl : nk 78 = 10)]; rfl))
        exact ret σ15 _ _ 86 _ (⟨hI, trivial⟩) hw dX11_tryBells_86
      · have c74i := mt Int32.le_iff_toInt_le.mpr c74
        refine lv_iload_n hx hb dX11_tryBells_77 rfl (lv_at hl 4 rfl) ?_
        refine lv_goto (tgt := 83) hx hb dX11_tryBells_78 (by decide) ?_
        refine tg_put (ci := 10) (k := 16) (σ' := up2 σ14 (78) 16 u) hx hb hts hown hk hG hw tyX11 (en10 (rfl : nk 78 = 10)) rfl inlX11 tyX11_ok nmX11 (by decide) wd552 rfl rfl rfl (Nat.le_of_ble_eq_true rfl) (pu10_16 (rfl : nk 78 = 10)) (fun _ h => up2_ne h) dX11_tryBells_83 (fun H locs hw => ?_)
        obtain ⟨σ16, eσ16⟩ : ∃ z, z = up2 σ14 (78) 16 u := ⟨_, rfl⟩
        rw [← eσ16] at hw
        have hI : K0 σ σ16 := by rw [eσ16]; exact hI.up (rfl) (rg_no (by rw [(rfl : nk 78 = 10)]; rfl))
        exact ret σ16 _ _ 86 _ (⟨hI, trivial⟩) hw dX11_tryBells_86
  · have c39i := mt Int32.lt_iff_toInt_lt.mpr c39
    refine lv_iload hx hb dX11_tryBells_42 (lv_at hl 0 rfl) ?_
    refine lv_aload_n hx hb dX11_tryBells_44 rfl (lv_at hl 1 rfl) ?_
    refine tg_get (ci := 10) (k := 14) (v := .int (σ6 (78) 14)) hx hb hts hown hk hw (en10 (rfl : nk 78 = 10)) rfl inlX11 (by decide) wd550 rfl dX11_tryBells_45 ?_
    refine lv_topi (fun x17 ex17 => ?_)
    have qx17 : x17.toInt = x10.toInt := by rw [ex17, ex10]
    refine lv_icmp_ge (tgt := 86) hx hb dX11_tryBells_48 (by decide) (fun c48 => ?_) (fun c48 => ?_)
    · have or9 := i32b r9
      have ox17 := i32b x17
      have c48i := Int32.le_iff_toInt_le.mp c48
      exact ret σ6 _ _ 86 _ (⟨hI, trivial⟩) hw dX11_tryBells_86
    · have or9 := i32b r9
      have ox17 := i32b x17
      have c48i := mt Int32.le_iff_toInt_le.mpr c48
      refine lv_aload_n hx hb dX11_tryBells_51 rfl (lv_at hl 1 rfl) ?_
      refine lv_iload hx hb dX11_tryBells_52 (lv_at hl 0 rfl) ?_
      refine tg_put (ci := 10) (k := 14) (σ' := up2 σ6 (78) 14 r9) hx hb hts hown hk hG hw tyX11 (en10 (rfl : nk 78 = 10)) rfl inlX11 tyX11_ok nmX11 (by decide) wd550 rfl rfl rfl (Nat.le_of_ble_eq_true rfl) (pu10_14 (rfl : nk 78 = 10)) (fun _ h => up2_ne h) dX11_tryBells_54 (fun H locs hw => ?_)
      obtain ⟨σ18, eσ18⟩ : ∃ z, z = up2 σ6 (78) 14 r9 := ⟨_, rfl⟩
      rw [← eσ18] at hw
      have hI : K0 σ σ18 := by rw [eσ18]; exact hI.up (rfl) (rg_no (by rw [(rfl : nk 78 = 10)]; rfl))
      refine lv_aload_n hx hb dX11_tryBells_57 rfl (lv_at hl 1 rfl) ?_
      refine lv_iload_n hx hb dX11_tryBells_58 rfl (lv_at hl 2 rfl) ?_
      refine lv_if_le (tgt := 66) hx hb dX11_tryBells_59 (by decide) (fun c59 => ?_) (fun c59 => ?_)
      · have c59i := Int32.le_iff_toInt_le.mp c59
        refine lv_bipush (v := -6) hx hb dX11_tryBells_66 (by decide) ?_
        refine tg_put (ci := 10) (k := 15) (σ' := up2 σ18 (78) 15 (-6 : Int32)) hx hb hts hown hk hG hw tyX11 (en10 (rfl : nk 78 = 10)) rfl inlX11 tyX11_ok nmX11 (by decide) wd551 rfl rfl rfl (Nat.le_of_ble_eq_true rfl) (pu10_15 (rfl : nk 78 = 10)) (fun _ h => up2_ne h) dX11_tryBells_68 (fun H locs hw => ?_)
        obtain ⟨σ19, eσ19⟩ : ∃ z, z = up2 σ18 (78) 15 (-6 : Int32) := ⟨_, rfl⟩
        rw [← eσ19] at hw
        have hI : K0 σ σ19 := by rw [eσ19]; exact hI.up (rfl) (rg_no (by rw [(rfl : nk 78 = 10)]; rfl))
        refine lv_aload_n hx hb dX11_tryBells_71 rfl (lv_at hl 1 rfl) ?_
        refine lv_iload_n hx hb dX11_tryBells_72 rfl (lv_at hl 2 rfl) ?_
        refine lv_iconst (v := 1) hx hb dX11_tryBells_73 (by decide) ?_
        refine lv_icmp_le (tgt := 81) hx hb dX11_tryBells_74 (by decide) (fun c74 => ?_) (fun c74 => ?_)
        · have c74i := Int32.le_iff_toInt_le.mp c74
          refine lv_bipush (v := -6) hx hb dX11_tryBells_81 (by decide) ?_
          refine tg_put (ci := 10) (k := 16) (σ' := up2 σ19 (78) 16 (-6 : Int32)) hx hb hts hown hk hG hw tyX11 (en10 (rfl : nk 78 = 10)) rfl inlX11 tyX11_ok nmX11 (by decide) wd552 rfl rfl rfl (Nat.le_of_ble_eq_true rfl) (pu10_16 (rfl : nk 78 = 10)) (fun _ h => up2_ne h) dX11_tryBells_83 (fun H locs hw => ?_)
          obtain ⟨σ20, eσ20⟩ : ∃ z, z = up2 σ19 (78) 16 (-6 : Int32) := ⟨_, rfl⟩
          rw [← eσ20] at hw
          have hI : K0 σ σ20 := by rw [eσ20]; exact hI.up (rfl) (rg_no (by rw [(rfl : nk 78 = 10)]; rfl))
          exact ret σ20 _ _ 86 _ (⟨hI, trivial⟩) hw dX11_tryBells_86
        · have c74i := mt Int32.le_iff_toInt_le.mpr c74
          exfalso; omega
      · have c59i := mt Int32.le_iff_toInt_le.mpr c59
        refine lv_iload_n hx hb dX11_tryBells_62 rfl (lv_at hl 3 rfl) ?_
        refine lv_goto (tgt := 68) hx hb dX11_tryBells_63 (by decide) ?_
        refine tg_put (ci := 10) (k := 15) (σ' := up2 σ18 (78) 15 w) hx hb hts hown hk hG hw tyX11 (en10 (rfl : nk 78 = 10)) rfl inlX11 tyX11_ok nmX11 (by decide) wd551 rfl rfl rfl (Nat.le_of_ble_eq_true rfl) (pu10_15 (rfl : nk 78 = 10)) (fun _ h => up2_ne h) dX11_tryBells_68 (fun H locs hw => ?_)
        obtain ⟨σ21, eσ21⟩ : ∃ z, z = up2 σ18 (78) 15 w := ⟨_, rfl⟩
        rw [← eσ21] at hw
        have hI : K0 σ σ21 := by rw [eσ21]; exact hI.up (rfl) (rg_no (by rw [(rfl : nk 78 = 10)]; rfl))
        refine lv_aload_n hx hb dX11_tryBells_71 rfl (lv_at hl 1 rfl) ?_
        refine lv_iload_n hx hb dX11_tryBells_72 rfl (lv_at hl 2 rfl) ?_
        refine lv_iconst (v := 1) hx hb dX11_tryBells_73 (by decide) ?_
        refine lv_icmp_le (tgt := 81) hx hb dX11_tryBells_74 (by decide) (fun c74 => ?_) (fun c74 => ?_)
        · have c74i := Int32.le_iff_toInt_le.mp c74
          refine lv_bipush (v := -6) hx hb dX11_tryBells_81 (by decide) ?_
          refine tg_put (ci := 10) (k := 16) (σ' := up2 σ21 (78) 16 (-6 : Int32)) hx hb hts hown hk hG hw tyX11 (en10 (rfl : nk 78 = 10)) rfl inlX11 tyX11_ok nmX11 (by decide) wd552 rfl rfl rfl (Nat.le_of_ble_eq_true rfl) (pu10_16 (rfl : nk 78 = 10)) (fun _ h => up2_ne h) dX11_tryBells_83 (fun H locs hw => ?_)
          obtain ⟨σ22, eσ22⟩ : ∃ z, z = up2 σ21 (78) 16 (-6 : Int32) := ⟨_, rfl⟩
          rw [← eσ22] at hw
          have hI : K0 σ σ22 := by rw [eσ22]; exact hI.up (rfl) (rg_no (by rw [(rfl : nk 78 = 10)]; rfl))
          exact ret σ22 _ _ 86 _ (⟨hI, trivial⟩) hw dX11_tryBells_86
        · have c74i := mt Int32.le_iff_toInt_le.mpr c74
          refine lv_iload_n hx hb dX11_tryBells_77 rfl (lv_at hl 4 rfl) ?_
          refine lv_goto (tgt := 83) hx hb dX11_tryBells_78 (by decide) ?_
          refine tg_put (ci := 10) (k := 16) (σ' := up2 σ21 (78) 16 u) hx hb hts hown hk hG hw tyX11 (en10 (rfl : nk 78 = 10)) rfl inlX11 tyX11_ok nmX11 (by decide) wd552 rfl rfl rfl (Nat.le_of_ble_eq_true rfl) (pu10_16 (rfl : nk 78 = 10)) (fun _ h => up2_ne h) dX11_tryBells_83 (fun H locs hw => ?_)
          obtain ⟨σ23, eσ23⟩ : ∃ z, z = up2 σ21 (78) 16 u := ⟨_, rfl⟩
          rw [← eσ23] at hw
          have hI : K0 σ σ23 := by rw [eσ23]; exact hI.up (rfl) (rg_no (by rw [(rfl : nk 78 = 10)]; rfl))
          exact ret σ23 _ _ 86 _ (⟨hI, trivial⟩) hw dX11_tryBells_86
set_option maxHeartbeats 4000000 in
set_option maxRecDepth 100000 in
theorem c_X11_bells (l : Launch) (G : Gg) (hG : Ginj G) (σ : Sg) (hI0 : Inv σ) (v : Int32) (w : Int32) : MI l G yX11_bells cX11_bells 5 .int (rmO 6 145) σ [.ref (ad G (78)), .int v, .int w] (fun r σ' => K0 σ σ' ∧ (True)) := by
  refine MI.of (by decide +kernel) (Nat.le_of_ble_eq_true rfl) ?_
  intro p e s m a below meth c ls Q hx hb hml hts hown hk hw ret hl
  have hown : s.vm.findClass RX11 = some m.cls := hown
  have hl : lv_has ls 5 [(0, .ref (ad G (78))), (1, .int v), (2, .int w)] := hl
  have hI : K0 σ σ := K0.rf hI0
  have Lm6 : (-6 : Int32).toInt = -6 := by decide
  have Lm5 : (-5 : Int32).toInt = -5 := by decide
  have Lm2 : (-2 : Int32).toInt = -2 := by decide
  have L0 : (0 : Int32).toInt = 0 := by decide
  have L1 : (1 : Int32).toInt = 1 := by decide
  have L2 : (2 : Int32).toInt = 2 := by decide
  have L64 : (64 : Int32).toInt = 64 := by decide
  have M0 : (0 : Int64).toInt = 0 := by decide
  have M2 : (2 : Int64).toInt = 2 := by decide
  generalize hHe : s.heap = H at hw ⊢
  generalize hLe : ([] : List Loc) = locs at hw ⊢
  refine lv_iload_n hx hb dX11_bells_0 rfl (lv_at hl 1 rfl) ?_
  refine lv_i2l hx hb dX11_bells_1 rfl ?_
  refine lv_lconst (v := 0) hx hb dX11_bells_2 (by decide) ?_
  refine lv_ldc2 hx hb hown (hts _ wd549) dX11_bells_3 ?_
  refine te_vi hw (ru_S (As := [.long v.toInt64, .long (0 : Int64), .long (2 : Int64)]) (rest := []) hx hb hml hts hown hk hw (c_X11_in l G hG σ hI.1 v.toInt64 (0 : Int64) (2 : Int64)) (m3_in wd156 wd157 wd5) wd158 nm_yX11_in ⟨rfl, rfl⟩ ⟨by decide, by decide⟩ rfl hl.1 rfl (Nat.le_of_ble_eq_true rfl) dX11_bells_6 ⟨Nat.zero_le _, Nat.zero_le _⟩) (fun r2 σ1 H locs hr2 hw => ?_)
  rw [hr2.1] at hw
  have hr2 := hr2.2
  simp only [Int32.toInt_toInt64] at hr2
  refine lv_if_eq (tgt := 24) hx hb dX11_bells_9 (by decide) (fun c9 => ?_) (fun c9 => ?_)
  · have c9i := congrArg Int32.toInt c9
    have p9 := bz0 hr2 c9
    refine lv_bipush (v := -2) hx hb dX11_bells_24 (by decide) ?_
    exact ret (-2 : Int32) σ _ _ 26 _ (rfl) (⟨hI, trivial⟩) hw dX11_bells_26
  · have c9i := mt Int32.toInt_inj.mp c9
    have p9 := bz1 hr2 c9
    refine lv_iload_n hx hb dX11_bells_12 rfl (lv_at hl 2 rfl) ?_
    refine lv_i2l hx hb dX11_bells_13 rfl ?_
    refine lv_lconst (v := 0) hx hb dX11_bells_14 (by decide) ?_
    refine lv_ldc2 hx hb hown (hts _ wd549) dX11_bells_15 ?_
    refine te_vi hw (ru_S (As := [.long w.toInt64, .long (0 : Int64), .long (2 : Int64)]) (rest := []) hx hb hml hts hown hk hw (c_X11_in l G hG σ hI.1 w.toInt64 (0 : Int64) (2 : Int64)) (m3_in wd156 wd157 wd5) wd158 nm_yX11_in ⟨rfl, rfl⟩ ⟨by decide, by decide⟩ rfl hl.1 rfl (Nat.le_of_ble_eq_true rfl) dX11_bells_18 ⟨Nat.zero_le _, Nat.zero_le _⟩) (fun r4 σ3 H locs hr4 hw => ?_)
    rw [hr4.1] at hw
    have hr4 := hr4.2
    simp only [Int32.toInt_toInt64] at hr4
    refine lv_if_ne (tgt := 27) hx hb dX11_bells_21 (by decide) (fun c21 => ?_) (fun c21 => ?_)
    · have c21i := mt Int32.toInt_inj.mp c21
      have p21 := bz1 hr4 c21
      refine lv_aload_n hx hb dX11_bells_27 rfl (lv_at hl 0 rfl) ?_
      refine te_vi hw (ru_V (As := []) (rest := []) (C := RX11) hx hb hml hts hown hk hw (c_X11_fault l G hG σ hI.1) (m4_in wd330 wd241 wd242 wd5) wd243 (en10 (rfl : nk 78 = 10)) rfl rfl rfl nm_yX11_fault ⟨rfl, rfl⟩ ⟨by decide, by decide⟩ rfl hl.1 rfl (Nat.le_of_ble_eq_true rfl) dX11_bells_28 ⟨Nat.zero_le _, Nat.zero_le _⟩) (fun r6 σ5 H locs hr6 hw => ?_)
      rw [hr6.1] at hw
      have hr6 := hr6.2
      have hF := hr6
      refine lv_if_lt (tgt := 37) hx hb dX11_bells_31 (by decide) (fun c31 => ?_) (fun c31 => ?_)
      · have c31i := Int32.lt_iff_toInt_lt.mp c31
        refine lv_aload_n hx hb dX11_bells_37 rfl (lv_at hl 0 rfl) ?_
        refine lv_bipush (v := -6) hx hb dX11_bells_38 (by decide) ?_
        refine tg_put (ci := 10) (k := 14) (σ' := up2 σ (78) 14 (-6 : Int32)) hx hb hts hown hk hG hw tyX11 (en10 (rfl : nk 78 = 10)) rfl inlX11 tyX11_ok nmX11 (by decide) wd550 rfl rfl rfl (Nat.le_of_ble_eq_true rfl) (pu10_14 (rfl : nk 78 = 10)) (fun _ h => up2_ne h) dX11_bells_40 (fun H locs hw => ?_)
        obtain ⟨σ7, eσ7⟩ : ∃ z, z = up2 σ (78) 14 (-6 : Int32) := ⟨_, rfl⟩
        rw [← eσ7] at hw
        have hI : K0 σ σ7 := by rw [eσ7]; exact hI.up (rfl) (rg_no (by rw [(rfl : nk 78 = 10)]; rfl))
        have cut54 : ∀  (σc54 : Sg) (H : Heap) (locs : List Loc) (ls : Array Slot), K0 σ σc54 → Wo G σc54 s H locs → lv_has ls 5 [(0, .ref (ad G (78))), (1, .int v), (2, .int w)] → W p l e (rmO 6 145) s m a below meth c H locs 0 0 Q (F0 m 54 ls []) := by
          intro  σc54 H locs ls hI hw hl
          refine lv_iconst (v := 0) hx hb dX11_bells_54 (by decide) ?_
          refine lv_istore_n (lv' := [(3, .int (0 : Int32)), (0, .ref (ad G (78))), (1, .int v), (2, .int w)]) hx hb dX11_bells_55 rfl hl (by decide) rfl (fun ls hl => ?_)
          have cut56 : ∀ (n : Nat) (z3_56 : Int32) (σc56 : Sg) (H : Heap) (locs : List Loc) (ls : Array Slot), (0 ≤ z3_56.toInt ∧ z3_56.toInt ≤ 64) → K0 σ σc56 → ((64 - z3_56.toInt).toNat : Int) < (n : Int) → Wo G σc56 s H locs → lv_has ls 5 [(0, .ref (ad G (78))), (1, .int v), (2, .int w), (3, .int z3_56)] → W p l e (rmO 6 145) s m a below meth c H locs 0 0 Q (F0 m 56 ls []) := by
            intro n56
            induction n56 with
            | zero =>
              intro z3_56 σc56 H locs ls f56_0 hI hm56 hw hl
              exfalso; omega
            | succ n56 ih56 =>
              intro z3_56 σc56 H locs ls f56_0 hI hm56 hw hl
              refine lv_iload_n hx hb dX11_bells_56 rfl (lv_at hl 3 rfl) ?_
              refine lv_bipush (v := 64) hx hb dX11_bells_57 (by decide) ?_
              refine lv_icmp_ge (tgt := 115) hx hb dX11_bells_59 (by decide) (fun c59 => ?_) (fun c59 => ?_)
              · have c59i := Int32.le_iff_toInt_le.mp c59
                refine lv_iload_n hx hb dX11_bells_115 rfl (lv_at hl 2 rfl) ?_
                refine lv_if_ne (tgt := 126) hx hb dX11_bells_116 (by decide) (fun c116 => ?_) (fun c116 => ?_)
                · have c116i := mt Int32.toInt_inj.mp c116
                  refine lv_iload_n hx hb dX11_bells_126 rfl (lv_at hl 2 rfl) ?_
                  refine lv_iconst (v := 1) hx hb dX11_bells_127 (by decide) ?_
                  refine lv_icmp_ne (tgt := 138) hx hb dX11_bells_128 (by decide) (fun c128 => ?_) (fun c128 => ?_)
                  · have c128i := mt Int32.toInt_inj.mp c128
                    refine lv_aload_n hx hb dX11_bells_138 rfl (lv_at hl 0 rfl) ?_
                    refine tg_get (ci := 10) (k := 16) (v := .int (σc56 (78) 16)) hx hb hts hown hk hw (en10 (rfl : nk 78 = 10)) rfl inlX11 (by decide) wd552 rfl dX11_bells_139 ?_
                    refine lv_topi (fun x8 ex8 => ?_)
                    exact ret x8 σc56 _ _ 142 _ (rfl) (⟨hI, trivial⟩) hw dX11_bells_142
                  · have c128i := congrArg Int32.toInt c128
                    refine lv_aload_n hx hb dX11_bells_131 rfl (lv_at hl 0 rfl) ?_
                    refine tg_get (ci := 10) (k := 15) (v := .int (σc56 (78) 15)) hx hb hts hown hk hw (en10 (rfl : nk 78 = 10)) rfl inlX11 (by decide) wd551 rfl dX11_bells_132 ?_
                    refine lv_topi (fun x9 ex9 => ?_)
                    refine lv_goto (tgt := 142) hx hb dX11_bells_135 (by decide) ?_
                    exact ret x9 σc56 _ _ 142 _ (rfl) (⟨hI, trivial⟩) hw dX11_bells_142
                · have c116i := congrArg Int32.toInt c116
                  refine lv_aload_n hx hb dX11_bells_119 rfl (lv_at hl 0 rfl) ?_
                  refine tg_get (ci := 10) (k := 14) (v := .int (σc56 (78) 14)) hx hb hts hown hk hw (en10 (rfl : nk 78 = 10)) rfl inlX11 (by decide) wd550 rfl dX11_bells_120 ?_
                  refine lv_topi (fun x10 ex10 => ?_)
                  refine lv_goto (tgt := 142) hx hb dX11_bells_123 (by decide) ?_
                  exact ret x10 σc56 _ _ 142 _ (rfl) (⟨hI, trivial⟩) hw dX11_bells_142
              · have c59i := mt Int32.le_iff_toInt_le.mpr c59
                refine lv_iload_n hx hb dX11_bells_62 rfl (lv_at hl 1 rfl) ?_
                refine lv_if_le (tgt := 115) hx hb dX11_bells_63 (by decide) (fun c63 => ?_) (fun c63 => ?_)
                · have c63i := Int32.le_iff_toInt_le.mp c63
                  refine lv_iload_n hx hb dX11_bells_115 rfl (lv_at hl 2 rfl) ?_
                  refine lv_if_ne (tgt := 126) hx hb dX11_bells_116 (by decide) (fun c116 => ?_) (fun c116 => ?_)
                  · have c116i := mt Int32.toInt_inj.mp c116
                    refine lv_iload_n hx hb dX11_bells_126 rfl (lv_at hl 2 rfl) ?_
                    refine lv_iconst (v := 1) hx hb dX11_bells_127 (by decide) ?_
                    refine lv_icmp_ne (tgt := 138) hx hb dX11_bells_128 (by decide) (fun c128 => ?_) (fun c128 => ?_)
                    · have c128i := mt Int32.toInt_inj.mp c128
                      refine lv_aload_n hx hb dX11_bells_138 rfl (lv_at hl 0 rfl) ?_
                      refine tg_get (ci := 10) (k := 16) (v := .int (σc56 (78) 16)) hx hb hts hown hk hw (en10 (rfl : nk 78 = 10)) rfl inlX11 (by decide) wd552 rfl dX11_bells_139 ?_
                      refine lv_topi (fun x11 ex11 => ?_)
                      exact ret x11 σc56 _ _ 142 _ (rfl) (⟨hI, trivial⟩) hw dX11_bells_142
                    · have c128i := congrArg Int32.toInt c128
                      refine lv_aload_n hx hb dX11_bells_131 rfl (lv_at hl 0 rfl) ?_
                      refine tg_get (ci := 10) (k := 15) (v := .int (σc56 (78) 15)) hx hb hts hown hk hw (en10 (rfl : nk 78 = 10)) rfl inlX11 (by decide) wd551 rfl dX11_bells_132 ?_
                      refine lv_topi (fun x12 ex12 => ?_)
                      refine lv_goto (tgt := 142) hx hb dX11_bells_135 (by decide) ?_
                      exact ret x12 σc56 _ _ 142 _ (rfl) (⟨hI, trivial⟩) hw dX11_bells_142
                  · have c116i := congrArg Int32.toInt c116
                    refine lv_aload_n hx hb dX11_bells_119 rfl (lv_at hl 0 rfl) ?_
                    refine tg_get (ci := 10) (k := 14) (v := .int (σc56 (78) 14)) hx hb hts hown hk hw (en10 (rfl : nk 78 = 10)) rfl inlX11 (by decide) wd550 rfl dX11_bells_120 ?_
                    refine lv_topi (fun x13 ex13 => ?_)
                    refine lv_goto (tgt := 142) hx hb dX11_bells_123 (by decide) ?_
                    exact ret x13 σc56 _ _ 142 _ (rfl) (⟨hI, trivial⟩) hw dX11_bells_142
                · have c63i := mt Int32.le_iff_toInt_le.mpr c63
                  refine lv_iload_n hx hb dX11_bells_66 rfl (lv_at hl 1 rfl) ?_
                  refine lv_iconst (v := 1) hx hb dX11_bells_67 (by decide) ?_
                  refine lv_icmp_ne (tgt := 78) hx hb dX11_bells_68 (by decide) (fun c68 => ?_) (fun c68 => ?_)
                  · have c68i := mt Int32.toInt_inj.mp c68
                    refine lv_iload_n hx hb dX11_bells_78 rfl (lv_at hl 3 rfl) ?_
                    refine lv_iconst (v := 1) hx hb dX11_bells_79 (by decide) ?_
                    refine lv_iadd hx hb dX11_bells_80 ?_
                    refine lv_topi (fun x14 ex14 => ?_)
                    have tx14 : x14.toInt = z3_56.toInt + (1 : Int32).toInt := by rw [ex14]; exact Jvm.Kit.i32_add (by omega) (by omega)
                    refine lv_istore (lv' := [(4, .int x14), (0, .ref (ad G (78))), (1, .int v), (2, .int w), (3, .int z3_56)]) hx hb dX11_bells_81 hl (by decide) rfl (fun ls hl => ?_)
                    have cut83 : ∀ (n : Nat) (z4_83 : Int32) (σc83 : Sg) (H : Heap) (locs : List Loc) (ls : Array Slot), (0 ≤ z4_83.toInt ∧ z4_83.toInt ≤ 64) → K0 σ σc83 → ((64 - z4_83.toInt).toNat : Int) < (n : Int) → Wo G σc83 s H locs → lv_has ls 5 [(0, .ref (ad G (78))), (1, .int v), (2, .int w), (3, .int z3_56), (4, .int z4_83)] → W p l e (rmO 6 145) s m a below meth c H locs 0 0 Q (F0 m 83 ls []) := by
                      intro n83
                      induction n83 with
                      | zero =>
                        intro z4_83 σc83 H locs ls f83_0 hI hm83 hw hl
                        exfalso; omega
                      | succ n83 ih83 =>
                        intro z4_83 σc83 H locs ls f83_0 hI hm83 hw hl
                        refine lv_iload hx hb dX11_bells_83 (lv_at hl 4 rfl) ?_
                        refine lv_bipush (v := 64) hx hb dX11_bells_85 (by decide) ?_
                        refine lv_icmp_ge (tgt := 109) hx hb dX11_bells_87 (by decide) (fun c87 => ?_) (fun c87 => ?_)
                        · have c87i := Int32.le_iff_toInt_le.mp c87
                          obtain ⟨x15, ex15⟩ : ∃ z : Int32, z = z3_56 + (1 : Int32) := ⟨_, rfl⟩
                          refine lv_iinc (v := x15) (lv' := [(3, .int x15), (0, .ref (ad G (78))), (1, .int v), (2, .int w), (4, .int z4_83)]) hx hb dX11_bells_109 hl (k := 3) rfl (by rw [ex15]; rfl) (by decide) rfl (fun ls hl => ?_)
                          have tx15 : x15.toInt = z3_56.toInt + 1 := by rw [ex15, Jvm.Kit.i32_add (by omega) (by omega)]; omega
                          refine lv_goto (tgt := 56) hx hb dX11_bells_112 (by decide) ?_
                          exact ih56 x15 σc83 _ _ _ (by omega) hI (by omega) hw (lv_sub hl [1, 2, 3, 0] rfl)
                        · have c87i := mt Int32.le_iff_toInt_le.mpr c87
                          refine lv_iload_n hx hb dX11_bells_90 rfl (lv_at hl 1 rfl) ?_
                          refine lv_iconst (v := 2) hx hb dX11_bells_91 (by decide) ?_
                          refine lv_icmp_ne (tgt := 109) hx hb dX11_bells_92 (by decide) (fun c92 => ?_) (fun c92 => ?_)
                          · have c92i := mt Int32.toInt_inj.mp c92
                            exfalso; omega
                          · have c92i := congrArg Int32.toInt c92
                            refine lv_aload_n hx hb dX11_bells_95 rfl (lv_at hl 0 rfl) ?_
                            refine lv_iconst (v := 2) hx hb dX11_bells_96 (by decide) ?_
                            refine lv_iload_n hx hb dX11_bells_97 rfl (lv_at hl 3 rfl) ?_
                            refine lv_iload hx hb dX11_bells_98 (lv_at hl 4 rfl) ?_
                            refine te_vv hw (ru_V (As := [.int (2 : Int32), .int z3_56, .int z4_83]) (rest := []) (C := RX11) hx hb hml hts hown hk hw (c_X11_tryBells l G hG σc83 hI.1 (2 : Int32) z3_56 z4_83 (by omega) (by rw [hI.2 78 7 rfl]; intro q; rw [hI.2 84 _ rfl]; exact hF (by omega) q)) (m4_in wd553 wd554 wd555 wd5) wd556 (en10 (rfl : nk 78 = 10)) rfl rfl rfl nm_yX11_tryBells ⟨rfl, rfl⟩ ⟨by decide, by decide⟩ rfl hl.1 rfl (Nat.le_of_ble_eq_true rfl) dX11_bells_100 ⟨Nat.zero_le _, Nat.zero_le _⟩) (fun σ16 H locs hr17 hw => ?_)
                            have hI := hI.go hr17.1
                            have hr17 := hr17.2
                            obtain ⟨x18, ex18⟩ : ∃ z : Int32, z = z4_83 + (1 : Int32) := ⟨_, rfl⟩
                            refine lv_iinc (v := x18) (lv' := [(4, .int x18), (0, .ref (ad G (78))), (1, .int v), (2, .int w), (3, .int z3_56)]) hx hb dX11_bells_103 hl (k := 4) rfl (by rw [ex18]; rfl) (by decide) rfl (fun ls hl => ?_)
                            have tx18 : x18.toInt = z4_83.toInt + 1 := by rw [ex18, Jvm.Kit.i32_add (by omega) (by omega)]; omega
                            refine lv_goto (tgt := 83) hx hb dX11_bells_106 (by decide) ?_
                            exact ih83 x18 σ16 _ _ _ (by omega) hI (by omega) hw (lv_sub hl [1, 2, 3, 4, 0] rfl)
                    exact cut83 ((((64 - x14.toInt).toNat : Int)).toNat + 1) x14 σc56 _ _ _ (by omega) hI (by omega) hw (lv_sub hl [1, 2, 3, 4, 0] rfl)
                  · have c68i := congrArg Int32.toInt c68
                    refine lv_aload_n hx hb dX11_bells_71 rfl (lv_at hl 0 rfl) ?_
                    refine lv_iconst (v := 1) hx hb dX11_bells_72 (by decide) ?_
                    refine lv_iload_n hx hb dX11_bells_73 rfl (lv_at hl 3 rfl) ?_
                    refine lv_iconst (v := 0) hx hb dX11_bells_74 (by decide) ?_
                    refine te_vv hw (ru_V (As := [.int (1 : Int32), .int z3_56, .int (0 : Int32)]) (rest := []) (C := RX11) hx hb hml hts hown hk hw (c_X11_tryBells l G hG σc56 hI.1 (1 : Int32) z3_56 (0 : Int32) (by omega) (by rw [hI.2 78 7 rfl]; intro q; rw [hI.2 84 _ rfl]; exact hF (by omega) q)) (m4_in wd553 wd554 wd555 wd5) wd556 (en10 (rfl : nk 78 = 10)) rfl rfl rfl nm_yX11_tryBells ⟨rfl, rfl⟩ ⟨by decide, by decide⟩ rfl hl.1 rfl (Nat.le_of_ble_eq_true rfl) dX11_bells_75 ⟨Nat.zero_le _, Nat.zero_le _⟩) (fun σ19 H locs hr20 hw => ?_)
                    have hI := hI.go hr20.1
                    have hr20 := hr20.2
                    refine lv_iload_n hx hb dX11_bells_78 rfl (lv_at hl 3 rfl) ?_
                    refine lv_iconst (v := 1) hx hb dX11_bells_79 (by decide) ?_
                    refine lv_iadd hx hb dX11_bells_80 ?_
                    refine lv_topi (fun x21 ex21 => ?_)
                    have tx21 : x21.toInt = z3_56.toInt + (1 : Int32).toInt := by rw [ex21]; exact Jvm.Kit.i32_add (by omega) (by omega)
                    refine lv_istore (lv' := [(4, .int x21), (0, .ref (ad G (78))), (1, .int v), (2, .int w), (3, .int z3_56)]) hx hb dX11_bells_81 hl (by decide) rfl (fun ls hl => ?_)
                    have cut83 : ∀ (n : Nat) (z4_83 : Int32) (σc83 : Sg) (H : Heap) (locs : List Loc) (ls : Array Slot), (0 ≤ z4_83.toInt ∧ z4_83.toInt ≤ 64) → K0 σ σc83 → ((64 - z4_83.toInt).toNat : Int) < (n : Int) → Wo G σc83 s H locs → lv_has ls 5 [(0, .ref (ad G (78))), (1, .int v), (2, .int w), (3, .int z3_56), (4, .int z4_83)] → W p l e (rmO 6 145) s m a below meth c H locs 0 0 Q (F0 m 83 ls []) := by
                      intro n83
                      induction n83 with
                      | zero =>
                        intro z4_83 σc83 H locs ls f83_0 hI hm83 hw hl
                        exfalso; omega
                      | succ n83 ih83 =>
                        intro z4_83 σc83 H locs ls f83_0 hI hm83 hw hl
                        refine lv_iload hx hb dX11_bells_83 (lv_at hl 4 rfl) ?_
                        refine lv_bipush (v := 64) hx hb dX11_bells_85 (by decide) ?_
                        refine lv_icmp_ge (tgt := 109) hx hb dX11_bells_87 (by decide) (fun c87 => ?_) (fun c87 => ?_)
                        · have c87i := Int32.le_iff_toInt_le.mp c87
                          obtain ⟨x22, ex22⟩ : ∃ z : Int32, z = z3_56 + (1 : Int32) := ⟨_, rfl⟩
                          refine lv_iinc (v := x22) (lv' := [(3, .int x22), (0, .ref (ad G (78))), (1, .int v), (2, .int w), (4, .int z4_83)]) hx hb dX11_bells_109 hl (k := 3) rfl (by rw [ex22]; rfl) (by decide) rfl (fun ls hl => ?_)
                          have tx22 : x22.toInt = z3_56.toInt + 1 := by rw [ex22, Jvm.Kit.i32_add (by omega) (by omega)]; omega
                          refine lv_goto (tgt := 56) hx hb dX11_bells_112 (by decide) ?_
                          exact ih56 x22 σc83 _ _ _ (by omega) hI (by omega) hw (lv_sub hl [1, 2, 3, 0] rfl)
                        · have c87i := mt Int32.le_iff_toInt_le.mpr c87
                          refine lv_iload_n hx hb dX11_bells_90 rfl (lv_at hl 1 rfl) ?_
                          refine lv_iconst (v := 2) hx hb dX11_bells_91 (by decide) ?_
                          refine lv_icmp_ne (tgt := 109) hx hb dX11_bells_92 (by decide) (fun c92 => ?_) (fun c92 => ?_)
                          · have c92i := mt Int32.toInt_inj.mp c92
                            obtain ⟨x23, ex23⟩ : ∃ z : Int32, z = z3_56 + (1 : Int32) := ⟨_, rfl⟩
                            refine lv_iinc (v := x23) (lv' := [(3, .int x23), (0, .ref (ad G (78))), (1, .int v), (2, .int w), (4, .int z4_83)]) hx hb dX11_bells_109 hl (k := 3) rfl (by rw [ex23]; rfl) (by decide) rfl (fun ls hl => ?_)
                            have tx23 : x23.toInt = z3_56.toInt + 1 := by rw [ex23, Jvm.Kit.i32_add (by omega) (by omega)]; omega
                            refine lv_goto (tgt := 56) hx hb dX11_bells_112 (by decide) ?_
                            exact ih56 x23 σc83 _ _ _ (by omega) hI (by omega) hw (lv_sub hl [1, 2, 3, 0] rfl)
                          · have c92i := congrArg Int32.toInt c92
                            exfalso; omega
                    exact cut83 ((((64 - x21.toInt).toNat : Int)).toNat + 1) x21 σ19 _ _ _ (by omega) hI (by omega) hw (lv_sub hl [1, 2, 3, 4, 0] rfl)
          exact cut56 ((((64 - (0 : Int32).toInt).toNat : Int)).toNat + 1) (0 : Int32) σc54 _ _ _ (by omega) hI (by omega) hw (lv_sub hl [1, 2, 3, 0] rfl)
        refine lv_iload_n hx hb dX11_bells_43 rfl (lv_at hl 1 rfl) ?_
        refine lv_if_ne (tgt := 54) hx hb dX11_bells_44 (by decide) (fun c44 => ?_) (fun c44 => ?_)
        · have c44i := mt Int32.toInt_inj.mp c44
          exact cut54 σ7 _ _ _ hI hw (lv_sub hl [0, 1, 2] rfl)
        · have c44i := congrArg Int32.toInt c44
          refine lv_aload_n hx hb dX11_bells_47 rfl (lv_at hl 0 rfl) ?_
          refine lv_iconst (v := 0) hx hb dX11_bells_48 (by decide) ?_
          refine lv_iconst (v := 0) hx hb dX11_bells_49 (by decide) ?_
          refine lv_iconst (v := 0) hx hb dX11_bells_50 (by decide) ?_
          refine te_vv hw (ru_V (As := [.int (0 : Int32), .int (0 : Int32), .int (0 : Int32)]) (rest := []) (C := RX11) hx hb hml hts hown hk hw (c_X11_tryBells l G hG σ7 hI.1 (0 : Int32) (0 : Int32) (0 : Int32) (by omega) (by rw [hI.2 78 7 rfl]; intro q; rw [hI.2 84 _ rfl]; exact hF (by omega) q)) (m4_in wd553 wd554 wd555 wd5) wd556 (en10 (rfl : nk 78 = 10)) rfl rfl rfl nm_yX11_tryBells ⟨rfl, rfl⟩ ⟨by decide, by decide⟩ rfl hl.1 rfl (Nat.le_of_ble_eq_true rfl) dX11_bells_51 ⟨Nat.zero_le _, Nat.zero_le _⟩) (fun σ24 H locs hr25 hw => ?_)
          have hI := hI.go hr25.1
          have hr25 := hr25.2
          exact cut54 σ24 _ _ _ hI hw (lv_sub hl [0, 1, 2] rfl)
      · have c31i := mt Int32.lt_iff_toInt_lt.mpr c31
        refine lv_bipush (v := -5) hx hb dX11_bells_34 (by decide) ?_
        exact ret (-5 : Int32) σ _ _ 36 _ (rfl) (⟨hI, trivial⟩) hw dX11_bells_36
    · have c21i := congrArg Int32.toInt c21
      have p21 := bz0 hr4 c21
      refine lv_bipush (v := -2) hx hb dX11_bells_24 (by decide) ?_
      exact ret (-2 : Int32) σ _ _ 26 _ (rfl) (⟨hI, trivial⟩) hw dX11_bells_26
set_option maxHeartbeats 4000000 in
set_option maxRecDepth 100000 in
theorem c_X11_heardBy (l : Launch) (G : Gg) (hG : Ginj G) (σ : Sg) (hI0 : Inv σ) (v : Int32) : MI l G yX11_heardBy cX11_heardBy 3 .int (rmO 2 43) σ [.ref (ad G (78)), .int v] (fun r σ' => σ' = σ ∧ (True)) := by
  refine MI.of (by decide +kernel) (Nat.le_of_ble_eq_true rfl) ?_
  intro p e s m a below meth c ls Q hx hb hml hts hown hk hw ret hl
  have hown : s.vm.findClass RX11 = some m.cls := hown
  have hl : lv_has ls 3 [(0, .ref (ad G (78))), (1, .int v)] := hl
  have hI : K0 σ σ := K0.rf hI0
  have Lm6 : (-6 : Int32).toInt = -6 := by decide
  have L0 : (0 : Int32).toInt = 0 := by decide
  have L1 : (1 : Int32).toInt = 1 := by decide
  have L4 : (4 : Int32).toInt = 4 := by decide
  have L5 : (5 : Int32).toInt = 5 := by decide
  generalize hHe : s.heap = H at hw ⊢
  generalize hLe : ([] : List Loc) = locs at hw ⊢
  refine lv_iconst (v := 0) hx hb dX11_heardBy_0 (by decide) ?_
  refine lv_istore_n (lv' := [(2, .int (0 : Int32)), (0, .ref (ad G (78))), (1, .int v)]) hx hb dX11_heardBy_1 rfl hl (by decide) rfl (fun ls hl => ?_)
  have cut2 : ∀ (n : Nat) (z2_2 : Int32) (H : Heap) (locs : List Loc) (ls : Array Slot), (0 ≤ z2_2.toInt ∧ z2_2.toInt ≤ 4) → ((4 - z2_2.toInt).toNat : Int) < (n : Int) → Wo G σ s H locs → lv_has ls 3 [(0, .ref (ad G (78))), (1, .int v), (2, .int z2_2)] → W p l e (rmO 2 43) s m a below meth c H locs 0 0 Q (F0 m 2 ls []) := by
    intro n2
    induction n2 with
    | zero =>
      intro z2_2 H locs ls f2_0 hm2 hw hl
      exfalso; omega
    | succ n2 ih2 =>
      intro z2_2 H locs ls f2_0 hm2 hw hl
      refine lv_iload_n hx hb dX11_heardBy_2 rfl (lv_at hl 2 rfl) ?_
      refine lv_iconst (v := 4) hx hb dX11_heardBy_3 (by decide) ?_
      refine lv_icmp_ge (tgt := 34) hx hb dX11_heardBy_4 (by decide) (fun c4 => ?_) (fun c4 => ?_)
      · have c4i := Int32.le_iff_toInt_le.mp c4
        refine lv_bipush (v := -6) hx hb dX11_heardBy_34 (by decide) ?_
        exact ret (-6 : Int32) σ _ _ 36 _ (rfl) (⟨rfl, trivial⟩) hw dX11_heardBy_36
      · have c4i := mt Int32.le_iff_toInt_le.mpr c4
        refine lv_aload_n hx hb dX11_heardBy_7 rfl (lv_at hl 0 rfl) ?_
        refine lv_iload_n hx hb dX11_heardBy_8 rfl (lv_at hl 2 rfl) ?_
        refine lv_iconst (v := 0) hx hb dX11_heardBy_9 (by decide) ?_
        refine te_vi hw (ru_V (As := [.int z2_2, .int (0 : Int32)]) (rest := []) (C := RX11) hx hb hml hts hown hk hw (c_X11_of l G hG σ hI.1 z2_2 (0 : Int32) (by omega) (by omega)) (m4_in wd159 wd160 wd161 wd5) wd162 (en10 (rfl : nk 78 = 10)) rfl rfl rfl nm_yX11_of ⟨rfl, rfl⟩ ⟨by decide, by decide⟩ rfl hl.1 rfl (Nat.le_of_ble_eq_true rfl) dX11_heardBy_10 ⟨Nat.zero_le _, Nat.zero_le _⟩) (fun r2 σ1 H locs hr2 hw => ?_)
        rw [hr2.1] at hw
        have hr2 := hr2.2
        refine lv_iload_n hx hb dX11_heardBy_13 rfl (lv_at hl 1 rfl) ?_
        refine te_vi hw (ru_S (As := [.int r2, .int v]) (rest := []) hx hb hml hts hown hk hw (c_X11_far l G hG σ hI.1 r2 v) (m3_in wd356 wd357 wd5) wd358 nm_yX11_far ⟨rfl, rfl⟩ ⟨by decide, by decide⟩ rfl hl.1 rfl (Nat.le_of_ble_eq_true rfl) dX11_heardBy_14 ⟨Nat.zero_le _, Nat.zero_le _⟩) (fun r4 σ3 H locs hr4 hw => ?_)
        rw [hr4.1] at hw
        have hr4 := hr4.2
        refine lv_aload_n hx hb dX11_heardBy_17 rfl (lv_at hl 0 rfl) ?_
        refine lv_iload_n hx hb dX11_heardBy_18 rfl (lv_at hl 2 rfl) ?_
        refine lv_iconst (v := 5) hx hb dX11_heardBy_19 (by decide) ?_
        refine te_vi hw (ru_V (As := [.int z2_2, .int (5 : Int32)]) (rest := [.int r4]) (C := RX11) hx hb hml hts hown hk hw (c_X11_of l G hG σ hI.1 z2_2 (5 : Int32) (by omega) (by omega)) (m4_in wd159 wd160 wd161 wd5) wd162 (en10 (rfl : nk 78 = 10)) rfl rfl rfl nm_yX11_of ⟨rfl, rfl⟩ ⟨by decide, by decide⟩ rfl hl.1 rfl (Nat.le_of_ble_eq_true rfl) dX11_heardBy_20 ⟨Nat.zero_le _, Nat.zero_le _⟩) (fun r6 σ5 H locs hr6 hw => ?_)
        rw [hr6.1] at hw
        have hr6 := hr6.2
        refine lv_icmp_gt (tgt := 28) hx hb dX11_heardBy_23 (by decide) (fun c23 => ?_) (fun c23 => ?_)
        · have or4 := i32b r4
          have or6 := i32b r6
          have c23i := Int32.lt_iff_toInt_lt.mp c23
          obtain ⟨x7, ex7⟩ : ∃ z : Int32, z = z2_2 + (1 : Int32) := ⟨_, rfl⟩
          refine lv_iinc (v := x7) (lv' := [(2, .int x7), (0, .ref (ad G (78))), (1, .int v)]) hx hb dX11_heardBy_28 hl (k := 2) rfl (by rw [ex7]; rfl) (by decide) rfl (fun ls hl => ?_)
          have tx7 : x7.toInt = z2_2.toInt + 1 := by rw [ex7, Jvm.Kit.i32_add (by omega) (by omega)]; omega
          refine lv_goto (tgt := 2) hx hb dX11_heardBy_31 (by decide) ?_
          exact ih2 x7 _ _ _ (by omega) (by omega) hw (lv_sub hl [1, 2, 0] rfl)
        · have or4 := i32b r4
          have or6 := i32b r6
          have c23i := mt Int32.lt_iff_toInt_lt.mpr c23
          refine lv_iload_n hx hb dX11_heardBy_26 rfl (lv_at hl 2 rfl) ?_
          exact ret z2_2 σ _ _ 27 _ (rfl) (⟨rfl, trivial⟩) hw dX11_heardBy_27
  exact cut2 ((((4 - (0 : Int32).toInt).toNat : Int)).toNat + 1) (0 : Int32) _ _ _ (by omega) (by omega) hw (lv_sub hl [1, 2, 0] rfl)
set_option maxHeartbeats 4000000 in
set_option maxRecDepth 100000 in
theorem c_X11_steal (l : Launch) (G : Gg) (hG : Ginj G) (σ : Sg) (hI0 : Inv σ) (v : Int32) (w : Int32) (g1 : 0 ≤ v.toInt ∧ v.toInt ≤ 63) (g2 : 0 ≤ w.toInt ∧ w.toInt ≤ 7) : MV l G yX11_steal cX11_steal 6 (rmO 3 68) σ [.ref (ad G (78)), .int v, .int w] (fun σ' => K0 σ σ' ∧ (True)) := by
  refine MV.of (by decide +kernel) (Nat.le_of_ble_eq_true rfl) ?_
  intro p e s m a below meth c ls Q hx hb hml hts hown hk hw ret hl
  have hown : s.vm.findClass RX11 = some m.cls := hown
  have hl : lv_has ls 6 [(0, .ref (ad G (78))), (1, .int v), (2, .int w)] := hl
  have hI : K0 σ σ := K0.rf hI0
  have Lm6 : (-6 : Int32).toInt = -6 := by decide
  have L0 : (0 : Int32).toInt = 0 := by decide
  have L1 : (1 : Int32).toInt = 1 := by decide
  generalize hHe : s.heap = H at hw ⊢
  generalize hLe : ([] : List Loc) = locs at hw ⊢
  refine lv_aload_n hx hb dX11_steal_0 rfl (lv_at hl 0 rfl) ?_
  refine lv_bipush (v := -6) hx hb dX11_steal_1 (by decide) ?_
  refine tg_put (ci := 10) (k := 17) (σ' := up2 σ (78) 17 (-6 : Int32)) hx hb hts hown hk hG hw tyX11 (en10 (rfl : nk 78 = 10)) rfl inlX11 tyX11_ok nmX11 (by decide) wd593 rfl rfl rfl (Nat.le_of_ble_eq_true rfl) (pu10_17 (rfl : nk 78 = 10)) (fun _ h => up2_ne h) dX11_steal_3 (fun H locs hw => ?_)
  obtain ⟨σ1, eσ1⟩ : ∃ z, z = up2 σ (78) 17 (-6 : Int32) := ⟨_, rfl⟩
  rw [← eσ1] at hw
  have hI : K0 σ σ1 := by rw [eσ1]; exact hI.up (rfl) (rg_no (by rw [(rfl : nk 78 = 10)]; rfl))
  refine lv_aload_n hx hb dX11_steal_6 rfl (lv_at hl 0 rfl) ?_
  refine lv_bipush (v := -6) hx hb dX11_steal_7 (by decide) ?_
  refine tg_put (ci := 10) (k := 18) (σ' := up2 σ1 (78) 18 (-6 : Int32)) hx hb hts hown hk hG hw tyX11 (en10 (rfl : nk 78 = 10)) rfl inlX11 tyX11_ok nmX11 (by decide) wd594 rfl rfl rfl (Nat.le_of_ble_eq_true rfl) (pu10_18 (rfl : nk 78 = 10)) (fun _ h => up2_ne h) dX11_steal_9 (fun H locs hw => ?_)
  obtain ⟨σ2, eσ2⟩ : ∃ z, z = up2 σ1 (78) 18 (-6 : Int32) := ⟨_, rfl⟩
  rw [← eσ2] at hw
  have hI : K0 σ σ2 := by rw [eσ2]; exact hI.up (rfl) (rg_no (by rw [(rfl : nk 78 = 10)]; rfl))
  refine lv_aload_n hx hb dX11_steal_12 rfl (lv_at hl 0 rfl) ?_
  refine lv_iconst (v := 0) hx hb dX11_steal_13 (by decide) ?_
  refine tg_put (ci := 10) (k := 19) (σ' := up2 σ2 (78) 19 (0 : Int32)) hx hb hts hown hk hG hw tyX11 (en10 (rfl : nk 78 = 10)) rfl inlX11 tyX11_ok nmX11 (by decide) wd595 rfl rfl rfl (Nat.le_of_ble_eq_true rfl) (pu10_19 (rfl : nk 78 = 10)) (fun _ h => up2_ne h) dX11_steal_14 (fun H locs hw => ?_)
  obtain ⟨σ3, eσ3⟩ : ∃ z, z = up2 σ2 (78) 19 (0 : Int32) := ⟨_, rfl⟩
  rw [← eσ3] at hw
  have hI : K0 σ σ3 := by rw [eσ3]; exact hI.up (rfl) (rg_no (by rw [(rfl : nk 78 = 10)]; rfl))
  refine lv_iload_n hx hb dX11_steal_17 rfl (lv_at hl 1 rfl) ?_
  refine lv_istore_n (lv' := [(3, .int v), (0, .ref (ad G (78))), (1, .int v), (2, .int w)]) hx hb dX11_steal_18 rfl hl (by decide) rfl (fun ls hl => ?_)
  refine lv_iconst (v := 0) hx hb dX11_steal_19 (by decide) ?_
  refine lv_istore (lv' := [(4, .int (0 : Int32)), (3, .int v), (0, .ref (ad G (78))), (1, .int v), (2, .int w)]) hx hb dX11_steal_20 hl (by decide) rfl (fun ls hl => ?_)
  have cut22 : ∀ (n : Nat) (z3_22 : Int32) (z4_22 : Int32) (σc22 : Sg) (H : Heap) (locs : List Loc) (ls : Array Slot), (0 ≤ z4_22.toInt ∧ z4_22.toInt ≤ 8) → (-6 ≤ z3_22.toInt ∧ z3_22.toInt ≤ 63) → (z3_22.toInt = -6 ∨ (0 ≤ z3_22.toInt ∧ z3_22.toInt ≤ 63 ∧ (w.toInt ≤ 1 → z3_22.toInt / 8 + z4_22.toInt ≤ 7) ∧ (2 ≤ w.toInt → w.toInt ≤ 3 → z4_22.toInt ≤ z3_22.toInt % 8) ∧ (4 ≤ w.toInt → w.toInt ≤ 5 → z4_22.toInt ≤ z3_22.toInt / 8) ∧ (6 ≤ w.toInt → z3_22.toInt % 8 + z4_22.toInt ≤ 7))) → K0 σ σc22 → ((9 - z4_22.toInt).toNat : Int) < (n : Int) → Wo G σc22 s H locs → lv_has ls 6 [(0, .ref (ad G (78))), (1, .int v), (2, .int w), (3, .int z3_22), (4, .int z4_22)] → W p l e (rmO 3 68) s m a below meth c H locs 0 0 Q (F0 m 22 ls []) := by
    intro n22
    induction n22 with
    | zero =>
      intro z3_22 z4_22 σc22 H locs ls f22_0 f22_1 f22_2 hI hm22 hw hl
      exfalso; omega
    | succ n22 ih22 =>
      intro z3_22 z4_22 σc22 H locs ls f22_0 f22_1 f22_2 hI hm22 hw hl
      refine lv_iload_n hx hb dX11_steal_22 rfl (lv_at hl 3 rfl) ?_
      refine lv_if_lt (tgt := 86) hx hb dX11_steal_23 (by decide) (fun c23 => ?_) (fun c23 => ?_)
      · have c23i := Int32.lt_iff_toInt_lt.mp c23
        exact ret σc22 _ _ 86 _ (⟨hI, trivial⟩) hw dX11_steal_86
      · have c23i := mt Int32.lt_iff_toInt_lt.mpr c23
        refine lv_aload_n hx hb dX11_steal_26 rfl (lv_at hl 0 rfl) ?_
        refine tg_get (ci := 10) (k := 17) (v := .int (σc22 (78) 17)) hx hb hts hown hk hw (en10 (rfl : nk 78 = 10)) rfl inlX11 (by decide) wd593 rfl dX11_steal_27 ?_
        refine lv_topi (fun x4 ex4 => ?_)
        refine lv_if_ge (tgt := 86) hx hb dX11_steal_30 (by decide) (fun c30 => ?_) (fun c30 => ?_)
        · have c30i := Int32.le_iff_toInt_le.mp c30
          exact ret σc22 _ _ 86 _ (⟨hI, trivial⟩) hw dX11_steal_86
        · have c30i := mt Int32.le_iff_toInt_le.mpr c30
          refine lv_aload_n hx hb dX11_steal_33 rfl (lv_at hl 0 rfl) ?_
          refine lv_iload_n hx hb dX11_steal_34 rfl (lv_at hl 3 rfl) ?_
          refine te_vi hw (ru_V (As := [.int z3_22]) (rest := []) (C := RX11) hx hb hml hts hown hk hw (c_X11_heardBy l G hG σc22 hI.1 z3_22) (m4_in wd600 wd601 wd602 wd5) wd603 (en10 (rfl : nk 78 = 10)) rfl rfl rfl nm_yX11_heardBy ⟨rfl, rfl⟩ ⟨by decide, by decide⟩ rfl hl.1 rfl (Nat.le_of_ble_eq_true rfl) dX11_steal_35 ⟨Nat.zero_le _, Nat.zero_le _⟩) (fun r6 σ5 H locs hr6 hw => ?_)
          rw [hr6.1] at hw
          have hr6 := hr6.2
          refine lv_istore (lv' := [(5, .int r6), (0, .ref (ad G (78))), (1, .int v), (2, .int w), (3, .int z3_22), (4, .int z4_22)]) hx hb dX11_steal_38 hl (by decide) rfl (fun ls hl => ?_)
          refine lv_iload hx hb dX11_steal_40 (lv_at hl 0 rfl) ?_
          refine lv_if_lt (tgt := 60) hx hb dX11_steal_42 (by decide) (fun c42 => ?_) (fun c42 => ?_)
          · have c42i := Int32.lt_iff_toInt_lt.mp c42
            refine lv_aload_n hx hb dX11_steal_60 rfl (lv_at hl 1 rfl) ?_
            refine lv_dup hx hb dX11_steal_61 rfl ?_
            refine tg_get (ci := 10) (k := 19) (v := .int (σc22 (78) 19)) hx hb hts hown hk hw (en10 (rfl : nk 78 = 10)) rfl inlX11 (by decide) wd595 rfl dX11_steal_62 ?_
            refine lv_topi (fun x7 ex7 => ?_)
            refine lv_aload_n hx hb dX11_steal_65 rfl (lv_at hl 1 rfl) ?_
            refine lv_iload_n hx hb dX11_steal_66 rfl (lv_at hl 4 rfl) ?_
            refine te_vi hw (ru_V (As := [.int z3_22]) (rest := [.int x7, .ref (ad G (78))]) (C := RX11) hx hb hml hts hown hk hw (c_X11_grainsIn l G hG σc22 hI.1 z3_22 (by omega)) (m4_in wd402 wd403 wd404 wd5) wd405 (en10 (rfl : nk 78 = 10)) rfl rfl rfl nm_yX11_grainsIn ⟨rfl, rfl⟩ ⟨by decide, by decide⟩ rfl hl.1 rfl (Nat.le_of_ble_eq_true rfl) dX11_steal_67 ⟨Nat.zero_le _, Nat.zero_le _⟩) (fun r9 σ8 H locs hr9 hw => ?_)
            rw [hr9.1] at hw
            have hr9 := hr9.2
            refine lv_iadd hx hb dX11_steal_70 ?_
            refine lv_topi (fun x10 ex10 => ?_)
            refine tg_put (ci := 10) (k := 19) (σ' := up2 σc22 (78) 19 x10) hx hb hts hown hk hG hw tyX11 (en10 (rfl : nk 78 = 10)) rfl inlX11 tyX11_ok nmX11 (by decide) wd595 rfl rfl rfl (Nat.le_of_ble_eq_true rfl) (pu10_19 (rfl : nk 78 = 10)) (fun _ h => up2_ne h) dX11_steal_71 (fun H locs hw => ?_)
            obtain ⟨σ11, eσ11⟩ : ∃ z, z = up2 σc22 (78) 19 x10 := ⟨_, rfl⟩
            rw [← eσ11] at hw
            have hI : K0 σ σ11 := by rw [eσ11]; exact hI.up (rfl) (rg_no (by rw [(rfl : nk 78 = 10)]; rfl))
            refine lv_iload_n hx hb dX11_steal_74 rfl (lv_at hl 4 rfl) ?_
            refine lv_iload_n hx hb dX11_steal_75 rfl (lv_at hl 3 rfl) ?_
            refine te_vi hw (ru_S (As := [.int z3_22, .int w]) (rest := []) hx hb hml hts hown hk hw (c_X11_besideS l G hG σ11 hI.1 z3_22 w (by omega) (by omega)) (m3_in wd373 wd374 wd5) wd375 nm_yX11_beside ⟨rfl, rfl⟩ ⟨by decide, by decide⟩ rfl hl.1 rfl (Nat.le_of_ble_eq_true rfl) dX11_steal_76 ⟨Nat.zero_le _, Nat.zero_le _⟩) (fun r13 σ12 H locs hr13 hw => ?_)
            rw [hr13.1] at hw
            have hr13 := hr13.2
            refine lv_istore_n (lv' := [(3, .int r13), (5, .int r6), (0, .ref (ad G (78))), (1, .int v), (2, .int w), (4, .int z4_22)]) hx hb dX11_steal_79 rfl hl (by decide) rfl (fun ls hl => ?_)
            obtain ⟨x14, ex14⟩ : ∃ z : Int32, z = z4_22 + (1 : Int32) := ⟨_, rfl⟩
            refine lv_iinc (v := x14) (lv' := [(4, .int x14), (3, .int r13), (5, .int r6), (0, .ref (ad G (78))), (1, .int v), (2, .int w)]) hx hb dX11_steal_80 hl (k := 5) rfl (by rw [ex14]; rfl) (by decide) rfl (fun ls hl => ?_)
            have tx14 : x14.toInt = z4_22.toInt + 1 := by rw [ex14, Jvm.Kit.i32_add (by omega) (by omega)]; omega
            refine lv_goto (tgt := 22) hx hb dX11_steal_83 (by decide) ?_
            exact ih22 r13 x14 σ11 _ _ _ (by omega) (by omega) (by omega) hI (by omega) hw (lv_sub hl [3, 4, 5, 1, 0] rfl)
          · have c42i := mt Int32.lt_iff_toInt_lt.mpr c42
            refine lv_aload_n hx hb dX11_steal_45 rfl (lv_at hl 1 rfl) ?_
            refine lv_iload hx hb dX11_steal_46 (lv_at hl 5 rfl) ?_
            refine tg_put (ci := 10) (k := 17) (σ' := up2 σc22 (78) 17 z4_22) hx hb hts hown hk hG hw tyX11 (en10 (rfl : nk 78 = 10)) rfl inlX11 tyX11_ok nmX11 (by decide) wd593 rfl rfl rfl (Nat.le_of_ble_eq_true rfl) (pu10_17 (rfl : nk 78 = 10)) (fun _ h => up2_ne h) dX11_steal_48 (fun H locs hw => ?_)
            obtain ⟨σ15, eσ15⟩ : ∃ z, z = up2 σc22 (78) 17 z4_22 := ⟨_, rfl⟩
            rw [← eσ15] at hw
            have hI : K0 σ σ15 := by rw [eσ15]; exact hI.up (rfl) (rg_no (by rw [(rfl : nk 78 = 10)]; rfl))
            refine lv_aload_n hx hb dX11_steal_51 rfl (lv_at hl 1 rfl) ?_
            refine lv_iload hx hb dX11_steal_52 (lv_at hl 0 rfl) ?_
            refine tg_put (ci := 10) (k := 18) (σ' := up2 σ15 (78) 18 r6) hx hb hts hown hk hG hw tyX11 (en10 (rfl : nk 78 = 10)) rfl inlX11 tyX11_ok nmX11 (by decide) wd594 rfl rfl rfl (Nat.le_of_ble_eq_true rfl) (pu10_18 (rfl : nk 78 = 10)) (fun _ h => up2_ne h) dX11_steal_54 (fun H locs hw => ?_)
            obtain ⟨σ16, eσ16⟩ : ∃ z, z = up2 σ15 (78) 18 r6 := ⟨_, rfl⟩
            rw [← eσ16] at hw
            have hI : K0 σ σ16 := by rw [eσ16]; exact hI.up (rfl) (rg_no (by rw [(rfl : nk 78 = 10)]; rfl))
            refine lv_goto (tgt := 83) hx hb dX11_steal_57 (by decide) ?_
            refine lv_goto (tgt := 22) hx hb dX11_steal_83 (by decide) ?_
            refine lv_iload_n hx hb dX11_steal_22 rfl (lv_at hl 4 rfl) ?_
            refine lv_if_lt (tgt := 86) hx hb dX11_steal_23 (by decide) (fun c23 => ?_) (fun c23 => ?_)
            · have c23i := Int32.lt_iff_toInt_lt.mp c23
              exfalso; omega
            · have c23i := mt Int32.lt_iff_toInt_lt.mpr c23
              refine lv_aload_n hx hb dX11_steal_26 rfl (lv_at hl 1 rfl) ?_
              refine tg_get (ci := 10) (k := 17) (v := .int (σ16 (78) 17)) hx hb hts hown hk hw (en10 (rfl : nk 78 = 10)) rfl inlX11 (by decide) wd593 rfl dX11_steal_27 ?_
              refine lv_topi (fun x17 ex17 => ?_)
              have zx17 : x17 = z4_22 := by rw [ex17, eσ16, up2_nk (by decide), eσ15, up2_self]
              have yx17 : x17.toInt = z4_22.toInt := by rw [zx17]
              refine lv_if_ge (tgt := 86) hx hb dX11_steal_30 (by decide) (fun c30 => ?_) (fun c30 => ?_)
              · have c30i := Int32.le_iff_toInt_le.mp c30
                exact ret σ16 _ _ 86 _ (⟨hI, trivial⟩) hw dX11_steal_86
              · have c30i := mt Int32.le_iff_toInt_le.mpr c30
                exfalso; omega
  exact cut22 ((((9 - (0 : Int32).toInt).toNat : Int)).toNat + 1) v (0 : Int32) σ3 _ _ _ (by omega) (by omega) (by omega) hI (by omega) hw (lv_sub hl [2, 3, 4, 1, 0] rfl)
set_option maxHeartbeats 4000000 in
set_option maxRecDepth 100000 in
theorem c_X11_thief (l : Launch) (G : Gg) (hG : Ginj G) (σ : Sg) (hI0 : Inv σ) (v : Int32) (w : Int32) (u : Int32) : MI l G yX11_thief cX11_thief 4 .int (rmO 4 93) σ [.ref (ad G (78)), .int v, .int w, .int u] (fun r σ' => K0 σ σ' ∧ (True)) := by
  refine MI.of (by decide +kernel) (Nat.le_of_ble_eq_true rfl) ?_
  intro p e s m a below meth c ls Q hx hb hml hts hown hk hw ret hl
  have hown : s.vm.findClass RX11 = some m.cls := hown
  have hl : lv_has ls 4 [(0, .ref (ad G (78))), (1, .int v), (2, .int w), (3, .int u)] := hl
  have hI : K0 σ σ := K0.rf hI0
  have Lm2 : (-2 : Int32).toInt = -2 := by decide
  have L0 : (0 : Int32).toInt = 0 := by decide
  have L1 : (1 : Int32).toInt = 1 := by decide
  have M0 : (0 : Int64).toInt = 0 := by decide
  have M2 : (2 : Int64).toInt = 2 := by decide
  have M7 : (7 : Int64).toInt = 7 := by decide
  generalize hHe : s.heap = H at hw ⊢
  generalize hLe : ([] : List Loc) = locs at hw ⊢
  refine lv_iload_n hx hb dX11_thief_0 rfl (lv_at hl 1 rfl) ?_
  refine te_vi hw (ru_S (As := [.int v]) (rest := []) hx hb hml hts hown hk hw (c_X11_isCell l G hG σ hI.1 v) (m3_in wd185 wd186 wd5) wd187 nm_yX11_isCell ⟨rfl, rfl⟩ ⟨by decide, by decide⟩ rfl hl.1 rfl (Nat.le_of_ble_eq_true rfl) dX11_thief_1 ⟨Nat.zero_le _, Nat.zero_le _⟩) (fun r2 σ1 H locs hr2 hw => ?_)
  rw [hr2.1] at hw
  have hr2 := hr2.2
  refine lv_if_eq (tgt := 31) hx hb dX11_thief_4 (by decide) (fun c4 => ?_) (fun c4 => ?_)
  · have c4i := congrArg Int32.toInt c4
    have p4 := bz0 hr2 c4
    refine lv_bipush (v := -2) hx hb dX11_thief_31 (by decide) ?_
    exact ret (-2 : Int32) σ _ _ 33 _ (rfl) (⟨hI, trivial⟩) hw dX11_thief_33
  · have c4i := mt Int32.toInt_inj.mp c4
    have p4 := bz1 hr2 c4
    refine lv_iload_n hx hb dX11_thief_7 rfl (lv_at hl 2 rfl) ?_
    refine lv_i2l hx hb dX11_thief_8 rfl ?_
    refine lv_lconst (v := 0) hx hb dX11_thief_9 (by decide) ?_
    refine lv_ldc2 hx hb hown (hts _ wd365) dX11_thief_10 ?_
    refine te_vi hw (ru_S (As := [.long w.toInt64, .long (0 : Int64), .long (7 : Int64)]) (rest := []) hx hb hml hts hown hk hw (c_X11_in l G hG σ hI.1 w.toInt64 (0 : Int64) (7 : Int64)) (m3_in wd156 wd157 wd5) wd158 nm_yX11_in ⟨rfl, rfl⟩ ⟨by decide, by decide⟩ rfl hl.1 rfl (Nat.le_of_ble_eq_true rfl) dX11_thief_13 ⟨Nat.zero_le _, Nat.zero_le _⟩) (fun r4 σ3 H locs hr4 hw => ?_)
    rw [hr4.1] at hw
    have hr4 := hr4.2
    simp only [Int32.toInt_toInt64] at hr4
    refine lv_if_eq (tgt := 31) hx hb dX11_thief_16 (by decide) (fun c16 => ?_) (fun c16 => ?_)
    · have c16i := congrArg Int32.toInt c16
      have p16 := bz0 hr4 c16
      refine lv_bipush (v := -2) hx hb dX11_thief_31 (by decide) ?_
      exact ret (-2 : Int32) σ _ _ 33 _ (rfl) (⟨hI, trivial⟩) hw dX11_thief_33
    · have c16i := mt Int32.toInt_inj.mp c16
      have p16 := bz1 hr4 c16
      refine lv_iload_n hx hb dX11_thief_19 rfl (lv_at hl 3 rfl) ?_
      refine lv_i2l hx hb dX11_thief_20 rfl ?_
      refine lv_lconst (v := 0) hx hb dX11_thief_21 (by decide) ?_
      refine lv_ldc2 hx hb hown (hts _ wd549) dX11_thief_22 ?_
      refine te_vi hw (ru_S (As := [.long u.toInt64, .long (0 : Int64), .long (2 : Int64)]) (rest := []) hx hb hml hts hown hk hw (c_X11_in l G hG σ hI.1 u.toInt64 (0 : Int64) (2 : Int64)) (m3_in wd156 wd157 wd5) wd158 nm_yX11_in ⟨rfl, rfl⟩ ⟨by decide, by decide⟩ rfl hl.1 rfl (Nat.le_of_ble_eq_true rfl) dX11_thief_25 ⟨Nat.zero_le _, Nat.zero_le _⟩) (fun r6 σ5 H locs hr6 hw => ?_)
      rw [hr6.1] at hw
      have hr6 := hr6.2
      simp only [Int32.toInt_toInt64] at hr6
      refine lv_if_ne (tgt := 34) hx hb dX11_thief_28 (by decide) (fun c28 => ?_) (fun c28 => ?_)
      · have c28i := mt Int32.toInt_inj.mp c28
        have p28 := bz1 hr6 c28
        refine lv_aload_n hx hb dX11_thief_34 rfl (lv_at hl 0 rfl) ?_
        refine lv_iload_n hx hb dX11_thief_35 rfl (lv_at hl 1 rfl) ?_
        refine lv_iload_n hx hb dX11_thief_36 rfl (lv_at hl 2 rfl) ?_
        refine te_vv hw (ru_V (As := [.int v, .int w]) (rest := []) (C := RX11) hx hb hml hts hown hk hw (c_X11_steal l G hG σ hI.1 v w (by omega) (by omega)) (m4_in wd596 wd597 wd598 wd5) wd599 (en10 (rfl : nk 78 = 10)) rfl rfl rfl nm_yX11_steal ⟨rfl, rfl⟩ ⟨by decide, by decide⟩ rfl hl.1 rfl (Nat.le_of_ble_eq_true rfl) dX11_thief_37 ⟨Nat.zero_le _, Nat.zero_le _⟩) (fun σ7 H locs hr8 hw => ?_)
        have hI := hI.go hr8.1
        have hr8 := hr8.2
        refine lv_iload_n hx hb dX11_thief_40 rfl (lv_at hl 3 rfl) ?_
        refine lv_if_ne (tgt := 51) hx hb dX11_thief_41 (by decide) (fun c41 => ?_) (fun c41 => ?_)
        · have c41i := mt Int32.toInt_inj.mp c41
          refine lv_iload_n hx hb dX11_thief_51 rfl (lv_at hl 3 rfl) ?_
          refine lv_iconst (v := 1) hx hb dX11_thief_52 (by decide) ?_
          refine lv_icmp_ne (tgt := 63) hx hb dX11_thief_53 (by decide) (fun c53 => ?_) (fun c53 => ?_)
          · have c53i := mt Int32.toInt_inj.mp c53
            refine lv_aload_n hx hb dX11_thief_63 rfl (lv_at hl 0 rfl) ?_
            refine tg_get (ci := 10) (k := 19) (v := .int (σ7 (78) 19)) hx hb hts hown hk hw (en10 (rfl : nk 78 = 10)) rfl inlX11 (by decide) wd595 rfl dX11_thief_64 ?_
            refine lv_topi (fun x9 ex9 => ?_)
            exact ret x9 σ7 _ _ 67 _ (rfl) (⟨hI, trivial⟩) hw dX11_thief_67
          · have c53i := congrArg Int32.toInt c53
            refine lv_aload_n hx hb dX11_thief_56 rfl (lv_at hl 0 rfl) ?_
            refine tg_get (ci := 10) (k := 18) (v := .int (σ7 (78) 18)) hx hb hts hown hk hw (en10 (rfl : nk 78 = 10)) rfl inlX11 (by decide) wd594 rfl dX11_thief_57 ?_
            refine lv_topi (fun x10 ex10 => ?_)
            refine lv_goto (tgt := 67) hx hb dX11_thief_60 (by decide) ?_
            exact ret x10 σ7 _ _ 67 _ (rfl) (⟨hI, trivial⟩) hw dX11_thief_67
        · have c41i := congrArg Int32.toInt c41
          refine lv_aload_n hx hb dX11_thief_44 rfl (lv_at hl 0 rfl) ?_
          refine tg_get (ci := 10) (k := 17) (v := .int (σ7 (78) 17)) hx hb hts hown hk hw (en10 (rfl : nk 78 = 10)) rfl inlX11 (by decide) wd593 rfl dX11_thief_45 ?_
          refine lv_topi (fun x11 ex11 => ?_)
          refine lv_goto (tgt := 67) hx hb dX11_thief_48 (by decide) ?_
          exact ret x11 σ7 _ _ 67 _ (rfl) (⟨hI, trivial⟩) hw dX11_thief_67
      · have c28i := congrArg Int32.toInt c28
        have p28 := bz0 hr6 c28
        refine lv_bipush (v := -2) hx hb dX11_thief_31 (by decide) ?_
        exact ret (-2 : Int32) σ _ _ 33 _ (rfl) (⟨hI, trivial⟩) hw dX11_thief_33
set_option maxHeartbeats 4000000 in
set_option maxRecDepth 100000 in
theorem c_X11_safest (l : Launch) (G : Gg) (hG : Ginj G) (σ : Sg) (hI0 : Inv σ) (v : Int32) : MI l G yX11_safest cX11_safest 5 .int (rmO 4 93) σ [.ref (ad G (78)), .int v] (fun r σ' => K0 σ σ' ∧ (True)) := by
  refine MI.of (by decide +kernel) (Nat.le_of_ble_eq_true rfl) ?_
  intro p e s m a below meth c ls Q hx hb hml hts hown hk hw ret hl
  have hown : s.vm.findClass RX11 = some m.cls := hown
  have hl : lv_has ls 5 [(0, .ref (ad G (78))), (1, .int v)] := hl
  have hI : K0 σ σ := K0.rf hI0
  have Lm6 : (-6 : Int32).toInt = -6 := by decide
  have Lm2 : (-2 : Int32).toInt = -2 := by decide
  have L0 : (0 : Int32).toInt = 0 := by decide
  have L1 : (1 : Int32).toInt = 1 := by decide
  have L8 : (8 : Int32).toInt = 8 := by decide
  have L512 : (512 : Int32).toInt = 512 := by decide
  have M0 : (0 : Int64).toInt = 0 := by decide
  have M2 : (2 : Int64).toInt = 2 := by decide
  generalize hHe : s.heap = H at hw ⊢
  generalize hLe : ([] : List Loc) = locs at hw ⊢
  refine lv_iload_n hx hb dX11_safest_0 rfl (lv_at hl 1 rfl) ?_
  refine lv_i2l hx hb dX11_safest_1 rfl ?_
  refine lv_lconst (v := 0) hx hb dX11_safest_2 (by decide) ?_
  refine lv_ldc2 hx hb hown (hts _ wd549) dX11_safest_3 ?_
  refine te_vi hw (ru_S (As := [.long v.toInt64, .long (0 : Int64), .long (2 : Int64)]) (rest := []) hx hb hml hts hown hk hw (c_X11_in l G hG σ hI.1 v.toInt64 (0 : Int64) (2 : Int64)) (m3_in wd156 wd157 wd5) wd158 nm_yX11_in ⟨rfl, rfl⟩ ⟨by decide, by decide⟩ rfl hl.1 rfl (Nat.le_of_ble_eq_true rfl) dX11_safest_6 ⟨Nat.zero_le _, Nat.zero_le _⟩) (fun r2 σ1 H locs hr2 hw => ?_)
  rw [hr2.1] at hw
  have hr2 := hr2.2
  simp only [Int32.toInt_toInt64] at hr2
  refine lv_if_ne (tgt := 15) hx hb dX11_safest_9 (by decide) (fun c9 => ?_) (fun c9 => ?_)
  · have c9i := mt Int32.toInt_inj.mp c9
    have p9 := bz1 hr2 c9
    refine lv_bipush (v := -6) hx hb dX11_safest_15 (by decide) ?_
    refine lv_istore_n (lv' := [(2, .int (-6 : Int32)), (0, .ref (ad G (78))), (1, .int v)]) hx hb dX11_safest_17 rfl hl (by decide) rfl (fun ls hl => ?_)
    refine lv_iconst (v := 0) hx hb dX11_safest_18 (by decide) ?_
    refine lv_istore_n (lv' := [(3, .int (0 : Int32)), (2, .int (-6 : Int32)), (0, .ref (ad G (78))), (1, .int v)]) hx hb dX11_safest_19 rfl hl (by decide) rfl (fun ls hl => ?_)
    refine lv_iconst (v := 0) hx hb dX11_safest_20 (by decide) ?_
    refine lv_istore (lv' := [(4, .int (0 : Int32)), (3, .int (0 : Int32)), (2, .int (-6 : Int32)), (0, .ref (ad G (78))), (1, .int v)]) hx hb dX11_safest_21 hl (by decide) rfl (fun ls hl => ?_)
    have cut23 : ∀ (n : Nat) (z2_23 : Int32) (z3_23 : Int32) (z4_23 : Int32) (σc23 : Sg) (H : Heap) (locs : List Loc) (ls : Array Slot), (0 ≤ z4_23.toInt ∧ z4_23.toInt ≤ 512) → K0 σ σc23 → ((512 - z4_23.toInt).toNat : Int) < (n : Int) → Wo G σc23 s H locs → lv_has ls 5 [(0, .ref (ad G (78))), (1, .int v), (2, .int z2_23), (3, .int z3_23), (4, .int z4_23)] → W p l e (rmO 4 93) s m a below meth c H locs 0 0 Q (F0 m 23 ls []) := by
      intro n23
      induction n23 with
      | zero =>
        intro z2_23 z3_23 z4_23 σc23 H locs ls f23_0 hI hm23 hw hl
        exfalso; omega
      | succ n23 ih23 =>
        intro z2_23 z3_23 z4_23 σc23 H locs ls f23_0 hI hm23 hw hl
        refine lv_iload hx hb dX11_safest_23 (lv_at hl 4 rfl) ?_
        refine lv_sipush (v := 512) hx hb dX11_safest_25 (by decide) ?_
        refine lv_icmp_ge (tgt := 78) hx hb dX11_safest_28 (by decide) (fun c28 => ?_) (fun c28 => ?_)
        · have c28i := Int32.le_iff_toInt_le.mp c28
          refine lv_iload_n hx hb dX11_safest_78 rfl (lv_at hl 1 rfl) ?_
          refine lv_if_ne (tgt := 86) hx hb dX11_safest_79 (by decide) (fun c79 => ?_) (fun c79 => ?_)
          · have c79i := mt Int32.toInt_inj.mp c79
            refine lv_iload_n hx hb dX11_safest_86 rfl (lv_at hl 1 rfl) ?_
            refine lv_iconst (v := 1) hx hb dX11_safest_87 (by decide) ?_
            refine lv_icmp_ne (tgt := 98) hx hb dX11_safest_88 (by decide) (fun c88 => ?_) (fun c88 => ?_)
            · have c88i := mt Int32.toInt_inj.mp c88
              refine lv_iload_n hx hb dX11_safest_98 rfl (lv_at hl 3 rfl) ?_
              refine lv_bipush (v := 8) hx hb dX11_safest_99 (by decide) ?_
              refine lv_irem hx hb dX11_safest_101 (by decide) ?_
              refine lv_topi (fun x3 ex3 => ?_)
              have tx3 : -8 < x3.toInt ∧ x3.toInt < 8 := by rw [ex3]; exact irem_bd L8 (by decide)
              exact ret x3 σc23 _ _ 102 _ (rfl) (⟨hI, trivial⟩) hw dX11_safest_102
            · have c88i := congrArg Int32.toInt c88
              refine lv_iload_n hx hb dX11_safest_91 rfl (lv_at hl 3 rfl) ?_
              refine lv_bipush (v := 8) hx hb dX11_safest_92 (by decide) ?_
              refine lv_idiv hx hb dX11_safest_94 (by decide) ?_
              refine lv_topi (fun x4 ex4 => ?_)
              refine lv_goto (tgt := 102) hx hb dX11_safest_95 (by decide) ?_
              exact ret x4 σc23 _ _ 102 _ (rfl) (⟨hI, trivial⟩) hw dX11_safest_102
          · have c79i := congrArg Int32.toInt c79
            refine lv_iload_n hx hb dX11_safest_82 rfl (lv_at hl 2 rfl) ?_
            refine lv_goto (tgt := 102) hx hb dX11_safest_83 (by decide) ?_
            exact ret z2_23 σc23 _ _ 102 _ (rfl) (⟨hI, trivial⟩) hw dX11_safest_102
        · have c28i := mt Int32.le_iff_toInt_le.mpr c28
          refine lv_iload hx hb dX11_safest_31 (lv_at hl 4 rfl) ?_
          refine lv_bipush (v := 8) hx hb dX11_safest_33 (by decide) ?_
          refine lv_idiv hx hb dX11_safest_35 (by decide) ?_
          refine lv_topi (fun x5 ex5 => ?_)
          have tx5 : x5.toInt = z4_23.toInt / 8 := by rw [ex5]; exact idiv_nn L8 (by decide) (by omega)
          refine te_vi hw (ru_S (As := [.int x5]) (rest := []) hx hb hml hts hown hk hw (c_X11_isEdge l G hG σc23 hI.1 x5) (m3_in wd615 wd616 wd5) wd617 nm_yX11_isEdge ⟨rfl, rfl⟩ ⟨by decide, by decide⟩ rfl hl.1 rfl (Nat.le_of_ble_eq_true rfl) dX11_safest_36 ⟨Nat.zero_le _, Nat.zero_le _⟩) (fun r7 σ6 H locs hr7 hw => ?_)
          rw [hr7.1] at hw
          have hr7 := hr7.2
          refine lv_if_eq (tgt := 72) hx hb dX11_safest_39 (by decide) (fun c39 => ?_) (fun c39 => ?_)
          · have c39i := congrArg Int32.toInt c39
            obtain ⟨x8, ex8⟩ : ∃ z : Int32, z = z4_23 + (1 : Int32) := ⟨_, rfl⟩
            refine lv_iinc (v := x8) (lv' := [(4, .int x8), (0, .ref (ad G (78))), (1, .int v), (2, .int z2_23), (3, .int z3_23)]) hx hb dX11_safest_72 hl (k := 4) rfl (by rw [ex8]; rfl) (by decide) rfl (fun ls hl => ?_)
            have tx8 : x8.toInt = z4_23.toInt + 1 := by rw [ex8, Jvm.Kit.i32_add (by omega) (by omega)]; omega
            refine lv_goto (tgt := 23) hx hb dX11_safest_75 (by decide) ?_
            exact ih23 z2_23 z3_23 x8 σc23 _ _ _ (by omega) hI (by omega) hw (lv_sub hl [1, 2, 3, 4, 0] rfl)
          · have c39i := mt Int32.toInt_inj.mp c39
            refine lv_aload_n hx hb dX11_safest_42 rfl (lv_at hl 0 rfl) ?_
            refine lv_iload hx hb dX11_safest_43 (lv_at hl 4 rfl) ?_
            refine lv_bipush (v := 8) hx hb dX11_safest_45 (by decide) ?_
            refine lv_idiv hx hb dX11_safest_47 (by decide) ?_
            refine lv_topi (fun x9 ex9 => ?_)
            have tx9 : x9.toInt = z4_23.toInt / 8 := by rw [ex9]; exact idiv_nn L8 (by decide) (by omega)
            refine lv_iload hx hb dX11_safest_48 (lv_at hl 4 rfl) ?_
            refine lv_bipush (v := 8) hx hb dX11_safest_50 (by decide) ?_
            refine lv_irem hx hb dX11_safest_52 (by decide) ?_
            refine lv_topi (fun x10 ex10 => ?_)
            have tx10 : x10.toInt = z4_23.toInt % 8 := by rw [ex10]; exact irem_nn L8 (by omega)
            have bx10 : 0 ≤ x10.toInt ∧ x10.toInt ≤ 7 := by omega
            refine te_vv hw (ru_V (As := [.int x9, .int x10]) (rest := []) (C := RX11) hx hb hml hts hown hk hw (c_X11_steal l G hG σc23 hI.1 x9 x10 (by omega) (by omega)) (m4_in wd596 wd597 wd598 wd5) wd599 (en10 (rfl : nk 78 = 10)) rfl rfl rfl nm_yX11_steal ⟨rfl, rfl⟩ ⟨by decide, by decide⟩ rfl hl.1 rfl (Nat.le_of_ble_eq_true rfl) dX11_safest_53 ⟨Nat.zero_le _, Nat.zero_le _⟩) (fun σ11 H locs hr12 hw => ?_)
            have hI := hI.go hr12.1
            have hr12 := hr12.2
            refine lv_aload_n hx hb dX11_safest_56 rfl (lv_at hl 0 rfl) ?_
            refine tg_get (ci := 10) (k := 19) (v := .int (σ11 (78) 19)) hx hb hts hown hk hw (en10 (rfl : nk 78 = 10)) rfl inlX11 (by decide) wd595 rfl dX11_safest_57 ?_
            refine lv_topi (fun x13 ex13 => ?_)
            refine lv_iload_n hx hb dX11_safest_60 rfl (lv_at hl 2 rfl) ?_
            refine lv_icmp_le (tgt := 72) hx hb dX11_safest_61 (by decide) (fun c61 => ?_) (fun c61 => ?_)
            · have ox13 := i32b x13
              have oz2_23 := i32b z2_23
              have c61i := Int32.le_iff_toInt_le.mp c61
              obtain ⟨x14, ex14⟩ : ∃ z : Int32, z = z4_23 + (1 : Int32) := ⟨_, rfl⟩
              refine lv_iinc (v := x14) (lv' := [(4, .int x14), (0, .ref (ad G (78))), (1, .int v), (2, .int z2_23), (3, .int z3_23)]) hx hb dX11_safest_72 hl (k := 4) rfl (by rw [ex14]; rfl) (by decide) rfl (fun ls hl => ?_)
              have tx14 : x14.toInt = z4_23.toInt + 1 := by rw [ex14, Jvm.Kit.i32_add (by omega) (by omega)]; omega
              refine lv_goto (tgt := 23) hx hb dX11_safest_75 (by decide) ?_
              exact ih23 z2_23 z3_23 x14 σ11 _ _ _ (by omega) hI (by omega) hw (lv_sub hl [1, 2, 3, 4, 0] rfl)
            · have ox13 := i32b x13
              have oz2_23 := i32b z2_23
              have c61i := mt Int32.le_iff_toInt_le.mpr c61
              refine lv_aload_n hx hb dX11_safest_64 rfl (lv_at hl 0 rfl) ?_
              refine tg_get (ci := 10) (k := 19) (v := .int (σ11 (78) 19)) hx hb hts hown hk hw (en10 (rfl : nk 78 = 10)) rfl inlX11 (by decide) wd595 rfl dX11_safest_65 ?_
              refine lv_topi (fun x15 ex15 => ?_)
              have qx15 : x15.toInt = x13.toInt := by rw [ex15, ex13]
              refine lv_istore_n (lv' := [(2, .int x15), (0, .ref (ad G (78))), (1, .int v), (3, .int z3_23), (4, .int z4_23)]) hx hb dX11_safest_68 rfl hl (by decide) rfl (fun ls hl => ?_)
              refine lv_iload hx hb dX11_safest_69 (lv_at hl 4 rfl) ?_
              refine lv_istore_n (lv' := [(3, .int z4_23), (2, .int x15), (0, .ref (ad G (78))), (1, .int v), (4, .int z4_23)]) hx hb dX11_safest_71 rfl hl (by decide) rfl (fun ls hl => ?_)
              obtain ⟨x16, ex16⟩ : ∃ z : Int32, z = z4_23 + (1 : Int32) := ⟨_, rfl⟩
              refine lv_iinc (v := x16) (lv' := [(4, .int x16), (3, .int z4_23), (2, .int x15), (0, .ref (ad G (78))), (1, .int v)]) hx hb dX11_safest_72 hl (k := 4) rfl (by rw [ex16]; rfl) (by decide) rfl (fun ls hl => ?_)
              have tx16 : x16.toInt = z4_23.toInt + 1 := by rw [ex16, Jvm.Kit.i32_add (by omega) (by omega)]; omega
              refine lv_goto (tgt := 23) hx hb dX11_safest_75 (by decide) ?_
              exact ih23 x15 z4_23 x16 σ11 _ _ _ (by omega) hI (by omega) hw (lv_sub hl [3, 4, 2, 1, 0] rfl)
    exact cut23 ((((512 - (0 : Int32).toInt).toNat : Int)).toNat + 1) (-6 : Int32) (0 : Int32) (0 : Int32) σ _ _ _ (by omega) hI (by omega) hw (lv_sub hl [3, 4, 2, 1, 0] rfl)
  · have c9i := congrArg Int32.toInt c9
    have p9 := bz0 hr2 c9
    refine lv_bipush (v := -2) hx hb dX11_safest_12 (by decide) ?_
    exact ret (-2 : Int32) σ _ _ 14 _ (rfl) (⟨hI, trivial⟩) hw dX11_safest_14
set_option maxHeartbeats 4000000 in
set_option maxRecDepth 100000 in
theorem c_X11_swap (l : Launch) (G : Gg) (hG : Ginj G) (σ : Sg) (hI0 : Inv σ) (v : Int32) (w : Int32) : MI l G yX11_swap cX11_swap 3 .int (rmO 3 66) σ [.ref (ad G (78)), .int v, .int w] (fun r σ' => K0 σ σ' ∧ (r = if (0 ≤ v.toInt ∧ v.toInt ≤ 3 ∧ 0 ≤ w.toInt ∧ w.toInt ≤ 3 ∧ ¬ v.toInt = w.toInt) then 1 else -1)) := by
  refine MI.of (by decide +kernel) (Nat.le_of_ble_eq_true rfl) ?_
  intro p e s m a below meth c ls Q hx hb hml hts hown hk hw ret hl
  have hown : s.vm.findClass RX11 = some m.cls := hown
  have hl : lv_has ls 3 [(0, .ref (ad G (78))), (1, .int v), (2, .int w)] := hl
  have hI : K0 σ σ := K0.rf hI0
  have Lm1 : (-1 : Int32).toInt = -1 := by decide
  have L0 : (0 : Int32).toInt = 0 := by decide
  have L1 : (1 : Int32).toInt = 1 := by decide
  generalize hHe : s.heap = H at hw ⊢
  generalize hLe : ([] : List Loc) = locs at hw ⊢
  refine lv_iload_n hx hb dX11_swap_0 rfl (lv_at hl 1 rfl) ?_
  refine lv_iload_n hx hb dX11_swap_1 rfl (lv_at hl 2 rfl) ?_
  refine te_vi hw (ru_S (As := [.int v, .int w]) (rest := []) hx hb hml hts hown hk hw (c_X11_areTwo l G hG σ hI.1 v w) (m3_in wd635 wd636 wd5) wd637 nm_yX11_areTwo ⟨rfl, rfl⟩ ⟨by decide, by decide⟩ rfl hl.1 rfl (Nat.le_of_ble_eq_true rfl) dX11_swap_2 ⟨Nat.zero_le _, Nat.zero_le _⟩) (fun r2 σ1 H locs hr2 hw => ?_)
  rw [hr2.1] at hw
  have hr2 := hr2.2
  refine lv_if_ne (tgt := 10) hx hb dX11_swap_5 (by decide) (fun c5 => ?_) (fun c5 => ?_)
  · have c5i := mt Int32.toInt_inj.mp c5
    have p5 := bz1 hr2 c5
    refine lv_aload_n hx hb dX11_swap_10 rfl (lv_at hl 0 rfl) ?_
    refine tg_get (ci := 10) (k := 0) (v := .ref (ad G (79))) hx hb hts hown hk hw (en10 (rfl : nk 78 = 10)) rfl inlX11 (by decide) wd105 rfl dX11_swap_11 ?_
    refine lv_iload_n hx hb dX11_swap_14 rfl (lv_at hl 1 rfl) ?_
    refine lv_iload_n hx hb dX11_swap_15 rfl (lv_at hl 2 rfl) ?_
    refine te_vv hw (ru_S (As := [.ref (ad G (79)), .int v, .int w]) (rest := []) hx hb hml hts hown hk hw (c_X11_swapBags l G hG σ hI.1 79 (rfl : nk 79 = 132) v w (by omega) (by omega)) (m3_in wd638 wd639 wd5) wd640 nm_yX11_swapBags ⟨rfl, rfl⟩ ⟨by decide, by decide⟩ rfl hl.1 rfl (Nat.le_of_ble_eq_true rfl) dX11_swap_16 ⟨Nat.zero_le _, Nat.zero_le _⟩) (fun σ3 H locs hr4 hw => ?_)
    have hI := hI.go hr4.1
    have hr4 := hr4.2
    refine lv_iconst (v := 1) hx hb dX11_swap_19 (by decide) ?_
    exact ret (1 : Int32) σ3 _ _ 20 _ (rfl) (⟨hI, by split <;> first | rfl | (exfalso; omega)⟩) hw dX11_swap_20
  · have c5i := congrArg Int32.toInt c5
    have p5 := bz0 hr2 c5
    refine lv_iconst (v := -1) hx hb dX11_swap_8 (by decide) ?_
    exact ret (-1 : Int32) σ _ _ 9 _ (rfl) (⟨hI, by split <;> first | rfl | (exfalso; omega)⟩) hw dX11_swap_9
set_option maxHeartbeats 4000000 in
set_option maxRecDepth 100000 in
theorem c_X11_found (l : Launch) (G : Gg) (hG : Ginj G) (σ : Sg) (hI0 : Inv σ) (v : Int32) (w : Int32) : MI l G yX11_found cX11_found 6 .int (rmO 5 121) σ [.ref (ad G (78)), .int v, .int w] (fun r σ' => K0 σ σ' ∧ (True)) := by
  refine MI.of (by decide +kernel) (Nat.le_of_ble_eq_true rfl) ?_
  intro p e s m a below meth c ls Q hx hb hml hts hown hk hw ret hl
  have hown : s.vm.findClass RX11 = some m.cls := hown
  have hl : lv_has ls 6 [(0, .ref (ad G (78))), (1, .int v), (2, .int w)] := hl
  have hI : K0 σ σ := K0.rf hI0
  have Lm6 : (-6 : Int32).toInt = -6 := by decide
  have Lm5 : (-5 : Int32).toInt = -5 := by decide
  have Lm1 : (-1 : Int32).toInt = -1 := by decide
  have L0 : (0 : Int32).toInt = 0 := by decide
  have L1 : (1 : Int32).toInt = 1 := by decide
  have L256 : (256 : Int32).toInt = 256 := by decide
  generalize hHe : s.heap = H at hw ⊢
  generalize hLe : ([] : List Loc) = locs at hw ⊢
  refine lv_iload_n hx hb dX11_found_0 rfl (lv_at hl 1 rfl) ?_
  refine lv_iload_n hx hb dX11_found_1 rfl (lv_at hl 2 rfl) ?_
  refine te_vi hw (ru_S (As := [.int v, .int w]) (rest := []) hx hb hml hts hown hk hw (c_X11_areTwo l G hG σ hI.1 v w) (m3_in wd635 wd636 wd5) wd637 nm_yX11_areTwo ⟨rfl, rfl⟩ ⟨by decide, by decide⟩ rfl hl.1 rfl (Nat.le_of_ble_eq_true rfl) dX11_found_2 ⟨Nat.zero_le _, Nat.zero_le _⟩) (fun r2 σ1 H locs hr2 hw => ?_)
  rw [hr2.1] at hw
  have hr2 := hr2.2
  refine lv_if_ne (tgt := 10) hx hb dX11_found_5 (by decide) (fun c5 => ?_) (fun c5 => ?_)
  · have c5i := mt Int32.toInt_inj.mp c5
    have p5 := bz1 hr2 c5
    refine lv_aload_n hx hb dX11_found_10 rfl (lv_at hl 0 rfl) ?_
    refine te_vi hw (ru_V (As := []) (rest := []) (C := RX11) hx hb hml hts hown hk hw (c_X11_fault l G hG σ hI.1) (m4_in wd330 wd241 wd242 wd5) wd243 (en10 (rfl : nk 78 = 10)) rfl rfl rfl nm_yX11_fault ⟨rfl, rfl⟩ ⟨by decide, by decide⟩ rfl hl.1 rfl (Nat.le_of_ble_eq_true rfl) dX11_found_11 ⟨Nat.zero_le _, Nat.zero_le _⟩) (fun r4 σ3 H locs hr4 hw => ?_)
    rw [hr4.1] at hw
    have hr4 := hr4.2
    have hF := hr4
    refine lv_if_lt (tgt := 20) hx hb dX11_found_14 (by decide) (fun c14 => ?_) (fun c14 => ?_)
    · have c14i := Int32.lt_iff_toInt_lt.mp c14
      refine lv_aload_n hx hb dX11_found_20 rfl (lv_at hl 0 rfl) ?_
      refine te_vi hw (ru_V (As := []) (rest := []) (C := RX11) hx hb hml hts hown hk hw (c_X11_partsOf l G hG σ hI.1) (m4_in wd336 wd337 wd338 wd5) wd339 (en10 (rfl : nk 78 = 10)) rfl rfl rfl nm_yX11_partsOf ⟨rfl, rfl⟩ ⟨by decide, by decide⟩ rfl hl.1 rfl (Nat.le_of_ble_eq_true rfl) dX11_found_21 ⟨Nat.zero_le _, Nat.zero_le _⟩) (fun r6 σ5 H locs hr6 hw => ?_)
      rw [hr6.1] at hw
      have hr6 := hr6.2
      refine lv_istore_n (lv' := [(3, .int r6), (0, .ref (ad G (78))), (1, .int v), (2, .int w)]) hx hb dX11_found_24 rfl hl (by decide) rfl (fun ls hl => ?_)
      refine lv_iconst (v := 0) hx hb dX11_found_25 (by decide) ?_
      refine lv_istore (lv' := [(4, .int (0 : Int32)), (3, .int r6), (0, .ref (ad G (78))), (1, .int v), (2, .int w)]) hx hb dX11_found_26 hl (by decide) rfl (fun ls hl => ?_)
      have cut28 : ∀ (n : Nat) (z4_28 : Int32) (σc28 : Sg) (H : Heap) (locs : List Loc) (ls : Array Slot), (0 ≤ z4_28.toInt ∧ z4_28.toInt ≤ 2147483647) → K0 σ σc28 → ((r6.toInt - z4_28.toInt).toNat : Int) < (n : Int) → Wo G σc28 s H locs → lv_has ls 6 [(0, .ref (ad G (78))), (1, .int v), (2, .int w), (3, .int r6), (4, .int z4_28)] → W p l e (rmO 5 121) s m a below meth c H locs 0 0 Q (F0 m 28 ls []) := by
        intro n28
        induction n28 with
        | zero =>
          intro z4_28 σc28 H locs ls f28_0 hI hm28 hw hl
          exfalso; omega
        | succ n28 ih28 =>
          intro z4_28 σc28 H locs ls f28_0 hI hm28 hw hl
          refine lv_iload hx hb dX11_found_28 (lv_at hl 4 rfl) ?_
          refine lv_iload_n hx hb dX11_found_30 rfl (lv_at hl 3 rfl) ?_
          refine lv_icmp_ge (tgt := 141) hx hb dX11_found_31 (by decide) (fun c31 => ?_) (fun c31 => ?_)
          · have oz4_28 := i32b z4_28
            have or6 := i32b r6
            have c31i := Int32.le_iff_toInt_le.mp c31
            refine lv_bipush (v := -6) hx hb dX11_found_141 (by decide) ?_
            exact ret (-6 : Int32) σc28 _ _ 143 _ (rfl) (⟨hI, trivial⟩) hw dX11_found_143
          · have oz4_28 := i32b z4_28
            have or6 := i32b r6
            have c31i := mt Int32.le_iff_toInt_le.mpr c31
            refine lv_aload_n hx hb dX11_found_34 rfl (lv_at hl 0 rfl) ?_
            refine te_vv hw (ru_V (As := []) (rest := []) (C := RX11) hx hb hml hts hown hk hw (c_X11_lay l G hG σc28 hI.1) (m4_in wd331 wd332 wd333 wd5) wd334 (en10 (rfl : nk 78 = 10)) rfl rfl rfl nm_yX11_lay ⟨rfl, rfl⟩ ⟨by decide, by decide⟩ rfl hl.1 rfl (Nat.le_of_ble_eq_true rfl) dX11_found_35 ⟨Nat.zero_le _, Nat.zero_le _⟩) (fun σ7 H locs hr8 hw => ?_)
            have hI := hI.go hr8.1
            have hr8 := hr8.2
            refine lv_aload_n hx hb dX11_found_38 rfl (lv_at hl 0 rfl) ?_
            refine lv_iload hx hb dX11_found_39 (lv_at hl 4 rfl) ?_
            refine lv_iconst (v := 1) hx hb dX11_found_41 (by decide) ?_
            refine lv_iadd hx hb dX11_found_42 ?_
            refine lv_topi (fun x9 ex9 => ?_)
            have tx9 : x9.toInt = z4_28.toInt + (1 : Int32).toInt := by rw [ex9]; exact Jvm.Kit.i32_add (by omega) (by omega)
            refine te_vv hw (ru_V (As := [.int x9]) (rest := []) (C := RX11) hx hb hml hts hown hk hw (c_X11_goNight l G hG σ7 hI.1 x9 (by rw [hI.2 78 7 rfl]; intro q; rw [hI.2 84 _ rfl]; exact hF (by omega) q)) (m4_in wd340 wd341 wd342 wd5) wd343 (en10 (rfl : nk 78 = 10)) rfl rfl rfl nm_yX11_goNight ⟨rfl, rfl⟩ ⟨by decide, by decide⟩ rfl hl.1 rfl (Nat.le_of_ble_eq_true rfl) dX11_found_43 ⟨Nat.zero_le _, Nat.zero_le _⟩) (fun σ10 H locs hr11 hw => ?_)
            have hI := hI.go hr11.1
            have hr11 := hr11.2
            refine lv_iconst (v := 0) hx hb dX11_found_46 (by decide) ?_
            refine lv_istore (lv' := [(5, .int (0 : Int32)), (0, .ref (ad G (78))), (1, .int v), (2, .int w), (3, .int r6), (4, .int z4_28)]) hx hb dX11_found_47 hl (by decide) rfl (fun ls hl => ?_)
            have cut49 : ∀ (n : Nat) (z5_49 : Int32) (σc49 : Sg) (H : Heap) (locs : List Loc) (ls : Array Slot), (0 ≤ z5_49.toInt ∧ z5_49.toInt ≤ 256) → K0 σ σc49 → ((256 - z5_49.toInt).toNat : Int) < (n : Int) → Wo G σc49 s H locs → lv_has ls 6 [(0, .ref (ad G (78))), (1, .int v), (2, .int w), (3, .int r6), (4, .int z4_28), (5, .int z5_49)] → W p l e (rmO 5 121) s m a below meth c H locs 0 0 Q (F0 m 49 ls []) := by
              intro n49
              induction n49 with
              | zero =>
                intro z5_49 σc49 H locs ls f49_0 hI hm49 hw hl
                exfalso; omega
              | succ n49 ih49 =>
                intro z5_49 σc49 H locs ls f49_0 hI hm49 hw hl
                refine lv_iload hx hb dX11_found_49 (lv_at hl 5 rfl) ?_
                refine lv_sipush (v := 256) hx hb dX11_found_51 (by decide) ?_
                refine lv_icmp_ge (tgt := 77) hx hb dX11_found_54 (by decide) (fun c54 => ?_) (fun c54 => ?_)
                · have c54i := Int32.le_iff_toInt_le.mp c54
                  refine lv_aload_n hx hb dX11_found_77 rfl (lv_at hl 0 rfl) ?_
                  refine te_vv hw (ru_V (As := []) (rest := []) (C := RX11) hx hb hml hts hown hk hw (c_X11_lay l G hG σc49 hI.1) (m4_in wd331 wd332 wd333 wd5) wd334 (en10 (rfl : nk 78 = 10)) rfl rfl rfl nm_yX11_lay ⟨rfl, rfl⟩ ⟨by decide, by decide⟩ rfl hl.1 rfl (Nat.le_of_ble_eq_true rfl) dX11_found_78 ⟨Nat.zero_le _, Nat.zero_le _⟩) (fun σ12 H locs hr13 hw => ?_)
                  have hI := hI.go hr13.1
                  have hr13 := hr13.2
                  refine lv_aload_n hx hb dX11_found_81 rfl (lv_at hl 0 rfl) ?_
                  refine tg_get (ci := 10) (k := 8) (v := .ref (ad G (85))) hx hb hts hown hk hw (en10 (rfl : nk 78 = 10)) rfl inlX11 (by decide) wd111 rfl dX11_found_82 ?_
                  refine lv_iload_n hx hb dX11_found_85 rfl (lv_at hl 1 rfl) ?_
                  refine lv_iload_n hx hb dX11_found_86 rfl (lv_at hl 2 rfl) ?_
                  refine te_vv hw (ru_S (As := [.ref (ad G (85)), .int v, .int w]) (rest := []) hx hb hml hts hown hk hw (c_X11_swapBags l G hG σ12 hI.1 85 (rfl : nk 85 = 132) v w (by omega) (by omega)) (m3_in wd638 wd639 wd5) wd640 nm_yX11_swapBags ⟨rfl, rfl⟩ ⟨by decide, by decide⟩ rfl hl.1 rfl (Nat.le_of_ble_eq_true rfl) dX11_found_87 ⟨Nat.zero_le _, Nat.zero_le _⟩) (fun σ14 H locs hr15 hw => ?_)
                  have hI := hI.go hr15.1
                  have hr15 := hr15.2
                  refine lv_aload_n hx hb dX11_found_90 rfl (lv_at hl 0 rfl) ?_
                  refine lv_iload hx hb dX11_found_91 (lv_at hl 4 rfl) ?_
                  refine lv_iconst (v := 1) hx hb dX11_found_93 (by decide) ?_
                  refine lv_iadd hx hb dX11_found_94 ?_
                  refine lv_topi (fun x16 ex16 => ?_)
                  have tx16 : x16.toInt = z4_28.toInt + (1 : Int32).toInt := by rw [ex16]; exact Jvm.Kit.i32_add (by omega) (by omega)
                  refine te_vv hw (ru_V (As := [.int x16]) (rest := []) (C := RX11) hx hb hml hts hown hk hw (c_X11_goNight l G hG σ14 hI.1 x16 (by rw [hI.2 78 7 rfl]; intro q; rw [hI.2 84 _ rfl]; exact hF (by omega) q)) (m4_in wd340 wd341 wd342 wd5) wd343 (en10 (rfl : nk 78 = 10)) rfl rfl rfl nm_yX11_goNight ⟨rfl, rfl⟩ ⟨by decide, by decide⟩ rfl hl.1 rfl (Nat.le_of_ble_eq_true rfl) dX11_found_95 ⟨Nat.zero_le _, Nat.zero_le _⟩) (fun σ17 H locs hr18 hw => ?_)
                  have hI := hI.go hr18.1
                  have hr18 := hr18.2
                  refine lv_iconst (v := 0) hx hb dX11_found_98 (by decide) ?_
                  refine lv_istore (lv' := [(5, .int (0 : Int32)), (0, .ref (ad G (78))), (1, .int v), (2, .int w), (3, .int r6), (4, .int z4_28)]) hx hb dX11_found_99 hl (by decide) rfl (fun ls hl => ?_)
                  have cut101 : ∀ (n : Nat) (z5_101 : Int32) (H : Heap) (locs : List Loc) (ls : Array Slot), (0 ≤ z5_101.toInt ∧ z5_101.toInt ≤ 256) → ((256 - z5_101.toInt).toNat : Int) < (n : Int) → Wo G σ17 s H locs → lv_has ls 6 [(0, .ref (ad G (78))), (1, .int v), (2, .int w), (3, .int r6), (4, .int z4_28), (5, .int z5_101)] → W p l e (rmO 5 121) s m a below meth c H locs 0 0 Q (F0 m 101 ls []) := by
                    intro n101
                    induction n101 with
                    | zero =>
                      intro z5_101 H locs ls f101_0 hm101 hw hl
                      exfalso; omega
                    | succ n101 ih101 =>
                      intro z5_101 H locs ls f101_0 hm101 hw hl
                      refine lv_iload hx hb dX11_found_101 (lv_at hl 5 rfl) ?_
                      refine lv_sipush (v := 256) hx hb dX11_found_103 (by decide) ?_
                      refine lv_icmp_ge (tgt := 135) hx hb dX11_found_106 (by decide) (fun c106 => ?_) (fun c106 => ?_)
                      · have c106i := Int32.le_iff_toInt_le.mp c106
                        obtain ⟨x19, ex19⟩ : ∃ z : Int32, z = z4_28 + (1 : Int32) := ⟨_, rfl⟩
                        refine lv_iinc (v := x19) (lv' := [(4, .int x19), (0, .ref (ad G (78))), (1, .int v), (2, .int w), (3, .int r6), (5, .int z5_101)]) hx hb dX11_found_135 hl (k := 4) rfl (by rw [ex19]; rfl) (by decide) rfl (fun ls hl => ?_)
                        have tx19 : x19.toInt = z4_28.toInt + 1 := by rw [ex19, Jvm.Kit.i32_add (by omega) (by omega)]; omega
                        refine lv_goto (tgt := 28) hx hb dX11_found_138 (by decide) ?_
                        exact ih28 x19 σ17 _ _ _ (by omega) hI (by omega) hw (lv_sub hl [1, 2, 3, 4, 0] rfl)
                      · have c106i := mt Int32.le_iff_toInt_le.mpr c106
                        refine lv_aload_n hx hb dX11_found_109 rfl (lv_at hl 0 rfl) ?_
                        refine tg_get (ci := 10) (k := 20) (v := .ref (ad G (89))) hx hb hts hown hk hw (en10 (rfl : nk 78 = 10)) rfl inlX11 (by decide) wd115 rfl dX11_found_110 ?_
                        refine lv_iload hx hb dX11_found_113 (lv_at hl 5 rfl) ?_
                        have hv115 : vp_in z5_101 256 := vin ⟨by omega, by omega⟩
                        refine tg_iald hx hb hk hw (en356 (rfl : nk 89 = 356)) hv115 dX11_found_115 ?_
                        refine lv_topi (fun x20 ex20 => ?_)
                        refine lv_aload_n hx hb dX11_found_116 rfl (lv_at hl 0 rfl) ?_
                        refine tg_get (ci := 10) (k := 9) (v := .ref (ad G (86))) hx hb hts hown hk hw (en10 (rfl : nk 78 = 10)) rfl inlX11 (by decide) wd112 rfl dX11_found_117 ?_
                        refine lv_iload hx hb dX11_found_120 (lv_at hl 5 rfl) ?_
                        have hv122 : vp_in z5_101 256 := vin ⟨by omega, by omega⟩
                        refine tg_iald hx hb hk hw (en356 (rfl : nk 86 = 356)) hv122 dX11_found_122 ?_
                        refine lv_topi (fun x21 ex21 => ?_)
                        refine lv_icmp_eq (tgt := 129) hx hb dX11_found_123 (by decide) (fun c123 => ?_) (fun c123 => ?_)
                        · have ox20 := i32b x20
                          have ox21 := i32b x21
                          have c123i := congrArg Int32.toInt c123
                          obtain ⟨x22, ex22⟩ : ∃ z : Int32, z = z5_101 + (1 : Int32) := ⟨_, rfl⟩
                          refine lv_iinc (v := x22) (lv' := [(5, .int x22), (0, .ref (ad G (78))), (1, .int v), (2, .int w), (3, .int r6), (4, .int z4_28)]) hx hb dX11_found_129 hl (k := 5) rfl (by rw [ex22]; rfl) (by decide) rfl (fun ls hl => ?_)
                          have tx22 : x22.toInt = z5_101.toInt + 1 := by rw [ex22, Jvm.Kit.i32_add (by omega) (by omega)]; omega
                          refine lv_goto (tgt := 101) hx hb dX11_found_132 (by decide) ?_
                          exact ih101 x22 _ _ _ (by omega) (by omega) hw (lv_sub hl [1, 2, 3, 4, 5, 0] rfl)
                        · have ox20 := i32b x20
                          have ox21 := i32b x21
                          have c123i := mt Int32.toInt_inj.mp c123
                          refine lv_iload hx hb dX11_found_126 (lv_at hl 4 rfl) ?_
                          exact ret z4_28 σ17 _ _ 128 _ (rfl) (⟨hI, trivial⟩) hw dX11_found_128
                  exact cut101 ((((256 - (0 : Int32).toInt).toNat : Int)).toNat + 1) (0 : Int32) _ _ _ (by omega) (by omega) hw (lv_sub hl [1, 2, 3, 4, 5, 0] rfl)
                · have c54i := mt Int32.le_iff_toInt_le.mpr c54
                  refine lv_aload_n hx hb dX11_found_57 rfl (lv_at hl 0 rfl) ?_
                  refine tg_get (ci := 10) (k := 20) (v := .ref (ad G (89))) hx hb hts hown hk hw (en10 (rfl : nk 78 = 10)) rfl inlX11 (by decide) wd115 rfl dX11_found_58 ?_
                  refine lv_iload hx hb dX11_found_61 (lv_at hl 5 rfl) ?_
                  refine lv_aload_n hx hb dX11_found_63 rfl (lv_at hl 0 rfl) ?_
                  refine tg_get (ci := 10) (k := 9) (v := .ref (ad G (86))) hx hb hts hown hk hw (en10 (rfl : nk 78 = 10)) rfl inlX11 (by decide) wd112 rfl dX11_found_64 ?_
                  refine lv_iload hx hb dX11_found_67 (lv_at hl 5 rfl) ?_
                  have hv69 : vp_in z5_49 256 := vin ⟨by omega, by omega⟩
                  refine tg_iald hx hb hk hw (en356 (rfl : nk 86 = 356)) hv69 dX11_found_69 ?_
                  refine lv_topi (fun x23 ex23 => ?_)
                  have hv70 : vp_in z5_49 256 := vin ⟨by omega, by omega⟩
                  refine tg_iast hx hb hk hG hw (ea356 (rfl : nk 89 = 356)) hv70 dX11_found_70 (fun H locs hw => ?_)
                  obtain ⟨σ24, eσ24⟩ : ∃ z, z = up2 σc49 (89) z5_49.toNatClampNeg x23 := ⟨_, rfl⟩
                  rw [← eσ24] at hw
                  have hI : K0 σ σ24 := by rw [eσ24]; exact hI.up (rfl) (rg_no (by rw [(rfl : nk 89 = 356)]; rfl))
                  obtain ⟨x25, ex25⟩ : ∃ z : Int32, z = z5_49 + (1 : Int32) := ⟨_, rfl⟩
                  refine lv_iinc (v := x25) (lv' := [(5, .int x25), (0, .ref (ad G (78))), (1, .int v), (2, .int w), (3, .int r6), (4, .int z4_28)]) hx hb dX11_found_71 hl (k := 5) rfl (by rw [ex25]; rfl) (by decide) rfl (fun ls hl => ?_)
                  have tx25 : x25.toInt = z5_49.toInt + 1 := by rw [ex25, Jvm.Kit.i32_add (by omega) (by omega)]; omega
                  refine lv_goto (tgt := 49) hx hb dX11_found_74 (by decide) ?_
                  exact ih49 x25 σ24 _ _ _ (by omega) hI (by omega) hw (lv_sub hl [1, 2, 3, 4, 5, 0] rfl)
            exact cut49 ((((256 - (0 : Int32).toInt).toNat : Int)).toNat + 1) (0 : Int32) σ10 _ _ _ (by omega) hI (by omega) hw (lv_sub hl [1, 2, 3, 4, 5, 0] rfl)
      exact cut28 ((((r6.toInt - (0 : Int32).toInt).toNat : Int)).toNat + 1) (0 : Int32) σ _ _ _ (by omega) hI (by omega) hw (lv_sub hl [2, 3, 4, 1, 0] rfl)
    · have c14i := mt Int32.lt_iff_toInt_lt.mpr c14
      refine lv_bipush (v := -5) hx hb dX11_found_17 (by decide) ?_
      exact ret (-5 : Int32) σ _ _ 19 _ (rfl) (⟨hI, trivial⟩) hw dX11_found_19
  · have c5i := congrArg Int32.toInt c5
    have p5 := bz0 hr2 c5
    refine lv_iconst (v := -1) hx hb dX11_found_8 (by decide) ?_
    exact ret (-1 : Int32) σ _ _ 9 _ (rfl) (⟨hI, trivial⟩) hw dX11_found_9
