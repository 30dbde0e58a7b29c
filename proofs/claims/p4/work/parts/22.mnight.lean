set_option maxHeartbeats 4000000 in
set_option maxRecDepth 100000 in
theorem c_X11_partsOf (l : Launch) (G : Gg) (hG : Ginj G) (σ : Sg) (hI0 : Inv σ) : MI l G yX11_partsOf cX11_partsOf 3 .int (rmO 1 25) σ [.ref (ad G (78))] (fun r σ' => σ' = σ ∧ (True)) := by
  refine MI.of (by decide +kernel) (Nat.le_of_ble_eq_true rfl) ?_
  intro p e s m a below meth c ls Q hx hb hml hts hown hk hw ret hl
  have hown : s.vm.findClass RX11 = some m.cls := hown
  have hl : lv_has ls 3 [(0, .ref (ad G (78)))] := hl
  have hI : K0 σ σ := K0.rf hI0
  have L0 : (0 : Int32).toInt = 0 := by decide
  have L1 : (1 : Int32).toInt = 1 := by decide
  have M49 : (49 : Int64).toInt = 49 := by decide
  have M57 : (57 : Int64).toInt = 57 := by decide
  generalize hHe : s.heap = H at hw ⊢
  generalize hLe : ([] : List Loc) = locs at hw ⊢
  refine lv_iconst (v := 0) hx hb dX11_partsOf_0 (by decide) ?_
  refine lv_istore_n (lv' := [(1, .int (0 : Int32)), (0, .ref (ad G (78)))]) hx hb dX11_partsOf_1 rfl hl (by decide) rfl (fun ls hl => ?_)
  refine lv_iconst (v := 0) hx hb dX11_partsOf_2 (by decide) ?_
  refine lv_istore_n (lv' := [(2, .int (0 : Int32)), (1, .int (0 : Int32)), (0, .ref (ad G (78)))]) hx hb dX11_partsOf_3 rfl hl (by decide) rfl (fun ls hl => ?_)
  have cut4 : ∀ (n : Nat) (z1_4 : Int32) (z2_4 : Int32) (H : Heap) (locs : List Loc) (ls : Array Slot), (0 ≤ z2_4.toInt ∧ z2_4.toInt ≤ 40) → ((40 - z2_4.toInt).toNat : Int) < (n : Int) → Wo G σ s H locs → lv_has ls 3 [(0, .ref (ad G (78))), (1, .int z1_4), (2, .int z2_4)] → W p l e (rmO 1 25) s m a below meth c H locs 0 0 Q (F0 m 4 ls []) := by
    intro n4
    induction n4 with
    | zero =>
      intro z1_4 z2_4 H locs ls f4_0 hm4 hw hl
      exfalso; omega
    | succ n4 ih4 =>
      intro z1_4 z2_4 H locs ls f4_0 hm4 hw hl
      refine lv_iload_n hx hb dX11_partsOf_4 rfl (lv_at hl 2 rfl) ?_
      refine lv_aload_n hx hb dX11_partsOf_5 rfl (lv_at hl 0 rfl) ?_
      refine tg_get (ci := 10) (k := 7) (v := .int (σ (78) 7)) hx hb hts hown hk hw (en10 (rfl : nk 78 = 10)) rfl inlX11 (by decide) wd213 rfl dX11_partsOf_6 ?_
      refine lv_topi (fun x1 ex1 => ?_)
      have bx1 : 0 ≤ x1.toInt ∧ x1.toInt ≤ 40 := by rw [ex1]; exact hI.1 _ _ _ _ (by rw [(rfl : nk 78 = 10)]; rfl)
      have ux1 : x1.toInt = (σ (78) 7).toInt := by rw [ex1]
      refine lv_icmp_ge (tgt := 45) hx hb dX11_partsOf_9 (by decide) (fun c9 => ?_) (fun c9 => ?_)
      · have c9i := Int32.le_iff_toInt_le.mp c9
        refine lv_iload_n hx hb dX11_partsOf_45 rfl (lv_at hl 1 rfl) ?_
        exact ret z1_4 σ _ _ 46 _ (rfl) (⟨rfl, trivial⟩) hw dX11_partsOf_46
      · have c9i := mt Int32.le_iff_toInt_le.mpr c9
        refine lv_iload_n hx hb dX11_partsOf_12 rfl (lv_at hl 1 rfl) ?_
        refine lv_aload_n hx hb dX11_partsOf_13 rfl (lv_at hl 0 rfl) ?_
        refine tg_get (ci := 10) (k := 6) (v := .ref (ad G (84))) hx hb hts hown hk hw (en10 (rfl : nk 78 = 10)) rfl inlX11 (by decide) wd110 rfl dX11_partsOf_14 ?_
        refine lv_iload_n hx hb dX11_partsOf_17 rfl (lv_at hl 2 rfl) ?_
        have hv18 : vp_in z2_4 40 := vin ⟨by omega, by omega⟩
        refine tg_iald hx hb hk hw (en140 (rfl : nk 84 = 140)) hv18 dX11_partsOf_18 ?_
        refine lv_topi (fun x2 ex2 => ?_)
        refine lv_i2l hx hb dX11_partsOf_19 rfl ?_
        refine lv_ldc2 hx hb hown (hts _ wd244) dX11_partsOf_20 ?_
        refine lv_ldc2 hx hb hown (hts _ wd245) dX11_partsOf_23 ?_
        refine te_vi hw (ru_S (As := [.long x2.toInt64, .long (49 : Int64), .long (57 : Int64)]) (rest := [.int z1_4]) hx hb hml hts hown hk hw (c_X11_in l G hG σ hI.1 x2.toInt64 (49 : Int64) (57 : Int64)) (m3_in wd156 wd157 wd5) wd158 nm_yX11_in ⟨rfl, rfl⟩ ⟨by decide, by decide⟩ rfl hl.1 rfl (Nat.le_of_ble_eq_true rfl) dX11_partsOf_26 ⟨Nat.zero_le _, Nat.zero_le _⟩) (fun r4 σ3 H locs hr4 hw => ?_)
        rw [hr4.1] at hw
        have hr4 := hr4.2
        simp only [Int32.toInt_toInt64] at hr4
        refine lv_if_eq (tgt := 36) hx hb dX11_partsOf_29 (by decide) (fun c29 => ?_) (fun c29 => ?_)
        · have c29i := congrArg Int32.toInt c29
          have p29 := bz0 hr4 c29
          refine lv_iconst (v := 1) hx hb dX11_partsOf_36 (by decide) ?_
          refine lv_iadd hx hb dX11_partsOf_37 ?_
          refine lv_topi (fun x5 ex5 => ?_)
          refine lv_istore_n (lv' := [(1, .int x5), (0, .ref (ad G (78))), (2, .int z2_4)]) hx hb dX11_partsOf_38 rfl hl (by decide) rfl (fun ls hl => ?_)
          obtain ⟨x6, ex6⟩ : ∃ z : Int32, z = z2_4 + (1 : Int32) := ⟨_, rfl⟩
          refine lv_iinc (v := x6) (lv' := [(2, .int x6), (1, .int x5), (0, .ref (ad G (78)))]) hx hb dX11_partsOf_39 hl (k := 2) rfl (by rw [ex6]; rfl) (by decide) rfl (fun ls hl => ?_)
          have tx6 : x6.toInt = z2_4.toInt + 1 := by rw [ex6, Jvm.Kit.i32_add (by omega) (by omega)]; omega
          refine lv_goto (tgt := 4) hx hb dX11_partsOf_42 (by decide) ?_
          exact ih4 x5 x6 _ _ _ (by omega) (by omega) hw (lv_sub hl [2, 1, 0] rfl)
        · have c29i := mt Int32.toInt_inj.mp c29
          have p29 := bz1 hr4 c29
          refine lv_iconst (v := 0) hx hb dX11_partsOf_32 (by decide) ?_
          refine lv_goto (tgt := 37) hx hb dX11_partsOf_33 (by decide) ?_
          refine lv_iadd hx hb dX11_partsOf_37 ?_
          refine lv_topi (fun x7 ex7 => ?_)
          have oz1_4 := i32b z1_4
          have tx7 : x7.toInt = z1_4.toInt + (0 : Int32).toInt := by rw [ex7]; exact Jvm.Kit.i32_add (by omega) (by omega)
          refine lv_istore_n (lv' := [(1, .int x7), (0, .ref (ad G (78))), (2, .int z2_4)]) hx hb dX11_partsOf_38 rfl hl (by decide) rfl (fun ls hl => ?_)
          obtain ⟨x8, ex8⟩ : ∃ z : Int32, z = z2_4 + (1 : Int32) := ⟨_, rfl⟩
          refine lv_iinc (v := x8) (lv' := [(2, .int x8), (1, .int x7), (0, .ref (ad G (78)))]) hx hb dX11_partsOf_39 hl (k := 2) rfl (by rw [ex8]; rfl) (by decide) rfl (fun ls hl => ?_)
          have tx8 : x8.toInt = z2_4.toInt + 1 := by rw [ex8, Jvm.Kit.i32_add (by omega) (by omega)]; omega
          refine lv_goto (tgt := 4) hx hb dX11_partsOf_42 (by decide) ?_
          exact ih4 x7 x8 _ _ _ (by omega) (by omega) hw (lv_sub hl [2, 1, 0] rfl)
  exact cut4 ((((40 - (0 : Int32).toInt).toNat : Int)).toNat + 1) (0 : Int32) (0 : Int32) _ _ _ (by omega) (by omega) hw (lv_sub hl [2, 1, 0] rfl)
set_option maxHeartbeats 4000000 in
set_option maxRecDepth 100000 in
theorem c_X11_lay (l : Launch) (G : Gg) (hG : Ginj G) (σ : Sg) (hI0 : Inv σ) : MV l G yX11_lay cX11_lay 2 (rmO 0 0) σ [.ref (ad G (78))] (fun σ' => K0 σ σ' ∧ (True)) := by
  refine MV.of (by decide +kernel) (Nat.le_of_ble_eq_true rfl) ?_
  intro p e s m a below meth c ls Q hx hb hml hts hown hk hw ret hl
  have hown : s.vm.findClass RX11 = some m.cls := hown
  have hl : lv_has ls 2 [(0, .ref (ad G (78)))] := hl
  have hI : K0 σ σ := K0.rf hI0
  have L0 : (0 : Int32).toInt = 0 := by decide
  have L1 : (1 : Int32).toInt = 1 := by decide
  have L4 : (4 : Int32).toInt = 4 := by decide
  have L32 : (32 : Int32).toInt = 32 := by decide
  have L256 : (256 : Int32).toInt = 256 := by decide
  generalize hHe : s.heap = H at hw ⊢
  generalize hLe : ([] : List Loc) = locs at hw ⊢
  refine lv_iconst (v := 0) hx hb dX11_lay_0 (by decide) ?_
  refine lv_istore_n (lv' := [(1, .int (0 : Int32)), (0, .ref (ad G (78)))]) hx hb dX11_lay_1 rfl hl (by decide) rfl (fun ls hl => ?_)
  have cut2 : ∀ (n : Nat) (z1_2 : Int32) (σc2 : Sg) (H : Heap) (locs : List Loc) (ls : Array Slot), (0 ≤ z1_2.toInt ∧ z1_2.toInt ≤ 32) → K0 σ σc2 → ((32 - z1_2.toInt).toNat : Int) < (n : Int) → Wo G σc2 s H locs → lv_has ls 2 [(0, .ref (ad G (78))), (1, .int z1_2)] → W p l e (rmO 0 0) s m a below meth c H locs 0 0 Q (F0 m 2 ls []) := by
    intro n2
    induction n2 with
    | zero =>
      intro z1_2 σc2 H locs ls f2_0 hI hm2 hw hl
      exfalso; omega
    | succ n2 ih2 =>
      intro z1_2 σc2 H locs ls f2_0 hI hm2 hw hl
      refine lv_iload_n hx hb dX11_lay_2 rfl (lv_at hl 1 rfl) ?_
      refine lv_bipush (v := 32) hx hb dX11_lay_3 (by decide) ?_
      refine lv_icmp_ge (tgt := 26) hx hb dX11_lay_5 (by decide) (fun c5 => ?_) (fun c5 => ?_)
      · have c5i := Int32.le_iff_toInt_le.mp c5
        refine lv_iconst (v := 0) hx hb dX11_lay_26 (by decide) ?_
        refine lv_istore_n (lv' := [(1, .int (0 : Int32)), (0, .ref (ad G (78)))]) hx hb dX11_lay_27 rfl hl (by decide) rfl (fun ls hl => ?_)
        have cut28 : ∀ (n : Nat) (z1_28 : Int32) (σc28 : Sg) (H : Heap) (locs : List Loc) (ls : Array Slot), (0 ≤ z1_28.toInt ∧ z1_28.toInt ≤ 256) → K0 σ σc28 → ((256 - z1_28.toInt).toNat : Int) < (n : Int) → Wo G σc28 s H locs → lv_has ls 2 [(0, .ref (ad G (78))), (1, .int z1_28)] → W p l e (rmO 0 0) s m a below meth c H locs 0 0 Q (F0 m 28 ls []) := by
          intro n28
          induction n28 with
          | zero =>
            intro z1_28 σc28 H locs ls f28_0 hI hm28 hw hl
            exfalso; omega
          | succ n28 ih28 =>
            intro z1_28 σc28 H locs ls f28_0 hI hm28 hw hl
            refine lv_iload_n hx hb dX11_lay_28 rfl (lv_at hl 1 rfl) ?_
            refine lv_sipush (v := 256) hx hb dX11_lay_29 (by decide) ?_
            refine lv_icmp_ge (tgt := 53) hx hb dX11_lay_32 (by decide) (fun c32 => ?_) (fun c32 => ?_)
            · have c32i := Int32.le_iff_toInt_le.mp c32
              refine lv_iconst (v := 0) hx hb dX11_lay_53 (by decide) ?_
              refine lv_istore_n (lv' := [(1, .int (0 : Int32)), (0, .ref (ad G (78)))]) hx hb dX11_lay_54 rfl hl (by decide) rfl (fun ls hl => ?_)
              have cut55 : ∀ (n : Nat) (z1_55 : Int32) (σc55 : Sg) (H : Heap) (locs : List Loc) (ls : Array Slot), (0 ≤ z1_55.toInt ∧ z1_55.toInt ≤ 4) → K0 σ σc55 → ((4 - z1_55.toInt).toNat : Int) < (n : Int) → Wo G σc55 s H locs → lv_has ls 2 [(0, .ref (ad G (78))), (1, .int z1_55)] → W p l e (rmO 0 0) s m a below meth c H locs 0 0 Q (F0 m 55 ls []) := by
                intro n55
                induction n55 with
                | zero =>
                  intro z1_55 σc55 H locs ls f55_0 hI hm55 hw hl
                  exfalso; omega
                | succ n55 ih55 =>
                  intro z1_55 σc55 H locs ls f55_0 hI hm55 hw hl
                  refine lv_iload_n hx hb dX11_lay_55 rfl (lv_at hl 1 rfl) ?_
                  refine lv_iconst (v := 4) hx hb dX11_lay_56 (by decide) ?_
                  refine lv_icmp_ge (tgt := 78) hx hb dX11_lay_57 (by decide) (fun c57 => ?_) (fun c57 => ?_)
                  · have c57i := Int32.le_iff_toInt_le.mp c57
                    refine lv_aload_n hx hb dX11_lay_78 rfl (lv_at hl 0 rfl) ?_
                    refine lv_aload_n hx hb dX11_lay_79 rfl (lv_at hl 0 rfl) ?_
                    refine tg_get (ci := 10) (k := 3) (v := .int (σc55 (78) 3)) hx hb hts hown hk hw (en10 (rfl : nk 78 = 10)) rfl inlX11 (by decide) wd184 rfl dX11_lay_80 ?_
                    refine lv_topi (fun x1 ex1 => ?_)
                    have bx1 : 0 ≤ x1.toInt ∧ x1.toInt ≤ 4 := by rw [ex1]; exact hI.1 _ _ _ _ (by rw [(rfl : nk 78 = 10)]; rfl)
                    have ux1 : x1.toInt = (σc55 (78) 3).toInt := by rw [ex1]
                    refine tg_put (ci := 10) (k := 11) (σ' := up2 σc55 (78) 11 x1) hx hb hts hown hk hG hw tyX11 (en10 (rfl : nk 78 = 10)) rfl inlX11 tyX11_ok nmX11 (by decide) wd335 rfl rfl rfl (Nat.le_of_ble_eq_true rfl) (pu10_11 (rfl : nk 78 = 10)) (fun _ h => up2_ne h) dX11_lay_83 (fun H locs hw => ?_)
                    obtain ⟨σ2, eσ2⟩ : ∃ z, z = up2 σc55 (78) 11 x1 := ⟨_, rfl⟩
                    rw [← eσ2] at hw
                    have hI : K0 σ σ2 := by rw [eσ2]; exact hI.up (rfl) (rg_is (by rw [(rfl : nk 78 = 10)]; rfl) (by omega) (by omega))
                    exact ret σ2 _ _ 86 _ (⟨hI, trivial⟩) hw dX11_lay_86
                  · have c57i := mt Int32.le_iff_toInt_le.mpr c57
                    refine lv_aload_n hx hb dX11_lay_60 rfl (lv_at hl 0 rfl) ?_
                    refine tg_get (ci := 10) (k := 10) (v := .ref (ad G (87))) hx hb hts hown hk hw (en10 (rfl : nk 78 = 10)) rfl inlX11 (by decide) wd113 rfl dX11_lay_61 ?_
                    refine lv_iload_n hx hb dX11_lay_64 rfl (lv_at hl 1 rfl) ?_
                    refine lv_aload_n hx hb dX11_lay_65 rfl (lv_at hl 0 rfl) ?_
                    refine tg_get (ci := 10) (k := 2) (v := .ref (ad G (81))) hx hb hts hown hk hw (en10 (rfl : nk 78 = 10)) rfl inlX11 (by decide) wd107 rfl dX11_lay_66 ?_
                    refine lv_iload_n hx hb dX11_lay_69 rfl (lv_at hl 1 rfl) ?_
                    have hv70 : vp_in z1_55 4 := vin ⟨by omega, by omega⟩
                    refine tg_iald hx hb hk hw (en104 (rfl : nk 81 = 104)) hv70 dX11_lay_70 ?_
                    refine lv_topi (fun x3 ex3 => ?_)
                    have hv71 : vp_in z1_55 4 := vin ⟨by omega, by omega⟩
                    refine tg_iast hx hb hk hG hw (ea104 (rfl : nk 87 = 104)) hv71 dX11_lay_71 (fun H locs hw => ?_)
                    obtain ⟨σ4, eσ4⟩ : ∃ z, z = up2 σc55 (87) z1_55.toNatClampNeg x3 := ⟨_, rfl⟩
                    rw [← eσ4] at hw
                    have hI : K0 σ σ4 := by rw [eσ4]; exact hI.up (rfl) (rg_no (by rw [(rfl : nk 87 = 104)]; rfl))
                    obtain ⟨x5, ex5⟩ : ∃ z : Int32, z = z1_55 + (1 : Int32) := ⟨_, rfl⟩
                    refine lv_iinc (v := x5) (lv' := [(1, .int x5), (0, .ref (ad G (78)))]) hx hb dX11_lay_72 hl (k := 1) rfl (by rw [ex5]; rfl) (by decide) rfl (fun ls hl => ?_)
                    have tx5 : x5.toInt = z1_55.toInt + 1 := by rw [ex5, Jvm.Kit.i32_add (by omega) (by omega)]; omega
                    refine lv_goto (tgt := 55) hx hb dX11_lay_75 (by decide) ?_
                    exact ih55 x5 σ4 _ _ _ (by omega) hI (by omega) hw (lv_sub hl [1, 0] rfl)
              exact cut55 ((((4 - (0 : Int32).toInt).toNat : Int)).toNat + 1) (0 : Int32) σc28 _ _ _ (by omega) hI (by omega) hw (lv_sub hl [1, 0] rfl)
            · have c32i := mt Int32.le_iff_toInt_le.mpr c32
              refine lv_aload_n hx hb dX11_lay_35 rfl (lv_at hl 0 rfl) ?_
              refine tg_get (ci := 10) (k := 9) (v := .ref (ad G (86))) hx hb hts hown hk hw (en10 (rfl : nk 78 = 10)) rfl inlX11 (by decide) wd112 rfl dX11_lay_36 ?_
              refine lv_iload_n hx hb dX11_lay_39 rfl (lv_at hl 1 rfl) ?_
              refine lv_aload_n hx hb dX11_lay_40 rfl (lv_at hl 0 rfl) ?_
              refine tg_get (ci := 10) (k := 1) (v := .ref (ad G (80))) hx hb hts hown hk hw (en10 (rfl : nk 78 = 10)) rfl inlX11 (by decide) wd106 rfl dX11_lay_41 ?_
              refine lv_iload_n hx hb dX11_lay_44 rfl (lv_at hl 1 rfl) ?_
              have hv45 : vp_in z1_28 256 := vin ⟨by omega, by omega⟩
              refine tg_iald hx hb hk hw (en356 (rfl : nk 80 = 356)) hv45 dX11_lay_45 ?_
              refine lv_topi (fun x6 ex6 => ?_)
              have hv46 : vp_in z1_28 256 := vin ⟨by omega, by omega⟩
              refine tg_iast hx hb hk hG hw (ea356 (rfl : nk 86 = 356)) hv46 dX11_lay_46 (fun H locs hw => ?_)
              obtain ⟨σ7, eσ7⟩ : ∃ z, z = up2 σc28 (86) z1_28.toNatClampNeg x6 := ⟨_, rfl⟩
              rw [← eσ7] at hw
              have hI : K0 σ σ7 := by rw [eσ7]; exact hI.up (rfl) (rg_no (by rw [(rfl : nk 86 = 356)]; rfl))
              obtain ⟨x8, ex8⟩ : ∃ z : Int32, z = z1_28 + (1 : Int32) := ⟨_, rfl⟩
              refine lv_iinc (v := x8) (lv' := [(1, .int x8), (0, .ref (ad G (78)))]) hx hb dX11_lay_47 hl (k := 1) rfl (by rw [ex8]; rfl) (by decide) rfl (fun ls hl => ?_)
              have tx8 : x8.toInt = z1_28.toInt + 1 := by rw [ex8, Jvm.Kit.i32_add (by omega) (by omega)]; omega
              refine lv_goto (tgt := 28) hx hb dX11_lay_50 (by decide) ?_
              exact ih28 x8 σ7 _ _ _ (by omega) hI (by omega) hw (lv_sub hl [1, 0] rfl)
        exact cut28 ((((256 - (0 : Int32).toInt).toNat : Int)).toNat + 1) (0 : Int32) σc2 _ _ _ (by omega) hI (by omega) hw (lv_sub hl [1, 0] rfl)
      · have c5i := mt Int32.le_iff_toInt_le.mpr c5
        refine lv_aload_n hx hb dX11_lay_8 rfl (lv_at hl 0 rfl) ?_
        refine tg_get (ci := 10) (k := 8) (v := .ref (ad G (85))) hx hb hts hown hk hw (en10 (rfl : nk 78 = 10)) rfl inlX11 (by decide) wd111 rfl dX11_lay_9 ?_
        refine lv_iload_n hx hb dX11_lay_12 rfl (lv_at hl 1 rfl) ?_
        refine lv_aload_n hx hb dX11_lay_13 rfl (lv_at hl 0 rfl) ?_
        refine tg_get (ci := 10) (k := 0) (v := .ref (ad G (79))) hx hb hts hown hk hw (en10 (rfl : nk 78 = 10)) rfl inlX11 (by decide) wd105 rfl dX11_lay_14 ?_
        refine lv_iload_n hx hb dX11_lay_17 rfl (lv_at hl 1 rfl) ?_
        have hv18 : vp_in z1_2 32 := vin ⟨by omega, by omega⟩
        have kc18 := clI z1_2 (by omega)
        refine tg_iald hx hb hk hw (en132 (rfl : nk 79 = 132)) hv18 dX11_lay_18 ?_
        refine lv_topi (fun x9 ex9 => ?_)
        have bx9 : z1_2.toNatClampNeg % 8 = 2 → 0 ≤ x9.toInt ∧ x9.toInt ≤ 3 := fun q => by rw [ex9]; exact rd132 hI.1 (rfl : nk 79 = 132) q
        have hv19 : vp_in z1_2 32 := vin ⟨by omega, by omega⟩
        have kc19 := clI z1_2 (by omega)
        refine tg_iast hx hb hk hG hw (ea132 (rfl : nk 85 = 132)) hv19 dX11_lay_19 (fun H locs hw => ?_)
        obtain ⟨σ10, eσ10⟩ : ∃ z, z = up2 σc2 (85) z1_2.toNatClampNeg x9 := ⟨_, rfl⟩
        rw [← eσ10] at hw
        have hI : K0 σ σ10 := by rw [eσ10]; exact hI.up (rfl) (rg132 (rfl : nk 85 = 132) (fun q => by omega))
        obtain ⟨x11, ex11⟩ : ∃ z : Int32, z = z1_2 + (1 : Int32) := ⟨_, rfl⟩
        refine lv_iinc (v := x11) (lv' := [(1, .int x11), (0, .ref (ad G (78)))]) hx hb dX11_lay_20 hl (k := 1) rfl (by rw [ex11]; rfl) (by decide) rfl (fun ls hl => ?_)
        have tx11 : x11.toInt = z1_2.toInt + 1 := by rw [ex11, Jvm.Kit.i32_add (by omega) (by omega)]; omega
        refine lv_goto (tgt := 2) hx hb dX11_lay_23 (by decide) ?_
        exact ih2 x11 σ10 _ _ _ (by omega) hI (by omega) hw (lv_sub hl [1, 0] rfl)
  exact cut2 ((((32 - (0 : Int32).toInt).toNat : Int)).toNat + 1) (0 : Int32) σ _ _ _ (by omega) hI (by omega) hw (lv_sub hl [1, 0] rfl)
set_option maxHeartbeats 4000000 in
set_option maxRecDepth 100000 in
theorem c_X11_turn (l : Launch) (G : Gg) (hG : Ginj G) (σ : Sg) (hI0 : Inv σ) (v : Int32) (w : Int32) (g1 : 0 ≤ v.toInt ∧ v.toInt ≤ 24) (g8 : v.toInt % 8 = 0) : MV l G yX11_turn cX11_turn 4 (rmO 0 0) σ [.ref (ad G (78)), .int v, .int w] (fun σ' => K0 σ σ' ∧ (True)) := by
  refine MV.of (by decide +kernel) (Nat.le_of_ble_eq_true rfl) ?_
  intro p e s m a below meth c ls Q hx hb hml hts hown hk hw ret hl
  have hown : s.vm.findClass RX11 = some m.cls := hown
  have hl : lv_has ls 4 [(0, .ref (ad G (78))), (1, .int v), (2, .int w)] := hl
  have hI : K0 σ σ := K0.rf hI0
  have L1 : (1 : Int32).toInt = 1 := by decide
  have L2 : (2 : Int32).toInt = 2 := by decide
  have L4 : (4 : Int32).toInt = 4 := by decide
  have L8 : (8 : Int32).toInt = 8 := by decide
  have L16 : (16 : Int32).toInt = 16 := by decide
  generalize hHe : s.heap = H at hw ⊢
  generalize hLe : ([] : List Loc) = locs at hw ⊢
  refine lv_aload_n hx hb dX11_turn_0 rfl (lv_at hl 0 rfl) ?_
  refine tg_get (ci := 10) (k := 8) (v := .ref (ad G (85))) hx hb hts hown hk hw (en10 (rfl : nk 78 = 10)) rfl inlX11 (by decide) wd111 rfl dX11_turn_1 ?_
  refine lv_iload_n hx hb dX11_turn_4 rfl (lv_at hl 1 rfl) ?_
  refine lv_iconst (v := 1) hx hb dX11_turn_5 (by decide) ?_
  refine lv_iadd hx hb dX11_turn_6 ?_
  refine lv_topi (fun x1 ex1 => ?_)
  have tx1 : x1.toInt = v.toInt + (1 : Int32).toInt := by rw [ex1]; exact Jvm.Kit.i32_add (by omega) (by omega)
  have hv7 : vp_in x1 32 := vin ⟨by omega, by omega⟩
  have kc7 := clI x1 (by omega)
  refine tg_iald hx hb hk hw (en132 (rfl : nk 85 = 132)) hv7 dX11_turn_7 ?_
  refine lv_topi (fun x2 ex2 => ?_)
  have bx2 : x1.toNatClampNeg % 8 = 2 → 0 ≤ x2.toInt ∧ x2.toInt ≤ 3 := fun q => by rw [ex2]; exact rd132 hI.1 (rfl : nk 85 = 132) q
  refine lv_iload_n hx hb dX11_turn_8 rfl (lv_at hl 2 rfl) ?_
  refine lv_iadd hx hb dX11_turn_9 ?_
  refine lv_topi (fun x3 ex3 => ?_)
  refine lv_aload_n hx hb dX11_turn_10 rfl (lv_at hl 0 rfl) ?_
  refine tg_get (ci := 10) (k := 8) (v := .ref (ad G (85))) hx hb hts hown hk hw (en10 (rfl : nk 78 = 10)) rfl inlX11 (by decide) wd111 rfl dX11_turn_11 ?_
  refine lv_iload_n hx hb dX11_turn_14 rfl (lv_at hl 1 rfl) ?_
  refine lv_iconst (v := 4) hx hb dX11_turn_15 (by decide) ?_
  refine lv_iadd hx hb dX11_turn_16 ?_
  refine lv_topi (fun x4 ex4 => ?_)
  have tx4 : x4.toInt = v.toInt + (4 : Int32).toInt := by rw [ex4]; exact Jvm.Kit.i32_add (by omega) (by omega)
  have hv17 : vp_in x4 32 := vin ⟨by omega, by omega⟩
  have kc17 := clI x4 (by omega)
  refine tg_iald hx hb hk hw (en132 (rfl : nk 85 = 132)) hv17 dX11_turn_17 ?_
  refine lv_topi (fun x5 ex5 => ?_)
  have bx5 : x4.toNatClampNeg % 8 = 2 → 0 ≤ x5.toInt ∧ x5.toInt ≤ 3 := fun q => by rw [ex5]; exact rd132 hI.1 (rfl : nk 85 = 132) q
  refine lv_iadd hx hb dX11_turn_18 ?_
  refine lv_topi (fun x6 ex6 => ?_)
  refine lv_iconst (v := 2) hx hb dX11_turn_19 (by decide) ?_
  refine lv_isub hx hb dX11_turn_20 ?_
  refine lv_topi (fun x7 ex7 => ?_)
  refine lv_istore_n (lv' := [(3, .int x7), (0, .ref (ad G (78))), (1, .int v), (2, .int w)]) hx hb dX11_turn_21 rfl hl (by decide) rfl (fun ls hl => ?_)
  refine lv_aload_n hx hb dX11_turn_22 rfl (lv_at hl 1 rfl) ?_
  refine tg_get (ci := 10) (k := 8) (v := .ref (ad G (85))) hx hb hts hown hk hw (en10 (rfl : nk 78 = 10)) rfl inlX11 (by decide) wd111 rfl dX11_turn_23 ?_
  refine lv_iload_n hx hb dX11_turn_26 rfl (lv_at hl 2 rfl) ?_
  refine lv_iconst (v := 1) hx hb dX11_turn_27 (by decide) ?_
  refine lv_iadd hx hb dX11_turn_28 ?_
  refine lv_topi (fun x8 ex8 => ?_)
  have tx8 : x8.toInt = v.toInt + (1 : Int32).toInt := by rw [ex8]; exact Jvm.Kit.i32_add (by omega) (by omega)
  refine lv_iload_n hx hb dX11_turn_29 rfl (lv_at hl 0 rfl) ?_
  refine lv_bipush (v := 16) hx hb dX11_turn_30 (by decide) ?_
  refine lv_iadd hx hb dX11_turn_32 ?_
  refine lv_topi (fun x9 ex9 => ?_)
  refine lv_bipush (v := 8) hx hb dX11_turn_33 (by decide) ?_
  refine lv_irem hx hb dX11_turn_35 (by decide) ?_
  refine lv_topi (fun x10 ex10 => ?_)
  have tx10 : -8 < x10.toInt ∧ x10.toInt < 8 := by rw [ex10]; exact irem_bd L8 (by decide)
  have hv36 : vp_in x8 32 := vin ⟨by omega, by omega⟩
  have kc36 := clI x8 (by omega)
  refine tg_iast hx hb hk hG hw (ea132 (rfl : nk 85 = 132)) hv36 dX11_turn_36 (fun H locs hw => ?_)
  obtain ⟨σ11, eσ11⟩ : ∃ z, z = up2 σ (85) x8.toNatClampNeg x10 := ⟨_, rfl⟩
  rw [← eσ11] at hw
  have hI : K0 σ σ11 := by rw [eσ11]; exact hI.up (rfl) (rg132 (rfl : nk 85 = 132) (fun q => by omega))
  exact ret σ11 _ _ 37 _ (⟨hI, trivial⟩) hw dX11_turn_37
set_option maxHeartbeats 4000000 in
set_option maxRecDepth 100000 in
theorem c_X11_nearest (l : Launch) (G : Gg) (hG : Ginj G) (σ : Sg) (hI0 : Inv σ) (v : Int32) (g1 : 0 ≤ v.toInt ∧ v.toInt ≤ 24) : MI l G yX11_nearest cX11_nearest 5 .int (rmO 2 43) σ [.ref (ad G (78)), .int v] (fun r σ' => σ' = σ ∧ (-6 ≤ r.toInt ∧ r.toInt ≤ 3)) := by
  refine MI.of (by decide +kernel) (Nat.le_of_ble_eq_true rfl) ?_
  intro p e s m a below meth c ls Q hx hb hml hts hown hk hw ret hl
  have hown : s.vm.findClass RX11 = some m.cls := hown
  have hl : lv_has ls 5 [(0, .ref (ad G (78))), (1, .int v)] := hl
  have hI : K0 σ σ := K0.rf hI0
  have Lm6 : (-6 : Int32).toInt = -6 := by decide
  have L0 : (0 : Int32).toInt = 0 := by decide
  have L1 : (1 : Int32).toInt = 1 := by decide
  have L5 : (5 : Int32).toInt = 5 := by decide
  generalize hHe : s.heap = H at hw ⊢
  generalize hLe : ([] : List Loc) = locs at hw ⊢
  refine lv_bipush (v := -6) hx hb dX11_nearest_0 (by decide) ?_
  refine lv_istore_n (lv' := [(2, .int (-6 : Int32)), (0, .ref (ad G (78))), (1, .int v)]) hx hb dX11_nearest_2 rfl hl (by decide) rfl (fun ls hl => ?_)
  refine lv_iconst (v := 0) hx hb dX11_nearest_3 (by decide) ?_
  refine lv_istore_n (lv' := [(3, .int (0 : Int32)), (2, .int (-6 : Int32)), (0, .ref (ad G (78))), (1, .int v)]) hx hb dX11_nearest_4 rfl hl (by decide) rfl (fun ls hl => ?_)
  have cut5 : ∀ (n : Nat) (z2_5 : Int32) (z3_5 : Int32) (H : Heap) (locs : List Loc) (ls : Array Slot), (0 ≤ z3_5.toInt ∧ z3_5.toInt ≤ 4) → (-6 ≤ z2_5.toInt ∧ z2_5.toInt ≤ 3) → ((4 - z3_5.toInt).toNat : Int) < (n : Int) → Wo G σ s H locs → lv_has ls 5 [(0, .ref (ad G (78))), (1, .int v), (2, .int z2_5), (3, .int z3_5)] → W p l e (rmO 2 43) s m a below meth c H locs 0 0 Q (F0 m 5 ls []) := by
    intro n5
    induction n5 with
    | zero =>
      intro z2_5 z3_5 H locs ls f5_0 f5_1 hm5 hw hl
      exfalso; omega
    | succ n5 ih5 =>
      intro z2_5 z3_5 H locs ls f5_0 f5_1 hm5 hw hl
      refine lv_iload_n hx hb dX11_nearest_5 rfl (lv_at hl 3 rfl) ?_
      refine lv_aload_n hx hb dX11_nearest_6 rfl (lv_at hl 0 rfl) ?_
      refine tg_get (ci := 10) (k := 11) (v := .int (σ (78) 11)) hx hb hts hown hk hw (en10 (rfl : nk 78 = 10)) rfl inlX11 (by decide) wd335 rfl dX11_nearest_7 ?_
      refine lv_topi (fun x1 ex1 => ?_)
      have bx1 : 0 ≤ x1.toInt ∧ x1.toInt ≤ 4 := by rw [ex1]; exact hI.1 _ _ _ _ (by rw [(rfl : nk 78 = 10)]; rfl)
      have ux1 : x1.toInt = (σ (78) 11).toInt := by rw [ex1]
      refine lv_icmp_ge (tgt := 83) hx hb dX11_nearest_10 (by decide) (fun c10 => ?_) (fun c10 => ?_)
      · have c10i := Int32.le_iff_toInt_le.mp c10
        refine lv_iload_n hx hb dX11_nearest_83 rfl (lv_at hl 2 rfl) ?_
        exact ret z2_5 σ _ _ 84 _ (rfl) (⟨rfl, by omega⟩) hw dX11_nearest_84
      · have c10i := mt Int32.le_iff_toInt_le.mpr c10
        refine lv_aload_n hx hb dX11_nearest_13 rfl (lv_at hl 0 rfl) ?_
        refine tg_get (ci := 10) (k := 8) (v := .ref (ad G (85))) hx hb hts hown hk hw (en10 (rfl : nk 78 = 10)) rfl inlX11 (by decide) wd111 rfl dX11_nearest_14 ?_
        refine lv_iload_n hx hb dX11_nearest_17 rfl (lv_at hl 1 rfl) ?_
        refine lv_iconst (v := 0) hx hb dX11_nearest_18 (by decide) ?_
        refine lv_iadd hx hb dX11_nearest_19 ?_
        refine lv_topi (fun x2 ex2 => ?_)
        have tx2 : x2.toInt = v.toInt + (0 : Int32).toInt := by rw [ex2]; exact Jvm.Kit.i32_add (by omega) (by omega)
        have hv20 : vp_in x2 32 := vin ⟨by omega, by omega⟩
        have kc20 := clI x2 (by omega)
        refine tg_iald hx hb hk hw (en132 (rfl : nk 85 = 132)) hv20 dX11_nearest_20 ?_
        refine lv_topi (fun x3 ex3 => ?_)
        have bx3 : x2.toNatClampNeg % 8 = 2 → 0 ≤ x3.toInt ∧ x3.toInt ≤ 3 := fun q => by rw [ex3]; exact rd132 hI.1 (rfl : nk 85 = 132) q
        refine lv_aload_n hx hb dX11_nearest_21 rfl (lv_at hl 0 rfl) ?_
        refine tg_get (ci := 10) (k := 10) (v := .ref (ad G (87))) hx hb hts hown hk hw (en10 (rfl : nk 78 = 10)) rfl inlX11 (by decide) wd113 rfl dX11_nearest_22 ?_
        refine lv_iload_n hx hb dX11_nearest_25 rfl (lv_at hl 3 rfl) ?_
        have hv26 : vp_in z3_5 4 := vin ⟨by omega, by omega⟩
        refine tg_iald hx hb hk hw (en104 (rfl : nk 87 = 104)) hv26 dX11_nearest_26 ?_
        refine lv_topi (fun x4 ex4 => ?_)
        refine te_vi hw (ru_S (As := [.int x3, .int x4]) (rest := []) hx hb hml hts hown hk hw (c_X11_far l G hG σ hI.1 x3 x4) (m3_in wd356 wd357 wd5) wd358 nm_yX11_far ⟨rfl, rfl⟩ ⟨by decide, by decide⟩ rfl hl.1 rfl (Nat.le_of_ble_eq_true rfl) dX11_nearest_27 ⟨Nat.zero_le _, Nat.zero_le _⟩) (fun r6 σ5 H locs hr6 hw => ?_)
        rw [hr6.1] at hw
        have hr6 := hr6.2
        refine lv_istore (lv' := [(4, .int r6), (0, .ref (ad G (78))), (1, .int v), (2, .int z2_5), (3, .int z3_5)]) hx hb dX11_nearest_30 hl (by decide) rfl (fun ls hl => ?_)
        refine lv_iload hx hb dX11_nearest_32 (lv_at hl 0 rfl) ?_
        refine lv_aload_n hx hb dX11_nearest_34 rfl (lv_at hl 1 rfl) ?_
        refine tg_get (ci := 10) (k := 8) (v := .ref (ad G (85))) hx hb hts hown hk hw (en10 (rfl : nk 78 = 10)) rfl inlX11 (by decide) wd111 rfl dX11_nearest_35 ?_
        refine lv_iload_n hx hb dX11_nearest_38 rfl (lv_at hl 2 rfl) ?_
        refine lv_iconst (v := 5) hx hb dX11_nearest_39 (by decide) ?_
        refine lv_iadd hx hb dX11_nearest_40 ?_
        refine lv_topi (fun x7 ex7 => ?_)
        have tx7 : x7.toInt = v.toInt + (5 : Int32).toInt := by rw [ex7]; exact Jvm.Kit.i32_add (by omega) (by omega)
        have hv41 : vp_in x7 32 := vin ⟨by omega, by omega⟩
        have kc41 := clI x7 (by omega)
        refine tg_iald hx hb hk hw (en132 (rfl : nk 85 = 132)) hv41 dX11_nearest_41 ?_
        refine lv_topi (fun x8 ex8 => ?_)
        have bx8 : x7.toNatClampNeg % 8 = 2 → 0 ≤ x8.toInt ∧ x8.toInt ≤ 3 := fun q => by rw [ex8]; exact rd132 hI.1 (rfl : nk 85 = 132) q
        refine lv_icmp_gt (tgt := 75) hx hb dX11_nearest_42 (by decide) (fun c42 => ?_) (fun c42 => ?_)
        · have or6 := i32b r6
          have ox8 := i32b x8
          have c42i := Int32.lt_iff_toInt_lt.mp c42
          refine lv_iload_n hx hb dX11_nearest_75 rfl (lv_at hl 3 rfl) ?_
          refine lv_istore_n (lv' := [(2, .int z2_5), (4, .int r6), (0, .ref (ad G (78))), (1, .int v), (3, .int z3_5)]) hx hb dX11_nearest_76 rfl hl (by decide) rfl (fun ls hl => ?_)
          obtain ⟨x9, ex9⟩ : ∃ z : Int32, z = z3_5 + (1 : Int32) := ⟨_, rfl⟩
          refine lv_iinc (v := x9) (lv' := [(3, .int x9), (2, .int z2_5), (4, .int r6), (0, .ref (ad G (78))), (1, .int v)]) hx hb dX11_nearest_77 hl (k := 4) rfl (by rw [ex9]; rfl) (by decide) rfl (fun ls hl => ?_)
          have tx9 : x9.toInt = z3_5.toInt + 1 := by rw [ex9, Jvm.Kit.i32_add (by omega) (by omega)]; omega
          refine lv_goto (tgt := 5) hx hb dX11_nearest_80 (by decide) ?_
          exact ih5 z2_5 x9 _ _ _ (by omega) (by omega) (by omega) hw (lv_sub hl [3, 4, 1, 0] rfl)
        · have or6 := i32b r6
          have ox8 := i32b x8
          have c42i := mt Int32.lt_iff_toInt_lt.mpr c42
          refine lv_iload_n hx hb dX11_nearest_45 rfl (lv_at hl 3 rfl) ?_
          refine lv_if_lt (tgt := 71) hx hb dX11_nearest_46 (by decide) (fun c46 => ?_) (fun c46 => ?_)
          · have c46i := Int32.lt_iff_toInt_lt.mp c46
            refine lv_iload_n hx hb dX11_nearest_71 rfl (lv_at hl 4 rfl) ?_
            refine lv_goto (tgt := 76) hx hb dX11_nearest_72 (by decide) ?_
            refine lv_istore_n (lv' := [(2, .int z3_5), (4, .int r6), (0, .ref (ad G (78))), (1, .int v), (3, .int z3_5)]) hx hb dX11_nearest_76 rfl hl (by decide) rfl (fun ls hl => ?_)
            obtain ⟨x10, ex10⟩ : ∃ z : Int32, z = z3_5 + (1 : Int32) := ⟨_, rfl⟩
            refine lv_iinc (v := x10) (lv' := [(3, .int x10), (2, .int z3_5), (4, .int r6), (0, .ref (ad G (78))), (1, .int v)]) hx hb dX11_nearest_77 hl (k := 4) rfl (by rw [ex10]; rfl) (by decide) rfl (fun ls hl => ?_)
            have tx10 : x10.toInt = z3_5.toInt + 1 := by rw [ex10, Jvm.Kit.i32_add (by omega) (by omega)]; omega
            refine lv_goto (tgt := 5) hx hb dX11_nearest_80 (by decide) ?_
            exact ih5 z3_5 x10 _ _ _ (by omega) (by omega) (by omega) hw (lv_sub hl [3, 4, 1, 0] rfl)
          · have c46i := mt Int32.lt_iff_toInt_lt.mpr c46
            refine lv_iload hx hb dX11_nearest_49 (lv_at hl 0 rfl) ?_
            refine lv_aload_n hx hb dX11_nearest_51 rfl (lv_at hl 1 rfl) ?_
            refine tg_get (ci := 10) (k := 8) (v := .ref (ad G (85))) hx hb hts hown hk hw (en10 (rfl : nk 78 = 10)) rfl inlX11 (by decide) wd111 rfl dX11_nearest_52 ?_
            refine lv_iload_n hx hb dX11_nearest_55 rfl (lv_at hl 2 rfl) ?_
            refine lv_iconst (v := 0) hx hb dX11_nearest_56 (by decide) ?_
            refine lv_iadd hx hb dX11_nearest_57 ?_
            refine lv_topi (fun x11 ex11 => ?_)
            have tx11 : x11.toInt = v.toInt + (0 : Int32).toInt := by rw [ex11]; exact Jvm.Kit.i32_add (by omega) (by omega)
            have hv58 : vp_in x11 32 := vin ⟨by omega, by omega⟩
            have kc58 := clI x11 (by omega)
            refine tg_iald hx hb hk hw (en132 (rfl : nk 85 = 132)) hv58 dX11_nearest_58 ?_
            refine lv_topi (fun x12 ex12 => ?_)
            have bx12 : x11.toNatClampNeg % 8 = 2 → 0 ≤ x12.toInt ∧ x12.toInt ≤ 3 := fun q => by rw [ex12]; exact rd132 hI.1 (rfl : nk 85 = 132) q
            refine lv_aload_n hx hb dX11_nearest_59 rfl (lv_at hl 1 rfl) ?_
            refine tg_get (ci := 10) (k := 10) (v := .ref (ad G (87))) hx hb hts hown hk hw (en10 (rfl : nk 78 = 10)) rfl inlX11 (by decide) wd113 rfl dX11_nearest_60 ?_
            refine lv_iload_n hx hb dX11_nearest_63 rfl (lv_at hl 3 rfl) ?_
            have hv64 : vp_in z2_5 4 := vin ⟨by omega, by omega⟩
            refine tg_iald hx hb hk hw (en104 (rfl : nk 87 = 104)) hv64 dX11_nearest_64 ?_
            refine lv_topi (fun x13 ex13 => ?_)
            refine te_vi hw (ru_S (As := [.int x12, .int x13]) (rest := [.int r6]) hx hb hml hts hown hk hw (c_X11_far l G hG σ hI.1 x12 x13) (m3_in wd356 wd357 wd5) wd358 nm_yX11_far ⟨rfl, rfl⟩ ⟨by decide, by decide⟩ rfl hl.1 rfl (Nat.le_of_ble_eq_true rfl) dX11_nearest_65 ⟨Nat.zero_le _, Nat.zero_le _⟩) (fun r15 σ14 H locs hr15 hw => ?_)
            rw [hr15.1] at hw
            have hr15 := hr15.2
            refine lv_icmp_ge (tgt := 75) hx hb dX11_nearest_68 (by decide) (fun c68 => ?_) (fun c68 => ?_)
            · have or6 := i32b r6
              have or15 := i32b r15
              have c68i := Int32.le_iff_toInt_le.mp c68
              refine lv_iload_n hx hb dX11_nearest_75 rfl (lv_at hl 3 rfl) ?_
              refine lv_istore_n (lv' := [(2, .int z2_5), (4, .int r6), (0, .ref (ad G (78))), (1, .int v), (3, .int z3_5)]) hx hb dX11_nearest_76 rfl hl (by decide) rfl (fun ls hl => ?_)
              obtain ⟨x16, ex16⟩ : ∃ z : Int32, z = z3_5 + (1 : Int32) := ⟨_, rfl⟩
              refine lv_iinc (v := x16) (lv' := [(3, .int x16), (2, .int z2_5), (4, .int r6), (0, .ref (ad G (78))), (1, .int v)]) hx hb dX11_nearest_77 hl (k := 4) rfl (by rw [ex16]; rfl) (by decide) rfl (fun ls hl => ?_)
              have tx16 : x16.toInt = z3_5.toInt + 1 := by rw [ex16, Jvm.Kit.i32_add (by omega) (by omega)]; omega
              refine lv_goto (tgt := 5) hx hb dX11_nearest_80 (by decide) ?_
              exact ih5 z2_5 x16 _ _ _ (by omega) (by omega) (by omega) hw (lv_sub hl [3, 4, 1, 0] rfl)
            · have or6 := i32b r6
              have or15 := i32b r15
              have c68i := mt Int32.le_iff_toInt_le.mpr c68
              refine lv_iload_n hx hb dX11_nearest_71 rfl (lv_at hl 4 rfl) ?_
              refine lv_goto (tgt := 76) hx hb dX11_nearest_72 (by decide) ?_
              refine lv_istore_n (lv' := [(2, .int z3_5), (4, .int r6), (0, .ref (ad G (78))), (1, .int v), (3, .int z3_5)]) hx hb dX11_nearest_76 rfl hl (by decide) rfl (fun ls hl => ?_)
              obtain ⟨x17, ex17⟩ : ∃ z : Int32, z = z3_5 + (1 : Int32) := ⟨_, rfl⟩
              refine lv_iinc (v := x17) (lv' := [(3, .int x17), (2, .int z3_5), (4, .int r6), (0, .ref (ad G (78))), (1, .int v)]) hx hb dX11_nearest_77 hl (k := 4) rfl (by rw [ex17]; rfl) (by decide) rfl (fun ls hl => ?_)
              have tx17 : x17.toInt = z3_5.toInt + 1 := by rw [ex17, Jvm.Kit.i32_add (by omega) (by omega)]; omega
              refine lv_goto (tgt := 5) hx hb dX11_nearest_80 (by decide) ?_
              exact ih5 z3_5 x17 _ _ _ (by omega) (by omega) (by omega) hw (lv_sub hl [3, 4, 1, 0] rfl)
  exact cut5 ((((4 - (0 : Int32).toInt).toNat : Int)).toNat + 1) (-6 : Int32) (0 : Int32) _ _ _ (by omega) (by omega) (by omega) hw (lv_sub hl [2, 3, 1, 0] rfl)
set_option maxHeartbeats 4000000 in
set_option maxRecDepth 100000 in
theorem c_X11_turnToPost (l : Launch) (G : Gg) (hG : Ginj G) (σ : Sg) (hI0 : Inv σ) (v : Int32) (g1 : 0 ≤ v.toInt ∧ v.toInt ≤ 24) (g8 : v.toInt % 8 = 0) : MV l G yX11_turnToPost cX11_turnToPost 10 (rmO 3 67) σ [.ref (ad G (78)), .int v] (fun σ' => K0 σ σ' ∧ (True)) := by
  refine MV.of (by decide +kernel) (Nat.le_of_ble_eq_true rfl) ?_
  intro p e s m a below meth c ls Q hx hb hml hts hown hk hw ret hl
  have hown : s.vm.findClass RX11 = some m.cls := hown
  have hl : lv_has ls 10 [(0, .ref (ad G (78))), (1, .int v)] := hl
  have hI : K0 σ σ := K0.rf hI0
  have L0 : (0 : Int32).toInt = 0 := by decide
  have L1 : (1 : Int32).toInt = 1 := by decide
  have L2 : (2 : Int32).toInt = 2 := by decide
  have L7 : (7 : Int32).toInt = 7 := by decide
  have L8 : (8 : Int32).toInt = 8 := by decide
  have L10 : (10 : Int32).toInt = 10 := by decide
  generalize hHe : s.heap = H at hw ⊢
  generalize hLe : ([] : List Loc) = locs at hw ⊢
  refine lv_aload_n hx hb dX11_turnToPost_0 rfl (lv_at hl 0 rfl) ?_
  refine lv_iload_n hx hb dX11_turnToPost_1 rfl (lv_at hl 1 rfl) ?_
  refine te_vi hw (ru_V (As := [.int v]) (rest := []) (C := RX11) hx hb hml hts hown hk hw (c_X11_nearest l G hG σ hI.1 v (by omega)) (m4_in wd352 wd353 wd354 wd5) wd355 (en10 (rfl : nk 78 = 10)) rfl rfl rfl nm_yX11_nearest ⟨rfl, rfl⟩ ⟨by decide, by decide⟩ rfl hl.1 rfl (Nat.le_of_ble_eq_true rfl) dX11_turnToPost_2 ⟨Nat.zero_le _, Nat.zero_le _⟩) (fun r2 σ1 H locs hr2 hw => ?_)
  rw [hr2.1] at hw
  have hr2 := hr2.2
  refine lv_istore_n (lv' := [(2, .int r2), (0, .ref (ad G (78))), (1, .int v)]) hx hb dX11_turnToPost_5 rfl hl (by decide) rfl (fun ls hl => ?_)
  refine lv_aload_n hx hb dX11_turnToPost_6 rfl (lv_at hl 1 rfl) ?_
  refine tg_get (ci := 10) (k := 8) (v := .ref (ad G (85))) hx hb hts hown hk hw (en10 (rfl : nk 78 = 10)) rfl inlX11 (by decide) wd111 rfl dX11_turnToPost_7 ?_
  refine lv_iload_n hx hb dX11_turnToPost_10 rfl (lv_at hl 2 rfl) ?_
  refine lv_iconst (v := 0) hx hb dX11_turnToPost_11 (by decide) ?_
  refine lv_iadd hx hb dX11_turnToPost_12 ?_
  refine lv_topi (fun x3 ex3 => ?_)
  have tx3 : x3.toInt = v.toInt + (0 : Int32).toInt := by rw [ex3]; exact Jvm.Kit.i32_add (by omega) (by omega)
  have hv13 : vp_in x3 32 := vin ⟨by omega, by omega⟩
  have kc13 := clI x3 (by omega)
  refine tg_iald hx hb hk hw (en132 (rfl : nk 85 = 132)) hv13 dX11_turnToPost_13 ?_
  refine lv_topi (fun x4 ex4 => ?_)
  have bx4 : x3.toNatClampNeg % 8 = 2 → 0 ≤ x4.toInt ∧ x4.toInt ≤ 3 := fun q => by rw [ex4]; exact rd132 hI.1 (rfl : nk 85 = 132) q
  refine lv_istore_n (lv' := [(3, .int x4), (2, .int r2), (0, .ref (ad G (78))), (1, .int v)]) hx hb dX11_turnToPost_14 rfl hl (by decide) rfl (fun ls hl => ?_)
  refine lv_iload_n hx hb dX11_turnToPost_15 rfl (lv_at hl 1 rfl) ?_
  refine lv_if_lt (tgt := 29) hx hb dX11_turnToPost_16 (by decide) (fun c16 => ?_) (fun c16 => ?_)
  · have c16i := Int32.lt_iff_toInt_lt.mp c16
    exact ret σ _ _ 29 _ (⟨hI, trivial⟩) hw dX11_turnToPost_29
  · have c16i := mt Int32.lt_iff_toInt_lt.mpr c16
    refine lv_aload_n hx hb dX11_turnToPost_19 rfl (lv_at hl 2 rfl) ?_
    refine tg_get (ci := 10) (k := 10) (v := .ref (ad G (87))) hx hb hts hown hk hw (en10 (rfl : nk 78 = 10)) rfl inlX11 (by decide) wd113 rfl dX11_turnToPost_20 ?_
    refine lv_iload_n hx hb dX11_turnToPost_23 rfl (lv_at hl 1 rfl) ?_
    have hv24 : vp_in r2 4 := vin ⟨by omega, by omega⟩
    refine tg_iald hx hb hk hw (en104 (rfl : nk 87 = 104)) hv24 dX11_turnToPost_24 ?_
    refine lv_topi (fun x5 ex5 => ?_)
    refine lv_iload_n hx hb dX11_turnToPost_25 rfl (lv_at hl 0 rfl) ?_
    refine lv_icmp_ne (tgt := 30) hx hb dX11_turnToPost_26 (by decide) (fun c26 => ?_) (fun c26 => ?_)
    · have ox5 := i32b x5
      have ox4 := i32b x4
      have c26i := mt Int32.toInt_inj.mp c26
      refine lv_aload_n hx hb dX11_turnToPost_30 rfl (lv_at hl 2 rfl) ?_
      refine tg_get (ci := 10) (k := 10) (v := .ref (ad G (87))) hx hb hts hown hk hw (en10 (rfl : nk 78 = 10)) rfl inlX11 (by decide) wd113 rfl dX11_turnToPost_31 ?_
      refine lv_iload_n hx hb dX11_turnToPost_34 rfl (lv_at hl 1 rfl) ?_
      have hv35 : vp_in r2 4 := vin ⟨by omega, by omega⟩
      refine tg_iald hx hb hk hw (en104 (rfl : nk 87 = 104)) hv35 dX11_turnToPost_35 ?_
      refine lv_topi (fun x6 ex6 => ?_)
      have qx6 : x6.toInt = x5.toInt := by rw [ex6, ex5]
      refine lv_bipush (v := 8) hx hb dX11_turnToPost_36 (by decide) ?_
      refine lv_irem hx hb dX11_turnToPost_38 (by decide) ?_
      refine lv_topi (fun x7 ex7 => ?_)
      have tx7 : -8 < x7.toInt ∧ x7.toInt < 8 := by rw [ex7]; exact irem_bd L8 (by decide)
      refine lv_iload_n hx hb dX11_turnToPost_39 rfl (lv_at hl 0 rfl) ?_
      refine lv_bipush (v := 8) hx hb dX11_turnToPost_40 (by decide) ?_
      refine lv_irem hx hb dX11_turnToPost_42 (by decide) ?_
      refine lv_topi (fun x8 ex8 => ?_)
      have tx8 : -8 < x8.toInt ∧ x8.toInt < 8 := by rw [ex8]; exact irem_bd L8 (by decide)
      refine lv_isub hx hb dX11_turnToPost_43 ?_
      refine lv_topi (fun x9 ex9 => ?_)
      have tx9 : x9.toInt = x7.toInt - x8.toInt := by rw [ex9]; exact Jvm.Kit.i32_sub (by omega) (by omega)
      refine lv_istore (lv' := [(4, .int x9), (3, .int x4), (2, .int r2), (0, .ref (ad G (78))), (1, .int v)]) hx hb dX11_turnToPost_44 hl (by decide) rfl (fun ls hl => ?_)
      refine lv_aload_n hx hb dX11_turnToPost_46 rfl (lv_at hl 3 rfl) ?_
      refine tg_get (ci := 10) (k := 10) (v := .ref (ad G (87))) hx hb hts hown hk hw (en10 (rfl : nk 78 = 10)) rfl inlX11 (by decide) wd113 rfl dX11_turnToPost_47 ?_
      refine lv_iload_n hx hb dX11_turnToPost_50 rfl (lv_at hl 2 rfl) ?_
      have hv51 : vp_in r2 4 := vin ⟨by omega, by omega⟩
      refine tg_iald hx hb hk hw (en104 (rfl : nk 87 = 104)) hv51 dX11_turnToPost_51 ?_
      refine lv_topi (fun x10 ex10 => ?_)
      have qx10 : x10.toInt = x5.toInt := by rw [ex10, ex5]
      refine lv_bipush (v := 8) hx hb dX11_turnToPost_52 (by decide) ?_
      refine lv_idiv hx hb dX11_turnToPost_54 (by decide) ?_
      refine lv_topi (fun x11 ex11 => ?_)
      refine lv_iload_n hx hb dX11_turnToPost_55 rfl (lv_at hl 1 rfl) ?_
      refine lv_bipush (v := 8) hx hb dX11_turnToPost_56 (by decide) ?_
      refine lv_idiv hx hb dX11_turnToPost_58 (by decide) ?_
      refine lv_topi (fun x12 ex12 => ?_)
      refine lv_isub hx hb dX11_turnToPost_59 ?_
      refine lv_topi (fun x13 ex13 => ?_)
      refine lv_istore (lv' := [(5, .int x13), (4, .int x9), (3, .int x4), (2, .int r2), (0, .ref (ad G (78))), (1, .int v)]) hx hb dX11_turnToPost_60 hl (by decide) rfl (fun ls hl => ?_)
      refine lv_iconst (v := 0) hx hb dX11_turnToPost_62 (by decide) ?_
      refine lv_istore (lv' := [(6, .int (0 : Int32)), (5, .int x13), (4, .int x9), (3, .int x4), (2, .int r2), (0, .ref (ad G (78))), (1, .int v)]) hx hb dX11_turnToPost_63 hl (by decide) rfl (fun ls hl => ?_)
      refine lv_iconst (v := 0) hx hb dX11_turnToPost_65 (by decide) ?_
      refine lv_istore (lv' := [(7, .int (0 : Int32)), (6, .int (0 : Int32)), (5, .int x13), (4, .int x9), (3, .int x4), (2, .int r2), (0, .ref (ad G (78))), (1, .int v)]) hx hb dX11_turnToPost_66 hl (by decide) rfl (fun ls hl => ?_)
      refine lv_iconst (v := 0) hx hb dX11_turnToPost_68 (by decide) ?_
      refine lv_istore (lv' := [(8, .int (0 : Int32)), (7, .int (0 : Int32)), (6, .int (0 : Int32)), (5, .int x13), (4, .int x9), (3, .int x4), (2, .int r2), (0, .ref (ad G (78))), (1, .int v)]) hx hb dX11_turnToPost_69 hl (by decide) rfl (fun ls hl => ?_)
      have cut71 : ∀ (n : Nat) (z6_71 : Int32) (z7_71 : Int32) (z8_71 : Int32) (H : Heap) (locs : List Loc) (ls : Array Slot), (0 ≤ z8_71.toInt ∧ z8_71.toInt ≤ 8) → ((8 - z8_71.toInt).toNat : Int) < (n : Int) → Wo G σ s H locs → lv_has ls 10 [(0, .ref (ad G (78))), (1, .int v), (2, .int r2), (3, .int x4), (4, .int x9), (5, .int x13), (6, .int z6_71), (7, .int z7_71), (8, .int z8_71)] → W p l e (rmO 3 67) s m a below meth c H locs 0 0 Q (F0 m 71 ls []) := by
        intro n71
        induction n71 with
        | zero =>
          intro z6_71 z7_71 z8_71 H locs ls f71_0 hm71 hw hl
          exfalso; omega
        | succ n71 ih71 =>
          intro z6_71 z7_71 z8_71 H locs ls f71_0 hm71 hw hl
          refine lv_iload hx hb dX11_turnToPost_71 (lv_at hl 8 rfl) ?_
          refine lv_bipush (v := 8) hx hb dX11_turnToPost_73 (by decide) ?_
          refine lv_icmp_ge (tgt := 138) hx hb dX11_turnToPost_75 (by decide) (fun c75 => ?_) (fun c75 => ?_)
          · have c75i := Int32.le_iff_toInt_le.mp c75
            refine lv_aload_n hx hb dX11_turnToPost_138 rfl (lv_at hl 0 rfl) ?_
            refine tg_get (ci := 10) (k := 8) (v := .ref (ad G (85))) hx hb hts hown hk hw (en10 (rfl : nk 78 = 10)) rfl inlX11 (by decide) wd111 rfl dX11_turnToPost_139 ?_
            refine lv_iload_n hx hb dX11_turnToPost_142 rfl (lv_at hl 1 rfl) ?_
            refine lv_iconst (v := 1) hx hb dX11_turnToPost_143 (by decide) ?_
            refine lv_iadd hx hb dX11_turnToPost_144 ?_
            refine lv_topi (fun x14 ex14 => ?_)
            have tx14 : x14.toInt = v.toInt + (1 : Int32).toInt := by rw [ex14]; exact Jvm.Kit.i32_add (by omega) (by omega)
            refine lv_iload hx hb dX11_turnToPost_145 (lv_at hl 6 rfl) ?_
            have hv147 : vp_in x14 32 := vin ⟨by omega, by omega⟩
            have kc147 := clI x14 (by omega)
            refine tg_iast hx hb hk hG hw (ea132 (rfl : nk 85 = 132)) hv147 dX11_turnToPost_147 (fun H locs hw => ?_)
            obtain ⟨σ15, eσ15⟩ : ∃ z, z = up2 σ (85) x14.toNatClampNeg z6_71 := ⟨_, rfl⟩
            rw [← eσ15] at hw
            have hI : K0 σ σ15 := by rw [eσ15]; exact hI.up (rfl) (rg132 (rfl : nk 85 = 132) (fun q => by omega))
            refine lv_aload_n hx hb dX11_turnToPost_148 rfl (lv_at hl 0 rfl) ?_
            refine lv_iload_n hx hb dX11_turnToPost_149 rfl (lv_at hl 1 rfl) ?_
            refine lv_iconst (v := 0) hx hb dX11_turnToPost_150 (by decide) ?_
            refine te_vv hw (ru_V (As := [.int v, .int (0 : Int32)]) (rest := []) (C := RX11) hx hb hml hts hown hk hw (c_X11_turn l G hG σ15 hI.1 v (0 : Int32) (by omega) (by omega)) (m4_in wd344 wd345 wd346 wd5) wd347 (en10 (rfl : nk 78 = 10)) rfl rfl rfl nm_yX11_turn ⟨rfl, rfl⟩ ⟨by decide, by decide⟩ rfl hl.1 rfl (Nat.le_of_ble_eq_true rfl) dX11_turnToPost_151 ⟨Nat.zero_le _, Nat.zero_le _⟩) (fun σ16 H locs hr17 hw => ?_)
            have hI := hI.go hr17.1
            have hr17 := hr17.2
            exact ret σ16 _ _ 154 _ (⟨hI, trivial⟩) hw dX11_turnToPost_154
          · have c75i := mt Int32.le_iff_toInt_le.mpr c75
            refine lv_iload hx hb dX11_turnToPost_78 (lv_at hl 8 rfl) ?_
            refine te_vi hw (ru_S (As := [.int z8_71]) (rest := []) hx hb hml hts hown hk hw (c_X11_stepX l G hG σ hI.1 z8_71) (m3_in wd362 wd363 wd5) wd364 nm_yX11_stepX ⟨rfl, rfl⟩ ⟨by decide, by decide⟩ rfl hl.1 rfl (Nat.le_of_ble_eq_true rfl) dX11_turnToPost_80 ⟨Nat.zero_le _, Nat.zero_le _⟩) (fun r19 σ18 H locs hr19 hw => ?_)
            rw [hr19.1] at hw
            have hr19 := hr19.2
            refine lv_iload hx hb dX11_turnToPost_83 (lv_at hl 4 rfl) ?_
            refine lv_imul hx hb dX11_turnToPost_85 ?_
            refine lv_topi (fun x20 ex20 => ?_)
            refine lv_iload hx hb dX11_turnToPost_86 (lv_at hl 8 rfl) ?_
            refine te_vi hw (ru_S (As := [.int z8_71]) (rest := [.int x20]) hx hb hml hts hown hk hw (c_X11_stepY l G hG σ hI.1 z8_71) (m3_in wd366 wd367 wd5) wd368 nm_yX11_stepY ⟨rfl, rfl⟩ ⟨by decide, by decide⟩ rfl hl.1 rfl (Nat.le_of_ble_eq_true rfl) dX11_turnToPost_88 ⟨Nat.zero_le _, Nat.zero_le _⟩) (fun r22 σ21 H locs hr22 hw => ?_)
            rw [hr22.1] at hw
            have hr22 := hr22.2
            refine lv_iload hx hb dX11_turnToPost_91 (lv_at hl 5 rfl) ?_
            refine lv_imul hx hb dX11_turnToPost_93 ?_
            refine lv_topi (fun x23 ex23 => ?_)
            refine lv_iadd hx hb dX11_turnToPost_94 ?_
            refine lv_topi (fun x24 ex24 => ?_)
            refine lv_iload hx hb dX11_turnToPost_95 (lv_at hl 8 rfl) ?_
            refine lv_iconst (v := 2) hx hb dX11_turnToPost_97 (by decide) ?_
            refine lv_irem hx hb dX11_turnToPost_98 (by decide) ?_
            refine lv_topi (fun x25 ex25 => ?_)
            have tx25 : x25.toInt = z8_71.toInt % 2 := by rw [ex25]; exact irem_nn L2 (by omega)
            have bx25 : 0 ≤ x25.toInt ∧ x25.toInt ≤ 1 := by omega
            refine lv_if_ne (tgt := 107) hx hb dX11_turnToPost_99 (by decide) (fun c99 => ?_) (fun c99 => ?_)
            · have c99i := mt Int32.toInt_inj.mp c99
              refine lv_bipush (v := 7) hx hb dX11_turnToPost_107 (by decide) ?_
              refine lv_imul hx hb dX11_turnToPost_109 ?_
              refine lv_topi (fun x26 ex26 => ?_)
              refine lv_istore (lv' := [(9, .int x26), (0, .ref (ad G (78))), (1, .int v), (2, .int r2), (3, .int x4), (4, .int x9), (5, .int x13), (6, .int z6_71), (7, .int z7_71), (8, .int z8_71)]) hx hb dX11_turnToPost_110 hl (by decide) rfl (fun ls hl => ?_)
              refine lv_iload hx hb dX11_turnToPost_112 (lv_at hl 9 rfl) ?_
              refine lv_if_eq (tgt := 124) hx hb dX11_turnToPost_114 (by decide) (fun c114 => ?_) (fun c114 => ?_)
              · have c114i := congrArg Int32.toInt c114
                refine lv_iload hx hb dX11_turnToPost_124 (lv_at hl 9 rfl) ?_
                refine lv_istore (lv' := [(6, .int z8_71), (9, .int x26), (0, .ref (ad G (78))), (1, .int v), (2, .int r2), (3, .int x4), (4, .int x9), (5, .int x13), (7, .int z7_71), (8, .int z8_71)]) hx hb dX11_turnToPost_126 hl (by decide) rfl (fun ls hl => ?_)
                refine lv_iload hx hb dX11_turnToPost_128 (lv_at hl 1 rfl) ?_
                refine lv_istore (lv' := [(7, .int x26), (6, .int z8_71), (9, .int x26), (0, .ref (ad G (78))), (1, .int v), (2, .int r2), (3, .int x4), (4, .int x9), (5, .int x13), (8, .int z8_71)]) hx hb dX11_turnToPost_130 hl (by decide) rfl (fun ls hl => ?_)
                obtain ⟨x27, ex27⟩ : ∃ z : Int32, z = z8_71 + (1 : Int32) := ⟨_, rfl⟩
                refine lv_iinc (v := x27) (lv' := [(8, .int x27), (7, .int x26), (6, .int z8_71), (9, .int x26), (0, .ref (ad G (78))), (1, .int v), (2, .int r2), (3, .int x4), (4, .int x9), (5, .int x13)]) hx hb dX11_turnToPost_132 hl (k := 9) rfl (by rw [ex27]; rfl) (by decide) rfl (fun ls hl => ?_)
                have tx27 : x27.toInt = z8_71.toInt + 1 := by rw [ex27, Jvm.Kit.i32_add (by omega) (by omega)]; omega
                refine lv_goto (tgt := 71) hx hb dX11_turnToPost_135 (by decide) ?_
                exact ih71 z8_71 x26 x27 _ _ _ (by omega) (by omega) hw (lv_sub hl [4, 5, 6, 7, 8, 9, 2, 1, 0] rfl)
              · have c114i := mt Int32.toInt_inj.mp c114
                refine lv_iload hx hb dX11_turnToPost_117 (lv_at hl 0 rfl) ?_
                refine lv_iload hx hb dX11_turnToPost_119 (lv_at hl 8 rfl) ?_
                refine lv_icmp_le (tgt := 132) hx hb dX11_turnToPost_121 (by decide) (fun c121 => ?_) (fun c121 => ?_)
                · have ox26 := i32b x26
                  have oz7_71 := i32b z7_71
                  have c121i := Int32.le_iff_toInt_le.mp c121
                  obtain ⟨x28, ex28⟩ : ∃ z : Int32, z = z8_71 + (1 : Int32) := ⟨_, rfl⟩
                  refine lv_iinc (v := x28) (lv' := [(8, .int x28), (9, .int x26), (0, .ref (ad G (78))), (1, .int v), (2, .int r2), (3, .int x4), (4, .int x9), (5, .int x13), (6, .int z6_71), (7, .int z7_71)]) hx hb dX11_turnToPost_132 hl (k := 9) rfl (by rw [ex28]; rfl) (by decide) rfl (fun ls hl => ?_)
                  have tx28 : x28.toInt = z8_71.toInt + 1 := by rw [ex28, Jvm.Kit.i32_add (by omega) (by omega)]; omega
                  refine lv_goto (tgt := 71) hx hb dX11_turnToPost_135 (by decide) ?_
                  exact ih71 z6_71 z7_71 x28 _ _ _ (by omega) (by omega) hw (lv_sub hl [2, 3, 4, 5, 6, 7, 8, 9, 0] rfl)
                · have ox26 := i32b x26
                  have oz7_71 := i32b z7_71
                  have c121i := mt Int32.le_iff_toInt_le.mpr c121
                  refine lv_iload hx hb dX11_turnToPost_124 (lv_at hl 9 rfl) ?_
                  refine lv_istore (lv' := [(6, .int z8_71), (9, .int x26), (0, .ref (ad G (78))), (1, .int v), (2, .int r2), (3, .int x4), (4, .int x9), (5, .int x13), (7, .int z7_71), (8, .int z8_71)]) hx hb dX11_turnToPost_126 hl (by decide) rfl (fun ls hl => ?_)
                  refine lv_iload hx hb dX11_turnToPost_128 (lv_at hl 1 rfl) ?_
                  refine lv_istore (lv' := [(7, .int x26), (6, .int z8_71), (9, .int x26), (0, .ref (ad G (78))), (1, .int v), (2, .int r2), (3, .int x4), (4, .int x9), (5, .int x13), (8, .int z8_71)]) hx hb dX11_turnToPost_130 hl (by decide) rfl (fun ls hl => ?_)
                  obtain ⟨x29, ex29⟩ : ∃ z : Int32, z = z8_71 + (1 : Int32) := ⟨_, rfl⟩
                  refine lv_iinc (v := x29) (lv' := [(8, .int x29), (7, .int x26), (6, .int z8_71), (9, .int x26), (0, .ref (ad G (78))), (1, .int v), (2, .int r2), (3, .int x4), (4, .int x9), (5, .int x13)]) hx hb dX11_turnToPost_132 hl (k := 9) rfl (by rw [ex29]; rfl) (by decide) rfl (fun ls hl => ?_)
                  have tx29 : x29.toInt = z8_71.toInt + 1 := by rw [ex29, Jvm.Kit.i32_add (by omega) (by omega)]; omega
                  refine lv_goto (tgt := 71) hx hb dX11_turnToPost_135 (by decide) ?_
                  exact ih71 z8_71 x26 x29 _ _ _ (by omega) (by omega) hw (lv_sub hl [4, 5, 6, 7, 8, 9, 2, 1, 0] rfl)
            · have c99i := congrArg Int32.toInt c99
              refine lv_bipush (v := 10) hx hb dX11_turnToPost_102 (by decide) ?_
              refine lv_goto (tgt := 109) hx hb dX11_turnToPost_104 (by decide) ?_
              refine lv_imul hx hb dX11_turnToPost_109 ?_
              refine lv_topi (fun x30 ex30 => ?_)
              refine lv_istore (lv' := [(9, .int x30), (0, .ref (ad G (78))), (1, .int v), (2, .int r2), (3, .int x4), (4, .int x9), (5, .int x13), (6, .int z6_71), (7, .int z7_71), (8, .int z8_71)]) hx hb dX11_turnToPost_110 hl (by decide) rfl (fun ls hl => ?_)
              refine lv_iload hx hb dX11_turnToPost_112 (lv_at hl 9 rfl) ?_
              refine lv_if_eq (tgt := 124) hx hb dX11_turnToPost_114 (by decide) (fun c114 => ?_) (fun c114 => ?_)
              · have c114i := congrArg Int32.toInt c114
                refine lv_iload hx hb dX11_turnToPost_124 (lv_at hl 9 rfl) ?_
                refine lv_istore (lv' := [(6, .int z8_71), (9, .int x30), (0, .ref (ad G (78))), (1, .int v), (2, .int r2), (3, .int x4), (4, .int x9), (5, .int x13), (7, .int z7_71), (8, .int z8_71)]) hx hb dX11_turnToPost_126 hl (by decide) rfl (fun ls hl => ?_)
                refine lv_iload hx hb dX11_turnToPost_128 (lv_at hl 1 rfl) ?_
                refine lv_istore (lv' := [(7, .int x30), (6, .int z8_71), (9, .int x30), (0, .ref (ad G (78))), (1, .int v), (2, .int r2), (3, .int x4), (4, .int x9), (5, .int x13), (8, .int z8_71)]) hx hb dX11_turnToPost_130 hl (by decide) rfl (fun ls hl => ?_)
                obtain ⟨x31, ex31⟩ : ∃ z : Int32, z = z8_71 + (1 : Int32) := ⟨_, rfl⟩
                refine lv_iinc (v := x31) (lv' := [(8, .int x31), (7, .int x30), (6, .int z8_71), (9, .int x30), (0, .ref (ad G (78))), (1, .int v), (2, .int r2), (3, .int x4), (4, .int x9), (5, .int x13)]) hx hb dX11_turnToPost_132 hl (k := 9) rfl (by rw [ex31]; rfl) (by decide) rfl (fun ls hl => ?_)
                have tx31 : x31.toInt = z8_71.toInt + 1 := by rw [ex31, Jvm.Kit.i32_add (by omega) (by omega)]; omega
                refine lv_goto (tgt := 71) hx hb dX11_turnToPost_135 (by decide) ?_
                exact ih71 z8_71 x30 x31 _ _ _ (by omega) (by omega) hw (lv_sub hl [4, 5, 6, 7, 8, 9, 2, 1, 0] rfl)
              · have c114i := mt Int32.toInt_inj.mp c114
                refine lv_iload hx hb dX11_turnToPost_117 (lv_at hl 0 rfl) ?_
                refine lv_iload hx hb dX11_turnToPost_119 (lv_at hl 8 rfl) ?_
                refine lv_icmp_le (tgt := 132) hx hb dX11_turnToPost_121 (by decide) (fun c121 => ?_) (fun c121 => ?_)
                · have ox30 := i32b x30
                  have oz7_71 := i32b z7_71
                  have c121i := Int32.le_iff_toInt_le.mp c121
                  obtain ⟨x32, ex32⟩ : ∃ z : Int32, z = z8_71 + (1 : Int32) := ⟨_, rfl⟩
                  refine lv_iinc (v := x32) (lv' := [(8, .int x32), (9, .int x30), (0, .ref (ad G (78))), (1, .int v), (2, .int r2), (3, .int x4), (4, .int x9), (5, .int x13), (6, .int z6_71), (7, .int z7_71)]) hx hb dX11_turnToPost_132 hl (k := 9) rfl (by rw [ex32]; rfl) (by decide) rfl (fun ls hl => ?_)
                  have tx32 : x32.toInt = z8_71.toInt + 1 := by rw [ex32, Jvm.Kit.i32_add (by omega) (by omega)]; omega
                  refine lv_goto (tgt := 71) hx hb dX11_turnToPost_135 (by decide) ?_
                  exact ih71 z6_71 z7_71 x32 _ _ _ (by omega) (by omega) hw (lv_sub hl [2, 3, 4, 5, 6, 7, 8, 9, 0] rfl)
                · have ox30 := i32b x30
                  have oz7_71 := i32b z7_71
                  have c121i := mt Int32.le_iff_toInt_le.mpr c121
                  refine lv_iload hx hb dX11_turnToPost_124 (lv_at hl 9 rfl) ?_
                  refine lv_istore (lv' := [(6, .int z8_71), (9, .int x30), (0, .ref (ad G (78))), (1, .int v), (2, .int r2), (3, .int x4), (4, .int x9), (5, .int x13), (7, .int z7_71), (8, .int z8_71)]) hx hb dX11_turnToPost_126 hl (by decide) rfl (fun ls hl => ?_)
                  refine lv_iload hx hb dX11_turnToPost_128 (lv_at hl 1 rfl) ?_
                  refine lv_istore (lv' := [(7, .int x30), (6, .int z8_71), (9, .int x30), (0, .ref (ad G (78))), (1, .int v), (2, .int r2), (3, .int x4), (4, .int x9), (5, .int x13), (8, .int z8_71)]) hx hb dX11_turnToPost_130 hl (by decide) rfl (fun ls hl => ?_)
                  obtain ⟨x33, ex33⟩ : ∃ z : Int32, z = z8_71 + (1 : Int32) := ⟨_, rfl⟩
                  refine lv_iinc (v := x33) (lv' := [(8, .int x33), (7, .int x30), (6, .int z8_71), (9, .int x30), (0, .ref (ad G (78))), (1, .int v), (2, .int r2), (3, .int x4), (4, .int x9), (5, .int x13)]) hx hb dX11_turnToPost_132 hl (k := 9) rfl (by rw [ex33]; rfl) (by decide) rfl (fun ls hl => ?_)
                  have tx33 : x33.toInt = z8_71.toInt + 1 := by rw [ex33, Jvm.Kit.i32_add (by omega) (by omega)]; omega
                  refine lv_goto (tgt := 71) hx hb dX11_turnToPost_135 (by decide) ?_
                  exact ih71 z8_71 x30 x33 _ _ _ (by omega) (by omega) hw (lv_sub hl [4, 5, 6, 7, 8, 9, 2, 1, 0] rfl)
      exact cut71 ((((8 - (0 : Int32).toInt).toNat : Int)).toNat + 1) (0 : Int32) (0 : Int32) (0 : Int32) _ _ _ (by omega) (by omega) hw (lv_sub hl [7, 8, 6, 5, 4, 3, 2, 1, 0] rfl)
    · have ox5 := i32b x5
      have ox4 := i32b x4
      have c26i := congrArg Int32.toInt c26
      exact ret σ _ _ 29 _ (⟨hI, trivial⟩) hw dX11_turnToPost_29
set_option maxHeartbeats 4000000 in
set_option maxRecDepth 100000 in
theorem c_X11_go (l : Launch) (G : Gg) (hG : Ginj G) (σ : Sg) (hI0 : Inv σ) (v : Int32) (w : Int32) (u : Int32) (g1 : 0 ≤ v.toInt ∧ v.toInt ≤ 24) (g8 : v.toInt % 8 = 0) : MV l G yX11_go cX11_go 6 (rmO 3 68) σ [.ref (ad G (78)), .int v, .int w, .int u] (fun σ' => K0 σ σ' ∧ (True)) := by
  refine MV.of (by decide +kernel) (Nat.le_of_ble_eq_true rfl) ?_
  intro p e s m a below meth c ls Q hx hb hml hts hown hk hw ret hl
  have hown : s.vm.findClass RX11 = some m.cls := hown
  have hl : lv_has ls 6 [(0, .ref (ad G (78))), (1, .int v), (2, .int w), (3, .int u)] := hl
  have hI : K0 σ σ := K0.rf hI0
  have L0 : (0 : Int32).toInt = 0 := by decide
  have L1 : (1 : Int32).toInt = 1 := by decide
  have L2 : (2 : Int32).toInt = 2 := by decide
  have L3 : (3 : Int32).toInt = 3 := by decide
  have L4 : (4 : Int32).toInt = 4 := by decide
  have L6 : (6 : Int32).toInt = 6 := by decide
  have L7 : (7 : Int32).toInt = 7 := by decide
  generalize hHe : s.heap = H at hw ⊢
  generalize hLe : ([] : List Loc) = locs at hw ⊢
  refine lv_iconst (v := 0) hx hb dX11_go_0 (by decide) ?_
  refine lv_istore (lv' := [(4, .int (0 : Int32)), (0, .ref (ad G (78))), (1, .int v), (2, .int w), (3, .int u)]) hx hb dX11_go_1 hl (by decide) rfl (fun ls hl => ?_)
  have cut3 : ∀ (n : Nat) (z4_3 : Int32) (σc3 : Sg) (H : Heap) (locs : List Loc) (ls : Array Slot), (0 ≤ z4_3.toInt ∧ z4_3.toInt ≤ 2147483647) → K0 σ σc3 → ((w.toInt - z4_3.toInt).toNat : Int) < (n : Int) → Wo G σc3 s H locs → lv_has ls 6 [(0, .ref (ad G (78))), (1, .int v), (2, .int w), (3, .int u), (4, .int z4_3)] → W p l e (rmO 3 68) s m a below meth c H locs 0 0 Q (F0 m 3 ls []) := by
    intro n3
    induction n3 with
    | zero =>
      intro z4_3 σc3 H locs ls f3_0 hI hm3 hw hl
      exfalso; omega
    | succ n3 ih3 =>
      intro z4_3 σc3 H locs ls f3_0 hI hm3 hw hl
      refine lv_iload hx hb dX11_go_3 (lv_at hl 4 rfl) ?_
      refine lv_iload_n hx hb dX11_go_5 rfl (lv_at hl 2 rfl) ?_
      refine lv_icmp_ge (tgt := 130) hx hb dX11_go_6 (by decide) (fun c6 => ?_) (fun c6 => ?_)
      · have oz4_3 := i32b z4_3
        have ow := i32b w
        have c6i := Int32.le_iff_toInt_le.mp c6
        exact ret σc3 _ _ 130 _ (⟨hI, trivial⟩) hw dX11_go_130
      · have oz4_3 := i32b z4_3
        have ow := i32b w
        have c6i := mt Int32.le_iff_toInt_le.mpr c6
        refine lv_aload_n hx hb dX11_go_9 rfl (lv_at hl 0 rfl) ?_
        refine tg_get (ci := 10) (k := 8) (v := .ref (ad G (85))) hx hb hts hown hk hw (en10 (rfl : nk 78 = 10)) rfl inlX11 (by decide) wd111 rfl dX11_go_10 ?_
        refine lv_iload_n hx hb dX11_go_13 rfl (lv_at hl 1 rfl) ?_
        refine lv_iconst (v := 0) hx hb dX11_go_14 (by decide) ?_
        refine lv_iadd hx hb dX11_go_15 ?_
        refine lv_topi (fun x1 ex1 => ?_)
        have tx1 : x1.toInt = v.toInt + (0 : Int32).toInt := by rw [ex1]; exact Jvm.Kit.i32_add (by omega) (by omega)
        have hv16 : vp_in x1 32 := vin ⟨by omega, by omega⟩
        have kc16 := clI x1 (by omega)
        refine tg_iald hx hb hk hw (en132 (rfl : nk 85 = 132)) hv16 dX11_go_16 ?_
        refine lv_topi (fun x2 ex2 => ?_)
        have bx2 : x1.toNatClampNeg % 8 = 2 → 0 ≤ x2.toInt ∧ x2.toInt ≤ 3 := fun q => by rw [ex2]; exact rd132 hI.1 (rfl : nk 85 = 132) q
        refine lv_aload_n hx hb dX11_go_17 rfl (lv_at hl 0 rfl) ?_
        refine tg_get (ci := 10) (k := 8) (v := .ref (ad G (85))) hx hb hts hown hk hw (en10 (rfl : nk 78 = 10)) rfl inlX11 (by decide) wd111 rfl dX11_go_18 ?_
        refine lv_iload_n hx hb dX11_go_21 rfl (lv_at hl 1 rfl) ?_
        refine lv_iconst (v := 1) hx hb dX11_go_22 (by decide) ?_
        refine lv_iadd hx hb dX11_go_23 ?_
        refine lv_topi (fun x3 ex3 => ?_)
        have tx3 : x3.toInt = v.toInt + (1 : Int32).toInt := by rw [ex3]; exact Jvm.Kit.i32_add (by omega) (by omega)
        have hv24 : vp_in x3 32 := vin ⟨by omega, by omega⟩
        have kc24 := clI x3 (by omega)
        refine tg_iald hx hb hk hw (en132 (rfl : nk 85 = 132)) hv24 dX11_go_24 ?_
        refine lv_topi (fun x4 ex4 => ?_)
        have bx4 : x3.toNatClampNeg % 8 = 2 → 0 ≤ x4.toInt ∧ x4.toInt ≤ 3 := fun q => by rw [ex4]; exact rd132 hI.1 (rfl : nk 85 = 132) q
        refine te_vi hw (ru_S (As := [.int x2, .int x4]) (rest := []) hx hb hml hts hown hk hw (c_X11_beside l G hG σc3 hI.1 x2 x4) (m3_in wd373 wd374 wd5) wd375 nm_yX11_beside ⟨rfl, rfl⟩ ⟨by decide, by decide⟩ rfl hl.1 rfl (Nat.le_of_ble_eq_true rfl) dX11_go_25 ⟨Nat.zero_le _, Nat.zero_le _⟩) (fun r6 σ5 H locs hr6 hw => ?_)
        rw [hr6.1] at hw
        have hr6 := hr6.2
        refine lv_istore (lv' := [(5, .int r6), (0, .ref (ad G (78))), (1, .int v), (2, .int w), (3, .int u), (4, .int z4_3)]) hx hb dX11_go_28 hl (by decide) rfl (fun ls hl => ?_)
        refine lv_iload hx hb dX11_go_30 (lv_at hl 0 rfl) ?_
        refine lv_if_ge (tgt := 52) hx hb dX11_go_32 (by decide) (fun c32 => ?_) (fun c32 => ?_)
        · have c32i := Int32.le_iff_toInt_le.mp c32
          refine lv_aload_n hx hb dX11_go_52 rfl (lv_at hl 1 rfl) ?_
          refine tg_get (ci := 10) (k := 8) (v := .ref (ad G (85))) hx hb hts hown hk hw (en10 (rfl : nk 78 = 10)) rfl inlX11 (by decide) wd111 rfl dX11_go_53 ?_
          refine lv_iload_n hx hb dX11_go_56 rfl (lv_at hl 2 rfl) ?_
          refine lv_iconst (v := 0) hx hb dX11_go_57 (by decide) ?_
          refine lv_iadd hx hb dX11_go_58 ?_
          refine lv_topi (fun x7 ex7 => ?_)
          have tx7 : x7.toInt = v.toInt + (0 : Int32).toInt := by rw [ex7]; exact Jvm.Kit.i32_add (by omega) (by omega)
          refine lv_iload hx hb dX11_go_59 (lv_at hl 0 rfl) ?_
          have hv61 : vp_in x7 32 := vin ⟨by omega, by omega⟩
          have kc61 := clI x7 (by omega)
          refine tg_iast hx hb hk hG hw (ea132 (rfl : nk 85 = 132)) hv61 dX11_go_61 (fun H locs hw => ?_)
          obtain ⟨σ8, eσ8⟩ : ∃ z, z = up2 σc3 (85) x7.toNatClampNeg r6 := ⟨_, rfl⟩
          rw [← eσ8] at hw
          have hI : K0 σ σ8 := by rw [eσ8]; exact hI.up (rfl) (rg132 (rfl : nk 85 = 132) (fun q => by omega))
          refine lv_aload_n hx hb dX11_go_62 rfl (lv_at hl 1 rfl) ?_
          refine tg_get (ci := 10) (k := 8) (v := .ref (ad G (85))) hx hb hts hown hk hw (en10 (rfl : nk 78 = 10)) rfl inlX11 (by decide) wd111 rfl dX11_go_63 ?_
          refine lv_iload_n hx hb dX11_go_66 rfl (lv_at hl 2 rfl) ?_
          refine lv_bipush (v := 6) hx hb dX11_go_67 (by decide) ?_
          refine lv_iadd hx hb dX11_go_69 ?_
          refine lv_topi (fun x9 ex9 => ?_)
          have tx9 : x9.toInt = v.toInt + (6 : Int32).toInt := by rw [ex9]; exact Jvm.Kit.i32_add (by omega) (by omega)
          refine lv_dup2_11 hx hb dX11_go_70 rfl rfl ?_
          have hv71 : vp_in x9 32 := vin ⟨by omega, by omega⟩
          have kc71 := clI x9 (by omega)
          refine tg_iald hx hb hk hw (en132 (rfl : nk 85 = 132)) hv71 dX11_go_71 ?_
          refine lv_topi (fun x10 ex10 => ?_)
          have bx10 : x9.toNatClampNeg % 8 = 2 → 0 ≤ x10.toInt ∧ x10.toInt ≤ 3 := fun q => by rw [ex10]; exact rd132 hI.1 (rfl : nk 85 = 132) q
          refine lv_iconst (v := 1) hx hb dX11_go_72 (by decide) ?_
          refine lv_iadd hx hb dX11_go_73 ?_
          refine lv_topi (fun x11 ex11 => ?_)
          have hv74 : vp_in x9 32 := vin ⟨by omega, by omega⟩
          have kc74 := clI x9 (by omega)
          refine tg_iast hx hb hk hG hw (ea132 (rfl : nk 85 = 132)) hv74 dX11_go_74 (fun H locs hw => ?_)
          obtain ⟨σ12, eσ12⟩ : ∃ z, z = up2 σ8 (85) x9.toNatClampNeg x11 := ⟨_, rfl⟩
          rw [← eσ12] at hw
          have hI : K0 σ σ12 := by rw [eσ12]; exact hI.up (rfl) (rg132 (rfl : nk 85 = 132) (fun q => by omega))
          refine lv_iload_n hx hb dX11_go_75 rfl (lv_at hl 4 rfl) ?_
          refine lv_if_eq (tgt := 124) hx hb dX11_go_76 (by decide) (fun c76 => ?_) (fun c76 => ?_)
          · have c76i := congrArg Int32.toInt c76
            obtain ⟨x13, ex13⟩ : ∃ z : Int32, z = z4_3 + (1 : Int32) := ⟨_, rfl⟩
            refine lv_iinc (v := x13) (lv' := [(4, .int x13), (5, .int r6), (0, .ref (ad G (78))), (1, .int v), (2, .int w), (3, .int u)]) hx hb dX11_go_124 hl (k := 5) rfl (by rw [ex13]; rfl) (by decide) rfl (fun ls hl => ?_)
            have tx13 : x13.toInt = z4_3.toInt + 1 := by rw [ex13, Jvm.Kit.i32_add (by omega) (by omega)]; omega
            refine lv_goto (tgt := 3) hx hb dX11_go_127 (by decide) ?_
            exact ih3 x13 σ12 _ _ _ (by omega) hI (by omega) hw (lv_sub hl [2, 3, 4, 5, 0] rfl)
          · have c76i := mt Int32.toInt_inj.mp c76
            refine lv_aload_n hx hb dX11_go_79 rfl (lv_at hl 1 rfl) ?_
            refine tg_get (ci := 10) (k := 8) (v := .ref (ad G (85))) hx hb hts hown hk hw (en10 (rfl : nk 78 = 10)) rfl inlX11 (by decide) wd111 rfl dX11_go_80 ?_
            refine lv_iload_n hx hb dX11_go_83 rfl (lv_at hl 2 rfl) ?_
            refine lv_iconst (v := 3) hx hb dX11_go_84 (by decide) ?_
            refine lv_iadd hx hb dX11_go_85 ?_
            refine lv_topi (fun x14 ex14 => ?_)
            have tx14 : x14.toInt = v.toInt + (3 : Int32).toInt := by rw [ex14]; exact Jvm.Kit.i32_add (by omega) (by omega)
            have hv86 : vp_in x14 32 := vin ⟨by omega, by omega⟩
            have kc86 := clI x14 (by omega)
            refine tg_iald hx hb hk hw (en132 (rfl : nk 85 = 132)) hv86 dX11_go_86 ?_
            refine lv_topi (fun x15 ex15 => ?_)
            have bx15 : x14.toNatClampNeg % 8 = 2 → 0 ≤ x15.toInt ∧ x15.toInt ≤ 3 := fun q => by rw [ex15]; exact rd132 hI.1 (rfl : nk 85 = 132) q
            refine lv_if_le (tgt := 124) hx hb dX11_go_87 (by decide) (fun c87 => ?_) (fun c87 => ?_)
            · have c87i := Int32.le_iff_toInt_le.mp c87
              obtain ⟨x16, ex16⟩ : ∃ z : Int32, z = z4_3 + (1 : Int32) := ⟨_, rfl⟩
              refine lv_iinc (v := x16) (lv' := [(4, .int x16), (5, .int r6), (0, .ref (ad G (78))), (1, .int v), (2, .int w), (3, .int u)]) hx hb dX11_go_124 hl (k := 5) rfl (by rw [ex16]; rfl) (by decide) rfl (fun ls hl => ?_)
              have tx16 : x16.toInt = z4_3.toInt + 1 := by rw [ex16, Jvm.Kit.i32_add (by omega) (by omega)]; omega
              refine lv_goto (tgt := 3) hx hb dX11_go_127 (by decide) ?_
              exact ih3 x16 σ12 _ _ _ (by omega) hI (by omega) hw (lv_sub hl [2, 3, 4, 5, 0] rfl)
            · have c87i := mt Int32.le_iff_toInt_le.mpr c87
              refine lv_aload_n hx hb dX11_go_90 rfl (lv_at hl 1 rfl) ?_
              refine tg_get (ci := 10) (k := 8) (v := .ref (ad G (85))) hx hb hts hown hk hw (en10 (rfl : nk 78 = 10)) rfl inlX11 (by decide) wd111 rfl dX11_go_91 ?_
              refine lv_iload_n hx hb dX11_go_94 rfl (lv_at hl 2 rfl) ?_
              refine lv_iconst (v := 3) hx hb dX11_go_95 (by decide) ?_
              refine lv_iadd hx hb dX11_go_96 ?_
              refine lv_topi (fun x17 ex17 => ?_)
              have tx17 : x17.toInt = v.toInt + (3 : Int32).toInt := by rw [ex17]; exact Jvm.Kit.i32_add (by omega) (by omega)
              refine lv_dup2_11 hx hb dX11_go_97 rfl rfl ?_
              have hv98 : vp_in x17 32 := vin ⟨by omega, by omega⟩
              have kc98 := clI x17 (by omega)
              refine tg_iald hx hb hk hw (en132 (rfl : nk 85 = 132)) hv98 dX11_go_98 ?_
              refine lv_topi (fun x18 ex18 => ?_)
              have bx18 : x17.toNatClampNeg % 8 = 2 → 0 ≤ x18.toInt ∧ x18.toInt ≤ 3 := fun q => by rw [ex18]; exact rd132 hI.1 (rfl : nk 85 = 132) q
              refine lv_iconst (v := 1) hx hb dX11_go_99 (by decide) ?_
              refine lv_isub hx hb dX11_go_100 ?_
              refine lv_topi (fun x19 ex19 => ?_)
              have hv101 : vp_in x17 32 := vin ⟨by omega, by omega⟩
              have kc101 := clI x17 (by omega)
              refine tg_iast hx hb hk hG hw (ea132 (rfl : nk 85 = 132)) hv101 dX11_go_101 (fun H locs hw => ?_)
              obtain ⟨σ20, eσ20⟩ : ∃ z, z = up2 σ12 (85) x17.toNatClampNeg x19 := ⟨_, rfl⟩
              rw [← eσ20] at hw
              have hI : K0 σ σ20 := by rw [eσ20]; exact hI.up (rfl) (rg132 (rfl : nk 85 = 132) (fun q => by omega))
              refine lv_aload_n hx hb dX11_go_102 rfl (lv_at hl 1 rfl) ?_
              refine tg_get (ci := 10) (k := 9) (v := .ref (ad G (86))) hx hb hts hown hk hw (en10 (rfl : nk 78 = 10)) rfl inlX11 (by decide) wd112 rfl dX11_go_103 ?_
              refine lv_iconst (v := 4) hx hb dX11_go_106 (by decide) ?_
              refine lv_iload hx hb dX11_go_107 (lv_at hl 0 rfl) ?_
              refine lv_imul hx hb dX11_go_109 ?_
              refine lv_topi (fun x21 ex21 => ?_)
              have tx21 : x21.toInt = 4 * r6.toInt := by rw [ex21, Jvm.Kit.i32_mul (by rw [L4]; omega) (by rw [L4]; omega), L4]
              refine lv_aload_n hx hb dX11_go_110 rfl (lv_at hl 1 rfl) ?_
              refine tg_get (ci := 10) (k := 8) (v := .ref (ad G (85))) hx hb hts hown hk hw (en10 (rfl : nk 78 = 10)) rfl inlX11 (by decide) wd111 rfl dX11_go_111 ?_
              refine lv_iload_n hx hb dX11_go_114 rfl (lv_at hl 2 rfl) ?_
              refine lv_iconst (v := 2) hx hb dX11_go_115 (by decide) ?_
              refine lv_iadd hx hb dX11_go_116 ?_
              refine lv_topi (fun x22 ex22 => ?_)
              have tx22 : x22.toInt = v.toInt + (2 : Int32).toInt := by rw [ex22]; exact Jvm.Kit.i32_add (by omega) (by omega)
              have hv117 : vp_in x22 32 := vin ⟨by omega, by omega⟩
              have kc117 := clI x22 (by omega)
              refine tg_iald hx hb hk hw (en132 (rfl : nk 85 = 132)) hv117 dX11_go_117 ?_
              refine lv_topi (fun x23 ex23 => ?_)
              have bx23 : x22.toNatClampNeg % 8 = 2 → 0 ≤ x23.toInt ∧ x23.toInt ≤ 3 := fun q => by rw [ex23]; exact rd132 hI.1 (rfl : nk 85 = 132) q
              have w117 : 0 ≤ x23.toInt ∧ x23.toInt ≤ 3 := bx23 (by omega)
              refine lv_iadd hx hb dX11_go_118 ?_
              refine lv_topi (fun x24 ex24 => ?_)
              have tx24 : x24.toInt = x21.toInt + x23.toInt := by rw [ex24]; exact Jvm.Kit.i32_add (by omega) (by omega)
              refine lv_dup2_11 hx hb dX11_go_119 rfl rfl ?_
              have hv120 : vp_in x24 256 := vin ⟨by omega, by omega⟩
              refine tg_iald hx hb hk hw (en356 (rfl : nk 86 = 356)) hv120 dX11_go_120 ?_
              refine lv_topi (fun x25 ex25 => ?_)
              refine lv_iconst (v := 1) hx hb dX11_go_121 (by decide) ?_
              refine lv_iadd hx hb dX11_go_122 ?_
              refine lv_topi (fun x26 ex26 => ?_)
              have hv123 : vp_in x24 256 := vin ⟨by omega, by omega⟩
              refine tg_iast hx hb hk hG hw (ea356 (rfl : nk 86 = 356)) hv123 dX11_go_123 (fun H locs hw => ?_)
              obtain ⟨σ27, eσ27⟩ : ∃ z, z = up2 σ20 (86) x24.toNatClampNeg x26 := ⟨_, rfl⟩
              rw [← eσ27] at hw
              have hI : K0 σ σ27 := by rw [eσ27]; exact hI.up (rfl) (rg_no (by rw [(rfl : nk 86 = 356)]; rfl))
              obtain ⟨x28, ex28⟩ : ∃ z : Int32, z = z4_3 + (1 : Int32) := ⟨_, rfl⟩
              refine lv_iinc (v := x28) (lv' := [(4, .int x28), (5, .int r6), (0, .ref (ad G (78))), (1, .int v), (2, .int w), (3, .int u)]) hx hb dX11_go_124 hl (k := 5) rfl (by rw [ex28]; rfl) (by decide) rfl (fun ls hl => ?_)
              have tx28 : x28.toInt = z4_3.toInt + 1 := by rw [ex28, Jvm.Kit.i32_add (by omega) (by omega)]; omega
              refine lv_goto (tgt := 3) hx hb dX11_go_127 (by decide) ?_
              exact ih3 x28 σ27 _ _ _ (by omega) hI (by omega) hw (lv_sub hl [2, 3, 4, 5, 0] rfl)
        · have c32i := mt Int32.le_iff_toInt_le.mpr c32
          refine lv_aload_n hx hb dX11_go_35 rfl (lv_at hl 1 rfl) ?_
          refine tg_get (ci := 10) (k := 8) (v := .ref (ad G (85))) hx hb hts hown hk hw (en10 (rfl : nk 78 = 10)) rfl inlX11 (by decide) wd111 rfl dX11_go_36 ?_
          refine lv_iload_n hx hb dX11_go_39 rfl (lv_at hl 2 rfl) ?_
          refine lv_bipush (v := 7) hx hb dX11_go_40 (by decide) ?_
          refine lv_iadd hx hb dX11_go_42 ?_
          refine lv_topi (fun x29 ex29 => ?_)
          have tx29 : x29.toInt = v.toInt + (7 : Int32).toInt := by rw [ex29]; exact Jvm.Kit.i32_add (by omega) (by omega)
          refine lv_dup2_11 hx hb dX11_go_43 rfl rfl ?_
          have hv44 : vp_in x29 32 := vin ⟨by omega, by omega⟩
          have kc44 := clI x29 (by omega)
          refine tg_iald hx hb hk hw (en132 (rfl : nk 85 = 132)) hv44 dX11_go_44 ?_
          refine lv_topi (fun x30 ex30 => ?_)
          have bx30 : x29.toNatClampNeg % 8 = 2 → 0 ≤ x30.toInt ∧ x30.toInt ≤ 3 := fun q => by rw [ex30]; exact rd132 hI.1 (rfl : nk 85 = 132) q
          refine lv_iload_n hx hb dX11_go_45 rfl (lv_at hl 3 rfl) ?_
          refine lv_iload hx hb dX11_go_46 (lv_at hl 5 rfl) ?_
          refine lv_isub hx hb dX11_go_48 ?_
          refine lv_topi (fun x31 ex31 => ?_)
          have ow := i32b w
          have tx31 : x31.toInt = w.toInt - z4_3.toInt := by rw [ex31]; exact Jvm.Kit.i32_sub (by omega) (by omega)
          refine lv_iadd hx hb dX11_go_49 ?_
          refine lv_topi (fun x32 ex32 => ?_)
          have hv50 : vp_in x29 32 := vin ⟨by omega, by omega⟩
          have kc50 := clI x29 (by omega)
          refine tg_iast hx hb hk hG hw (ea132 (rfl : nk 85 = 132)) hv50 dX11_go_50 (fun H locs hw => ?_)
          obtain ⟨σ33, eσ33⟩ : ∃ z, z = up2 σc3 (85) x29.toNatClampNeg x32 := ⟨_, rfl⟩
          rw [← eσ33] at hw
          have hI : K0 σ σ33 := by rw [eσ33]; exact hI.up (rfl) (rg132 (rfl : nk 85 = 132) (fun q => by omega))
          exact ret σ33 _ _ 51 _ (⟨hI, trivial⟩) hw dX11_go_51
  exact cut3 ((((w.toInt - (0 : Int32).toInt).toNat : Int)).toNat + 1) (0 : Int32) σ _ _ _ (by omega) hI (by omega) hw (lv_sub hl [1, 2, 3, 4, 0] rfl)
set_option maxHeartbeats 4000000 in
set_option maxRecDepth 100000 in
theorem c_X11_goNight (l : Launch) (G : Gg) (hG : Ginj G) (σ : Sg) (hI0 : Inv σ) (v : Int32) (hN : 0 < (σ 78 7).toInt → ¬ ((σ 84 ((σ 78 7).toInt - 1).toNat).toInt = 102 ∨ (σ 84 ((σ 78 7).toInt - 1).toNat).toInt = 119)) : MV l G yX11_goNight cX11_goNight 6 (rmO 4 96) σ [.ref (ad G (78)), .int v] (fun σ' => K0 σ σ' ∧ (True)) := by
  refine MV.of (by decide +kernel) (Nat.le_of_ble_eq_true rfl) ?_
  intro p e s m a below meth c ls Q hx hb hml hts hown hk hw ret hl
  have hown : s.vm.findClass RX11 = some m.cls := hown
  have hl : lv_has ls 6 [(0, .ref (ad G (78))), (1, .int v)] := hl
  have hI : K0 σ σ := K0.rf hI0
  have Lm1 : (-1 : Int32).toInt = -1 := by decide
  have L0 : (0 : Int32).toInt = 0 := by decide
  have L1 : (1 : Int32).toInt = 1 := by decide
  have L8 : (8 : Int32).toInt = 8 := by decide
  have L48 : (48 : Int32).toInt = 48 := by decide
  have L65 : (65 : Int32).toInt = 65 := by decide
  have L98 : (98 : Int32).toInt = 98 := by decide
  have L102 : (102 : Int32).toInt = 102 := by decide
  have L108 : (108 : Int32).toInt = 108 := by decide
  have L114 : (114 : Int32).toInt = 114 := by decide
  generalize hHe : s.heap = H at hw ⊢
  generalize hLe : ([] : List Loc) = locs at hw ⊢
  refine lv_iconst (v := 0) hx hb dX11_goNight_0 (by decide) ?_
  refine lv_istore_n (lv' := [(2, .int (0 : Int32)), (0, .ref (ad G (78))), (1, .int v)]) hx hb dX11_goNight_1 rfl hl (by decide) rfl (fun ls hl => ?_)
  refine lv_iconst (v := 0) hx hb dX11_goNight_2 (by decide) ?_
  refine lv_istore_n (lv' := [(3, .int (0 : Int32)), (2, .int (0 : Int32)), (0, .ref (ad G (78))), (1, .int v)]) hx hb dX11_goNight_3 rfl hl (by decide) rfl (fun ls hl => ?_)
  refine lv_iconst (v := 0) hx hb dX11_goNight_4 (by decide) ?_
  refine lv_istore (lv' := [(4, .int (0 : Int32)), (3, .int (0 : Int32)), (2, .int (0 : Int32)), (0, .ref (ad G (78))), (1, .int v)]) hx hb dX11_goNight_5 hl (by decide) rfl (fun ls hl => ?_)
  have cut7 : ∀ (n : Nat) (z2_7 : Int32) (z3_7 : Int32) (z4_7 : Int32) (σc7 : Sg) (H : Heap) (locs : List Loc) (ls : Array Slot), (0 ≤ z4_7.toInt ∧ z4_7.toInt ≤ 40) → (0 ≤ z2_7.toInt ∧ z2_7.toInt ≤ 24) → (z2_7.toInt % 8 = 0) → K0 σ σc7 → ((40 - z4_7.toInt).toNat : Int) < (n : Int) → Wo G σc7 s H locs → lv_has ls 6 [(0, .ref (ad G (78))), (1, .int v), (2, .int z2_7), (3, .int z3_7), (4, .int z4_7)] → W p l e (rmO 4 96) s m a below meth c H locs 0 0 Q (F0 m 7 ls []) := by
    intro n7
    induction n7 with
    | zero =>
      intro z2_7 z3_7 z4_7 σc7 H locs ls f7_0 f7_1 f7_2 hI hm7 hw hl
      exfalso; omega
    | succ n7 ih7 =>
      intro z2_7 z3_7 z4_7 σc7 H locs ls f7_0 f7_1 f7_2 hI hm7 hw hl
      refine lv_iload hx hb dX11_goNight_7 (lv_at hl 4 rfl) ?_
      refine lv_aload_n hx hb dX11_goNight_9 rfl (lv_at hl 0 rfl) ?_
      refine tg_get (ci := 10) (k := 7) (v := .int (σc7 (78) 7)) hx hb hts hown hk hw (en10 (rfl : nk 78 = 10)) rfl inlX11 (by decide) wd213 rfl dX11_goNight_10 ?_
      refine lv_topi (fun x1 ex1 => ?_)
      have bx1 : 0 ≤ x1.toInt ∧ x1.toInt ≤ 40 := by rw [ex1]; exact hI.1 _ _ _ _ (by rw [(rfl : nk 78 = 10)]; rfl)
      have ux1 : x1.toInt = (σc7 (78) 7).toInt := by rw [ex1]
      have w10 : x1.toInt = (σ 78 7).toInt := by rw [ex1, hI.2 78 7 rfl]
      refine lv_icmp_ge (tgt := 146) hx hb dX11_goNight_13 (by decide) (fun c13 => ?_) (fun c13 => ?_)
      · have c13i := Int32.le_iff_toInt_le.mp c13
        exact ret σc7 _ _ 146 _ (⟨hI, trivial⟩) hw dX11_goNight_146
      · have c13i := mt Int32.le_iff_toInt_le.mpr c13
        refine lv_iload_n hx hb dX11_goNight_16 rfl (lv_at hl 3 rfl) ?_
        refine lv_iload_n hx hb dX11_goNight_17 rfl (lv_at hl 1 rfl) ?_
        refine lv_icmp_ge (tgt := 146) hx hb dX11_goNight_18 (by decide) (fun c18 => ?_) (fun c18 => ?_)
        · have oz3_7 := i32b z3_7
          have ov := i32b v
          have c18i := Int32.le_iff_toInt_le.mp c18
          exact ret σc7 _ _ 146 _ (⟨hI, trivial⟩) hw dX11_goNight_146
        · have oz3_7 := i32b z3_7
          have ov := i32b v
          have c18i := mt Int32.le_iff_toInt_le.mpr c18
          refine lv_aload_n hx hb dX11_goNight_21 rfl (lv_at hl 0 rfl) ?_
          refine tg_get (ci := 10) (k := 6) (v := .ref (ad G (84))) hx hb hts hown hk hw (en10 (rfl : nk 78 = 10)) rfl inlX11 (by decide) wd110 rfl dX11_goNight_22 ?_
          refine lv_iload hx hb dX11_goNight_25 (lv_at hl 4 rfl) ?_
          have hv27 : vp_in z4_7 40 := vin ⟨by omega, by omega⟩
          refine tg_iald hx hb hk hw (en140 (rfl : nk 84 = 140)) hv27 dX11_goNight_27 ?_
          refine lv_topi (fun x2 ex2 => ?_)
          have k27 : x2 = σ 84 z4_7.toNatClampNeg := by rw [ex2, hI.2 84 _ rfl]
          refine lv_istore (lv' := [(5, .int x2), (0, .ref (ad G (78))), (1, .int v), (2, .int z2_7), (3, .int z3_7), (4, .int z4_7)]) hx hb dX11_goNight_28 hl (by decide) rfl (fun ls hl => ?_)
          refine lv_iload hx hb dX11_goNight_30 (lv_at hl 0 rfl) ?_
          refine te_vi hw (ru_S (As := [.int x2]) (rest := []) hx hb hml hts hown hk hw (c_X11_isLetter l G hG σc7 hI.1 x2) (m3_in wd246 wd247 wd5) wd248 nm_yX11_isLetter ⟨rfl, rfl⟩ ⟨by decide, by decide⟩ rfl hl.1 rfl (Nat.le_of_ble_eq_true rfl) dX11_goNight_32 ⟨Nat.zero_le _, Nat.zero_le _⟩) (fun r4 σ3 H locs hr4 hw => ?_)
          rw [hr4.1] at hw
          have hr4 := hr4.2
          refine lv_if_eq (tgt := 50) hx hb dX11_goNight_35 (by decide) (fun c35 => ?_) (fun c35 => ?_)
          · have c35i := congrArg Int32.toInt c35
            have p35 := bz0 hr4 c35
            refine lv_iload hx hb dX11_goNight_50 (lv_at hl 0 rfl) ?_
            refine lv_bipush (v := 114) hx hb dX11_goNight_52 (by decide) ?_
            refine lv_icmp_ne (tgt := 66) hx hb dX11_goNight_54 (by decide) (fun c54 => ?_) (fun c54 => ?_)
            · have ox2 := i32b x2
              have c54i := mt Int32.toInt_inj.mp c54
              refine lv_iload hx hb dX11_goNight_66 (lv_at hl 0 rfl) ?_
              refine lv_bipush (v := 108) hx hb dX11_goNight_68 (by decide) ?_
              refine lv_icmp_ne (tgt := 82) hx hb dX11_goNight_70 (by decide) (fun c70 => ?_) (fun c70 => ?_)
              · have ox2 := i32b x2
                have c70i := mt Int32.toInt_inj.mp c70
                refine lv_iload hx hb dX11_goNight_82 (lv_at hl 0 rfl) ?_
                refine lv_bipush (v := 98) hx hb dX11_goNight_84 (by decide) ?_
                refine lv_icmp_ne (tgt := 97) hx hb dX11_goNight_86 (by decide) (fun c86 => ?_) (fun c86 => ?_)
                · have ox2 := i32b x2
                  have c86i := mt Int32.toInt_inj.mp c86
                  refine lv_iload hx hb dX11_goNight_97 (lv_at hl 0 rfl) ?_
                  refine te_vi hw (ru_S (As := [.int x2]) (rest := []) hx hb hml hts hown hk hw (c_X11_isGoing l G hG σc7 hI.1 x2) (m3_in wd254 wd255 wd5) wd256 nm_yX11_isGoing ⟨rfl, rfl⟩ ⟨by decide, by decide⟩ rfl hl.1 rfl (Nat.le_of_ble_eq_true rfl) dX11_goNight_99 ⟨Nat.zero_le _, Nat.zero_le _⟩) (fun r6 σ5 H locs hr6 hw => ?_)
                  rw [hr6.1] at hw
                  have hr6 := hr6.2
                  refine lv_if_eq (tgt := 137) hx hb dX11_goNight_102 (by decide) (fun c102 => ?_) (fun c102 => ?_)
                  · have c102i := congrArg Int32.toInt c102
                    have p102 := bz0 hr6 c102
                    obtain ⟨x7, ex7⟩ : ∃ z : Int32, z = z3_7 + (1 : Int32) := ⟨_, rfl⟩
                    refine lv_iinc (v := x7) (lv' := [(3, .int x7), (5, .int x2), (0, .ref (ad G (78))), (1, .int v), (2, .int z2_7), (4, .int z4_7)]) hx hb dX11_goNight_137 hl (k := 4) rfl (by rw [ex7]; rfl) (by decide) rfl (fun ls hl => ?_)
                    have oz3_7 := i32b z3_7
                    have tx7 : x7.toInt = z3_7.toInt + 1 := by rw [ex7, Jvm.Kit.i32_add (by omega) (by omega)]; omega
                    obtain ⟨x8, ex8⟩ : ∃ z : Int32, z = z4_7 + (1 : Int32) := ⟨_, rfl⟩
                    refine lv_iinc (v := x8) (lv' := [(4, .int x8), (3, .int x7), (5, .int x2), (0, .ref (ad G (78))), (1, .int v), (2, .int z2_7)]) hx hb dX11_goNight_140 hl (k := 5) rfl (by rw [ex8]; rfl) (by decide) rfl (fun ls hl => ?_)
                    have tx8 : x8.toInt = z4_7.toInt + 1 := by rw [ex8, Jvm.Kit.i32_add (by omega) (by omega)]; omega
                    refine lv_goto (tgt := 7) hx hb dX11_goNight_143 (by decide) ?_
                    exact ih7 z2_7 x7 x8 σc7 _ _ _ (by omega) (by omega) (by omega) hI (by omega) hw (lv_sub hl [3, 4, 5, 1, 0] rfl)
                  · have c102i := mt Int32.toInt_inj.mp c102
                    have p102 := bz1 hr6 c102
                    have w105 : z4_7.toInt + 1 < (σ 78 7).toInt := by
                      rcases Int.lt_or_le (z4_7.toInt + 1) (σ 78 7).toInt with q | q
                      · exact q
                      · exfalso; have q2 := hN (by omega); rw [show ((σ 78 7).toInt - 1).toNat = z4_7.toNatClampNeg from by have q3 := clI z4_7 (by omega); omega, ← k27] at q2; omega
                    refine lv_aload_n hx hb dX11_goNight_105 rfl (lv_at hl 1 rfl) ?_
                    refine lv_iload_n hx hb dX11_goNight_106 rfl (lv_at hl 3 rfl) ?_
                    refine lv_aload_n hx hb dX11_goNight_107 rfl (lv_at hl 1 rfl) ?_
                    refine tg_get (ci := 10) (k := 6) (v := .ref (ad G (84))) hx hb hts hown hk hw (en10 (rfl : nk 78 = 10)) rfl inlX11 (by decide) wd110 rfl dX11_goNight_108 ?_
                    refine lv_iload hx hb dX11_goNight_111 (lv_at hl 5 rfl) ?_
                    refine lv_iconst (v := 1) hx hb dX11_goNight_113 (by decide) ?_
                    refine lv_iadd hx hb dX11_goNight_114 ?_
                    refine lv_topi (fun x9 ex9 => ?_)
                    have tx9 : x9.toInt = z4_7.toInt + (1 : Int32).toInt := by rw [ex9]; exact Jvm.Kit.i32_add (by omega) (by omega)
                    have hv115 : vp_in x9 40 := vin ⟨by omega, by omega⟩
                    refine tg_iald hx hb hk hw (en140 (rfl : nk 84 = 140)) hv115 dX11_goNight_115 ?_
                    refine lv_topi (fun x10 ex10 => ?_)
                    refine lv_bipush (v := 48) hx hb dX11_goNight_116 (by decide) ?_
                    refine lv_isub hx hb dX11_goNight_118 ?_
                    refine lv_topi (fun x11 ex11 => ?_)
                    refine lv_iload hx hb dX11_goNight_119 (lv_at hl 0 rfl) ?_
                    refine lv_bipush (v := 102) hx hb dX11_goNight_121 (by decide) ?_
                    refine lv_icmp_ne (tgt := 130) hx hb dX11_goNight_123 (by decide) (fun c123 => ?_) (fun c123 => ?_)
                    · have c123i := mt Int32.toInt_inj.mp c123
                      refine lv_iconst (v := 0) hx hb dX11_goNight_130 (by decide) ?_
                      refine te_vv hw (ru_V (As := [.int z2_7, .int x11, .int (0 : Int32)]) (rest := []) (C := RX11) hx hb hml hts hown hk hw (c_X11_go l G hG σc7 hI.1 z2_7 x11 (0 : Int32) (by omega) (by omega)) (m4_in wd369 wd370 wd371 wd5) wd372 (en10 (rfl : nk 78 = 10)) rfl rfl rfl nm_yX11_go ⟨rfl, rfl⟩ ⟨by decide, by decide⟩ rfl hl.1 rfl (Nat.le_of_ble_eq_true rfl) dX11_goNight_131 ⟨Nat.zero_le _, Nat.zero_le _⟩) (fun σ12 H locs hr13 hw => ?_)
                      have hI := hI.go hr13.1
                      have hr13 := hr13.2
                      obtain ⟨x14, ex14⟩ : ∃ z : Int32, z = z4_7 + (1 : Int32) := ⟨_, rfl⟩
                      refine lv_iinc (v := x14) (lv' := [(4, .int x14), (5, .int x2), (0, .ref (ad G (78))), (1, .int v), (2, .int z2_7), (3, .int z3_7)]) hx hb dX11_goNight_134 hl (k := 5) rfl (by rw [ex14]; rfl) (by decide) rfl (fun ls hl => ?_)
                      have tx14 : x14.toInt = z4_7.toInt + 1 := by rw [ex14, Jvm.Kit.i32_add (by omega) (by omega)]; omega
                      obtain ⟨x15, ex15⟩ : ∃ z : Int32, z = z3_7 + (1 : Int32) := ⟨_, rfl⟩
                      refine lv_iinc (v := x15) (lv' := [(3, .int x15), (4, .int x14), (5, .int x2), (0, .ref (ad G (78))), (1, .int v), (2, .int z2_7)]) hx hb dX11_goNight_137 hl (k := 5) rfl (by rw [ex15]; rfl) (by decide) rfl (fun ls hl => ?_)
                      have oz3_7 := i32b z3_7
                      have tx15 : x15.toInt = z3_7.toInt + 1 := by rw [ex15, Jvm.Kit.i32_add (by omega) (by omega)]; omega
                      obtain ⟨x16, ex16⟩ : ∃ z : Int32, z = x14 + (1 : Int32) := ⟨_, rfl⟩
                      refine lv_iinc (v := x16) (lv' := [(4, .int x16), (3, .int x15), (5, .int x2), (0, .ref (ad G (78))), (1, .int v), (2, .int z2_7)]) hx hb dX11_goNight_140 hl (k := 1) rfl (by rw [ex16]; rfl) (by decide) rfl (fun ls hl => ?_)
                      have tx16 : x16.toInt = x14.toInt + 1 := by rw [ex16, Jvm.Kit.i32_add (by omega) (by omega)]; omega
                      refine lv_goto (tgt := 7) hx hb dX11_goNight_143 (by decide) ?_
                      exact ih7 z2_7 x15 x16 σ12 _ _ _ (by omega) (by omega) (by omega) hI (by omega) hw (lv_sub hl [3, 4, 5, 1, 0] rfl)
                    · have c123i := congrArg Int32.toInt c123
                      refine lv_iconst (v := 1) hx hb dX11_goNight_126 (by decide) ?_
                      refine lv_goto (tgt := 131) hx hb dX11_goNight_127 (by decide) ?_
                      refine te_vv hw (ru_V (As := [.int z2_7, .int x11, .int (1 : Int32)]) (rest := []) (C := RX11) hx hb hml hts hown hk hw (c_X11_go l G hG σc7 hI.1 z2_7 x11 (1 : Int32) (by omega) (by omega)) (m4_in wd369 wd370 wd371 wd5) wd372 (en10 (rfl : nk 78 = 10)) rfl rfl rfl nm_yX11_go ⟨rfl, rfl⟩ ⟨by decide, by decide⟩ rfl hl.1 rfl (Nat.le_of_ble_eq_true rfl) dX11_goNight_131 ⟨Nat.zero_le _, Nat.zero_le _⟩) (fun σ17 H locs hr18 hw => ?_)
                      have hI := hI.go hr18.1
                      have hr18 := hr18.2
                      obtain ⟨x19, ex19⟩ : ∃ z : Int32, z = z4_7 + (1 : Int32) := ⟨_, rfl⟩
                      refine lv_iinc (v := x19) (lv' := [(4, .int x19), (5, .int x2), (0, .ref (ad G (78))), (1, .int v), (2, .int z2_7), (3, .int z3_7)]) hx hb dX11_goNight_134 hl (k := 5) rfl (by rw [ex19]; rfl) (by decide) rfl (fun ls hl => ?_)
                      have tx19 : x19.toInt = z4_7.toInt + 1 := by rw [ex19, Jvm.Kit.i32_add (by omega) (by omega)]; omega
                      obtain ⟨x20, ex20⟩ : ∃ z : Int32, z = z3_7 + (1 : Int32) := ⟨_, rfl⟩
                      refine lv_iinc (v := x20) (lv' := [(3, .int x20), (4, .int x19), (5, .int x2), (0, .ref (ad G (78))), (1, .int v), (2, .int z2_7)]) hx hb dX11_goNight_137 hl (k := 5) rfl (by rw [ex20]; rfl) (by decide) rfl (fun ls hl => ?_)
                      have oz3_7 := i32b z3_7
                      have tx20 : x20.toInt = z3_7.toInt + 1 := by rw [ex20, Jvm.Kit.i32_add (by omega) (by omega)]; omega
                      obtain ⟨x21, ex21⟩ : ∃ z : Int32, z = x19 + (1 : Int32) := ⟨_, rfl⟩
                      refine lv_iinc (v := x21) (lv' := [(4, .int x21), (3, .int x20), (5, .int x2), (0, .ref (ad G (78))), (1, .int v), (2, .int z2_7)]) hx hb dX11_goNight_140 hl (k := 1) rfl (by rw [ex21]; rfl) (by decide) rfl (fun ls hl => ?_)
                      have tx21 : x21.toInt = x19.toInt + 1 := by rw [ex21, Jvm.Kit.i32_add (by omega) (by omega)]; omega
                      refine lv_goto (tgt := 7) hx hb dX11_goNight_143 (by decide) ?_
                      exact ih7 z2_7 x20 x21 σ17 _ _ _ (by omega) (by omega) (by omega) hI (by omega) hw (lv_sub hl [3, 4, 5, 1, 0] rfl)
                · have ox2 := i32b x2
                  have c86i := congrArg Int32.toInt c86
                  refine lv_aload_n hx hb dX11_goNight_89 rfl (lv_at hl 1 rfl) ?_
                  refine lv_iload_n hx hb dX11_goNight_90 rfl (lv_at hl 3 rfl) ?_
                  refine te_vv hw (ru_V (As := [.int z2_7]) (rest := []) (C := RX11) hx hb hml hts hown hk hw (c_X11_turnToPost l G hG σc7 hI.1 z2_7 (by omega) (by omega)) (m4_in wd348 wd349 wd350 wd5) wd351 (en10 (rfl : nk 78 = 10)) rfl rfl rfl nm_yX11_turnToPost ⟨rfl, rfl⟩ ⟨by decide, by decide⟩ rfl hl.1 rfl (Nat.le_of_ble_eq_true rfl) dX11_goNight_91 ⟨Nat.zero_le _, Nat.zero_le _⟩) (fun σ22 H locs hr23 hw => ?_)
                  have hI := hI.go hr23.1
                  have hr23 := hr23.2
                  refine lv_goto (tgt := 137) hx hb dX11_goNight_94 (by decide) ?_
                  obtain ⟨x24, ex24⟩ : ∃ z : Int32, z = z3_7 + (1 : Int32) := ⟨_, rfl⟩
                  refine lv_iinc (v := x24) (lv' := [(3, .int x24), (5, .int x2), (0, .ref (ad G (78))), (1, .int v), (2, .int z2_7), (4, .int z4_7)]) hx hb dX11_goNight_137 hl (k := 4) rfl (by rw [ex24]; rfl) (by decide) rfl (fun ls hl => ?_)
                  have oz3_7 := i32b z3_7
                  have tx24 : x24.toInt = z3_7.toInt + 1 := by rw [ex24, Jvm.Kit.i32_add (by omega) (by omega)]; omega
                  obtain ⟨x25, ex25⟩ : ∃ z : Int32, z = z4_7 + (1 : Int32) := ⟨_, rfl⟩
                  refine lv_iinc (v := x25) (lv' := [(4, .int x25), (3, .int x24), (5, .int x2), (0, .ref (ad G (78))), (1, .int v), (2, .int z2_7)]) hx hb dX11_goNight_140 hl (k := 5) rfl (by rw [ex25]; rfl) (by decide) rfl (fun ls hl => ?_)
                  have tx25 : x25.toInt = z4_7.toInt + 1 := by rw [ex25, Jvm.Kit.i32_add (by omega) (by omega)]; omega
                  refine lv_goto (tgt := 7) hx hb dX11_goNight_143 (by decide) ?_
                  exact ih7 z2_7 x24 x25 σ22 _ _ _ (by omega) (by omega) (by omega) hI (by omega) hw (lv_sub hl [3, 4, 5, 1, 0] rfl)
              · have ox2 := i32b x2
                have c70i := congrArg Int32.toInt c70
                refine lv_aload_n hx hb dX11_goNight_73 rfl (lv_at hl 1 rfl) ?_
                refine lv_iload_n hx hb dX11_goNight_74 rfl (lv_at hl 3 rfl) ?_
                refine lv_iconst (v := -1) hx hb dX11_goNight_75 (by decide) ?_
                refine te_vv hw (ru_V (As := [.int z2_7, .int (-1 : Int32)]) (rest := []) (C := RX11) hx hb hml hts hown hk hw (c_X11_turn l G hG σc7 hI.1 z2_7 (-1 : Int32) (by omega) (by omega)) (m4_in wd344 wd345 wd346 wd5) wd347 (en10 (rfl : nk 78 = 10)) rfl rfl rfl nm_yX11_turn ⟨rfl, rfl⟩ ⟨by decide, by decide⟩ rfl hl.1 rfl (Nat.le_of_ble_eq_true rfl) dX11_goNight_76 ⟨Nat.zero_le _, Nat.zero_le _⟩) (fun σ26 H locs hr27 hw => ?_)
                have hI := hI.go hr27.1
                have hr27 := hr27.2
                refine lv_goto (tgt := 137) hx hb dX11_goNight_79 (by decide) ?_
                obtain ⟨x28, ex28⟩ : ∃ z : Int32, z = z3_7 + (1 : Int32) := ⟨_, rfl⟩
                refine lv_iinc (v := x28) (lv' := [(3, .int x28), (5, .int x2), (0, .ref (ad G (78))), (1, .int v), (2, .int z2_7), (4, .int z4_7)]) hx hb dX11_goNight_137 hl (k := 4) rfl (by rw [ex28]; rfl) (by decide) rfl (fun ls hl => ?_)
                have oz3_7 := i32b z3_7
                have tx28 : x28.toInt = z3_7.toInt + 1 := by rw [ex28, Jvm.Kit.i32_add (by omega) (by omega)]; omega
                obtain ⟨x29, ex29⟩ : ∃ z : Int32, z = z4_7 + (1 : Int32) := ⟨_, rfl⟩
                refine lv_iinc (v := x29) (lv' := [(4, .int x29), (3, .int x28), (5, .int x2), (0, .ref (ad G (78))), (1, .int v), (2, .int z2_7)]) hx hb dX11_goNight_140 hl (k := 5) rfl (by rw [ex29]; rfl) (by decide) rfl (fun ls hl => ?_)
                have tx29 : x29.toInt = z4_7.toInt + 1 := by rw [ex29, Jvm.Kit.i32_add (by omega) (by omega)]; omega
                refine lv_goto (tgt := 7) hx hb dX11_goNight_143 (by decide) ?_
                exact ih7 z2_7 x28 x29 σ26 _ _ _ (by omega) (by omega) (by omega) hI (by omega) hw (lv_sub hl [3, 4, 5, 1, 0] rfl)
            · have ox2 := i32b x2
              have c54i := congrArg Int32.toInt c54
              refine lv_aload_n hx hb dX11_goNight_57 rfl (lv_at hl 1 rfl) ?_
              refine lv_iload_n hx hb dX11_goNight_58 rfl (lv_at hl 3 rfl) ?_
              refine lv_iconst (v := 1) hx hb dX11_goNight_59 (by decide) ?_
              refine te_vv hw (ru_V (As := [.int z2_7, .int (1 : Int32)]) (rest := []) (C := RX11) hx hb hml hts hown hk hw (c_X11_turn l G hG σc7 hI.1 z2_7 (1 : Int32) (by omega) (by omega)) (m4_in wd344 wd345 wd346 wd5) wd347 (en10 (rfl : nk 78 = 10)) rfl rfl rfl nm_yX11_turn ⟨rfl, rfl⟩ ⟨by decide, by decide⟩ rfl hl.1 rfl (Nat.le_of_ble_eq_true rfl) dX11_goNight_60 ⟨Nat.zero_le _, Nat.zero_le _⟩) (fun σ30 H locs hr31 hw => ?_)
              have hI := hI.go hr31.1
              have hr31 := hr31.2
              refine lv_goto (tgt := 137) hx hb dX11_goNight_63 (by decide) ?_
              obtain ⟨x32, ex32⟩ : ∃ z : Int32, z = z3_7 + (1 : Int32) := ⟨_, rfl⟩
              refine lv_iinc (v := x32) (lv' := [(3, .int x32), (5, .int x2), (0, .ref (ad G (78))), (1, .int v), (2, .int z2_7), (4, .int z4_7)]) hx hb dX11_goNight_137 hl (k := 4) rfl (by rw [ex32]; rfl) (by decide) rfl (fun ls hl => ?_)
              have oz3_7 := i32b z3_7
              have tx32 : x32.toInt = z3_7.toInt + 1 := by rw [ex32, Jvm.Kit.i32_add (by omega) (by omega)]; omega
              obtain ⟨x33, ex33⟩ : ∃ z : Int32, z = z4_7 + (1 : Int32) := ⟨_, rfl⟩
              refine lv_iinc (v := x33) (lv' := [(4, .int x33), (3, .int x32), (5, .int x2), (0, .ref (ad G (78))), (1, .int v), (2, .int z2_7)]) hx hb dX11_goNight_140 hl (k := 5) rfl (by rw [ex33]; rfl) (by decide) rfl (fun ls hl => ?_)
              have tx33 : x33.toInt = z4_7.toInt + 1 := by rw [ex33, Jvm.Kit.i32_add (by omega) (by omega)]; omega
              refine lv_goto (tgt := 7) hx hb dX11_goNight_143 (by decide) ?_
              exact ih7 z2_7 x32 x33 σ30 _ _ _ (by omega) (by omega) (by omega) hI (by omega) hw (lv_sub hl [3, 4, 5, 1, 0] rfl)
          · have c35i := mt Int32.toInt_inj.mp c35
            have p35 := bz1 hr4 c35
            refine lv_bipush (v := 8) hx hb dX11_goNight_38 (by decide) ?_
            refine lv_iload hx hb dX11_goNight_40 (lv_at hl 0 rfl) ?_
            refine lv_bipush (v := 65) hx hb dX11_goNight_42 (by decide) ?_
            refine lv_isub hx hb dX11_goNight_44 ?_
            refine lv_topi (fun x34 ex34 => ?_)
            have tx34 : x34.toInt = x2.toInt - (65 : Int32).toInt := by rw [ex34]; exact Jvm.Kit.i32_sub (by omega) (by omega)
            refine lv_imul hx hb dX11_goNight_45 ?_
            refine lv_topi (fun x35 ex35 => ?_)
            have tx35 : x35.toInt = 8 * x34.toInt := by rw [ex35, Jvm.Kit.i32_mul (by rw [L8]; omega) (by rw [L8]; omega), L8]
            refine lv_istore_n (lv' := [(2, .int x35), (5, .int x2), (0, .ref (ad G (78))), (1, .int v), (3, .int z3_7), (4, .int z4_7)]) hx hb dX11_goNight_46 rfl hl (by decide) rfl (fun ls hl => ?_)
            refine lv_goto (tgt := 137) hx hb dX11_goNight_47 (by decide) ?_
            obtain ⟨x36, ex36⟩ : ∃ z : Int32, z = z3_7 + (1 : Int32) := ⟨_, rfl⟩
            refine lv_iinc (v := x36) (lv' := [(3, .int x36), (2, .int x35), (5, .int x2), (0, .ref (ad G (78))), (1, .int v), (4, .int z4_7)]) hx hb dX11_goNight_137 hl (k := 4) rfl (by rw [ex36]; rfl) (by decide) rfl (fun ls hl => ?_)
            have oz3_7 := i32b z3_7
            have tx36 : x36.toInt = z3_7.toInt + 1 := by rw [ex36, Jvm.Kit.i32_add (by omega) (by omega)]; omega
            obtain ⟨x37, ex37⟩ : ∃ z : Int32, z = z4_7 + (1 : Int32) := ⟨_, rfl⟩
            refine lv_iinc (v := x37) (lv' := [(4, .int x37), (3, .int x36), (2, .int x35), (5, .int x2), (0, .ref (ad G (78))), (1, .int v)]) hx hb dX11_goNight_140 hl (k := 5) rfl (by rw [ex37]; rfl) (by decide) rfl (fun ls hl => ?_)
            have tx37 : x37.toInt = z4_7.toInt + 1 := by rw [ex37, Jvm.Kit.i32_add (by omega) (by omega)]; omega
            refine lv_goto (tgt := 7) hx hb dX11_goNight_143 (by decide) ?_
            exact ih7 x35 x36 x37 σc7 _ _ _ (by omega) (by omega) (by omega) hI (by omega) hw (lv_sub hl [4, 5, 2, 1, 0] rfl)
  exact cut7 ((((40 - (0 : Int32).toInt).toNat : Int)).toNat + 1) (0 : Int32) (0 : Int32) (0 : Int32) σ _ _ _ (by omega) (by omega) (by omega) hI (by omega) hw (lv_sub hl [3, 4, 2, 1, 0] rfl)
set_option maxHeartbeats 4000000 in
set_option maxRecDepth 100000 in
theorem c_X11_night (l : Launch) (G : Gg) (hG : Ginj G) (σ : Sg) (hI0 : Inv σ) : MI l G yX11_night cX11_night 3 .int (rmO 5 121) σ [.ref (ad G (78))] (fun r σ' => Inv σ' ∧ KeepR σ σ') := by
  refine MI.of (by decide +kernel) (Nat.le_of_ble_eq_true rfl) ?_
  intro p e s m a below meth c ls Q hx hb hml hts hown hk hw ret hl
  have hown : s.vm.findClass RX11 = some m.cls := hown
  have hl : lv_has ls 3 [(0, .ref (ad G (78)))] := hl
  have hI : K0 σ σ := K0.rf hI0
  have Lm5 : (-5 : Int32).toInt = -5 := by decide
  have L0 : (0 : Int32).toInt = 0 := by decide
  have L1 : (1 : Int32).toInt = 1 := by decide
  have L32 : (32 : Int32).toInt = 32 := by decide
  have L256 : (256 : Int32).toInt = 256 := by decide
  generalize hHe : s.heap = H at hw ⊢
  generalize hLe : ([] : List Loc) = locs at hw ⊢
  refine lv_aload_n hx hb dX11_night_0 rfl (lv_at hl 0 rfl) ?_
  refine te_vi hw (ru_V (As := []) (rest := []) (C := RX11) hx hb hml hts hown hk hw (c_X11_fault l G hG σ hI.1) (m4_in wd330 wd241 wd242 wd5) wd243 (en10 (rfl : nk 78 = 10)) rfl rfl rfl nm_yX11_fault ⟨rfl, rfl⟩ ⟨by decide, by decide⟩ rfl hl.1 rfl (Nat.le_of_ble_eq_true rfl) dX11_night_1 ⟨Nat.zero_le _, Nat.zero_le _⟩) (fun r2 σ1 H locs hr2 hw => ?_)
  rw [hr2.1] at hw
  have hr2 := hr2.2
  have hF := hr2
  refine lv_if_lt (tgt := 10) hx hb dX11_night_4 (by decide) (fun c4 => ?_) (fun c4 => ?_)
  · have c4i := Int32.lt_iff_toInt_lt.mp c4
    refine lv_aload_n hx hb dX11_night_10 rfl (lv_at hl 0 rfl) ?_
    refine te_vv hw (ru_V (As := []) (rest := []) (C := RX11) hx hb hml hts hown hk hw (c_X11_lay l G hG σ hI.1) (m4_in wd331 wd332 wd333 wd5) wd334 (en10 (rfl : nk 78 = 10)) rfl rfl rfl nm_yX11_lay ⟨rfl, rfl⟩ ⟨by decide, by decide⟩ rfl hl.1 rfl (Nat.le_of_ble_eq_true rfl) dX11_night_11 ⟨Nat.zero_le _, Nat.zero_le _⟩) (fun σ3 H locs hr4 hw => ?_)
    have hI := hI.go hr4.1
    have hr4 := hr4.2
    refine lv_aload_n hx hb dX11_night_14 rfl (lv_at hl 0 rfl) ?_
    refine te_vi hw (ru_V (As := []) (rest := []) (C := RX11) hx hb hml hts hown hk hw (c_X11_partsOf l G hG σ3 hI.1) (m4_in wd336 wd337 wd338 wd5) wd339 (en10 (rfl : nk 78 = 10)) rfl rfl rfl nm_yX11_partsOf ⟨rfl, rfl⟩ ⟨by decide, by decide⟩ rfl hl.1 rfl (Nat.le_of_ble_eq_true rfl) dX11_night_15 ⟨Nat.zero_le _, Nat.zero_le _⟩) (fun r6 σ5 H locs hr6 hw => ?_)
    rw [hr6.1] at hw
    have hr6 := hr6.2
    refine lv_istore_n (lv' := [(1, .int r6), (0, .ref (ad G (78)))]) hx hb dX11_night_18 rfl hl (by decide) rfl (fun ls hl => ?_)
    refine lv_aload_n hx hb dX11_night_19 rfl (lv_at hl 1 rfl) ?_
    refine lv_iload_n hx hb dX11_night_20 rfl (lv_at hl 0 rfl) ?_
    refine te_vv hw (ru_V (As := [.int r6]) (rest := []) (C := RX11) hx hb hml hts hown hk hw (c_X11_goNight l G hG σ3 hI.1 r6 (by rw [hI.2 78 7 rfl]; intro q; rw [hI.2 84 _ rfl]; exact hF (by omega) q)) (m4_in wd340 wd341 wd342 wd5) wd343 (en10 (rfl : nk 78 = 10)) rfl rfl rfl nm_yX11_goNight ⟨rfl, rfl⟩ ⟨by decide, by decide⟩ rfl hl.1 rfl (Nat.le_of_ble_eq_true rfl) dX11_night_21 ⟨Nat.zero_le _, Nat.zero_le _⟩) (fun σ7 H locs hr8 hw => ?_)
    have hI := hI.go hr8.1
    have hr8 := hr8.2
    refine lv_iconst (v := 0) hx hb dX11_night_24 (by decide) ?_
    refine lv_istore_n (lv' := [(2, .int (0 : Int32)), (1, .int r6), (0, .ref (ad G (78)))]) hx hb dX11_night_25 rfl hl (by decide) rfl (fun ls hl => ?_)
    have cut26 : ∀ (n : Nat) (z2_26 : Int32) (σc26 : Sg) (H : Heap) (locs : List Loc) (ls : Array Slot), (0 ≤ z2_26.toInt ∧ z2_26.toInt ≤ 32) → K0 σ σc26 → ((32 - z2_26.toInt).toNat : Int) < (n : Int) → Wo G σc26 s H locs → lv_has ls 3 [(0, .ref (ad G (78))), (1, .int r6), (2, .int z2_26)] → W p l e (rmO 5 121) s m a below meth c H locs 0 0 Q (F0 m 26 ls []) := by
      intro n26
      induction n26 with
      | zero =>
        intro z2_26 σc26 H locs ls f26_0 hI hm26 hw hl
        exfalso; omega
      | succ n26 ih26 =>
        intro z2_26 σc26 H locs ls f26_0 hI hm26 hw hl
        refine lv_iload_n hx hb dX11_night_26 rfl (lv_at hl 2 rfl) ?_
        refine lv_bipush (v := 32) hx hb dX11_night_27 (by decide) ?_
        refine lv_icmp_ge (tgt := 50) hx hb dX11_night_29 (by decide) (fun c29 => ?_) (fun c29 => ?_)
        · have c29i := Int32.le_iff_toInt_le.mp c29
          refine lv_iconst (v := 0) hx hb dX11_night_50 (by decide) ?_
          refine lv_istore_n (lv' := [(2, .int (0 : Int32)), (0, .ref (ad G (78))), (1, .int r6)]) hx hb dX11_night_51 rfl hl (by decide) rfl (fun ls hl => ?_)
          have cut52 : ∀ (n : Nat) (z2_52 : Int32) (σc52 : Sg) (H : Heap) (locs : List Loc) (ls : Array Slot), (0 ≤ z2_52.toInt ∧ z2_52.toInt ≤ 256) → K0 σ σc52 → ((256 - z2_52.toInt).toNat : Int) < (n : Int) → Wo G σc52 s H locs → lv_has ls 3 [(0, .ref (ad G (78))), (1, .int r6), (2, .int z2_52)] → W p l e (rmO 5 121) s m a below meth c H locs 0 0 Q (F0 m 52 ls []) := by
            intro n52
            induction n52 with
            | zero =>
              intro z2_52 σc52 H locs ls f52_0 hI hm52 hw hl
              exfalso; omega
            | succ n52 ih52 =>
              intro z2_52 σc52 H locs ls f52_0 hI hm52 hw hl
              refine lv_iload_n hx hb dX11_night_52 rfl (lv_at hl 2 rfl) ?_
              refine lv_sipush (v := 256) hx hb dX11_night_53 (by decide) ?_
              refine lv_icmp_ge (tgt := 77) hx hb dX11_night_56 (by decide) (fun c56 => ?_) (fun c56 => ?_)
              · have c56i := Int32.le_iff_toInt_le.mp c56
                refine lv_aload_n hx hb dX11_night_77 rfl (lv_at hl 0 rfl) ?_
                refine lv_iconst (v := 0) hx hb dX11_night_78 (by decide) ?_
                refine tg_put (ci := 10) (k := 7) (σ' := up2 σc52 (78) 7 (0 : Int32)) hx hb hts hown hk hG hw tyX11 (en10 (rfl : nk 78 = 10)) rfl inlX11 tyX11_ok nmX11 (by decide) wd213 rfl rfl rfl (Nat.le_of_ble_eq_true rfl) (pu10_7 (rfl : nk 78 = 10)) (fun _ h => up2_ne h) dX11_night_79 (fun H locs hw => ?_)
                obtain ⟨σ9, eσ9⟩ : ∃ z, z = up2 σc52 (78) 7 (0 : Int32) := ⟨_, rfl⟩
                rw [← eσ9] at hw
                have hI : K0 (up2 σ 78 7 (0 : Int32)) σ9 := by rw [eσ9]; exact hI.put (rg_is (by rw [(rfl : nk 78 = 10)]; rfl) (by omega) (by omega))
                refine lv_iload_n hx hb dX11_night_82 rfl (lv_at hl 1 rfl) ?_
                exact ret r6 σ9 _ _ 83 _ (rfl) (⟨hI.1, KR.of hI (KR.up (KR.rf) rfl)⟩) hw dX11_night_83
              · have c56i := mt Int32.le_iff_toInt_le.mpr c56
                refine lv_aload_n hx hb dX11_night_59 rfl (lv_at hl 0 rfl) ?_
                refine tg_get (ci := 10) (k := 1) (v := .ref (ad G (80))) hx hb hts hown hk hw (en10 (rfl : nk 78 = 10)) rfl inlX11 (by decide) wd106 rfl dX11_night_60 ?_
                refine lv_iload_n hx hb dX11_night_63 rfl (lv_at hl 2 rfl) ?_
                refine lv_aload_n hx hb dX11_night_64 rfl (lv_at hl 0 rfl) ?_
                refine tg_get (ci := 10) (k := 9) (v := .ref (ad G (86))) hx hb hts hown hk hw (en10 (rfl : nk 78 = 10)) rfl inlX11 (by decide) wd112 rfl dX11_night_65 ?_
                refine lv_iload_n hx hb dX11_night_68 rfl (lv_at hl 2 rfl) ?_
                have hv69 : vp_in z2_52 256 := vin ⟨by omega, by omega⟩
                refine tg_iald hx hb hk hw (en356 (rfl : nk 86 = 356)) hv69 dX11_night_69 ?_
                refine lv_topi (fun x10 ex10 => ?_)
                have hv70 : vp_in z2_52 256 := vin ⟨by omega, by omega⟩
                refine tg_iast hx hb hk hG hw (ea356 (rfl : nk 80 = 356)) hv70 dX11_night_70 (fun H locs hw => ?_)
                obtain ⟨σ11, eσ11⟩ : ∃ z, z = up2 σc52 (80) z2_52.toNatClampNeg x10 := ⟨_, rfl⟩
                rw [← eσ11] at hw
                have hI : K0 σ σ11 := by rw [eσ11]; exact hI.up (rfl) (rg_no (by rw [(rfl : nk 80 = 356)]; rfl))
                obtain ⟨x12, ex12⟩ : ∃ z : Int32, z = z2_52 + (1 : Int32) := ⟨_, rfl⟩
                refine lv_iinc (v := x12) (lv' := [(2, .int x12), (0, .ref (ad G (78))), (1, .int r6)]) hx hb dX11_night_71 hl (k := 2) rfl (by rw [ex12]; rfl) (by decide) rfl (fun ls hl => ?_)
                have tx12 : x12.toInt = z2_52.toInt + 1 := by rw [ex12, Jvm.Kit.i32_add (by omega) (by omega)]; omega
                refine lv_goto (tgt := 52) hx hb dX11_night_74 (by decide) ?_
                exact ih52 x12 σ11 _ _ _ (by omega) hI (by omega) hw (lv_sub hl [1, 2, 0] rfl)
          exact cut52 ((((256 - (0 : Int32).toInt).toNat : Int)).toNat + 1) (0 : Int32) σc26 _ _ _ (by omega) hI (by omega) hw (lv_sub hl [1, 2, 0] rfl)
        · have c29i := mt Int32.le_iff_toInt_le.mpr c29
          refine lv_aload_n hx hb dX11_night_32 rfl (lv_at hl 0 rfl) ?_
          refine tg_get (ci := 10) (k := 0) (v := .ref (ad G (79))) hx hb hts hown hk hw (en10 (rfl : nk 78 = 10)) rfl inlX11 (by decide) wd105 rfl dX11_night_33 ?_
          refine lv_iload_n hx hb dX11_night_36 rfl (lv_at hl 2 rfl) ?_
          refine lv_aload_n hx hb dX11_night_37 rfl (lv_at hl 0 rfl) ?_
          refine tg_get (ci := 10) (k := 8) (v := .ref (ad G (85))) hx hb hts hown hk hw (en10 (rfl : nk 78 = 10)) rfl inlX11 (by decide) wd111 rfl dX11_night_38 ?_
          refine lv_iload_n hx hb dX11_night_41 rfl (lv_at hl 2 rfl) ?_
          have hv42 : vp_in z2_26 32 := vin ⟨by omega, by omega⟩
          have kc42 := clI z2_26 (by omega)
          refine tg_iald hx hb hk hw (en132 (rfl : nk 85 = 132)) hv42 dX11_night_42 ?_
          refine lv_topi (fun x13 ex13 => ?_)
          have bx13 : z2_26.toNatClampNeg % 8 = 2 → 0 ≤ x13.toInt ∧ x13.toInt ≤ 3 := fun q => by rw [ex13]; exact rd132 hI.1 (rfl : nk 85 = 132) q
          have hv43 : vp_in z2_26 32 := vin ⟨by omega, by omega⟩
          have kc43 := clI z2_26 (by omega)
          refine tg_iast hx hb hk hG hw (ea132 (rfl : nk 79 = 132)) hv43 dX11_night_43 (fun H locs hw => ?_)
          obtain ⟨σ14, eσ14⟩ : ∃ z, z = up2 σc26 (79) z2_26.toNatClampNeg x13 := ⟨_, rfl⟩
          rw [← eσ14] at hw
          have hI : K0 σ σ14 := by rw [eσ14]; exact hI.up (rfl) (rg132 (rfl : nk 79 = 132) (fun q => by omega))
          obtain ⟨x15, ex15⟩ : ∃ z : Int32, z = z2_26 + (1 : Int32) := ⟨_, rfl⟩
          refine lv_iinc (v := x15) (lv' := [(2, .int x15), (0, .ref (ad G (78))), (1, .int r6)]) hx hb dX11_night_44 hl (k := 2) rfl (by rw [ex15]; rfl) (by decide) rfl (fun ls hl => ?_)
          have tx15 : x15.toInt = z2_26.toInt + 1 := by rw [ex15, Jvm.Kit.i32_add (by omega) (by omega)]; omega
          refine lv_goto (tgt := 26) hx hb dX11_night_47 (by decide) ?_
          exact ih26 x15 σ14 _ _ _ (by omega) hI (by omega) hw (lv_sub hl [1, 2, 0] rfl)
    exact cut26 ((((32 - (0 : Int32).toInt).toNat : Int)).toNat + 1) (0 : Int32) σ7 _ _ _ (by omega) hI (by omega) hw (lv_sub hl [2, 1, 0] rfl)
  · have c4i := mt Int32.lt_iff_toInt_lt.mpr c4
    refine lv_bipush (v := -5) hx hb dX11_night_7 (by decide) ?_
    exact ret (-5 : Int32) σ _ _ 9 _ (rfl) (⟨hI.1, KR.of hI (KR.rf)⟩) hw dX11_night_9
