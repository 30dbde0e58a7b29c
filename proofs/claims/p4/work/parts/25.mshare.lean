set_option maxHeartbeats 4000000 in
set_option maxRecDepth 100000 in
theorem c_X11_overOf (l : Launch) (G : Gg) (hG : Ginj G) (σ : Sg) (hI0 : Inv σ) (v : Int32) (w : Int32) (u : Int32) (g1 : -6 ≤ v.toInt ∧ v.toInt ≤ 3) : MI l G yX11_overOf cX11_overOf 6 .int (rmO 1 23) σ [.ref (ad G (78)), .int v, .int w, .int u] (fun r σ' => σ' = σ ∧ (True)) := by
  refine MI.of (by decide +kernel) (Nat.le_of_ble_eq_true rfl) ?_
  intro p e s m a below meth c ls Q hx hb hml hts hown hk hw ret hl
  have hown : s.vm.findClass RX11 = some m.cls := hown
  have hl : lv_has ls 6 [(0, .ref (ad G (78))), (1, .int v), (2, .int w), (3, .int u)] := hl
  have hI : K0 σ σ := K0.rf hI0
  have L0 : (0 : Int32).toInt = 0 := by decide
  have L1 : (1 : Int32).toInt = 1 := by decide
  have L4 : (4 : Int32).toInt = 4 := by decide
  have L8 : (8 : Int32).toInt = 8 := by decide
  have L64 : (64 : Int32).toInt = 64 := by decide
  generalize hHe : s.heap = H at hw ⊢
  generalize hLe : ([] : List Loc) = locs at hw ⊢
  refine lv_iconst (v := 0) hx hb dX11_overOf_0 (by decide) ?_
  refine lv_istore (lv' := [(4, .int (0 : Int32)), (0, .ref (ad G (78))), (1, .int v), (2, .int w), (3, .int u)]) hx hb dX11_overOf_1 hl (by decide) rfl (fun ls hl => ?_)
  refine lv_iconst (v := 0) hx hb dX11_overOf_3 (by decide) ?_
  refine lv_istore (lv' := [(5, .int (0 : Int32)), (4, .int (0 : Int32)), (0, .ref (ad G (78))), (1, .int v), (2, .int w), (3, .int u)]) hx hb dX11_overOf_4 hl (by decide) rfl (fun ls hl => ?_)
  have cut6 : ∀ (n : Nat) (z4_6 : Int32) (z5_6 : Int32) (H : Heap) (locs : List Loc) (ls : Array Slot), (0 ≤ z5_6.toInt ∧ z5_6.toInt ≤ 64) → ((64 - z5_6.toInt).toNat : Int) < (n : Int) → Wo G σ s H locs → lv_has ls 6 [(0, .ref (ad G (78))), (1, .int v), (2, .int w), (3, .int u), (4, .int z4_6), (5, .int z5_6)] → W p l e (rmO 1 23) s m a below meth c H locs 0 0 Q (F0 m 6 ls []) := by
    intro n6
    induction n6 with
    | zero =>
      intro z4_6 z5_6 H locs ls f6_0 hm6 hw hl
      exfalso; omega
    | succ n6 ih6 =>
      intro z4_6 z5_6 H locs ls f6_0 hm6 hw hl
      refine lv_iload hx hb dX11_overOf_6 (lv_at hl 5 rfl) ?_
      refine lv_bipush (v := 64) hx hb dX11_overOf_8 (by decide) ?_
      refine lv_icmp_ge (tgt := 70) hx hb dX11_overOf_10 (by decide) (fun c10 => ?_) (fun c10 => ?_)
      · have c10i := Int32.le_iff_toInt_le.mp c10
        refine lv_iload hx hb dX11_overOf_70 (lv_at hl 4 rfl) ?_
        exact ret z4_6 σ _ _ 72 _ (rfl) (⟨rfl, trivial⟩) hw dX11_overOf_72
      · have c10i := mt Int32.le_iff_toInt_le.mpr c10
        refine lv_iload hx hb dX11_overOf_13 (lv_at hl 4 rfl) ?_
        refine lv_iload hx hb dX11_overOf_15 (lv_at hl 5 rfl) ?_
        refine lv_bipush (v := 8) hx hb dX11_overOf_17 (by decide) ?_
        refine lv_irem hx hb dX11_overOf_19 (by decide) ?_
        refine lv_topi (fun x1 ex1 => ?_)
        have tx1 : x1.toInt = z5_6.toInt % 8 := by rw [ex1]; exact irem_nn L8 (by omega)
        have bx1 : 0 ≤ x1.toInt ∧ x1.toInt ≤ 7 := by omega
        refine lv_iload_n hx hb dX11_overOf_20 rfl (lv_at hl 2 rfl) ?_
        refine lv_icmp_le (tgt := 28) hx hb dX11_overOf_21 (by decide) (fun c21 => ?_) (fun c21 => ?_)
        · have ow := i32b w
          have c21i := Int32.le_iff_toInt_le.mp c21
          refine lv_iconst (v := 0) hx hb dX11_overOf_28 (by decide) ?_
          refine lv_iload_n hx hb dX11_overOf_29 rfl (lv_at hl 3 rfl) ?_
          refine lv_icmp_ne (tgt := 60) hx hb dX11_overOf_30 (by decide) (fun c30 => ?_) (fun c30 => ?_)
          · have ou := i32b u
            have c30i := mt Int32.toInt_inj.mp c30
            refine lv_iconst (v := 0) hx hb dX11_overOf_60 (by decide) ?_
            refine lv_iadd hx hb dX11_overOf_61 ?_
            refine lv_topi (fun x2 ex2 => ?_)
            have oz4_6 := i32b z4_6
            have tx2 : x2.toInt = z4_6.toInt + (0 : Int32).toInt := by rw [ex2]; exact Jvm.Kit.i32_add (by omega) (by omega)
            refine lv_istore (lv' := [(4, .int x2), (0, .ref (ad G (78))), (1, .int v), (2, .int w), (3, .int u), (5, .int z5_6)]) hx hb dX11_overOf_62 hl (by decide) rfl (fun ls hl => ?_)
            obtain ⟨x3, ex3⟩ : ∃ z : Int32, z = z5_6 + (1 : Int32) := ⟨_, rfl⟩
            refine lv_iinc (v := x3) (lv' := [(5, .int x3), (4, .int x2), (0, .ref (ad G (78))), (1, .int v), (2, .int w), (3, .int u)]) hx hb dX11_overOf_64 hl (k := 5) rfl (by rw [ex3]; rfl) (by decide) rfl (fun ls hl => ?_)
            have tx3 : x3.toInt = z5_6.toInt + 1 := by rw [ex3, Jvm.Kit.i32_add (by omega) (by omega)]; omega
            refine lv_goto (tgt := 6) hx hb dX11_overOf_67 (by decide) ?_
            exact ih6 x2 x3 _ _ _ (by omega) (by omega) hw (lv_sub hl [2, 3, 4, 5, 1, 0] rfl)
          · have ou := i32b u
            have c30i := congrArg Int32.toInt c30
            refine lv_iload_n hx hb dX11_overOf_33 rfl (lv_at hl 1 rfl) ?_
            refine lv_if_ge (tgt := 46) hx hb dX11_overOf_34 (by decide) (fun c34 => ?_) (fun c34 => ?_)
            · have c34i := Int32.le_iff_toInt_le.mp c34
              refine lv_aload_n hx hb dX11_overOf_46 rfl (lv_at hl 0 rfl) ?_
              refine tg_get (ci := 10) (k := 1) (v := .ref (ad G (80))) hx hb hts hown hk hw (en10 (rfl : nk 78 = 10)) rfl inlX11 (by decide) wd106 rfl dX11_overOf_47 ?_
              refine lv_iconst (v := 4) hx hb dX11_overOf_50 (by decide) ?_
              refine lv_iload hx hb dX11_overOf_51 (lv_at hl 5 rfl) ?_
              refine lv_imul hx hb dX11_overOf_53 ?_
              refine lv_topi (fun x4 ex4 => ?_)
              have tx4 : x4.toInt = 4 * z5_6.toInt := by rw [ex4, Jvm.Kit.i32_mul (by rw [L4]; omega) (by rw [L4]; omega), L4]
              refine lv_iload_n hx hb dX11_overOf_54 rfl (lv_at hl 1 rfl) ?_
              refine lv_iadd hx hb dX11_overOf_55 ?_
              refine lv_topi (fun x5 ex5 => ?_)
              have tx5 : x5.toInt = x4.toInt + v.toInt := by rw [ex5]; exact Jvm.Kit.i32_add (by omega) (by omega)
              have hv56 : vp_in x5 256 := vin ⟨by omega, by omega⟩
              refine tg_iald hx hb hk hw (en356 (rfl : nk 80 = 356)) hv56 dX11_overOf_56 ?_
              refine lv_topi (fun x6 ex6 => ?_)
              refine lv_goto (tgt := 61) hx hb dX11_overOf_57 (by decide) ?_
              refine lv_iadd hx hb dX11_overOf_61 ?_
              refine lv_topi (fun x7 ex7 => ?_)
              refine lv_istore (lv' := [(4, .int x7), (0, .ref (ad G (78))), (1, .int v), (2, .int w), (3, .int u), (5, .int z5_6)]) hx hb dX11_overOf_62 hl (by decide) rfl (fun ls hl => ?_)
              obtain ⟨x8, ex8⟩ : ∃ z : Int32, z = z5_6 + (1 : Int32) := ⟨_, rfl⟩
              refine lv_iinc (v := x8) (lv' := [(5, .int x8), (4, .int x7), (0, .ref (ad G (78))), (1, .int v), (2, .int w), (3, .int u)]) hx hb dX11_overOf_64 hl (k := 5) rfl (by rw [ex8]; rfl) (by decide) rfl (fun ls hl => ?_)
              have tx8 : x8.toInt = z5_6.toInt + 1 := by rw [ex8, Jvm.Kit.i32_add (by omega) (by omega)]; omega
              refine lv_goto (tgt := 6) hx hb dX11_overOf_67 (by decide) ?_
              exact ih6 x7 x8 _ _ _ (by omega) (by omega) hw (lv_sub hl [2, 3, 4, 5, 1, 0] rfl)
            · have c34i := mt Int32.le_iff_toInt_le.mpr c34
              refine lv_aload_n hx hb dX11_overOf_37 rfl (lv_at hl 0 rfl) ?_
              refine lv_iload hx hb dX11_overOf_38 (lv_at hl 5 rfl) ?_
              refine te_vi hw (ru_V (As := [.int z5_6]) (rest := [.int z4_6]) (C := RX11) hx hb hml hts hown hk hw (c_X11_grainsIn l G hG σ hI.1 z5_6 (by omega)) (m4_in wd402 wd403 wd404 wd5) wd405 (en10 (rfl : nk 78 = 10)) rfl rfl rfl nm_yX11_grainsIn ⟨rfl, rfl⟩ ⟨by decide, by decide⟩ rfl hl.1 rfl (Nat.le_of_ble_eq_true rfl) dX11_overOf_40 ⟨Nat.zero_le _, Nat.zero_le _⟩) (fun r10 σ9 H locs hr10 hw => ?_)
              rw [hr10.1] at hw
              have hr10 := hr10.2
              refine lv_goto (tgt := 61) hx hb dX11_overOf_43 (by decide) ?_
              refine lv_iadd hx hb dX11_overOf_61 ?_
              refine lv_topi (fun x11 ex11 => ?_)
              refine lv_istore (lv' := [(4, .int x11), (0, .ref (ad G (78))), (1, .int v), (2, .int w), (3, .int u), (5, .int z5_6)]) hx hb dX11_overOf_62 hl (by decide) rfl (fun ls hl => ?_)
              obtain ⟨x12, ex12⟩ : ∃ z : Int32, z = z5_6 + (1 : Int32) := ⟨_, rfl⟩
              refine lv_iinc (v := x12) (lv' := [(5, .int x12), (4, .int x11), (0, .ref (ad G (78))), (1, .int v), (2, .int w), (3, .int u)]) hx hb dX11_overOf_64 hl (k := 5) rfl (by rw [ex12]; rfl) (by decide) rfl (fun ls hl => ?_)
              have tx12 : x12.toInt = z5_6.toInt + 1 := by rw [ex12, Jvm.Kit.i32_add (by omega) (by omega)]; omega
              refine lv_goto (tgt := 6) hx hb dX11_overOf_67 (by decide) ?_
              exact ih6 x11 x12 _ _ _ (by omega) (by omega) hw (lv_sub hl [2, 3, 4, 5, 1, 0] rfl)
        · have ow := i32b w
          have c21i := mt Int32.le_iff_toInt_le.mpr c21
          refine lv_iconst (v := 1) hx hb dX11_overOf_24 (by decide) ?_
          refine lv_goto (tgt := 29) hx hb dX11_overOf_25 (by decide) ?_
          refine lv_iload_n hx hb dX11_overOf_29 rfl (lv_at hl 3 rfl) ?_
          refine lv_icmp_ne (tgt := 60) hx hb dX11_overOf_30 (by decide) (fun c30 => ?_) (fun c30 => ?_)
          · have ou := i32b u
            have c30i := mt Int32.toInt_inj.mp c30
            refine lv_iconst (v := 0) hx hb dX11_overOf_60 (by decide) ?_
            refine lv_iadd hx hb dX11_overOf_61 ?_
            refine lv_topi (fun x13 ex13 => ?_)
            have oz4_6 := i32b z4_6
            have tx13 : x13.toInt = z4_6.toInt + (0 : Int32).toInt := by rw [ex13]; exact Jvm.Kit.i32_add (by omega) (by omega)
            refine lv_istore (lv' := [(4, .int x13), (0, .ref (ad G (78))), (1, .int v), (2, .int w), (3, .int u), (5, .int z5_6)]) hx hb dX11_overOf_62 hl (by decide) rfl (fun ls hl => ?_)
            obtain ⟨x14, ex14⟩ : ∃ z : Int32, z = z5_6 + (1 : Int32) := ⟨_, rfl⟩
            refine lv_iinc (v := x14) (lv' := [(5, .int x14), (4, .int x13), (0, .ref (ad G (78))), (1, .int v), (2, .int w), (3, .int u)]) hx hb dX11_overOf_64 hl (k := 5) rfl (by rw [ex14]; rfl) (by decide) rfl (fun ls hl => ?_)
            have tx14 : x14.toInt = z5_6.toInt + 1 := by rw [ex14, Jvm.Kit.i32_add (by omega) (by omega)]; omega
            refine lv_goto (tgt := 6) hx hb dX11_overOf_67 (by decide) ?_
            exact ih6 x13 x14 _ _ _ (by omega) (by omega) hw (lv_sub hl [2, 3, 4, 5, 1, 0] rfl)
          · have ou := i32b u
            have c30i := congrArg Int32.toInt c30
            refine lv_iload_n hx hb dX11_overOf_33 rfl (lv_at hl 1 rfl) ?_
            refine lv_if_ge (tgt := 46) hx hb dX11_overOf_34 (by decide) (fun c34 => ?_) (fun c34 => ?_)
            · have c34i := Int32.le_iff_toInt_le.mp c34
              refine lv_aload_n hx hb dX11_overOf_46 rfl (lv_at hl 0 rfl) ?_
              refine tg_get (ci := 10) (k := 1) (v := .ref (ad G (80))) hx hb hts hown hk hw (en10 (rfl : nk 78 = 10)) rfl inlX11 (by decide) wd106 rfl dX11_overOf_47 ?_
              refine lv_iconst (v := 4) hx hb dX11_overOf_50 (by decide) ?_
              refine lv_iload hx hb dX11_overOf_51 (lv_at hl 5 rfl) ?_
              refine lv_imul hx hb dX11_overOf_53 ?_
              refine lv_topi (fun x15 ex15 => ?_)
              have tx15 : x15.toInt = 4 * z5_6.toInt := by rw [ex15, Jvm.Kit.i32_mul (by rw [L4]; omega) (by rw [L4]; omega), L4]
              refine lv_iload_n hx hb dX11_overOf_54 rfl (lv_at hl 1 rfl) ?_
              refine lv_iadd hx hb dX11_overOf_55 ?_
              refine lv_topi (fun x16 ex16 => ?_)
              have tx16 : x16.toInt = x15.toInt + v.toInt := by rw [ex16]; exact Jvm.Kit.i32_add (by omega) (by omega)
              have hv56 : vp_in x16 256 := vin ⟨by omega, by omega⟩
              refine tg_iald hx hb hk hw (en356 (rfl : nk 80 = 356)) hv56 dX11_overOf_56 ?_
              refine lv_topi (fun x17 ex17 => ?_)
              refine lv_goto (tgt := 61) hx hb dX11_overOf_57 (by decide) ?_
              refine lv_iadd hx hb dX11_overOf_61 ?_
              refine lv_topi (fun x18 ex18 => ?_)
              refine lv_istore (lv' := [(4, .int x18), (0, .ref (ad G (78))), (1, .int v), (2, .int w), (3, .int u), (5, .int z5_6)]) hx hb dX11_overOf_62 hl (by decide) rfl (fun ls hl => ?_)
              obtain ⟨x19, ex19⟩ : ∃ z : Int32, z = z5_6 + (1 : Int32) := ⟨_, rfl⟩
              refine lv_iinc (v := x19) (lv' := [(5, .int x19), (4, .int x18), (0, .ref (ad G (78))), (1, .int v), (2, .int w), (3, .int u)]) hx hb dX11_overOf_64 hl (k := 5) rfl (by rw [ex19]; rfl) (by decide) rfl (fun ls hl => ?_)
              have tx19 : x19.toInt = z5_6.toInt + 1 := by rw [ex19, Jvm.Kit.i32_add (by omega) (by omega)]; omega
              refine lv_goto (tgt := 6) hx hb dX11_overOf_67 (by decide) ?_
              exact ih6 x18 x19 _ _ _ (by omega) (by omega) hw (lv_sub hl [2, 3, 4, 5, 1, 0] rfl)
            · have c34i := mt Int32.le_iff_toInt_le.mpr c34
              refine lv_aload_n hx hb dX11_overOf_37 rfl (lv_at hl 0 rfl) ?_
              refine lv_iload hx hb dX11_overOf_38 (lv_at hl 5 rfl) ?_
              refine te_vi hw (ru_V (As := [.int z5_6]) (rest := [.int z4_6]) (C := RX11) hx hb hml hts hown hk hw (c_X11_grainsIn l G hG σ hI.1 z5_6 (by omega)) (m4_in wd402 wd403 wd404 wd5) wd405 (en10 (rfl : nk 78 = 10)) rfl rfl rfl nm_yX11_grainsIn ⟨rfl, rfl⟩ ⟨by decide, by decide⟩ rfl hl.1 rfl (Nat.le_of_ble_eq_true rfl) dX11_overOf_40 ⟨Nat.zero_le _, Nat.zero_le _⟩) (fun r21 σ20 H locs hr21 hw => ?_)
              rw [hr21.1] at hw
              have hr21 := hr21.2
              refine lv_goto (tgt := 61) hx hb dX11_overOf_43 (by decide) ?_
              refine lv_iadd hx hb dX11_overOf_61 ?_
              refine lv_topi (fun x22 ex22 => ?_)
              refine lv_istore (lv' := [(4, .int x22), (0, .ref (ad G (78))), (1, .int v), (2, .int w), (3, .int u), (5, .int z5_6)]) hx hb dX11_overOf_62 hl (by decide) rfl (fun ls hl => ?_)
              obtain ⟨x23, ex23⟩ : ∃ z : Int32, z = z5_6 + (1 : Int32) := ⟨_, rfl⟩
              refine lv_iinc (v := x23) (lv' := [(5, .int x23), (4, .int x22), (0, .ref (ad G (78))), (1, .int v), (2, .int w), (3, .int u)]) hx hb dX11_overOf_64 hl (k := 5) rfl (by rw [ex23]; rfl) (by decide) rfl (fun ls hl => ?_)
              have tx23 : x23.toInt = z5_6.toInt + 1 := by rw [ex23, Jvm.Kit.i32_add (by omega) (by omega)]; omega
              refine lv_goto (tgt := 6) hx hb dX11_overOf_67 (by decide) ?_
              exact ih6 x22 x23 _ _ _ (by omega) (by omega) hw (lv_sub hl [2, 3, 4, 5, 1, 0] rfl)
  exact cut6 ((((64 - (0 : Int32).toInt).toNat : Int)).toNat + 1) (0 : Int32) (0 : Int32) _ _ _ (by omega) (by omega) hw (lv_sub hl [2, 3, 4, 5, 1, 0] rfl)
set_option maxHeartbeats 4000000 in
set_option maxRecDepth 100000 in
theorem c_X11_over (l : Launch) (G : Gg) (hG : Ginj G) (σ : Sg) (hI0 : Inv σ) (v : Int32) (w : Int32) : MI l G yX11_over cX11_over 5 .int (rmO 2 48) σ [.ref (ad G (78)), .int v, .int w] (fun r σ' => σ' = σ ∧ (True)) := by
  refine MI.of (by decide +kernel) (Nat.le_of_ble_eq_true rfl) ?_
  intro p e s m a below meth c ls Q hx hb hml hts hown hk hw ret hl
  have hown : s.vm.findClass RX11 = some m.cls := hown
  have hl : lv_has ls 5 [(0, .ref (ad G (78))), (1, .int v), (2, .int w)] := hl
  have hI : K0 σ σ := K0.rf hI0
  have Lm6 : (-6 : Int32).toInt = -6 := by decide
  have Lm2 : (-2 : Int32).toInt = -2 := by decide
  have Lm1 : (-1 : Int32).toInt = -1 := by decide
  have L0 : (0 : Int32).toInt = 0 := by decide
  have L1 : (1 : Int32).toInt = 1 := by decide
  have L3 : (3 : Int32).toInt = 3 := by decide
  have L10 : (10 : Int32).toInt = 10 := by decide
  have M0 : (0 : Int64).toInt = 0 := by decide
  have M7 : (7 : Int64).toInt = 7 := by decide
  generalize hHe : s.heap = H at hw ⊢
  generalize hLe : ([] : List Loc) = locs at hw ⊢
  refine lv_iload_n hx hb dX11_over_0 rfl (lv_at hl 1 rfl) ?_
  refine lv_iconst (v := -1) hx hb dX11_over_1 (by decide) ?_
  refine lv_icmp_eq (tgt := 14) hx hb dX11_over_2 (by decide) (fun c2 => ?_) (fun c2 => ?_)
  · have ov := i32b v
    have c2i := congrArg Int32.toInt c2
    refine lv_iload_n hx hb dX11_over_14 rfl (lv_at hl 2 rfl) ?_
    refine lv_i2l hx hb dX11_over_15 rfl ?_
    refine lv_lconst (v := 0) hx hb dX11_over_16 (by decide) ?_
    refine lv_ldc2 hx hb hown (hts _ wd365) dX11_over_17 ?_
    refine te_vi hw (ru_S (As := [.long w.toInt64, .long (0 : Int64), .long (7 : Int64)]) (rest := []) hx hb hml hts hown hk hw (c_X11_in l G hG σ hI.1 w.toInt64 (0 : Int64) (7 : Int64)) (m3_in wd156 wd157 wd5) wd158 nm_yX11_in ⟨rfl, rfl⟩ ⟨by decide, by decide⟩ rfl hl.1 rfl (Nat.le_of_ble_eq_true rfl) dX11_over_20 ⟨Nat.zero_le _, Nat.zero_le _⟩) (fun r2 σ1 H locs hr2 hw => ?_)
    rw [hr2.1] at hw
    have hr2 := hr2.2
    simp only [Int32.toInt_toInt64] at hr2
    refine lv_if_ne (tgt := 29) hx hb dX11_over_23 (by decide) (fun c23 => ?_) (fun c23 => ?_)
    · have c23i := mt Int32.toInt_inj.mp c23
      have p23 := bz1 hr2 c23
      refine lv_iload_n hx hb dX11_over_29 rfl (lv_at hl 1 rfl) ?_
      refine lv_if_lt (tgt := 41) hx hb dX11_over_30 (by decide) (fun c30 => ?_) (fun c30 => ?_)
      · have c30i := Int32.lt_iff_toInt_lt.mp c30
        refine lv_iconst (v := 3) hx hb dX11_over_41 (by decide) ?_
        refine lv_aload_n hx hb dX11_over_42 rfl (lv_at hl 0 rfl) ?_
        refine lv_bipush (v := -6) hx hb dX11_over_43 (by decide) ?_
        refine lv_iload_n hx hb dX11_over_45 rfl (lv_at hl 2 rfl) ?_
        refine lv_iconst (v := 1) hx hb dX11_over_46 (by decide) ?_
        refine te_vi hw (ru_V (As := [.int (-6 : Int32), .int w, .int (1 : Int32)]) (rest := [.int (3 : Int32)]) (C := RX11) hx hb hml hts hown hk hw (c_X11_overOf l G hG σ hI.1 (-6 : Int32) w (1 : Int32) (by omega)) (m4_in wd672 wd673 wd674 wd5) wd675 (en10 (rfl : nk 78 = 10)) rfl rfl rfl nm_yX11_overOf ⟨rfl, rfl⟩ ⟨by decide, by decide⟩ rfl hl.1 rfl (Nat.le_of_ble_eq_true rfl) dX11_over_47 ⟨Nat.zero_le _, Nat.zero_le _⟩) (fun r4 σ3 H locs hr4 hw => ?_)
        rw [hr4.1] at hw
        have hr4 := hr4.2
        refine lv_bipush (v := 10) hx hb dX11_over_50 (by decide) ?_
        refine lv_idiv hx hb dX11_over_52 (by decide) ?_
        refine lv_topi (fun x5 ex5 => ?_)
        refine lv_imul hx hb dX11_over_53 ?_
        refine lv_topi (fun x6 ex6 => ?_)
        refine lv_istore_n (lv' := [(3, .int x6), (0, .ref (ad G (78))), (1, .int v), (2, .int w)]) hx hb dX11_over_54 rfl hl (by decide) rfl (fun ls hl => ?_)
        refine lv_aload_n hx hb dX11_over_55 rfl (lv_at hl 1 rfl) ?_
        refine lv_bipush (v := -6) hx hb dX11_over_56 (by decide) ?_
        refine lv_iload_n hx hb dX11_over_58 rfl (lv_at hl 3 rfl) ?_
        refine lv_iconst (v := 0) hx hb dX11_over_59 (by decide) ?_
        refine te_vi hw (ru_V (As := [.int (-6 : Int32), .int w, .int (0 : Int32)]) (rest := []) (C := RX11) hx hb hml hts hown hk hw (c_X11_overOf l G hG σ hI.1 (-6 : Int32) w (0 : Int32) (by omega)) (m4_in wd672 wd673 wd674 wd5) wd675 (en10 (rfl : nk 78 = 10)) rfl rfl rfl nm_yX11_overOf ⟨rfl, rfl⟩ ⟨by decide, by decide⟩ rfl hl.1 rfl (Nat.le_of_ble_eq_true rfl) dX11_over_60 ⟨Nat.zero_le _, Nat.zero_le _⟩) (fun r8 σ7 H locs hr8 hw => ?_)
        rw [hr8.1] at hw
        have hr8 := hr8.2
        refine lv_istore (lv' := [(4, .int r8), (3, .int x6), (0, .ref (ad G (78))), (1, .int v), (2, .int w)]) hx hb dX11_over_63 hl (by decide) rfl (fun ls hl => ?_)
        refine lv_iload_n hx hb dX11_over_65 rfl (lv_at hl 1 rfl) ?_
        refine lv_iload hx hb dX11_over_66 (lv_at hl 0 rfl) ?_
        refine lv_icmp_ge (tgt := 75) hx hb dX11_over_68 (by decide) (fun c68 => ?_) (fun c68 => ?_)
        · have ox6 := i32b x6
          have or8 := i32b r8
          have c68i := Int32.le_iff_toInt_le.mp c68
          refine lv_iload hx hb dX11_over_75 (lv_at hl 0 rfl) ?_
          exact ret r8 σ _ _ 77 _ (rfl) (⟨rfl, trivial⟩) hw dX11_over_77
        · have ox6 := i32b x6
          have or8 := i32b r8
          have c68i := mt Int32.le_iff_toInt_le.mpr c68
          refine lv_iload_n hx hb dX11_over_71 rfl (lv_at hl 1 rfl) ?_
          refine lv_goto (tgt := 77) hx hb dX11_over_72 (by decide) ?_
          exact ret x6 σ _ _ 77 _ (rfl) (⟨rfl, trivial⟩) hw dX11_over_77
      · have c30i := mt Int32.lt_iff_toInt_lt.mpr c30
        exfalso; omega
    · have c23i := congrArg Int32.toInt c23
      have p23 := bz0 hr2 c23
      refine lv_bipush (v := -2) hx hb dX11_over_26 (by decide) ?_
      exact ret (-2 : Int32) σ _ _ 28 _ (rfl) (⟨rfl, trivial⟩) hw dX11_over_28
  · have ov := i32b v
    have c2i := mt Int32.toInt_inj.mp c2
    refine lv_iload_n hx hb dX11_over_5 rfl (lv_at hl 1 rfl) ?_
    refine te_vi hw (ru_S (As := [.int v]) (rest := []) hx hb hml hts hown hk hw (c_X11_isKind l G hG σ hI.1 v) (m3_in wd399 wd400 wd5) wd401 nm_yX11_isKind ⟨rfl, rfl⟩ ⟨by decide, by decide⟩ rfl hl.1 rfl (Nat.le_of_ble_eq_true rfl) dX11_over_6 ⟨Nat.zero_le _, Nat.zero_le _⟩) (fun r10 σ9 H locs hr10 hw => ?_)
    rw [hr10.1] at hw
    have hr10 := hr10.2
    refine lv_if_ne (tgt := 14) hx hb dX11_over_9 (by decide) (fun c9 => ?_) (fun c9 => ?_)
    · have c9i := mt Int32.toInt_inj.mp c9
      have p9 := bz1 hr10 c9
      refine lv_iload_n hx hb dX11_over_14 rfl (lv_at hl 2 rfl) ?_
      refine lv_i2l hx hb dX11_over_15 rfl ?_
      refine lv_lconst (v := 0) hx hb dX11_over_16 (by decide) ?_
      refine lv_ldc2 hx hb hown (hts _ wd365) dX11_over_17 ?_
      refine te_vi hw (ru_S (As := [.long w.toInt64, .long (0 : Int64), .long (7 : Int64)]) (rest := []) hx hb hml hts hown hk hw (c_X11_in l G hG σ hI.1 w.toInt64 (0 : Int64) (7 : Int64)) (m3_in wd156 wd157 wd5) wd158 nm_yX11_in ⟨rfl, rfl⟩ ⟨by decide, by decide⟩ rfl hl.1 rfl (Nat.le_of_ble_eq_true rfl) dX11_over_20 ⟨Nat.zero_le _, Nat.zero_le _⟩) (fun r12 σ11 H locs hr12 hw => ?_)
      rw [hr12.1] at hw
      have hr12 := hr12.2
      simp only [Int32.toInt_toInt64] at hr12
      refine lv_if_ne (tgt := 29) hx hb dX11_over_23 (by decide) (fun c23 => ?_) (fun c23 => ?_)
      · have c23i := mt Int32.toInt_inj.mp c23
        have p23 := bz1 hr12 c23
        refine lv_iload_n hx hb dX11_over_29 rfl (lv_at hl 1 rfl) ?_
        refine lv_if_lt (tgt := 41) hx hb dX11_over_30 (by decide) (fun c30 => ?_) (fun c30 => ?_)
        · have c30i := Int32.lt_iff_toInt_lt.mp c30
          exfalso; omega
        · have c30i := mt Int32.lt_iff_toInt_lt.mpr c30
          refine lv_aload_n hx hb dX11_over_33 rfl (lv_at hl 0 rfl) ?_
          refine lv_iload_n hx hb dX11_over_34 rfl (lv_at hl 1 rfl) ?_
          refine lv_iload_n hx hb dX11_over_35 rfl (lv_at hl 2 rfl) ?_
          refine lv_iconst (v := 1) hx hb dX11_over_36 (by decide) ?_
          refine te_vi hw (ru_V (As := [.int v, .int w, .int (1 : Int32)]) (rest := []) (C := RX11) hx hb hml hts hown hk hw (c_X11_overOf l G hG σ hI.1 v w (1 : Int32) (by omega)) (m4_in wd672 wd673 wd674 wd5) wd675 (en10 (rfl : nk 78 = 10)) rfl rfl rfl nm_yX11_overOf ⟨rfl, rfl⟩ ⟨by decide, by decide⟩ rfl hl.1 rfl (Nat.le_of_ble_eq_true rfl) dX11_over_37 ⟨Nat.zero_le _, Nat.zero_le _⟩) (fun r14 σ13 H locs hr14 hw => ?_)
          rw [hr14.1] at hw
          have hr14 := hr14.2
          exact ret r14 σ _ _ 40 _ (rfl) (⟨rfl, trivial⟩) hw dX11_over_40
      · have c23i := congrArg Int32.toInt c23
        have p23 := bz0 hr12 c23
        refine lv_bipush (v := -2) hx hb dX11_over_26 (by decide) ?_
        exact ret (-2 : Int32) σ _ _ 28 _ (rfl) (⟨rfl, trivial⟩) hw dX11_over_28
    · have c9i := congrArg Int32.toInt c9
      have p9 := bz0 hr10 c9
      refine lv_iconst (v := -1) hx hb dX11_over_12 (by decide) ?_
      exact ret (-1 : Int32) σ _ _ 13 _ (rfl) (⟨rfl, trivial⟩) hw dX11_over_13
set_option maxHeartbeats 4000000 in
set_option maxRecDepth 100000 in
theorem c_X11_fruit (l : Launch) (G : Gg) (hG : Ginj G) (σ : Sg) (hI0 : Inv σ) (v : Int32) (w : Int32) : MI l G yX11_fruit cX11_fruit 4 .int (rmO 2 45) σ [.ref (ad G (78)), .int v, .int w] (fun r σ' => fruP 83 σ σ' v w r) := by
  refine MI.of (by decide +kernel) (Nat.le_of_ble_eq_true rfl) ?_
  intro p e s m a below meth c ls Q hx hb hml hts hown hk hw ret hl
  have hown : s.vm.findClass RX11 = some m.cls := hown
  have hl : lv_has ls 4 [(0, .ref (ad G (78))), (1, .int v), (2, .int w)] := hl
  have hI : K0 σ σ := K0.rf hI0
  have Lm2 : (-2 : Int32).toInt = -2 := by decide
  have Lm1 : (-1 : Int32).toInt = -1 := by decide
  have L0 : (0 : Int32).toInt = 0 := by decide
  have M1 : (1 : Int64).toInt = 1 := by decide
  have M9 : (9 : Int64).toInt = 9 := by decide
  generalize hHe : s.heap = H at hw ⊢
  generalize hLe : ([] : List Loc) = locs at hw ⊢
  refine lv_iload_n hx hb dX11_fruit_0 rfl (lv_at hl 1 rfl) ?_
  refine te_vi hw (ru_S (As := [.int v]) (rest := []) hx hb hml hts hown hk hw (c_X11_isKind l G hG σ hI.1 v) (m3_in wd399 wd400 wd5) wd401 nm_yX11_isKind ⟨rfl, rfl⟩ ⟨by decide, by decide⟩ rfl hl.1 rfl (Nat.le_of_ble_eq_true rfl) dX11_fruit_1 ⟨Nat.zero_le _, Nat.zero_le _⟩) (fun r2 σ1 H locs hr2 hw => ?_)
  rw [hr2.1] at hw
  have hr2 := hr2.2
  refine lv_if_ne (tgt := 9) hx hb dX11_fruit_4 (by decide) (fun c4 => ?_) (fun c4 => ?_)
  · have c4i := mt Int32.toInt_inj.mp c4
    have p4 := bz1 hr2 c4
    refine lv_iload_n hx hb dX11_fruit_9 rfl (lv_at hl 2 rfl) ?_
    refine lv_i2l hx hb dX11_fruit_10 rfl ?_
    refine lv_lconst (v := 1) hx hb dX11_fruit_11 (by decide) ?_
    refine lv_ldc2 hx hb hown (hts _ wd503) dX11_fruit_12 ?_
    refine te_vi hw (ru_S (As := [.long w.toInt64, .long (1 : Int64), .long (9 : Int64)]) (rest := []) hx hb hml hts hown hk hw (c_X11_in l G hG σ hI.1 w.toInt64 (1 : Int64) (9 : Int64)) (m3_in wd156 wd157 wd5) wd158 nm_yX11_in ⟨rfl, rfl⟩ ⟨by decide, by decide⟩ rfl hl.1 rfl (Nat.le_of_ble_eq_true rfl) dX11_fruit_15 ⟨Nat.zero_le _, Nat.zero_le _⟩) (fun r4 σ3 H locs hr4 hw => ?_)
    rw [hr4.1] at hw
    have hr4 := hr4.2
    simp only [Int32.toInt_toInt64] at hr4
    refine lv_if_ne (tgt := 24) hx hb dX11_fruit_18 (by decide) (fun c18 => ?_) (fun c18 => ?_)
    · have c18i := mt Int32.toInt_inj.mp c18
      have p18 := bz1 hr4 c18
      refine lv_aload_n hx hb dX11_fruit_24 rfl (lv_at hl 0 rfl) ?_
      refine tg_get (ci := 10) (k := 5) (v := .ref (ad G (83))) hx hb hts hown hk hw (en10 (rfl : nk 78 = 10)) rfl inlX11 (by decide) wd109 rfl dX11_fruit_25 ?_
      refine lv_iload_n hx hb dX11_fruit_28 rfl (lv_at hl 1 rfl) ?_
      have hv29 : vp_in v 4 := vin ⟨by omega, by omega⟩
      refine tg_iald hx hb hk hw (en104 (rfl : nk 83 = 104)) hv29 dX11_fruit_29 ?_
      refine lv_topi (fun x5 ex5 => ?_)
      have aR := ex5
      refine lv_istore_n (lv' := [(3, .int x5), (0, .ref (ad G (78))), (1, .int v), (2, .int w)]) hx hb dX11_fruit_30 rfl hl (by decide) rfl (fun ls hl => ?_)
      refine lv_aload_n hx hb dX11_fruit_31 rfl (lv_at hl 1 rfl) ?_
      refine tg_get (ci := 10) (k := 5) (v := .ref (ad G (83))) hx hb hts hown hk hw (en10 (rfl : nk 78 = 10)) rfl inlX11 (by decide) wd109 rfl dX11_fruit_32 ?_
      refine lv_iload_n hx hb dX11_fruit_35 rfl (lv_at hl 2 rfl) ?_
      refine lv_iload_n hx hb dX11_fruit_36 rfl (lv_at hl 3 rfl) ?_
      have hv37 : vp_in v 4 := vin ⟨by omega, by omega⟩
      refine tg_iast hx hb hk hG hw (ea104 (rfl : nk 83 = 104)) hv37 dX11_fruit_37 (fun H locs hw => ?_)
      obtain ⟨σ6, eσ6⟩ : ∃ z, z = up2 σ (83) v.toNatClampNeg w := ⟨_, rfl⟩
      rw [← eσ6] at hw
      have hI : K0 (up2 σ 83 v.toNatClampNeg w) σ6 := by rw [eσ6]; exact hI.put (rg_no (by rw [(rfl : nk 83 = 104)]; rfl))
      refine lv_iload_n hx hb dX11_fruit_38 rfl (lv_at hl 0 rfl) ?_
      exact ret x5 σ6 _ _ 39 _ (rfl) (Or.inr (Or.inr ⟨by omega, by omega, hI, aR⟩)) hw dX11_fruit_39
    · have c18i := congrArg Int32.toInt c18
      have p18 := bz0 hr4 c18
      refine lv_bipush (v := -2) hx hb dX11_fruit_21 (by decide) ?_
      exact ret (-2 : Int32) σ _ _ 23 _ (rfl) (Or.inr (Or.inl ⟨by omega, by omega, hI, rfl⟩)) hw dX11_fruit_23
  · have c4i := congrArg Int32.toInt c4
    have p4 := bz0 hr2 c4
    refine lv_iconst (v := -1) hx hb dX11_fruit_7 (by decide) ?_
    exact ret (-1 : Int32) σ _ _ 8 _ (rfl) (Or.inl ⟨by omega, hI, rfl⟩) hw dX11_fruit_8
set_option maxHeartbeats 4000000 in
set_option maxRecDepth 100000 in
theorem c_X11_harvest (l : Launch) (G : Gg) (hG : Ginj G) (σ : Sg) (hI0 : Inv σ) : MI l G yX11_harvest cX11_harvest 4 .int (rmO 0 0) σ [.ref (ad G (78))] (fun r σ' => σ' = σ ∧ (True)) := by
  refine MI.of (by decide +kernel) (Nat.le_of_ble_eq_true rfl) ?_
  intro p e s m a below meth c ls Q hx hb hml hts hown hk hw ret hl
  have hown : s.vm.findClass RX11 = some m.cls := hown
  have hl : lv_has ls 4 [(0, .ref (ad G (78)))] := hl
  have hI : K0 σ σ := K0.rf hI0
  have L0 : (0 : Int32).toInt = 0 := by decide
  have L1 : (1 : Int32).toInt = 1 := by decide
  have L4 : (4 : Int32).toInt = 4 := by decide
  have L64 : (64 : Int32).toInt = 64 := by decide
  generalize hHe : s.heap = H at hw ⊢
  generalize hLe : ([] : List Loc) = locs at hw ⊢
  refine lv_iconst (v := 0) hx hb dX11_harvest_0 (by decide) ?_
  refine lv_istore_n (lv' := [(1, .int (0 : Int32)), (0, .ref (ad G (78)))]) hx hb dX11_harvest_1 rfl hl (by decide) rfl (fun ls hl => ?_)
  refine lv_iconst (v := 0) hx hb dX11_harvest_2 (by decide) ?_
  refine lv_istore_n (lv' := [(2, .int (0 : Int32)), (1, .int (0 : Int32)), (0, .ref (ad G (78)))]) hx hb dX11_harvest_3 rfl hl (by decide) rfl (fun ls hl => ?_)
  have cut4 : ∀ (n : Nat) (z1_4 : Int32) (z2_4 : Int32) (H : Heap) (locs : List Loc) (ls : Array Slot), (0 ≤ z2_4.toInt ∧ z2_4.toInt ≤ 64) → ((64 - z2_4.toInt).toNat : Int) < (n : Int) → Wo G σ s H locs → lv_has ls 4 [(0, .ref (ad G (78))), (1, .int z1_4), (2, .int z2_4)] → W p l e (rmO 0 0) s m a below meth c H locs 0 0 Q (F0 m 4 ls []) := by
    intro n4
    induction n4 with
    | zero =>
      intro z1_4 z2_4 H locs ls f4_0 hm4 hw hl
      exfalso; omega
    | succ n4 ih4 =>
      intro z1_4 z2_4 H locs ls f4_0 hm4 hw hl
      refine lv_iload_n hx hb dX11_harvest_4 rfl (lv_at hl 2 rfl) ?_
      refine lv_bipush (v := 64) hx hb dX11_harvest_5 (by decide) ?_
      refine lv_icmp_ge (tgt := 49) hx hb dX11_harvest_7 (by decide) (fun c7 => ?_) (fun c7 => ?_)
      · have c7i := Int32.le_iff_toInt_le.mp c7
        refine lv_iload_n hx hb dX11_harvest_49 rfl (lv_at hl 1 rfl) ?_
        exact ret z1_4 σ _ _ 50 _ (rfl) (⟨rfl, trivial⟩) hw dX11_harvest_50
      · have c7i := mt Int32.le_iff_toInt_le.mpr c7
        refine lv_iconst (v := 0) hx hb dX11_harvest_10 (by decide) ?_
        refine lv_istore_n (lv' := [(3, .int (0 : Int32)), (0, .ref (ad G (78))), (1, .int z1_4), (2, .int z2_4)]) hx hb dX11_harvest_11 rfl hl (by decide) rfl (fun ls hl => ?_)
        have cut12 : ∀ (n : Nat) (z1_12 : Int32) (z3_12 : Int32) (H : Heap) (locs : List Loc) (ls : Array Slot), (0 ≤ z3_12.toInt ∧ z3_12.toInt ≤ 4) → ((4 - z3_12.toInt).toNat : Int) < (n : Int) → Wo G σ s H locs → lv_has ls 4 [(0, .ref (ad G (78))), (1, .int z1_12), (2, .int z2_4), (3, .int z3_12)] → W p l e (rmO 0 0) s m a below meth c H locs 0 0 Q (F0 m 12 ls []) := by
          intro n12
          induction n12 with
          | zero =>
            intro z1_12 z3_12 H locs ls f12_0 hm12 hw hl
            exfalso; omega
          | succ n12 ih12 =>
            intro z1_12 z3_12 H locs ls f12_0 hm12 hw hl
            refine lv_iload_n hx hb dX11_harvest_12 rfl (lv_at hl 3 rfl) ?_
            refine lv_iconst (v := 4) hx hb dX11_harvest_13 (by decide) ?_
            refine lv_icmp_ge (tgt := 43) hx hb dX11_harvest_14 (by decide) (fun c14 => ?_) (fun c14 => ?_)
            · have c14i := Int32.le_iff_toInt_le.mp c14
              obtain ⟨x1, ex1⟩ : ∃ z : Int32, z = z2_4 + (1 : Int32) := ⟨_, rfl⟩
              refine lv_iinc (v := x1) (lv' := [(2, .int x1), (0, .ref (ad G (78))), (1, .int z1_12), (3, .int z3_12)]) hx hb dX11_harvest_43 hl (k := 2) rfl (by rw [ex1]; rfl) (by decide) rfl (fun ls hl => ?_)
              have tx1 : x1.toInt = z2_4.toInt + 1 := by rw [ex1, Jvm.Kit.i32_add (by omega) (by omega)]; omega
              refine lv_goto (tgt := 4) hx hb dX11_harvest_46 (by decide) ?_
              exact ih4 z1_12 x1 _ _ _ (by omega) (by omega) hw (lv_sub hl [1, 2, 0] rfl)
            · have c14i := mt Int32.le_iff_toInt_le.mpr c14
              refine lv_iload_n hx hb dX11_harvest_17 rfl (lv_at hl 1 rfl) ?_
              refine lv_aload_n hx hb dX11_harvest_18 rfl (lv_at hl 0 rfl) ?_
              refine tg_get (ci := 10) (k := 5) (v := .ref (ad G (83))) hx hb hts hown hk hw (en10 (rfl : nk 78 = 10)) rfl inlX11 (by decide) wd109 rfl dX11_harvest_19 ?_
              refine lv_iload_n hx hb dX11_harvest_22 rfl (lv_at hl 3 rfl) ?_
              have hv23 : vp_in z3_12 4 := vin ⟨by omega, by omega⟩
              refine tg_iald hx hb hk hw (en104 (rfl : nk 83 = 104)) hv23 dX11_harvest_23 ?_
              refine lv_topi (fun x2 ex2 => ?_)
              refine lv_aload_n hx hb dX11_harvest_24 rfl (lv_at hl 0 rfl) ?_
              refine tg_get (ci := 10) (k := 1) (v := .ref (ad G (80))) hx hb hts hown hk hw (en10 (rfl : nk 78 = 10)) rfl inlX11 (by decide) wd106 rfl dX11_harvest_25 ?_
              refine lv_iconst (v := 4) hx hb dX11_harvest_28 (by decide) ?_
              refine lv_iload_n hx hb dX11_harvest_29 rfl (lv_at hl 2 rfl) ?_
              refine lv_imul hx hb dX11_harvest_30 ?_
              refine lv_topi (fun x3 ex3 => ?_)
              have tx3 : x3.toInt = 4 * z2_4.toInt := by rw [ex3, Jvm.Kit.i32_mul (by rw [L4]; omega) (by rw [L4]; omega), L4]
              refine lv_iload_n hx hb dX11_harvest_31 rfl (lv_at hl 3 rfl) ?_
              refine lv_iadd hx hb dX11_harvest_32 ?_
              refine lv_topi (fun x4 ex4 => ?_)
              have tx4 : x4.toInt = x3.toInt + z3_12.toInt := by rw [ex4]; exact Jvm.Kit.i32_add (by omega) (by omega)
              have hv33 : vp_in x4 256 := vin ⟨by omega, by omega⟩
              refine tg_iald hx hb hk hw (en356 (rfl : nk 80 = 356)) hv33 dX11_harvest_33 ?_
              refine lv_topi (fun x5 ex5 => ?_)
              refine lv_imul hx hb dX11_harvest_34 ?_
              refine lv_topi (fun x6 ex6 => ?_)
              refine lv_iadd hx hb dX11_harvest_35 ?_
              refine lv_topi (fun x7 ex7 => ?_)
              refine lv_istore_n (lv' := [(1, .int x7), (0, .ref (ad G (78))), (2, .int z2_4), (3, .int z3_12)]) hx hb dX11_harvest_36 rfl hl (by decide) rfl (fun ls hl => ?_)
              obtain ⟨x8, ex8⟩ : ∃ z : Int32, z = z3_12 + (1 : Int32) := ⟨_, rfl⟩
              refine lv_iinc (v := x8) (lv' := [(3, .int x8), (1, .int x7), (0, .ref (ad G (78))), (2, .int z2_4)]) hx hb dX11_harvest_37 hl (k := 3) rfl (by rw [ex8]; rfl) (by decide) rfl (fun ls hl => ?_)
              have tx8 : x8.toInt = z3_12.toInt + 1 := by rw [ex8, Jvm.Kit.i32_add (by omega) (by omega)]; omega
              refine lv_goto (tgt := 12) hx hb dX11_harvest_40 (by decide) ?_
              exact ih12 x7 x8 _ _ _ (by omega) (by omega) hw (lv_sub hl [2, 1, 3, 0] rfl)
        exact cut12 ((((4 - (0 : Int32).toInt).toNat : Int)).toNat + 1) z1_4 (0 : Int32) _ _ _ (by omega) (by omega) hw (lv_sub hl [1, 2, 3, 0] rfl)
  exact cut4 ((((64 - (0 : Int32).toInt).toNat : Int)).toNat + 1) (0 : Int32) (0 : Int32) _ _ _ (by omega) (by omega) hw (lv_sub hl [2, 1, 0] rfl)
set_option maxHeartbeats 4000000 in
set_option maxRecDepth 100000 in
theorem c_X11_walkedAll (l : Launch) (G : Gg) (hG : Ginj G) (σ : Sg) (hI0 : Inv σ) : MI l G yX11_walkedAll cX11_walkedAll 3 .int (rmO 1 22) σ [.ref (ad G (78))] (fun r σ' => σ' = σ ∧ (r = wkF σ 4)) := by
  refine MI.of (by decide +kernel) (Nat.le_of_ble_eq_true rfl) ?_
  intro p e s m a below meth c ls Q hx hb hml hts hown hk hw ret hl
  have hown : s.vm.findClass RX11 = some m.cls := hown
  have hl : lv_has ls 3 [(0, .ref (ad G (78)))] := hl
  have hI : K0 σ σ := K0.rf hI0
  have L0 : (0 : Int32).toInt = 0 := by decide
  have L1 : (1 : Int32).toInt = 1 := by decide
  have L4 : (4 : Int32).toInt = 4 := by decide
  have L6 : (6 : Int32).toInt = 6 := by decide
  generalize hHe : s.heap = H at hw ⊢
  generalize hLe : ([] : List Loc) = locs at hw ⊢
  refine lv_iconst (v := 0) hx hb dX11_walkedAll_0 (by decide) ?_
  refine lv_istore_n (lv' := [(1, .int (0 : Int32)), (0, .ref (ad G (78)))]) hx hb dX11_walkedAll_1 rfl hl (by decide) rfl (fun ls hl => ?_)
  refine lv_iconst (v := 0) hx hb dX11_walkedAll_2 (by decide) ?_
  refine lv_istore_n (lv' := [(2, .int (0 : Int32)), (1, .int (0 : Int32)), (0, .ref (ad G (78)))]) hx hb dX11_walkedAll_3 rfl hl (by decide) rfl (fun ls hl => ?_)
  have cut4 : ∀ (n : Nat) (z1_4 : Int32) (z2_4 : Int32) (H : Heap) (locs : List Loc) (ls : Array Slot), (0 ≤ z2_4.toInt ∧ z2_4.toInt ≤ 4) → (z1_4 = wkF σ z2_4.toNatClampNeg) → ((4 - z2_4.toInt).toNat : Int) < (n : Int) → Wo G σ s H locs → lv_has ls 3 [(0, .ref (ad G (78))), (1, .int z1_4), (2, .int z2_4)] → W p l e (rmO 1 22) s m a below meth c H locs 0 0 Q (F0 m 4 ls []) := by
    intro n4
    induction n4 with
    | zero =>
      intro z1_4 z2_4 H locs ls f4_0 f4_1 hm4 hw hl
      exfalso; omega
    | succ n4 ih4 =>
      intro z1_4 z2_4 H locs ls f4_0 f4_1 hm4 hw hl
      refine lv_iload_n hx hb dX11_walkedAll_4 rfl (lv_at hl 2 rfl) ?_
      refine lv_iconst (v := 4) hx hb dX11_walkedAll_5 (by decide) ?_
      refine lv_icmp_ge (tgt := 25) hx hb dX11_walkedAll_6 (by decide) (fun c6 => ?_) (fun c6 => ?_)
      · have c6i := Int32.le_iff_toInt_le.mp c6
        refine lv_iload_n hx hb dX11_walkedAll_25 rfl (lv_at hl 1 rfl) ?_
        exact ret z1_4 σ _ _ 26 _ (rfl) (⟨rfl, by rw [f4_1, show z2_4.toNatClampNeg = 4 from by have q := clI z2_4 (by omega); omega]⟩) hw dX11_walkedAll_26
      · have c6i := mt Int32.le_iff_toInt_le.mpr c6
        refine lv_iload_n hx hb dX11_walkedAll_9 rfl (lv_at hl 1 rfl) ?_
        refine lv_aload_n hx hb dX11_walkedAll_10 rfl (lv_at hl 0 rfl) ?_
        refine lv_iload_n hx hb dX11_walkedAll_11 rfl (lv_at hl 2 rfl) ?_
        refine lv_bipush (v := 6) hx hb dX11_walkedAll_12 (by decide) ?_
        refine te_vi hw (ru_V (As := [.int z2_4, .int (6 : Int32)]) (rest := [.int z1_4]) (C := RX11) hx hb hml hts hown hk hw (c_X11_of l G hG σ hI.1 z2_4 (6 : Int32) (by omega) (by omega)) (m4_in wd159 wd160 wd161 wd5) wd162 (en10 (rfl : nk 78 = 10)) rfl rfl rfl nm_yX11_of ⟨rfl, rfl⟩ ⟨by decide, by decide⟩ rfl hl.1 rfl (Nat.le_of_ble_eq_true rfl) dX11_walkedAll_14 ⟨Nat.zero_le _, Nat.zero_le _⟩) (fun r2 σ1 H locs hr2 hw => ?_)
        rw [hr2.1] at hw
        have hr2 := hr2.2
        have hw6 := hr2
        refine lv_iadd hx hb dX11_walkedAll_17 ?_
        refine lv_topi (fun x3 ex3 => ?_)
        have e1x := ex3
        refine lv_istore_n (lv' := [(1, .int x3), (0, .ref (ad G (78))), (2, .int z2_4)]) hx hb dX11_walkedAll_18 rfl hl (by decide) rfl (fun ls hl => ?_)
        obtain ⟨x4, ex4⟩ : ∃ z : Int32, z = z2_4 + (1 : Int32) := ⟨_, rfl⟩
        refine lv_iinc (v := x4) (lv' := [(2, .int x4), (1, .int x3), (0, .ref (ad G (78)))]) hx hb dX11_walkedAll_19 hl (k := 2) rfl (by rw [ex4]; rfl) (by decide) rfl (fun ls hl => ?_)
        have tx4 : x4.toInt = z2_4.toInt + 1 := by rw [ex4, Jvm.Kit.i32_add (by omega) (by omega)]; omega
        refine lv_goto (tgt := 4) hx hb dX11_walkedAll_22 (by decide) ?_
        exact ih4 x3 x4 _ _ _ (by omega) (by first | rfl | (rw [show x4.toNatClampNeg = z2_4.toNatClampNeg + 1 from by have q1 := clI x4 (by omega); have q2 := clI z2_4 (by omega); omega]; rw [e1x, f4_1, hw6]; show _ = wkF σ z2_4.toNatClampNeg + σ 79 (8 * z2_4.toNatClampNeg + 6); congr 2; have q2 := clI z2_4 (by omega); omega)) (by omega) hw (lv_sub hl [2, 1, 0] rfl)
  exact cut4 ((((4 - (0 : Int32).toInt).toNat : Int)).toNat + 1) (0 : Int32) (0 : Int32) _ _ _ (by omega) (by first | rfl | (rw [show (0 : Int32).toNatClampNeg = z2_4.toNatClampNeg + 1 from by have q1 := clI (0 : Int32) (by omega); have q2 := clI z2_4 (by omega); omega]; rw [e1x, f4_1, hw6]; show _ = wkF σ z2_4.toNatClampNeg + σ 79 (8 * z2_4.toNatClampNeg + 6); congr 2; have q2 := clI z2_4 (by omega); omega)) (by omega) hw (lv_sub hl [2, 1, 0] rfl)
set_option maxHeartbeats 4000000 in
set_option maxRecDepth 100000 in
theorem c_X11_partOf (l : Launch) (G : Gg) (hG : Ginj G) (σ : Sg) (hI0 : Inv σ) (v : Int32) (g1 : 0 ≤ v.toInt ∧ v.toInt ≤ 3) : MI l G yX11_partOf cX11_partOf 2 .int (rmO 2 44) σ [.ref (ad G (78)), .int v] (fun r σ' => σ' = σ ∧ (True)) := by
  refine MI.of (by decide +kernel) (Nat.le_of_ble_eq_true rfl) ?_
  intro p e s m a below meth c ls Q hx hb hml hts hown hk hw ret hl
  have hown : s.vm.findClass RX11 = some m.cls := hown
  have hl : lv_has ls 2 [(0, .ref (ad G (78))), (1, .int v)] := hl
  have hI : K0 σ σ := K0.rf hI0
  have L0 : (0 : Int32).toInt = 0 := by decide
  have L1 : (1 : Int32).toInt = 1 := by decide
  have L6 : (6 : Int32).toInt = 6 := by decide
  generalize hHe : s.heap = H at hw ⊢
  generalize hLe : ([] : List Loc) = locs at hw ⊢
  refine lv_aload_n hx hb dX11_partOf_0 rfl (lv_at hl 0 rfl) ?_
  refine te_vi hw (ru_V (As := []) (rest := []) (C := RX11) hx hb hml hts hown hk hw (c_X11_walkedAll l G hG σ hI.1) (m4_in wd718 wd719 wd720 wd5) wd721 (en10 (rfl : nk 78 = 10)) rfl rfl rfl nm_yX11_walkedAll ⟨rfl, rfl⟩ ⟨by decide, by decide⟩ rfl hl.1 rfl (Nat.le_of_ble_eq_true rfl) dX11_partOf_1 ⟨Nat.zero_le _, Nat.zero_le _⟩) (fun r2 σ1 H locs hr2 hw => ?_)
  rw [hr2.1] at hw
  have hr2 := hr2.2
  refine lv_if_ne (tgt := 11) hx hb dX11_partOf_4 (by decide) (fun c4 => ?_) (fun c4 => ?_)
  · have c4i := mt Int32.toInt_inj.mp c4
    refine lv_aload_n hx hb dX11_partOf_11 rfl (lv_at hl 0 rfl) ?_
    refine lv_iload_n hx hb dX11_partOf_12 rfl (lv_at hl 1 rfl) ?_
    refine lv_bipush (v := 6) hx hb dX11_partOf_13 (by decide) ?_
    refine te_vi hw (ru_V (As := [.int v, .int (6 : Int32)]) (rest := []) (C := RX11) hx hb hml hts hown hk hw (c_X11_of l G hG σ hI.1 v (6 : Int32) (by omega) (by omega)) (m4_in wd159 wd160 wd161 wd5) wd162 (en10 (rfl : nk 78 = 10)) rfl rfl rfl nm_yX11_of ⟨rfl, rfl⟩ ⟨by decide, by decide⟩ rfl hl.1 rfl (Nat.le_of_ble_eq_true rfl) dX11_partOf_15 ⟨Nat.zero_le _, Nat.zero_le _⟩) (fun r4 σ3 H locs hr4 hw => ?_)
    rw [hr4.1] at hw
    have hr4 := hr4.2
    exact ret r4 σ _ _ 18 _ (rfl) (⟨rfl, trivial⟩) hw dX11_partOf_18
  · have c4i := congrArg Int32.toInt c4
    refine lv_iconst (v := 1) hx hb dX11_partOf_7 (by decide) ?_
    refine lv_goto (tgt := 18) hx hb dX11_partOf_8 (by decide) ?_
    exact ret (1 : Int32) σ _ _ 18 _ (rfl) (⟨rfl, trivial⟩) hw dX11_partOf_18
set_option maxHeartbeats 4000000 in
set_option maxRecDepth 100000 in
theorem c_X11_restOf (l : Launch) (G : Gg) (hG : Ginj G) (σ : Sg) (hI0 : Inv σ) (v : Int32) (w : Int32) (g1 : 0 ≤ v.toInt ∧ v.toInt ≤ 3) (hz : ¬ w = 0) : ML l G yX11_restOf cX11_restOf 3 (rmO 3 65) σ [.ref (ad G (78)), .int v, .int w] (fun r σ' => σ' = σ ∧ (True)) := by
  refine ML.of (by decide +kernel) (Nat.le_of_ble_eq_true rfl) ?_
  intro p e s m a below meth c ls Q hx hb hml hts hown hk hw ret hl
  have hown : s.vm.findClass RX11 = some m.cls := hown
  have hl : lv_has ls 3 [(0, .ref (ad G (78))), (1, .int v), (2, .int w)] := hl
  have hI : K0 σ σ := K0.rf hI0
  generalize hHe : s.heap = H at hw ⊢
  generalize hLe : ([] : List Loc) = locs at hw ⊢
  refine lv_aload_n hx hb dX11_restOf_0 rfl (lv_at hl 0 rfl) ?_
  refine te_vi hw (ru_V (As := []) (rest := []) (C := RX11) hx hb hml hts hown hk hw (c_X11_harvest l G hG σ hI.1) (m4_in wd714 wd715 wd716 wd5) wd717 (en10 (rfl : nk 78 = 10)) rfl rfl rfl nm_yX11_harvest ⟨rfl, rfl⟩ ⟨by decide, by decide⟩ rfl hl.1 rfl (Nat.le_of_ble_eq_true rfl) dX11_restOf_1 ⟨Nat.zero_le _, Nat.zero_le _⟩) (fun r2 σ1 H locs hr2 hw => ?_)
  rw [hr2.1] at hw
  have hr2 := hr2.2
  refine lv_i2l hx hb dX11_restOf_4 rfl ?_
  refine lv_aload_n hx hb dX11_restOf_5 rfl (lv_at hl 0 rfl) ?_
  refine lv_iload_n hx hb dX11_restOf_6 rfl (lv_at hl 1 rfl) ?_
  refine te_vi hw (ru_V (As := [.int v]) (rest := [.long r2.toInt64]) (C := RX11) hx hb hml hts hown hk hw (c_X11_partOf l G hG σ hI.1 v (by omega)) (m4_in wd722 wd723 wd724 wd5) wd725 (en10 (rfl : nk 78 = 10)) rfl rfl rfl nm_yX11_partOf ⟨rfl, rfl⟩ ⟨by decide, by decide⟩ rfl hl.1 rfl (Nat.le_of_ble_eq_true rfl) dX11_restOf_7 ⟨Nat.zero_le _, Nat.zero_le _⟩) (fun r4 σ3 H locs hr4 hw => ?_)
  rw [hr4.1] at hw
  have hr4 := hr4.2
  refine lv_i2l hx hb dX11_restOf_10 rfl ?_
  refine lv_lmul hx hb dX11_restOf_11 ?_
  refine lv_topl (fun g5 eg5 => ?_)
  refine lv_iload_n hx hb dX11_restOf_12 rfl (lv_at hl 2 rfl) ?_
  refine lv_i2l hx hb dX11_restOf_13 rfl ?_
  refine lv_lrem hx hb dX11_restOf_14 (i64nz hz) ?_
  refine lv_topl (fun g6 eg6 => ?_)
  exact ret g6 σ _ _ 15 _ (⟨rfl, trivial⟩) hw dX11_restOf_15
set_option maxHeartbeats 4000000 in
set_option maxRecDepth 100000 in
theorem c_X11_share (l : Launch) (G : Gg) (hG : Ginj G) (σ : Sg) (hI0 : Inv σ) (v : Int32) : MI l G yX11_share cX11_share 9 .int (rmO 4 87) σ [.ref (ad G (78)), .int v] (fun r σ' => σ' = σ ∧ (True)) := by
  refine MI.of (by decide +kernel) (Nat.le_of_ble_eq_true rfl) ?_
  intro p e s m a below meth c ls Q hx hb hml hts hown hk hw ret hl
  have hown : s.vm.findClass RX11 = some m.cls := hown
  have hl : lv_has ls 9 [(0, .ref (ad G (78))), (1, .int v)] := hl
  have hI : K0 σ σ := K0.rf hI0
  have Lm1 : (-1 : Int32).toInt = -1 := by decide
  have L0 : (0 : Int32).toInt = 0 := by decide
  have L1 : (1 : Int32).toInt = 1 := by decide
  have L4 : (4 : Int32).toInt = 4 := by decide
  generalize hHe : s.heap = H at hw ⊢
  generalize hLe : ([] : List Loc) = locs at hw ⊢
  refine lv_iload_n hx hb dX11_share_0 rfl (lv_at hl 1 rfl) ?_
  refine lv_iconst (v := -1) hx hb dX11_share_1 (by decide) ?_
  refine lv_icmp_eq (tgt := 14) hx hb dX11_share_2 (by decide) (fun c2 => ?_) (fun c2 => ?_)
  · have ov := i32b v
    have c2i := congrArg Int32.toInt c2
    refine lv_aload_n hx hb dX11_share_14 rfl (lv_at hl 0 rfl) ?_
    refine te_vi hw (ru_V (As := []) (rest := []) (C := RX11) hx hb hml hts hown hk hw (c_X11_harvest l G hG σ hI.1) (m4_in wd714 wd715 wd716 wd5) wd717 (en10 (rfl : nk 78 = 10)) rfl rfl rfl nm_yX11_harvest ⟨rfl, rfl⟩ ⟨by decide, by decide⟩ rfl hl.1 rfl (Nat.le_of_ble_eq_true rfl) dX11_share_15 ⟨Nat.zero_le _, Nat.zero_le _⟩) (fun r2 σ1 H locs hr2 hw => ?_)
    rw [hr2.1] at hw
    have hr2 := hr2.2
    refine lv_istore_n (lv' := [(2, .int r2), (0, .ref (ad G (78))), (1, .int v)]) hx hb dX11_share_18 rfl hl (by decide) rfl (fun ls hl => ?_)
    refine lv_iload_n hx hb dX11_share_19 rfl (lv_at hl 2 rfl) ?_
    refine lv_iconst (v := -1) hx hb dX11_share_20 (by decide) ?_
    refine lv_icmp_ne (tgt := 26) hx hb dX11_share_21 (by decide) (fun c21 => ?_) (fun c21 => ?_)
    · have c21i := mt Int32.toInt_inj.mp c21
      exfalso; omega
    · have c21i := congrArg Int32.toInt c21
      refine lv_iload_n hx hb dX11_share_24 rfl (lv_at hl 0 rfl) ?_
      exact ret r2 σ _ _ 25 _ (rfl) (⟨rfl, trivial⟩) hw dX11_share_25
  · have ov := i32b v
    have c2i := mt Int32.toInt_inj.mp c2
    refine lv_iload_n hx hb dX11_share_5 rfl (lv_at hl 1 rfl) ?_
    refine te_vi hw (ru_S (As := [.int v]) (rest := []) hx hb hml hts hown hk hw (c_X11_isSower l G hG σ hI.1 v) (m3_in wd152 wd153 wd5) wd154 nm_yX11_isSower ⟨rfl, rfl⟩ ⟨by decide, by decide⟩ rfl hl.1 rfl (Nat.le_of_ble_eq_true rfl) dX11_share_6 ⟨Nat.zero_le _, Nat.zero_le _⟩) (fun r4 σ3 H locs hr4 hw => ?_)
    rw [hr4.1] at hw
    have hr4 := hr4.2
    refine lv_if_ne (tgt := 14) hx hb dX11_share_9 (by decide) (fun c9 => ?_) (fun c9 => ?_)
    · have c9i := mt Int32.toInt_inj.mp c9
      have p9 := bz1 hr4 c9
      refine lv_aload_n hx hb dX11_share_14 rfl (lv_at hl 0 rfl) ?_
      refine te_vi hw (ru_V (As := []) (rest := []) (C := RX11) hx hb hml hts hown hk hw (c_X11_harvest l G hG σ hI.1) (m4_in wd714 wd715 wd716 wd5) wd717 (en10 (rfl : nk 78 = 10)) rfl rfl rfl nm_yX11_harvest ⟨rfl, rfl⟩ ⟨by decide, by decide⟩ rfl hl.1 rfl (Nat.le_of_ble_eq_true rfl) dX11_share_15 ⟨Nat.zero_le _, Nat.zero_le _⟩) (fun r6 σ5 H locs hr6 hw => ?_)
      rw [hr6.1] at hw
      have hr6 := hr6.2
      refine lv_istore_n (lv' := [(2, .int r6), (0, .ref (ad G (78))), (1, .int v)]) hx hb dX11_share_18 rfl hl (by decide) rfl (fun ls hl => ?_)
      refine lv_iload_n hx hb dX11_share_19 rfl (lv_at hl 2 rfl) ?_
      refine lv_iconst (v := -1) hx hb dX11_share_20 (by decide) ?_
      refine lv_icmp_ne (tgt := 26) hx hb dX11_share_21 (by decide) (fun c21 => ?_) (fun c21 => ?_)
      · have c21i := mt Int32.toInt_inj.mp c21
        have cut41 : ∀ (u0_41 : Int32) (H : Heap) (locs : List Loc) (ls : Array Slot), (¬ u0_41 = 0) → Wo G σ s H locs → lv_has ls 9 [(0, .ref (ad G (78))), (1, .int v), (2, .int r6)] → W p l e (rmO 4 87) s m a below meth c H locs 0 0 Q (F0 m 41 ls [.int u0_41]) := by
          intro u0_41 H locs ls f41_0 hw hl
          refine lv_istore_n (lv' := [(3, .int u0_41), (0, .ref (ad G (78))), (1, .int v), (2, .int r6)]) hx hb dX11_share_41 rfl hl (by decide) rfl (fun ls hl => ?_)
          refine lv_iload_n hx hb dX11_share_42 rfl (lv_at hl 3 rfl) ?_
          refine lv_istore (lv' := [(4, .int r6), (3, .int u0_41), (0, .ref (ad G (78))), (1, .int v), (2, .int r6)]) hx hb dX11_share_43 hl (by decide) rfl (fun ls hl => ?_)
          refine lv_iconst (v := 0) hx hb dX11_share_45 (by decide) ?_
          refine lv_istore (lv' := [(5, .int (0 : Int32)), (4, .int r6), (3, .int u0_41), (0, .ref (ad G (78))), (1, .int v), (2, .int r6)]) hx hb dX11_share_46 hl (by decide) rfl (fun ls hl => ?_)
          refine lv_iconst (v := 0) hx hb dX11_share_48 (by decide) ?_
          refine lv_istore (lv' := [(6, .int (0 : Int32)), (5, .int (0 : Int32)), (4, .int r6), (3, .int u0_41), (0, .ref (ad G (78))), (1, .int v), (2, .int r6)]) hx hb dX11_share_49 hl (by decide) rfl (fun ls hl => ?_)
          have cut51 : ∀ (n : Nat) (z4_51 : Int32) (z5_51 : Int32) (z6_51 : Int32) (H : Heap) (locs : List Loc) (ls : Array Slot), (0 ≤ z6_51.toInt ∧ z6_51.toInt ≤ 4) → ((4 - z6_51.toInt).toNat : Int) < (n : Int) → Wo G σ s H locs → lv_has ls 9 [(0, .ref (ad G (78))), (1, .int v), (2, .int r6), (3, .int u0_41), (4, .int z4_51), (5, .int z5_51), (6, .int z6_51)] → W p l e (rmO 4 87) s m a below meth c H locs 0 0 Q (F0 m 51 ls []) := by
            intro n51
            induction n51 with
            | zero =>
              intro z4_51 z5_51 z6_51 H locs ls f51_0 hm51 hw hl
              exfalso; omega
            | succ n51 ih51 =>
              intro z4_51 z5_51 z6_51 H locs ls f51_0 hm51 hw hl
              refine lv_iload hx hb dX11_share_51 (lv_at hl 6 rfl) ?_
              refine lv_iconst (v := 4) hx hb dX11_share_53 (by decide) ?_
              refine lv_icmp_ge (tgt := 128) hx hb dX11_share_54 (by decide) (fun c54 => ?_) (fun c54 => ?_)
              · have c54i := Int32.le_iff_toInt_le.mp c54
                refine lv_iload_n hx hb dX11_share_128 rfl (lv_at hl 2 rfl) ?_
                refine lv_i2l hx hb dX11_share_129 rfl ?_
                refine lv_aload_n hx hb dX11_share_130 rfl (lv_at hl 0 rfl) ?_
                refine lv_iload_n hx hb dX11_share_131 rfl (lv_at hl 1 rfl) ?_
                refine te_vi hw (ru_V (As := [.int v]) (rest := [.long r6.toInt64]) (C := RX11) hx hb hml hts hown hk hw (c_X11_partOf l G hG σ hI.1 v (by omega)) (m4_in wd722 wd723 wd724 wd5) wd725 (en10 (rfl : nk 78 = 10)) rfl rfl rfl nm_yX11_partOf ⟨rfl, rfl⟩ ⟨by decide, by decide⟩ rfl hl.1 rfl (Nat.le_of_ble_eq_true rfl) dX11_share_132 ⟨Nat.zero_le _, Nat.zero_le _⟩) (fun r8 σ7 H locs hr8 hw => ?_)
                rw [hr8.1] at hw
                have hr8 := hr8.2
                refine lv_i2l hx hb dX11_share_135 rfl ?_
                refine lv_lmul hx hb dX11_share_136 ?_
                refine lv_topl (fun g9 eg9 => ?_)
                refine lv_iload_n hx hb dX11_share_137 rfl (lv_at hl 3 rfl) ?_
                refine lv_i2l hx hb dX11_share_138 rfl ?_
                refine lv_ldiv hx hb dX11_share_139 (i64nz f41_0) ?_
                refine lv_topl (fun g10 eg10 => ?_)
                refine lv_l2i hx hb dX11_share_140 rfl ?_
                refine lv_topi (fun x11 ex11 => ?_)
                refine lv_iload hx hb dX11_share_141 (lv_at hl 5 rfl) ?_
                refine lv_iload hx hb dX11_share_143 (lv_at hl 4 rfl) ?_
                refine lv_icmp_ge (tgt := 152) hx hb dX11_share_145 (by decide) (fun c145 => ?_) (fun c145 => ?_)
                · have oz5_51 := i32b z5_51
                  have oz4_51 := i32b z4_51
                  have c145i := Int32.le_iff_toInt_le.mp c145
                  refine lv_iconst (v := 0) hx hb dX11_share_152 (by decide) ?_
                  refine lv_iadd hx hb dX11_share_153 ?_
                  refine lv_topi (fun x12 ex12 => ?_)
                  have ox11 := i32b x11
                  have tx12 : x12.toInt = x11.toInt + (0 : Int32).toInt := by rw [ex12]; exact Jvm.Kit.i32_add (by omega) (by omega)
                  exact ret x12 σ _ _ 154 _ (rfl) (⟨rfl, trivial⟩) hw dX11_share_154
                · have oz5_51 := i32b z5_51
                  have oz4_51 := i32b z4_51
                  have c145i := mt Int32.le_iff_toInt_le.mpr c145
                  refine lv_iconst (v := 1) hx hb dX11_share_148 (by decide) ?_
                  refine lv_goto (tgt := 153) hx hb dX11_share_149 (by decide) ?_
                  refine lv_iadd hx hb dX11_share_153 ?_
                  refine lv_topi (fun x13 ex13 => ?_)
                  exact ret x13 σ _ _ 154 _ (rfl) (⟨rfl, trivial⟩) hw dX11_share_154
              · have c54i := mt Int32.le_iff_toInt_le.mpr c54
                refine lv_iload hx hb dX11_share_57 (lv_at hl 4 rfl) ?_
                refine lv_iload_n hx hb dX11_share_59 rfl (lv_at hl 2 rfl) ?_
                refine lv_i2l hx hb dX11_share_60 rfl ?_
                refine lv_aload_n hx hb dX11_share_61 rfl (lv_at hl 0 rfl) ?_
                refine lv_iload hx hb dX11_share_62 (lv_at hl 6 rfl) ?_
                refine te_vi hw (ru_V (As := [.int z6_51]) (rest := [.long r6.toInt64, .int z4_51]) (C := RX11) hx hb hml hts hown hk hw (c_X11_partOf l G hG σ hI.1 z6_51 (by omega)) (m4_in wd722 wd723 wd724 wd5) wd725 (en10 (rfl : nk 78 = 10)) rfl rfl rfl nm_yX11_partOf ⟨rfl, rfl⟩ ⟨by decide, by decide⟩ rfl hl.1 rfl (Nat.le_of_ble_eq_true rfl) dX11_share_64 ⟨Nat.zero_le _, Nat.zero_le _⟩) (fun r15 σ14 H locs hr15 hw => ?_)
                rw [hr15.1] at hw
                have hr15 := hr15.2
                refine lv_i2l hx hb dX11_share_67 rfl ?_
                refine lv_lmul hx hb dX11_share_68 ?_
                refine lv_topl (fun g16 eg16 => ?_)
                refine lv_iload_n hx hb dX11_share_69 rfl (lv_at hl 3 rfl) ?_
                refine lv_i2l hx hb dX11_share_70 rfl ?_
                refine lv_ldiv hx hb dX11_share_71 (i64nz f41_0) ?_
                refine lv_topl (fun g17 eg17 => ?_)
                refine lv_l2i hx hb dX11_share_72 rfl ?_
                refine lv_topi (fun x18 ex18 => ?_)
                refine lv_isub hx hb dX11_share_73 ?_
                refine lv_topi (fun x19 ex19 => ?_)
                refine lv_istore (lv' := [(4, .int x19), (0, .ref (ad G (78))), (1, .int v), (2, .int r6), (3, .int u0_41), (5, .int z5_51), (6, .int z6_51)]) hx hb dX11_share_74 hl (by decide) rfl (fun ls hl => ?_)
                refine lv_aload_n hx hb dX11_share_76 rfl (lv_at hl 1 rfl) ?_
                refine lv_iload hx hb dX11_share_77 (lv_at hl 6 rfl) ?_
                refine lv_iload_n hx hb dX11_share_79 rfl (lv_at hl 4 rfl) ?_
                refine te_vl hw (ru_V (As := [.int z6_51, .int u0_41]) (rest := []) (C := RX11) hx hb hml hts hown hk hw (c_X11_restOf l G hG σ hI.1 z6_51 u0_41 (by omega) f41_0) (m4_in wd726 wd727 wd728 wd5) wd729 (en10 (rfl : nk 78 = 10)) rfl rfl rfl nm_yX11_restOf ⟨rfl, rfl⟩ ⟨by decide, by decide⟩ rfl hl.1 rfl (Nat.le_of_ble_eq_true rfl) dX11_share_80 ⟨Nat.zero_le _, Nat.zero_le _⟩) (fun r21 σ20 H locs hr21 hw => ?_)
                rw [hr21.1] at hw
                have hr21 := hr21.2
                refine lv_aload_n hx hb dX11_share_83 rfl (lv_at hl 1 rfl) ?_
                refine lv_iload_n hx hb dX11_share_84 rfl (lv_at hl 2 rfl) ?_
                refine lv_iload_n hx hb dX11_share_85 rfl (lv_at hl 4 rfl) ?_
                refine te_vl hw (ru_V (As := [.int v, .int u0_41]) (rest := [.long r21]) (C := RX11) hx hb hml hts hown hk hw (c_X11_restOf l G hG σ hI.1 v u0_41 (by omega) f41_0) (m4_in wd726 wd727 wd728 wd5) wd729 (en10 (rfl : nk 78 = 10)) rfl rfl rfl nm_yX11_restOf ⟨rfl, rfl⟩ ⟨by decide, by decide⟩ rfl hl.1 rfl (Nat.le_of_ble_eq_true rfl) dX11_share_86 ⟨Nat.zero_le _, Nat.zero_le _⟩) (fun r23 σ22 H locs hr23 hw => ?_)
                rw [hr23.1] at hw
                have hr23 := hr23.2
                refine lv_lsub hx hb dX11_share_89 ?_
                refine lv_topl (fun g24 eg24 => ?_)
                refine lv_lstore (lv' := [(7, .long g24), (4, .int x19), (0, .ref (ad G (78))), (1, .int v), (2, .int r6), (3, .int u0_41), (5, .int z5_51), (6, .int z6_51)]) hx hb dX11_share_90 hl (by decide) rfl (fun ls hl => ?_)
                refine lv_iload hx hb dX11_share_92 (lv_at hl 6 rfl) ?_
                refine lv_lload hx hb dX11_share_94 (lv_at hl 0 rfl) ?_
                refine lv_lconst (v := 0) hx hb dX11_share_96 (by decide) ?_
                refine W.lcmp hx hb dX11_share_97 ?_
                refine lv_if_gt (tgt := 114) hx hb dX11_share_98 (by decide) (fun c98 => ?_) (fun c98 => ?_)
                · have c98i := Int64.lt_iff_toInt_lt.mp ((lg_cmp_gt _ _).mp c98)
                  refine lv_iconst (v := 1) hx hb dX11_share_114 (by decide) ?_
                  refine lv_goto (tgt := 119) hx hb dX11_share_115 (by decide) ?_
                  refine lv_iadd hx hb dX11_share_119 ?_
                  refine lv_topi (fun x25 ex25 => ?_)
                  refine lv_istore (lv' := [(5, .int x25), (7, .long g24), (4, .int x19), (0, .ref (ad G (78))), (1, .int v), (2, .int r6), (3, .int u0_41), (6, .int z6_51)]) hx hb dX11_share_120 hl (by decide) rfl (fun ls hl => ?_)
                  obtain ⟨x26, ex26⟩ : ∃ z : Int32, z = z6_51 + (1 : Int32) := ⟨_, rfl⟩
                  refine lv_iinc (v := x26) (lv' := [(6, .int x26), (5, .int x25), (7, .long g24), (4, .int x19), (0, .ref (ad G (78))), (1, .int v), (2, .int r6), (3, .int u0_41)]) hx hb dX11_share_122 hl (k := 7) rfl (by rw [ex26]; rfl) (by decide) rfl (fun ls hl => ?_)
                  have tx26 : x26.toInt = z6_51.toInt + 1 := by rw [ex26, Jvm.Kit.i32_add (by omega) (by omega)]; omega
                  refine lv_goto (tgt := 51) hx hb dX11_share_125 (by decide) ?_
                  exact ih51 x19 x25 x26 _ _ _ (by omega) (by omega) hw (lv_sub hl [4, 5, 6, 7, 3, 1, 0] rfl)
                · have c98i := mt (fun z => (lg_cmp_gt _ _).mpr (Int64.lt_iff_toInt_lt.mpr z)) c98
                  refine lv_lload hx hb dX11_share_101 (lv_at hl 0 rfl) ?_
                  refine lv_lconst (v := 0) hx hb dX11_share_103 (by decide) ?_
                  refine W.lcmp hx hb dX11_share_104 ?_
                  refine lv_if_ne (tgt := 118) hx hb dX11_share_105 (by decide) (fun c105 => ?_) (fun c105 => ?_)
                  · have c105i := mt (fun z => (lg_cmp_eq _ _).mpr (Int64.toInt_inj.symm.mpr z)) c105
                    refine lv_iconst (v := 0) hx hb dX11_share_118 (by decide) ?_
                    refine lv_iadd hx hb dX11_share_119 ?_
                    refine lv_topi (fun x27 ex27 => ?_)
                    have oz5_51 := i32b z5_51
                    have tx27 : x27.toInt = z5_51.toInt + (0 : Int32).toInt := by rw [ex27]; exact Jvm.Kit.i32_add (by omega) (by omega)
                    refine lv_istore (lv' := [(5, .int x27), (7, .long g24), (4, .int x19), (0, .ref (ad G (78))), (1, .int v), (2, .int r6), (3, .int u0_41), (6, .int z6_51)]) hx hb dX11_share_120 hl (by decide) rfl (fun ls hl => ?_)
                    obtain ⟨x28, ex28⟩ : ∃ z : Int32, z = z6_51 + (1 : Int32) := ⟨_, rfl⟩
                    refine lv_iinc (v := x28) (lv' := [(6, .int x28), (5, .int x27), (7, .long g24), (4, .int x19), (0, .ref (ad G (78))), (1, .int v), (2, .int r6), (3, .int u0_41)]) hx hb dX11_share_122 hl (k := 7) rfl (by rw [ex28]; rfl) (by decide) rfl (fun ls hl => ?_)
                    have tx28 : x28.toInt = z6_51.toInt + 1 := by rw [ex28, Jvm.Kit.i32_add (by omega) (by omega)]; omega
                    refine lv_goto (tgt := 51) hx hb dX11_share_125 (by decide) ?_
                    exact ih51 x19 x27 x28 _ _ _ (by omega) (by omega) hw (lv_sub hl [4, 5, 6, 7, 3, 1, 0] rfl)
                  · have c105i := Int64.toInt_inj.symm.mp ((lg_cmp_eq _ _).mp c105)
                    refine lv_iload hx hb dX11_share_108 (lv_at hl 7 rfl) ?_
                    refine lv_iload_n hx hb dX11_share_110 rfl (lv_at hl 3 rfl) ?_
                    refine lv_icmp_ge (tgt := 118) hx hb dX11_share_111 (by decide) (fun c111 => ?_) (fun c111 => ?_)
                    · have c111i := Int32.le_iff_toInt_le.mp c111
                      refine lv_iconst (v := 0) hx hb dX11_share_118 (by decide) ?_
                      refine lv_iadd hx hb dX11_share_119 ?_
                      refine lv_topi (fun x29 ex29 => ?_)
                      have oz5_51 := i32b z5_51
                      have tx29 : x29.toInt = z5_51.toInt + (0 : Int32).toInt := by rw [ex29]; exact Jvm.Kit.i32_add (by omega) (by omega)
                      refine lv_istore (lv' := [(5, .int x29), (7, .long g24), (4, .int x19), (0, .ref (ad G (78))), (1, .int v), (2, .int r6), (3, .int u0_41), (6, .int z6_51)]) hx hb dX11_share_120 hl (by decide) rfl (fun ls hl => ?_)
                      obtain ⟨x30, ex30⟩ : ∃ z : Int32, z = z6_51 + (1 : Int32) := ⟨_, rfl⟩
                      refine lv_iinc (v := x30) (lv' := [(6, .int x30), (5, .int x29), (7, .long g24), (4, .int x19), (0, .ref (ad G (78))), (1, .int v), (2, .int r6), (3, .int u0_41)]) hx hb dX11_share_122 hl (k := 7) rfl (by rw [ex30]; rfl) (by decide) rfl (fun ls hl => ?_)
                      have tx30 : x30.toInt = z6_51.toInt + 1 := by rw [ex30, Jvm.Kit.i32_add (by omega) (by omega)]; omega
                      refine lv_goto (tgt := 51) hx hb dX11_share_125 (by decide) ?_
                      exact ih51 x19 x29 x30 _ _ _ (by omega) (by omega) hw (lv_sub hl [4, 5, 6, 7, 3, 1, 0] rfl)
                    · have c111i := mt Int32.le_iff_toInt_le.mpr c111
                      refine lv_iconst (v := 1) hx hb dX11_share_114 (by decide) ?_
                      refine lv_goto (tgt := 119) hx hb dX11_share_115 (by decide) ?_
                      refine lv_iadd hx hb dX11_share_119 ?_
                      refine lv_topi (fun x31 ex31 => ?_)
                      refine lv_istore (lv' := [(5, .int x31), (7, .long g24), (4, .int x19), (0, .ref (ad G (78))), (1, .int v), (2, .int r6), (3, .int u0_41), (6, .int z6_51)]) hx hb dX11_share_120 hl (by decide) rfl (fun ls hl => ?_)
                      obtain ⟨x32, ex32⟩ : ∃ z : Int32, z = z6_51 + (1 : Int32) := ⟨_, rfl⟩
                      refine lv_iinc (v := x32) (lv' := [(6, .int x32), (5, .int x31), (7, .long g24), (4, .int x19), (0, .ref (ad G (78))), (1, .int v), (2, .int r6), (3, .int u0_41)]) hx hb dX11_share_122 hl (k := 7) rfl (by rw [ex32]; rfl) (by decide) rfl (fun ls hl => ?_)
                      have tx32 : x32.toInt = z6_51.toInt + 1 := by rw [ex32, Jvm.Kit.i32_add (by omega) (by omega)]; omega
                      refine lv_goto (tgt := 51) hx hb dX11_share_125 (by decide) ?_
                      exact ih51 x19 x31 x32 _ _ _ (by omega) (by omega) hw (lv_sub hl [4, 5, 6, 7, 3, 1, 0] rfl)
          exact cut51 ((((4 - (0 : Int32).toInt).toNat : Int)).toNat + 1) r6 (0 : Int32) (0 : Int32) _ _ _ (by omega) (by omega) hw (lv_sub hl [4, 5, 6, 3, 2, 1, 0] rfl)
        refine lv_aload_n hx hb dX11_share_26 rfl (lv_at hl 1 rfl) ?_
        refine te_vi hw (ru_V (As := []) (rest := []) (C := RX11) hx hb hml hts hown hk hw (c_X11_walkedAll l G hG σ hI.1) (m4_in wd718 wd719 wd720 wd5) wd721 (en10 (rfl : nk 78 = 10)) rfl rfl rfl nm_yX11_walkedAll ⟨rfl, rfl⟩ ⟨by decide, by decide⟩ rfl hl.1 rfl (Nat.le_of_ble_eq_true rfl) dX11_share_27 ⟨Nat.zero_le _, Nat.zero_le _⟩) (fun r34 σ33 H locs hr34 hw => ?_)
        rw [hr34.1] at hw
        have hr34 := hr34.2
        have hA := hr34
        refine lv_if_ne (tgt := 37) hx hb dX11_share_30 (by decide) (fun c30 => ?_) (fun c30 => ?_)
        · have c30i := mt Int32.toInt_inj.mp c30
          refine lv_aload_n hx hb dX11_share_37 rfl (lv_at hl 1 rfl) ?_
          refine te_vi hw (ru_V (As := []) (rest := []) (C := RX11) hx hb hml hts hown hk hw (c_X11_walkedAll l G hG σ hI.1) (m4_in wd718 wd719 wd720 wd5) wd721 (en10 (rfl : nk 78 = 10)) rfl rfl rfl nm_yX11_walkedAll ⟨rfl, rfl⟩ ⟨by decide, by decide⟩ rfl hl.1 rfl (Nat.le_of_ble_eq_true rfl) dX11_share_38 ⟨Nat.zero_le _, Nat.zero_le _⟩) (fun r36 σ35 H locs hr36 hw => ?_)
          rw [hr36.1] at hw
          have hr36 := hr36.2
          have hB := hr36
          exact cut41 r36 _ _ _ (by first | decide | (rw [hB, ← hA]; exact c30)) hw (lv_sub hl [1, 2, 0] rfl)
        · have c30i := congrArg Int32.toInt c30
          refine lv_iconst (v := 4) hx hb dX11_share_33 (by decide) ?_
          refine lv_goto (tgt := 41) hx hb dX11_share_34 (by decide) ?_
          exact cut41 (4 : Int32) _ _ _ (by first | decide | (rw [hB, ← hA]; exact c30)) hw (lv_sub hl [1, 2, 0] rfl)
      · have c21i := congrArg Int32.toInt c21
        exfalso; omega
    · have c9i := congrArg Int32.toInt c9
      have p9 := bz0 hr4 c9
      refine lv_iconst (v := -1) hx hb dX11_share_12 (by decide) ?_
      exact ret (-1 : Int32) σ _ _ 13 _ (rfl) (⟨rfl, trivial⟩) hw dX11_share_13
set_option maxHeartbeats 4000000 in
set_option maxRecDepth 100000 in
theorem c_X11_facing (l : Launch) (G : Gg) (hG : Ginj G) (σ : Sg) (hI0 : Inv σ) (v : Int32) (w : Int32) : MI l G yX11_facing cX11_facing 8 .int (rmO 2 45) σ [.ref (ad G (78)), .int v, .int w] (fun r σ' => σ' = σ ∧ (True)) := by
  refine MI.of (by decide +kernel) (Nat.le_of_ble_eq_true rfl) ?_
  intro p e s m a below meth c ls Q hx hb hml hts hown hk hw ret hl
  have hown : s.vm.findClass RX11 = some m.cls := hown
  have hl : lv_has ls 8 [(0, .ref (ad G (78))), (1, .int v), (2, .int w)] := hl
  have hI : K0 σ σ := K0.rf hI0
  have Lm6 : (-6 : Int32).toInt = -6 := by decide
  have Lm2 : (-2 : Int32).toInt = -2 := by decide
  have Lm1 : (-1 : Int32).toInt = -1 := by decide
  have L0 : (0 : Int32).toInt = 0 := by decide
  have L1 : (1 : Int32).toInt = 1 := by decide
  have L2 : (2 : Int32).toInt = 2 := by decide
  have L4 : (4 : Int32).toInt = 4 := by decide
  have L8 : (8 : Int32).toInt = 8 := by decide
  have M0 : (0 : Int64).toInt = 0 := by decide
  have M7 : (7 : Int64).toInt = 7 := by decide
  generalize hHe : s.heap = H at hw ⊢
  generalize hLe : ([] : List Loc) = locs at hw ⊢
  refine lv_iload_n hx hb dX11_facing_0 rfl (lv_at hl 1 rfl) ?_
  refine te_vi hw (ru_S (As := [.int v]) (rest := []) hx hb hml hts hown hk hw (c_X11_isSower l G hG σ hI.1 v) (m3_in wd152 wd153 wd5) wd154 nm_yX11_isSower ⟨rfl, rfl⟩ ⟨by decide, by decide⟩ rfl hl.1 rfl (Nat.le_of_ble_eq_true rfl) dX11_facing_1 ⟨Nat.zero_le _, Nat.zero_le _⟩) (fun r2 σ1 H locs hr2 hw => ?_)
  rw [hr2.1] at hw
  have hr2 := hr2.2
  refine lv_if_ne (tgt := 9) hx hb dX11_facing_4 (by decide) (fun c4 => ?_) (fun c4 => ?_)
  · have c4i := mt Int32.toInt_inj.mp c4
    have p4 := bz1 hr2 c4
    refine lv_iload_n hx hb dX11_facing_9 rfl (lv_at hl 2 rfl) ?_
    refine lv_i2l hx hb dX11_facing_10 rfl ?_
    refine lv_lconst (v := 0) hx hb dX11_facing_11 (by decide) ?_
    refine lv_ldc2 hx hb hown (hts _ wd365) dX11_facing_12 ?_
    refine te_vi hw (ru_S (As := [.long w.toInt64, .long (0 : Int64), .long (7 : Int64)]) (rest := []) hx hb hml hts hown hk hw (c_X11_in l G hG σ hI.1 w.toInt64 (0 : Int64) (7 : Int64)) (m3_in wd156 wd157 wd5) wd158 nm_yX11_in ⟨rfl, rfl⟩ ⟨by decide, by decide⟩ rfl hl.1 rfl (Nat.le_of_ble_eq_true rfl) dX11_facing_15 ⟨Nat.zero_le _, Nat.zero_le _⟩) (fun r4 σ3 H locs hr4 hw => ?_)
    rw [hr4.1] at hw
    have hr4 := hr4.2
    simp only [Int32.toInt_toInt64] at hr4
    refine lv_if_ne (tgt := 24) hx hb dX11_facing_18 (by decide) (fun c18 => ?_) (fun c18 => ?_)
    · have c18i := mt Int32.toInt_inj.mp c18
      have p18 := bz1 hr4 c18
      refine lv_aload_n hx hb dX11_facing_24 rfl (lv_at hl 0 rfl) ?_
      refine lv_iload_n hx hb dX11_facing_25 rfl (lv_at hl 1 rfl) ?_
      refine lv_iconst (v := 4) hx hb dX11_facing_26 (by decide) ?_
      refine te_vi hw (ru_V (As := [.int v, .int (4 : Int32)]) (rest := []) (C := RX11) hx hb hml hts hown hk hw (c_X11_of l G hG σ hI.1 v (4 : Int32) (by omega) (by omega)) (m4_in wd159 wd160 wd161 wd5) wd162 (en10 (rfl : nk 78 = 10)) rfl rfl rfl nm_yX11_of ⟨rfl, rfl⟩ ⟨by decide, by decide⟩ rfl hl.1 rfl (Nat.le_of_ble_eq_true rfl) dX11_facing_27 ⟨Nat.zero_le _, Nat.zero_le _⟩) (fun r6 σ5 H locs hr6 hw => ?_)
      rw [hr6.1] at hw
      have hr6 := hr6.2
      refine lv_iconst (v := 2) hx hb dX11_facing_30 (by decide) ?_
      refine lv_isub hx hb dX11_facing_31 ?_
      refine lv_topi (fun x7 ex7 => ?_)
      refine lv_istore_n (lv' := [(3, .int x7), (0, .ref (ad G (78))), (1, .int v), (2, .int w)]) hx hb dX11_facing_32 rfl hl (by decide) rfl (fun ls hl => ?_)
      refine lv_iconst (v := 1) hx hb dX11_facing_33 (by decide) ?_
      refine lv_aload_n hx hb dX11_facing_34 rfl (lv_at hl 1 rfl) ?_
      refine lv_iload_n hx hb dX11_facing_35 rfl (lv_at hl 2 rfl) ?_
      refine lv_iconst (v := 1) hx hb dX11_facing_36 (by decide) ?_
      refine te_vi hw (ru_V (As := [.int v, .int (1 : Int32)]) (rest := [.int (1 : Int32)]) (C := RX11) hx hb hml hts hown hk hw (c_X11_of l G hG σ hI.1 v (1 : Int32) (by omega) (by omega)) (m4_in wd159 wd160 wd161 wd5) wd162 (en10 (rfl : nk 78 = 10)) rfl rfl rfl nm_yX11_of ⟨rfl, rfl⟩ ⟨by decide, by decide⟩ rfl hl.1 rfl (Nat.le_of_ble_eq_true rfl) dX11_facing_37 ⟨Nat.zero_le _, Nat.zero_le _⟩) (fun r9 σ8 H locs hr9 hw => ?_)
      rw [hr9.1] at hw
      have hr9 := hr9.2
      refine lv_ishl hx hb dX11_facing_40 ?_
      refine lv_topi (fun x10 ex10 => ?_)
      refine lv_istore (lv' := [(4, .int x10), (3, .int x7), (0, .ref (ad G (78))), (1, .int v), (2, .int w)]) hx hb dX11_facing_41 hl (by decide) rfl (fun ls hl => ?_)
      refine lv_iconst (v := 0) hx hb dX11_facing_43 (by decide) ?_
      refine lv_istore (lv' := [(5, .int (0 : Int32)), (4, .int x10), (3, .int x7), (0, .ref (ad G (78))), (1, .int v), (2, .int w)]) hx hb dX11_facing_44 hl (by decide) rfl (fun ls hl => ?_)
      have cut46 : ∀ (n : Nat) (z4_46 : Int32) (z5_46 : Int32) (H : Heap) (locs : List Loc) (ls : Array Slot), (0 ≤ z5_46.toInt ∧ z5_46.toInt ≤ 9) → ((9 - z5_46.toInt).toNat : Int) < (n : Int) → Wo G σ s H locs → lv_has ls 8 [(0, .ref (ad G (78))), (1, .int v), (2, .int w), (3, .int x7), (4, .int z4_46), (5, .int z5_46)] → W p l e (rmO 2 45) s m a below meth c H locs 0 0 Q (F0 m 46 ls []) := by
        intro n46
        induction n46 with
        | zero =>
          intro z4_46 z5_46 H locs ls f46_0 hm46 hw hl
          exfalso; omega
        | succ n46 ih46 =>
          intro z4_46 z5_46 H locs ls f46_0 hm46 hw hl
          refine lv_iload hx hb dX11_facing_46 (lv_at hl 5 rfl) ?_
          refine lv_bipush (v := 8) hx hb dX11_facing_48 (by decide) ?_
          refine lv_icmp_gt (tgt := 145) hx hb dX11_facing_50 (by decide) (fun c50 => ?_) (fun c50 => ?_)
          · have c50i := Int32.lt_iff_toInt_lt.mp c50
            refine lv_bipush (v := -6) hx hb dX11_facing_145 (by decide) ?_
            exact ret (-6 : Int32) σ _ _ 147 _ (rfl) (⟨rfl, trivial⟩) hw dX11_facing_147
          · have c50i := mt Int32.lt_iff_toInt_lt.mpr c50
            refine lv_iload hx hb dX11_facing_53 (lv_at hl 4 rfl) ?_
            refine lv_iload_n hx hb dX11_facing_55 rfl (lv_at hl 2 rfl) ?_
            refine lv_ishr hx hb dX11_facing_56 ?_
            refine lv_topi (fun x11 ex11 => ?_)
            refine lv_iconst (v := 1) hx hb dX11_facing_57 (by decide) ?_
            refine lv_iand hx hb dX11_facing_58 ?_
            refine lv_topi (fun x12 ex12 => ?_)
            refine lv_iconst (v := 1) hx hb dX11_facing_59 (by decide) ?_
            refine lv_icmp_ne (tgt := 66) hx hb dX11_facing_60 (by decide) (fun c60 => ?_) (fun c60 => ?_)
            · have ox12 := i32b x12
              have c60i := mt Int32.toInt_inj.mp c60
              refine lv_iload hx hb dX11_facing_66 (lv_at hl 4 rfl) ?_
              refine lv_istore (lv' := [(6, .int z4_46), (0, .ref (ad G (78))), (1, .int v), (2, .int w), (3, .int x7), (4, .int z4_46), (5, .int z5_46)]) hx hb dX11_facing_68 hl (by decide) rfl (fun ls hl => ?_)
              refine lv_iconst (v := 0) hx hb dX11_facing_70 (by decide) ?_
              refine lv_istore (lv' := [(7, .int (0 : Int32)), (6, .int z4_46), (0, .ref (ad G (78))), (1, .int v), (2, .int w), (3, .int x7), (4, .int z4_46), (5, .int z5_46)]) hx hb dX11_facing_71 hl (by decide) rfl (fun ls hl => ?_)
              have cut73 : ∀ (n : Nat) (z6_73 : Int32) (z7_73 : Int32) (H : Heap) (locs : List Loc) (ls : Array Slot), (0 ≤ z7_73.toInt ∧ z7_73.toInt ≤ 8) → ((8 - z7_73.toInt).toNat : Int) < (n : Int) → Wo G σ s H locs → lv_has ls 8 [(0, .ref (ad G (78))), (1, .int v), (2, .int w), (3, .int x7), (4, .int z4_46), (5, .int z5_46), (6, .int z6_73), (7, .int z7_73)] → W p l e (rmO 2 45) s m a below meth c H locs 0 0 Q (F0 m 73 ls []) := by
                intro n73
                induction n73 with
                | zero =>
                  intro z6_73 z7_73 H locs ls f73_0 hm73 hw hl
                  exfalso; omega
                | succ n73 ih73 =>
                  intro z6_73 z7_73 H locs ls f73_0 hm73 hw hl
                  refine lv_iload hx hb dX11_facing_73 (lv_at hl 7 rfl) ?_
                  refine lv_bipush (v := 8) hx hb dX11_facing_75 (by decide) ?_
                  refine lv_icmp_ge (tgt := 135) hx hb dX11_facing_77 (by decide) (fun c77 => ?_) (fun c77 => ?_)
                  · have c77i := Int32.le_iff_toInt_le.mp c77
                    refine lv_iload hx hb dX11_facing_135 (lv_at hl 6 rfl) ?_
                    refine lv_istore (lv' := [(4, .int z6_73), (0, .ref (ad G (78))), (1, .int v), (2, .int w), (3, .int x7), (5, .int z5_46), (6, .int z6_73), (7, .int z7_73)]) hx hb dX11_facing_137 hl (by decide) rfl (fun ls hl => ?_)
                    obtain ⟨x13, ex13⟩ : ∃ z : Int32, z = z5_46 + (1 : Int32) := ⟨_, rfl⟩
                    refine lv_iinc (v := x13) (lv' := [(5, .int x13), (4, .int z6_73), (0, .ref (ad G (78))), (1, .int v), (2, .int w), (3, .int x7), (6, .int z6_73), (7, .int z7_73)]) hx hb dX11_facing_139 hl (k := 5) rfl (by rw [ex13]; rfl) (by decide) rfl (fun ls hl => ?_)
                    have tx13 : x13.toInt = z5_46.toInt + 1 := by rw [ex13, Jvm.Kit.i32_add (by omega) (by omega)]; omega
                    refine lv_goto (tgt := 46) hx hb dX11_facing_142 (by decide) ?_
                    exact ih46 z6_73 x13 _ _ _ (by omega) (by omega) hw (lv_sub hl [2, 3, 4, 5, 1, 0] rfl)
                  · have c77i := mt Int32.le_iff_toInt_le.mpr c77
                    refine lv_iload hx hb dX11_facing_80 (lv_at hl 6 rfl) ?_
                    refine lv_iload hx hb dX11_facing_82 (lv_at hl 4 rfl) ?_
                    refine lv_iload hx hb dX11_facing_84 (lv_at hl 7 rfl) ?_
                    refine lv_ishr hx hb dX11_facing_86 ?_
                    refine lv_topi (fun x14 ex14 => ?_)
                    refine lv_iconst (v := 1) hx hb dX11_facing_87 (by decide) ?_
                    refine lv_iand hx hb dX11_facing_88 ?_
                    refine lv_topi (fun x15 ex15 => ?_)
                    refine lv_iconst (v := 1) hx hb dX11_facing_89 (by decide) ?_
                    refine lv_icmp_ne (tgt := 125) hx hb dX11_facing_90 (by decide) (fun c90 => ?_) (fun c90 => ?_)
                    · have ox15 := i32b x15
                      have c90i := mt Int32.toInt_inj.mp c90
                      refine lv_iconst (v := 0) hx hb dX11_facing_125 (by decide) ?_
                      refine lv_ior hx hb dX11_facing_126 ?_
                      refine lv_topi (fun x16 ex16 => ?_)
                      refine lv_istore (lv' := [(6, .int x16), (0, .ref (ad G (78))), (1, .int v), (2, .int w), (3, .int x7), (4, .int z4_46), (5, .int z5_46), (7, .int z7_73)]) hx hb dX11_facing_127 hl (by decide) rfl (fun ls hl => ?_)
                      obtain ⟨x17, ex17⟩ : ∃ z : Int32, z = z7_73 + (1 : Int32) := ⟨_, rfl⟩
                      refine lv_iinc (v := x17) (lv' := [(7, .int x17), (6, .int x16), (0, .ref (ad G (78))), (1, .int v), (2, .int w), (3, .int x7), (4, .int z4_46), (5, .int z5_46)]) hx hb dX11_facing_129 hl (k := 7) rfl (by rw [ex17]; rfl) (by decide) rfl (fun ls hl => ?_)
                      have tx17 : x17.toInt = z7_73.toInt + 1 := by rw [ex17, Jvm.Kit.i32_add (by omega) (by omega)]; omega
                      refine lv_goto (tgt := 73) hx hb dX11_facing_132 (by decide) ?_
                      exact ih73 x16 x17 _ _ _ (by omega) (by omega) hw (lv_sub hl [2, 3, 4, 5, 6, 7, 1, 0] rfl)
                    · have ox15 := i32b x15
                      have c90i := congrArg Int32.toInt c90
                      refine lv_iconst (v := 1) hx hb dX11_facing_93 (by decide) ?_
                      refine lv_iload hx hb dX11_facing_94 (lv_at hl 7 rfl) ?_
                      refine lv_iload_n hx hb dX11_facing_96 rfl (lv_at hl 3 rfl) ?_
                      refine lv_iadd hx hb dX11_facing_97 ?_
                      refine lv_topi (fun x18 ex18 => ?_)
                      refine lv_iconst (v := 1) hx hb dX11_facing_98 (by decide) ?_
                      refine lv_iadd hx hb dX11_facing_99 ?_
                      refine lv_topi (fun x19 ex19 => ?_)
                      refine lv_bipush (v := 8) hx hb dX11_facing_100 (by decide) ?_
                      refine lv_iadd hx hb dX11_facing_102 ?_
                      refine lv_topi (fun x20 ex20 => ?_)
                      refine lv_bipush (v := 8) hx hb dX11_facing_103 (by decide) ?_
                      refine lv_irem hx hb dX11_facing_105 (by decide) ?_
                      refine lv_topi (fun x21 ex21 => ?_)
                      have tx21 : -8 < x21.toInt ∧ x21.toInt < 8 := by rw [ex21]; exact irem_bd L8 (by decide)
                      refine lv_ishl hx hb dX11_facing_106 ?_
                      refine lv_topi (fun x22 ex22 => ?_)
                      refine lv_iconst (v := 1) hx hb dX11_facing_107 (by decide) ?_
                      refine lv_iload hx hb dX11_facing_108 (lv_at hl 7 rfl) ?_
                      refine lv_iload_n hx hb dX11_facing_110 rfl (lv_at hl 3 rfl) ?_
                      refine lv_iadd hx hb dX11_facing_111 ?_
                      refine lv_topi (fun x23 ex23 => ?_)
                      refine lv_iconst (v := 1) hx hb dX11_facing_112 (by decide) ?_
                      refine lv_isub hx hb dX11_facing_113 ?_
                      refine lv_topi (fun x24 ex24 => ?_)
                      refine lv_bipush (v := 8) hx hb dX11_facing_114 (by decide) ?_
                      refine lv_iadd hx hb dX11_facing_116 ?_
                      refine lv_topi (fun x25 ex25 => ?_)
                      refine lv_bipush (v := 8) hx hb dX11_facing_117 (by decide) ?_
                      refine lv_irem hx hb dX11_facing_119 (by decide) ?_
                      refine lv_topi (fun x26 ex26 => ?_)
                      have tx26 : -8 < x26.toInt ∧ x26.toInt < 8 := by rw [ex26]; exact irem_bd L8 (by decide)
                      refine lv_ishl hx hb dX11_facing_120 ?_
                      refine lv_topi (fun x27 ex27 => ?_)
                      refine lv_ior hx hb dX11_facing_121 ?_
                      refine lv_topi (fun x28 ex28 => ?_)
                      refine lv_goto (tgt := 126) hx hb dX11_facing_122 (by decide) ?_
                      refine lv_ior hx hb dX11_facing_126 ?_
                      refine lv_topi (fun x29 ex29 => ?_)
                      refine lv_istore (lv' := [(6, .int x29), (0, .ref (ad G (78))), (1, .int v), (2, .int w), (3, .int x7), (4, .int z4_46), (5, .int z5_46), (7, .int z7_73)]) hx hb dX11_facing_127 hl (by decide) rfl (fun ls hl => ?_)
                      obtain ⟨x30, ex30⟩ : ∃ z : Int32, z = z7_73 + (1 : Int32) := ⟨_, rfl⟩
                      refine lv_iinc (v := x30) (lv' := [(7, .int x30), (6, .int x29), (0, .ref (ad G (78))), (1, .int v), (2, .int w), (3, .int x7), (4, .int z4_46), (5, .int z5_46)]) hx hb dX11_facing_129 hl (k := 7) rfl (by rw [ex30]; rfl) (by decide) rfl (fun ls hl => ?_)
                      have tx30 : x30.toInt = z7_73.toInt + 1 := by rw [ex30, Jvm.Kit.i32_add (by omega) (by omega)]; omega
                      refine lv_goto (tgt := 73) hx hb dX11_facing_132 (by decide) ?_
                      exact ih73 x29 x30 _ _ _ (by omega) (by omega) hw (lv_sub hl [2, 3, 4, 5, 6, 7, 1, 0] rfl)
              exact cut73 ((((8 - (0 : Int32).toInt).toNat : Int)).toNat + 1) z4_46 (0 : Int32) _ _ _ (by omega) (by omega) hw (lv_sub hl [2, 3, 4, 5, 6, 7, 1, 0] rfl)
            · have ox12 := i32b x12
              have c60i := congrArg Int32.toInt c60
              refine lv_iload hx hb dX11_facing_63 (lv_at hl 5 rfl) ?_
              exact ret z5_46 σ _ _ 65 _ (rfl) (⟨rfl, trivial⟩) hw dX11_facing_65
      exact cut46 ((((9 - (0 : Int32).toInt).toNat : Int)).toNat + 1) x10 (0 : Int32) _ _ _ (by omega) (by omega) hw (lv_sub hl [3, 4, 5, 2, 1, 0] rfl)
    · have c18i := congrArg Int32.toInt c18
      have p18 := bz0 hr4 c18
      refine lv_bipush (v := -2) hx hb dX11_facing_21 (by decide) ?_
      exact ret (-2 : Int32) σ _ _ 23 _ (rfl) (⟨rfl, trivial⟩) hw dX11_facing_23
  · have c4i := congrArg Int32.toInt c4
    have p4 := bz0 hr2 c4
    refine lv_iconst (v := -1) hx hb dX11_facing_7 (by decide) ?_
    exact ret (-1 : Int32) σ _ _ 8 _ (rfl) (⟨rfl, trivial⟩) hw dX11_facing_8
set_option maxHeartbeats 4000000 in
set_option maxRecDepth 100000 in
theorem c_X11_rest (l : Launch) (G : Gg) (hG : Ginj G) (σ : Sg) (hI0 : Inv σ) (v : Int32) : MI l G yX11_rest cX11_rest 5 .int (rmO 2 45) σ [.ref (ad G (78)), .int v] (fun r σ' => σ' = σ ∧ (True)) := by
  refine MI.of (by decide +kernel) (Nat.le_of_ble_eq_true rfl) ?_
  intro p e s m a below meth c ls Q hx hb hml hts hown hk hw ret hl
  have hown : s.vm.findClass RX11 = some m.cls := hown
  have hl : lv_has ls 5 [(0, .ref (ad G (78))), (1, .int v)] := hl
  have hI : K0 σ σ := K0.rf hI0
  have Lm6 : (-6 : Int32).toInt = -6 := by decide
  have Lm1 : (-1 : Int32).toInt = -1 := by decide
  have L0 : (0 : Int32).toInt = 0 := by decide
  have L1 : (1 : Int32).toInt = 1 := by decide
  have L64 : (64 : Int32).toInt = 64 := by decide
  generalize hHe : s.heap = H at hw ⊢
  generalize hLe : ([] : List Loc) = locs at hw ⊢
  refine lv_iload_n hx hb dX11_rest_0 rfl (lv_at hl 1 rfl) ?_
  refine te_vi hw (ru_S (As := [.int v]) (rest := []) hx hb hml hts hown hk hw (c_X11_isSower l G hG σ hI.1 v) (m3_in wd152 wd153 wd5) wd154 nm_yX11_isSower ⟨rfl, rfl⟩ ⟨by decide, by decide⟩ rfl hl.1 rfl (Nat.le_of_ble_eq_true rfl) dX11_rest_1 ⟨Nat.zero_le _, Nat.zero_le _⟩) (fun r2 σ1 H locs hr2 hw => ?_)
  rw [hr2.1] at hw
  have hr2 := hr2.2
  refine lv_if_ne (tgt := 9) hx hb dX11_rest_4 (by decide) (fun c4 => ?_) (fun c4 => ?_)
  · have c4i := mt Int32.toInt_inj.mp c4
    have p4 := bz1 hr2 c4
    refine lv_bipush (v := -6) hx hb dX11_rest_9 (by decide) ?_
    refine lv_istore_n (lv' := [(2, .int (-6 : Int32)), (0, .ref (ad G (78))), (1, .int v)]) hx hb dX11_rest_11 rfl hl (by decide) rfl (fun ls hl => ?_)
    refine lv_iconst (v := 0) hx hb dX11_rest_12 (by decide) ?_
    refine lv_istore_n (lv' := [(3, .int (0 : Int32)), (2, .int (-6 : Int32)), (0, .ref (ad G (78))), (1, .int v)]) hx hb dX11_rest_13 rfl hl (by decide) rfl (fun ls hl => ?_)
    have cut14 : ∀ (n : Nat) (z2_14 : Int32) (z3_14 : Int32) (H : Heap) (locs : List Loc) (ls : Array Slot), (0 ≤ z3_14.toInt ∧ z3_14.toInt ≤ 64) → ((64 - z3_14.toInt).toNat : Int) < (n : Int) → Wo G σ s H locs → lv_has ls 5 [(0, .ref (ad G (78))), (1, .int v), (2, .int z2_14), (3, .int z3_14)] → W p l e (rmO 2 45) s m a below meth c H locs 0 0 Q (F0 m 14 ls []) := by
      intro n14
      induction n14 with
      | zero =>
        intro z2_14 z3_14 H locs ls f14_0 hm14 hw hl
        exfalso; omega
      | succ n14 ih14 =>
        intro z2_14 z3_14 H locs ls f14_0 hm14 hw hl
        refine lv_iload_n hx hb dX11_rest_14 rfl (lv_at hl 3 rfl) ?_
        refine lv_bipush (v := 64) hx hb dX11_rest_15 (by decide) ?_
        refine lv_icmp_ge (tgt := 79) hx hb dX11_rest_17 (by decide) (fun c17 => ?_) (fun c17 => ?_)
        · have c17i := Int32.le_iff_toInt_le.mp c17
          refine lv_iload_n hx hb dX11_rest_79 rfl (lv_at hl 2 rfl) ?_
          exact ret z2_14 σ _ _ 80 _ (rfl) (⟨rfl, trivial⟩) hw dX11_rest_80
        · have c17i := mt Int32.le_iff_toInt_le.mpr c17
          refine lv_iload_n hx hb dX11_rest_20 rfl (lv_at hl 2 rfl) ?_
          refine lv_if_lt (tgt := 47) hx hb dX11_rest_21 (by decide) (fun c21 => ?_) (fun c21 => ?_)
          · have c21i := Int32.lt_iff_toInt_lt.mp c21
            refine lv_iconst (v := 1) hx hb dX11_rest_47 (by decide) ?_
            refine lv_goto (tgt := 52) hx hb dX11_rest_48 (by decide) ?_
            refine lv_istore (lv' := [(4, .int (1 : Int32)), (0, .ref (ad G (78))), (1, .int v), (2, .int z2_14), (3, .int z3_14)]) hx hb dX11_rest_52 hl (by decide) rfl (fun ls hl => ?_)
            refine lv_aload_n hx hb dX11_rest_54 rfl (lv_at hl 1 rfl) ?_
            refine lv_iload_n hx hb dX11_rest_55 rfl (lv_at hl 4 rfl) ?_
            refine te_vi hw (ru_V (As := [.int z3_14]) (rest := []) (C := RX11) hx hb hml hts hown hk hw (c_X11_grainsIn l G hG σ hI.1 z3_14 (by omega)) (m4_in wd402 wd403 wd404 wd5) wd405 (en10 (rfl : nk 78 = 10)) rfl rfl rfl nm_yX11_grainsIn ⟨rfl, rfl⟩ ⟨by decide, by decide⟩ rfl hl.1 rfl (Nat.le_of_ble_eq_true rfl) dX11_rest_56 ⟨Nat.zero_le _, Nat.zero_le _⟩) (fun r4 σ3 H locs hr4 hw => ?_)
            rw [hr4.1] at hw
            have hr4 := hr4.2
            refine lv_if_ne (tgt := 71) hx hb dX11_rest_59 (by decide) (fun c59 => ?_) (fun c59 => ?_)
            · have c59i := mt Int32.toInt_inj.mp c59
              refine lv_iload_n hx hb dX11_rest_71 rfl (lv_at hl 3 rfl) ?_
              refine lv_istore_n (lv' := [(2, .int z2_14), (4, .int (1 : Int32)), (0, .ref (ad G (78))), (1, .int v), (3, .int z3_14)]) hx hb dX11_rest_72 rfl hl (by decide) rfl (fun ls hl => ?_)
              obtain ⟨x5, ex5⟩ : ∃ z : Int32, z = z3_14 + (1 : Int32) := ⟨_, rfl⟩
              refine lv_iinc (v := x5) (lv' := [(3, .int x5), (2, .int z2_14), (4, .int (1 : Int32)), (0, .ref (ad G (78))), (1, .int v)]) hx hb dX11_rest_73 hl (k := 4) rfl (by rw [ex5]; rfl) (by decide) rfl (fun ls hl => ?_)
              have tx5 : x5.toInt = z3_14.toInt + 1 := by rw [ex5, Jvm.Kit.i32_add (by omega) (by omega)]; omega
              refine lv_goto (tgt := 14) hx hb dX11_rest_76 (by decide) ?_
              exact ih14 z2_14 x5 _ _ _ (by omega) (by omega) hw (lv_sub hl [3, 4, 1, 0] rfl)
            · have c59i := congrArg Int32.toInt c59
              refine lv_iload hx hb dX11_rest_62 (lv_at hl 0 rfl) ?_
              refine lv_if_eq (tgt := 71) hx hb dX11_rest_64 (by decide) (fun c64 => ?_) (fun c64 => ?_)
              · have c64i := congrArg Int32.toInt c64
                exfalso; omega
              · have c64i := mt Int32.toInt_inj.mp c64
                refine lv_iload_n hx hb dX11_rest_67 rfl (lv_at hl 4 rfl) ?_
                refine lv_goto (tgt := 72) hx hb dX11_rest_68 (by decide) ?_
                refine lv_istore_n (lv' := [(2, .int z3_14), (4, .int (1 : Int32)), (0, .ref (ad G (78))), (1, .int v), (3, .int z3_14)]) hx hb dX11_rest_72 rfl hl (by decide) rfl (fun ls hl => ?_)
                obtain ⟨x6, ex6⟩ : ∃ z : Int32, z = z3_14 + (1 : Int32) := ⟨_, rfl⟩
                refine lv_iinc (v := x6) (lv' := [(3, .int x6), (2, .int z3_14), (4, .int (1 : Int32)), (0, .ref (ad G (78))), (1, .int v)]) hx hb dX11_rest_73 hl (k := 4) rfl (by rw [ex6]; rfl) (by decide) rfl (fun ls hl => ?_)
                have tx6 : x6.toInt = z3_14.toInt + 1 := by rw [ex6, Jvm.Kit.i32_add (by omega) (by omega)]; omega
                refine lv_goto (tgt := 14) hx hb dX11_rest_76 (by decide) ?_
                exact ih14 z3_14 x6 _ _ _ (by omega) (by omega) hw (lv_sub hl [3, 4, 1, 0] rfl)
          · have c21i := mt Int32.lt_iff_toInt_lt.mpr c21
            refine lv_iload_n hx hb dX11_rest_24 rfl (lv_at hl 3 rfl) ?_
            refine lv_aload_n hx hb dX11_rest_25 rfl (lv_at hl 0 rfl) ?_
            refine lv_iload_n hx hb dX11_rest_26 rfl (lv_at hl 1 rfl) ?_
            refine lv_iconst (v := 0) hx hb dX11_rest_27 (by decide) ?_
            refine te_vi hw (ru_V (As := [.int v, .int (0 : Int32)]) (rest := [.int z3_14]) (C := RX11) hx hb hml hts hown hk hw (c_X11_of l G hG σ hI.1 v (0 : Int32) (by omega) (by omega)) (m4_in wd159 wd160 wd161 wd5) wd162 (en10 (rfl : nk 78 = 10)) rfl rfl rfl nm_yX11_of ⟨rfl, rfl⟩ ⟨by decide, by decide⟩ rfl hl.1 rfl (Nat.le_of_ble_eq_true rfl) dX11_rest_28 ⟨Nat.zero_le _, Nat.zero_le _⟩) (fun r8 σ7 H locs hr8 hw => ?_)
            rw [hr8.1] at hw
            have hr8 := hr8.2
            refine te_vi hw (ru_S (As := [.int z3_14, .int r8]) (rest := []) hx hb hml hts hown hk hw (c_X11_far l G hG σ hI.1 z3_14 r8) (m3_in wd356 wd357 wd5) wd358 nm_yX11_far ⟨rfl, rfl⟩ ⟨by decide, by decide⟩ rfl hl.1 rfl (Nat.le_of_ble_eq_true rfl) dX11_rest_31 ⟨Nat.zero_le _, Nat.zero_le _⟩) (fun r10 σ9 H locs hr10 hw => ?_)
            rw [hr10.1] at hw
            have hr10 := hr10.2
            refine lv_iload_n hx hb dX11_rest_34 rfl (lv_at hl 2 rfl) ?_
            refine lv_aload_n hx hb dX11_rest_35 rfl (lv_at hl 0 rfl) ?_
            refine lv_iload_n hx hb dX11_rest_36 rfl (lv_at hl 1 rfl) ?_
            refine lv_iconst (v := 0) hx hb dX11_rest_37 (by decide) ?_
            refine te_vi hw (ru_V (As := [.int v, .int (0 : Int32)]) (rest := [.int z2_14, .int r10]) (C := RX11) hx hb hml hts hown hk hw (c_X11_of l G hG σ hI.1 v (0 : Int32) (by omega) (by omega)) (m4_in wd159 wd160 wd161 wd5) wd162 (en10 (rfl : nk 78 = 10)) rfl rfl rfl nm_yX11_of ⟨rfl, rfl⟩ ⟨by decide, by decide⟩ rfl hl.1 rfl (Nat.le_of_ble_eq_true rfl) dX11_rest_38 ⟨Nat.zero_le _, Nat.zero_le _⟩) (fun r12 σ11 H locs hr12 hw => ?_)
            rw [hr12.1] at hw
            have hr12 := hr12.2
            refine te_vi hw (ru_S (As := [.int z2_14, .int r12]) (rest := [.int r10]) hx hb hml hts hown hk hw (c_X11_far l G hG σ hI.1 z2_14 r12) (m3_in wd356 wd357 wd5) wd358 nm_yX11_far ⟨rfl, rfl⟩ ⟨by decide, by decide⟩ rfl hl.1 rfl (Nat.le_of_ble_eq_true rfl) dX11_rest_41 ⟨Nat.zero_le _, Nat.zero_le _⟩) (fun r14 σ13 H locs hr14 hw => ?_)
            rw [hr14.1] at hw
            have hr14 := hr14.2
            refine lv_icmp_ge (tgt := 51) hx hb dX11_rest_44 (by decide) (fun c44 => ?_) (fun c44 => ?_)
            · have or10 := i32b r10
              have or14 := i32b r14
              have c44i := Int32.le_iff_toInt_le.mp c44
              refine lv_iconst (v := 0) hx hb dX11_rest_51 (by decide) ?_
              refine lv_istore (lv' := [(4, .int (0 : Int32)), (0, .ref (ad G (78))), (1, .int v), (2, .int z2_14), (3, .int z3_14)]) hx hb dX11_rest_52 hl (by decide) rfl (fun ls hl => ?_)
              refine lv_aload_n hx hb dX11_rest_54 rfl (lv_at hl 1 rfl) ?_
              refine lv_iload_n hx hb dX11_rest_55 rfl (lv_at hl 4 rfl) ?_
              refine te_vi hw (ru_V (As := [.int z3_14]) (rest := []) (C := RX11) hx hb hml hts hown hk hw (c_X11_grainsIn l G hG σ hI.1 z3_14 (by omega)) (m4_in wd402 wd403 wd404 wd5) wd405 (en10 (rfl : nk 78 = 10)) rfl rfl rfl nm_yX11_grainsIn ⟨rfl, rfl⟩ ⟨by decide, by decide⟩ rfl hl.1 rfl (Nat.le_of_ble_eq_true rfl) dX11_rest_56 ⟨Nat.zero_le _, Nat.zero_le _⟩) (fun r16 σ15 H locs hr16 hw => ?_)
              rw [hr16.1] at hw
              have hr16 := hr16.2
              refine lv_if_ne (tgt := 71) hx hb dX11_rest_59 (by decide) (fun c59 => ?_) (fun c59 => ?_)
              · have c59i := mt Int32.toInt_inj.mp c59
                refine lv_iload_n hx hb dX11_rest_71 rfl (lv_at hl 3 rfl) ?_
                refine lv_istore_n (lv' := [(2, .int z2_14), (4, .int (0 : Int32)), (0, .ref (ad G (78))), (1, .int v), (3, .int z3_14)]) hx hb dX11_rest_72 rfl hl (by decide) rfl (fun ls hl => ?_)
                obtain ⟨x17, ex17⟩ : ∃ z : Int32, z = z3_14 + (1 : Int32) := ⟨_, rfl⟩
                refine lv_iinc (v := x17) (lv' := [(3, .int x17), (2, .int z2_14), (4, .int (0 : Int32)), (0, .ref (ad G (78))), (1, .int v)]) hx hb dX11_rest_73 hl (k := 4) rfl (by rw [ex17]; rfl) (by decide) rfl (fun ls hl => ?_)
                have tx17 : x17.toInt = z3_14.toInt + 1 := by rw [ex17, Jvm.Kit.i32_add (by omega) (by omega)]; omega
                refine lv_goto (tgt := 14) hx hb dX11_rest_76 (by decide) ?_
                exact ih14 z2_14 x17 _ _ _ (by omega) (by omega) hw (lv_sub hl [3, 4, 1, 0] rfl)
              · have c59i := congrArg Int32.toInt c59
                refine lv_iload hx hb dX11_rest_62 (lv_at hl 0 rfl) ?_
                refine lv_if_eq (tgt := 71) hx hb dX11_rest_64 (by decide) (fun c64 => ?_) (fun c64 => ?_)
                · have c64i := congrArg Int32.toInt c64
                  refine lv_iload_n hx hb dX11_rest_71 rfl (lv_at hl 3 rfl) ?_
                  refine lv_istore_n (lv' := [(2, .int z2_14), (4, .int (0 : Int32)), (0, .ref (ad G (78))), (1, .int v), (3, .int z3_14)]) hx hb dX11_rest_72 rfl hl (by decide) rfl (fun ls hl => ?_)
                  obtain ⟨x18, ex18⟩ : ∃ z : Int32, z = z3_14 + (1 : Int32) := ⟨_, rfl⟩
                  refine lv_iinc (v := x18) (lv' := [(3, .int x18), (2, .int z2_14), (4, .int (0 : Int32)), (0, .ref (ad G (78))), (1, .int v)]) hx hb dX11_rest_73 hl (k := 4) rfl (by rw [ex18]; rfl) (by decide) rfl (fun ls hl => ?_)
                  have tx18 : x18.toInt = z3_14.toInt + 1 := by rw [ex18, Jvm.Kit.i32_add (by omega) (by omega)]; omega
                  refine lv_goto (tgt := 14) hx hb dX11_rest_76 (by decide) ?_
                  exact ih14 z2_14 x18 _ _ _ (by omega) (by omega) hw (lv_sub hl [3, 4, 1, 0] rfl)
                · have c64i := mt Int32.toInt_inj.mp c64
                  exfalso; omega
            · have or10 := i32b r10
              have or14 := i32b r14
              have c44i := mt Int32.le_iff_toInt_le.mpr c44
              refine lv_iconst (v := 1) hx hb dX11_rest_47 (by decide) ?_
              refine lv_goto (tgt := 52) hx hb dX11_rest_48 (by decide) ?_
              refine lv_istore (lv' := [(4, .int (1 : Int32)), (0, .ref (ad G (78))), (1, .int v), (2, .int z2_14), (3, .int z3_14)]) hx hb dX11_rest_52 hl (by decide) rfl (fun ls hl => ?_)
              refine lv_aload_n hx hb dX11_rest_54 rfl (lv_at hl 1 rfl) ?_
              refine lv_iload_n hx hb dX11_rest_55 rfl (lv_at hl 4 rfl) ?_
              refine te_vi hw (ru_V (As := [.int z3_14]) (rest := []) (C := RX11) hx hb hml hts hown hk hw (c_X11_grainsIn l G hG σ hI.1 z3_14 (by omega)) (m4_in wd402 wd403 wd404 wd5) wd405 (en10 (rfl : nk 78 = 10)) rfl rfl rfl nm_yX11_grainsIn ⟨rfl, rfl⟩ ⟨by decide, by decide⟩ rfl hl.1 rfl (Nat.le_of_ble_eq_true rfl) dX11_rest_56 ⟨Nat.zero_le _, Nat.zero_le _⟩) (fun r20 σ19 H locs hr20 hw => ?_)
              rw [hr20.1] at hw
              have hr20 := hr20.2
              refine lv_if_ne (tgt := 71) hx hb dX11_rest_59 (by decide) (fun c59 => ?_) (fun c59 => ?_)
              · have c59i := mt Int32.toInt_inj.mp c59
                refine lv_iload_n hx hb dX11_rest_71 rfl (lv_at hl 3 rfl) ?_
                refine lv_istore_n (lv' := [(2, .int z2_14), (4, .int (1 : Int32)), (0, .ref (ad G (78))), (1, .int v), (3, .int z3_14)]) hx hb dX11_rest_72 rfl hl (by decide) rfl (fun ls hl => ?_)
                obtain ⟨x21, ex21⟩ : ∃ z : Int32, z = z3_14 + (1 : Int32) := ⟨_, rfl⟩
                refine lv_iinc (v := x21) (lv' := [(3, .int x21), (2, .int z2_14), (4, .int (1 : Int32)), (0, .ref (ad G (78))), (1, .int v)]) hx hb dX11_rest_73 hl (k := 4) rfl (by rw [ex21]; rfl) (by decide) rfl (fun ls hl => ?_)
                have tx21 : x21.toInt = z3_14.toInt + 1 := by rw [ex21, Jvm.Kit.i32_add (by omega) (by omega)]; omega
                refine lv_goto (tgt := 14) hx hb dX11_rest_76 (by decide) ?_
                exact ih14 z2_14 x21 _ _ _ (by omega) (by omega) hw (lv_sub hl [3, 4, 1, 0] rfl)
              · have c59i := congrArg Int32.toInt c59
                refine lv_iload hx hb dX11_rest_62 (lv_at hl 0 rfl) ?_
                refine lv_if_eq (tgt := 71) hx hb dX11_rest_64 (by decide) (fun c64 => ?_) (fun c64 => ?_)
                · have c64i := congrArg Int32.toInt c64
                  exfalso; omega
                · have c64i := mt Int32.toInt_inj.mp c64
                  refine lv_iload_n hx hb dX11_rest_67 rfl (lv_at hl 4 rfl) ?_
                  refine lv_goto (tgt := 72) hx hb dX11_rest_68 (by decide) ?_
                  refine lv_istore_n (lv' := [(2, .int z3_14), (4, .int (1 : Int32)), (0, .ref (ad G (78))), (1, .int v), (3, .int z3_14)]) hx hb dX11_rest_72 rfl hl (by decide) rfl (fun ls hl => ?_)
                  obtain ⟨x22, ex22⟩ : ∃ z : Int32, z = z3_14 + (1 : Int32) := ⟨_, rfl⟩
                  refine lv_iinc (v := x22) (lv' := [(3, .int x22), (2, .int z3_14), (4, .int (1 : Int32)), (0, .ref (ad G (78))), (1, .int v)]) hx hb dX11_rest_73 hl (k := 4) rfl (by rw [ex22]; rfl) (by decide) rfl (fun ls hl => ?_)
                  have tx22 : x22.toInt = z3_14.toInt + 1 := by rw [ex22, Jvm.Kit.i32_add (by omega) (by omega)]; omega
                  refine lv_goto (tgt := 14) hx hb dX11_rest_76 (by decide) ?_
                  exact ih14 z3_14 x22 _ _ _ (by omega) (by omega) hw (lv_sub hl [3, 4, 1, 0] rfl)
    exact cut14 ((((64 - (0 : Int32).toInt).toNat : Int)).toNat + 1) (-6 : Int32) (0 : Int32) _ _ _ (by omega) (by omega) hw (lv_sub hl [2, 3, 1, 0] rfl)
  · have c4i := congrArg Int32.toInt c4
    have p4 := bz0 hr2 c4
    refine lv_iconst (v := -1) hx hb dX11_rest_7 (by decide) ?_
    exact ret (-1 : Int32) σ _ _ 8 _ (rfl) (⟨rfl, trivial⟩) hw dX11_rest_8
