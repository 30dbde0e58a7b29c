set_option maxHeartbeats 4000000 in
set_option maxRecDepth 100000 in
theorem c_X11_of (l : Launch) (G : Gg) (hG : Ginj G) (σ : Sg) (hI0 : Inv σ) (v : Int32) (w : Int32) (g1 : 0 ≤ v.toInt ∧ v.toInt ≤ 3) (g2 : 0 ≤ w.toInt ∧ w.toInt ≤ 7) : MI l G yX11_of cX11_of 3 .int (rmO 0 0) σ [.ref (ad G (78)), .int v, .int w] (fun r σ' => σ' = σ ∧ (r = σ 79 (8 * v.toInt + w.toInt).toNat)) := by
  refine MI.of (by decide +kernel) (Nat.le_of_ble_eq_true rfl) ?_
  intro p e s m a below meth c ls Q hx hb hml hts hown hk hw ret hl
  have hown : s.vm.findClass RX11 = some m.cls := hown
  have hl : lv_has ls 3 [(0, .ref (ad G (78))), (1, .int v), (2, .int w)] := hl
  have hI : K0 σ σ := K0.rf hI0
  have L8 : (8 : Int32).toInt = 8 := by decide
  generalize hHe : s.heap = H at hw ⊢
  generalize hLe : ([] : List Loc) = locs at hw ⊢
  refine lv_aload_n hx hb dX11_of_0 rfl (lv_at hl 0 rfl) ?_
  refine tg_get (ci := 10) (k := 0) (v := .ref (ad G (79))) hx hb hts hown hk hw (en10 (rfl : nk 78 = 10)) rfl inlX11 (by decide) wd105 rfl dX11_of_1 ?_
  refine lv_bipush (v := 8) hx hb dX11_of_4 (by decide) ?_
  refine lv_iload_n hx hb dX11_of_6 rfl (lv_at hl 1 rfl) ?_
  refine lv_imul hx hb dX11_of_7 ?_
  refine lv_topi (fun x1 ex1 => ?_)
  have tx1 : x1.toInt = 8 * v.toInt := by rw [ex1, Jvm.Kit.i32_mul (by rw [L8]; omega) (by rw [L8]; omega), L8]
  refine lv_iload_n hx hb dX11_of_8 rfl (lv_at hl 2 rfl) ?_
  refine lv_iadd hx hb dX11_of_9 ?_
  refine lv_topi (fun x2 ex2 => ?_)
  have tx2 : x2.toInt = x1.toInt + w.toInt := by rw [ex2]; exact Jvm.Kit.i32_add (by omega) (by omega)
  have hv10 : vp_in x2 32 := vin ⟨by omega, by omega⟩
  have kc10 := clI x2 (by omega)
  refine tg_iald hx hb hk hw (en132 (rfl : nk 79 = 132)) hv10 dX11_of_10 ?_
  refine lv_topi (fun x3 ex3 => ?_)
  have bx3 : x2.toNatClampNeg % 8 = 2 → 0 ≤ x3.toInt ∧ x3.toInt ≤ 3 := fun q => by rw [ex3]; exact rd132 hI.1 (rfl : nk 79 = 132) q
  exact ret x3 σ _ _ 11 _ (rfl) (⟨rfl, by rw [ex3]; congr 1; omega⟩) hw dX11_of_11
set_option maxHeartbeats 4000000 in
set_option maxRecDepth 100000 in
theorem c_X11_set (l : Launch) (G : Gg) (hG : Ginj G) (σ : Sg) (hI0 : Inv σ) (v : Int32) (w : Int32) (u : Int32) : MI l G yX11_set cX11_set 6 .int (rmO 2 45) σ [.ref (ad G (78)), .int v, .int w, .int u] (fun r σ' => K0 σ σ' ∧ (True)) := by
  refine MI.of (by decide +kernel) (Nat.le_of_ble_eq_true rfl) ?_
  intro p e s m a below meth c ls Q hx hb hml hts hown hk hw ret hl
  have hown : s.vm.findClass RX11 = some m.cls := hown
  have hl : lv_has ls 6 [(0, .ref (ad G (78))), (1, .int v), (2, .int w), (3, .int u)] := hl
  have hI : K0 σ σ := K0.rf hI0
  have Lm2 : (-2 : Int32).toInt = -2 := by decide
  have Lm1 : (-1 : Int32).toInt = -1 := by decide
  have L0 : (0 : Int32).toInt = 0 := by decide
  have L1 : (1 : Int32).toInt = 1 := by decide
  have L2 : (2 : Int32).toInt = 2 := by decide
  have L3 : (3 : Int32).toInt = 3 := by decide
  have L4 : (4 : Int32).toInt = 4 := by decide
  have L7 : (7 : Int32).toInt = 7 := by decide
  have L8 : (8 : Int32).toInt = 8 := by decide
  have L9 : (9 : Int32).toInt = 9 := by decide
  have L63 : (63 : Int32).toInt = 63 := by decide
  have L99 : (99 : Int32).toInt = 99 := by decide
  have M0 : (0 : Int64).toInt = 0 := by decide
  have M5 : (5 : Int64).toInt = 5 := by decide
  generalize hHe : s.heap = H at hw ⊢
  generalize hLe : ([] : List Loc) = locs at hw ⊢
  refine lv_iload_n hx hb dX11_set_0 rfl (lv_at hl 1 rfl) ?_
  refine te_vi hw (ru_S (As := [.int v]) (rest := []) hx hb hml hts hown hk hw (c_X11_isSower l G hG σ hI.1 v) (m3_in wd152 wd153 wd5) wd154 nm_yX11_isSower ⟨rfl, rfl⟩ ⟨by decide, by decide⟩ rfl hl.1 rfl (Nat.le_of_ble_eq_true rfl) dX11_set_1 ⟨Nat.zero_le _, Nat.zero_le _⟩) (fun r2 σ1 H locs hr2 hw => ?_)
  rw [hr2.1] at hw
  have hr2 := hr2.2
  refine lv_if_ne (tgt := 9) hx hb dX11_set_4 (by decide) (fun c4 => ?_) (fun c4 => ?_)
  · have c4i := mt Int32.toInt_inj.mp c4
    have p4 := bz1 hr2 c4
    refine lv_iload_n hx hb dX11_set_9 rfl (lv_at hl 2 rfl) ?_
    refine lv_if_ne (tgt := 18) hx hb dX11_set_10 (by decide) (fun c10 => ?_) (fun c10 => ?_)
    · have c10i := mt Int32.toInt_inj.mp c10
      refine lv_iload_n hx hb dX11_set_18 rfl (lv_at hl 2 rfl) ?_
      refine lv_iconst (v := 1) hx hb dX11_set_19 (by decide) ?_
      refine lv_icmp_ne (tgt := 28) hx hb dX11_set_20 (by decide) (fun c20 => ?_) (fun c20 => ?_)
      · have ow := i32b w
        have c20i := mt Int32.toInt_inj.mp c20
        refine lv_iload_n hx hb dX11_set_28 rfl (lv_at hl 2 rfl) ?_
        refine lv_iconst (v := 2) hx hb dX11_set_29 (by decide) ?_
        refine lv_icmp_ne (tgt := 37) hx hb dX11_set_30 (by decide) (fun c30 => ?_) (fun c30 => ?_)
        · have ow := i32b w
          have c30i := mt Int32.toInt_inj.mp c30
          refine lv_iload_n hx hb dX11_set_37 rfl (lv_at hl 2 rfl) ?_
          refine lv_iconst (v := 3) hx hb dX11_set_38 (by decide) ?_
          refine lv_icmp_ne (tgt := 47) hx hb dX11_set_39 (by decide) (fun c39 => ?_) (fun c39 => ?_)
          · have ow := i32b w
            have c39i := mt Int32.toInt_inj.mp c39
            refine lv_iload_n hx hb dX11_set_47 rfl (lv_at hl 2 rfl) ?_
            refine lv_iconst (v := 4) hx hb dX11_set_48 (by decide) ?_
            refine lv_icmp_ne (tgt := 56) hx hb dX11_set_49 (by decide) (fun c49 => ?_) (fun c49 => ?_)
            · have ow := i32b w
              have c49i := mt Int32.toInt_inj.mp c49
              refine lv_bipush (v := 9) hx hb dX11_set_56 (by decide) ?_
              refine lv_istore (lv' := [(4, .int (9 : Int32)), (0, .ref (ad G (78))), (1, .int v), (2, .int w), (3, .int u)]) hx hb dX11_set_58 hl (by decide) rfl (fun ls hl => ?_)
              refine lv_iload_n hx hb dX11_set_60 rfl (lv_at hl 3 rfl) ?_
              refine lv_i2l hx hb dX11_set_61 rfl ?_
              refine lv_lconst (v := 0) hx hb dX11_set_62 (by decide) ?_
              refine lv_ldc2 hx hb hown (hts _ wd151) dX11_set_63 ?_
              refine te_vi hw (ru_S (As := [.long w.toInt64, .long (0 : Int64), .long (5 : Int64)]) (rest := []) hx hb hml hts hown hk hw (c_X11_in l G hG σ hI.1 w.toInt64 (0 : Int64) (5 : Int64)) (m3_in wd156 wd157 wd5) wd158 nm_yX11_in ⟨rfl, rfl⟩ ⟨by decide, by decide⟩ rfl hl.1 rfl (Nat.le_of_ble_eq_true rfl) dX11_set_66 ⟨Nat.zero_le _, Nat.zero_le _⟩) (fun r4 σ3 H locs hr4 hw => ?_)
              rw [hr4.1] at hw
              have hr4 := hr4.2
              simp only [Int32.toInt_toInt64] at hr4
              refine lv_if_eq (tgt := 84) hx hb dX11_set_69 (by decide) (fun c69 => ?_) (fun c69 => ?_)
              · have c69i := congrArg Int32.toInt c69
                have p69 := bz0 hr4 c69
                refine lv_bipush (v := -2) hx hb dX11_set_84 (by decide) ?_
                exact ret (-2 : Int32) σ _ _ 86 _ (rfl) (⟨hI, trivial⟩) hw dX11_set_86
              · have c69i := mt Int32.toInt_inj.mp c69
                have p69 := bz1 hr4 c69
                refine lv_iload_n hx hb dX11_set_72 rfl (lv_at hl 4 rfl) ?_
                refine lv_i2l hx hb dX11_set_73 rfl ?_
                refine lv_lconst (v := 0) hx hb dX11_set_74 (by decide) ?_
                refine lv_iload hx hb dX11_set_75 (lv_at hl 0 rfl) ?_
                refine lv_i2l hx hb dX11_set_77 rfl ?_
                refine te_vi hw (ru_S (As := [.long u.toInt64, .long (0 : Int64), .long (9 : Int32).toInt64]) (rest := []) hx hb hml hts hown hk hw (c_X11_in l G hG σ hI.1 u.toInt64 (0 : Int64) ((9 : Int32).toInt64)) (m3_in wd156 wd157 wd5) wd158 nm_yX11_in ⟨rfl, rfl⟩ ⟨by decide, by decide⟩ rfl hl.1 rfl (Nat.le_of_ble_eq_true rfl) dX11_set_78 ⟨Nat.zero_le _, Nat.zero_le _⟩) (fun r6 σ5 H locs hr6 hw => ?_)
                rw [hr6.1] at hw
                have hr6 := hr6.2
                simp only [Int32.toInt_toInt64] at hr6
                refine lv_if_ne (tgt := 87) hx hb dX11_set_81 (by decide) (fun c81 => ?_) (fun c81 => ?_)
                · have c81i := mt Int32.toInt_inj.mp c81
                  have p81 := bz1 hr6 c81
                  refine lv_aload_n hx hb dX11_set_87 rfl (lv_at hl 1 rfl) ?_
                  refine lv_iload_n hx hb dX11_set_88 rfl (lv_at hl 2 rfl) ?_
                  refine lv_iload_n hx hb dX11_set_89 rfl (lv_at hl 3 rfl) ?_
                  refine te_vi hw (ru_V (As := [.int v, .int w]) (rest := []) (C := RX11) hx hb hml hts hown hk hw (c_X11_of l G hG σ hI.1 v w (by omega) (by omega)) (m4_in wd159 wd160 wd161 wd5) wd162 (en10 (rfl : nk 78 = 10)) rfl rfl rfl nm_yX11_of ⟨rfl, rfl⟩ ⟨by decide, by decide⟩ rfl hl.1 rfl (Nat.le_of_ble_eq_true rfl) dX11_set_90 ⟨Nat.zero_le _, Nat.zero_le _⟩) (fun r8 σ7 H locs hr8 hw => ?_)
                  rw [hr8.1] at hw
                  have hr8 := hr8.2
                  refine lv_istore (lv' := [(5, .int r8), (4, .int (9 : Int32)), (0, .ref (ad G (78))), (1, .int v), (2, .int w), (3, .int u)]) hx hb dX11_set_93 hl (by decide) rfl (fun ls hl => ?_)
                  refine lv_aload_n hx hb dX11_set_95 rfl (lv_at hl 2 rfl) ?_
                  refine tg_get (ci := 10) (k := 0) (v := .ref (ad G (79))) hx hb hts hown hk hw (en10 (rfl : nk 78 = 10)) rfl inlX11 (by decide) wd105 rfl dX11_set_96 ?_
                  refine lv_bipush (v := 8) hx hb dX11_set_99 (by decide) ?_
                  refine lv_iload_n hx hb dX11_set_101 rfl (lv_at hl 3 rfl) ?_
                  refine lv_imul hx hb dX11_set_102 ?_
                  refine lv_topi (fun x9 ex9 => ?_)
                  have tx9 : x9.toInt = 8 * v.toInt := by rw [ex9, Jvm.Kit.i32_mul (by rw [L8]; omega) (by rw [L8]; omega), L8]
                  refine lv_iload_n hx hb dX11_set_103 rfl (lv_at hl 4 rfl) ?_
                  refine lv_iadd hx hb dX11_set_104 ?_
                  refine lv_topi (fun x10 ex10 => ?_)
                  have tx10 : x10.toInt = x9.toInt + w.toInt := by rw [ex10]; exact Jvm.Kit.i32_add (by omega) (by omega)
                  refine lv_iload_n hx hb dX11_set_105 rfl (lv_at hl 5 rfl) ?_
                  have hv106 : vp_in x10 32 := vin ⟨by omega, by omega⟩
                  have kc106 := clI x10 (by omega)
                  refine tg_iast hx hb hk hG hw (ea132 (rfl : nk 79 = 132)) hv106 dX11_set_106 (fun H locs hw => ?_)
                  obtain ⟨σ11, eσ11⟩ : ∃ z, z = up2 σ (79) x10.toNatClampNeg u := ⟨_, rfl⟩
                  rw [← eσ11] at hw
                  have hI : K0 σ σ11 := by rw [eσ11]; exact hI.up (rfl) (rg132 (rfl : nk 79 = 132) (fun q => by omega))
                  refine lv_iload hx hb dX11_set_107 (lv_at hl 0 rfl) ?_
                  exact ret r8 σ11 _ _ 109 _ (rfl) (⟨hI, trivial⟩) hw dX11_set_109
                · have c81i := congrArg Int32.toInt c81
                  have p81 := bz0 hr6 c81
                  refine lv_bipush (v := -2) hx hb dX11_set_84 (by decide) ?_
                  exact ret (-2 : Int32) σ _ _ 86 _ (rfl) (⟨hI, trivial⟩) hw dX11_set_86
            · have ow := i32b w
              have c49i := congrArg Int32.toInt c49
              refine lv_iconst (v := 4) hx hb dX11_set_52 (by decide) ?_
              refine lv_goto (tgt := 58) hx hb dX11_set_53 (by decide) ?_
              refine lv_istore (lv' := [(4, .int (4 : Int32)), (0, .ref (ad G (78))), (1, .int v), (2, .int w), (3, .int u)]) hx hb dX11_set_58 hl (by decide) rfl (fun ls hl => ?_)
              refine lv_iload_n hx hb dX11_set_60 rfl (lv_at hl 3 rfl) ?_
              refine lv_i2l hx hb dX11_set_61 rfl ?_
              refine lv_lconst (v := 0) hx hb dX11_set_62 (by decide) ?_
              refine lv_ldc2 hx hb hown (hts _ wd151) dX11_set_63 ?_
              refine te_vi hw (ru_S (As := [.long w.toInt64, .long (0 : Int64), .long (5 : Int64)]) (rest := []) hx hb hml hts hown hk hw (c_X11_in l G hG σ hI.1 w.toInt64 (0 : Int64) (5 : Int64)) (m3_in wd156 wd157 wd5) wd158 nm_yX11_in ⟨rfl, rfl⟩ ⟨by decide, by decide⟩ rfl hl.1 rfl (Nat.le_of_ble_eq_true rfl) dX11_set_66 ⟨Nat.zero_le _, Nat.zero_le _⟩) (fun r13 σ12 H locs hr13 hw => ?_)
              rw [hr13.1] at hw
              have hr13 := hr13.2
              simp only [Int32.toInt_toInt64] at hr13
              refine lv_if_eq (tgt := 84) hx hb dX11_set_69 (by decide) (fun c69 => ?_) (fun c69 => ?_)
              · have c69i := congrArg Int32.toInt c69
                have p69 := bz0 hr13 c69
                refine lv_bipush (v := -2) hx hb dX11_set_84 (by decide) ?_
                exact ret (-2 : Int32) σ _ _ 86 _ (rfl) (⟨hI, trivial⟩) hw dX11_set_86
              · have c69i := mt Int32.toInt_inj.mp c69
                have p69 := bz1 hr13 c69
                refine lv_iload_n hx hb dX11_set_72 rfl (lv_at hl 4 rfl) ?_
                refine lv_i2l hx hb dX11_set_73 rfl ?_
                refine lv_lconst (v := 0) hx hb dX11_set_74 (by decide) ?_
                refine lv_iload hx hb dX11_set_75 (lv_at hl 0 rfl) ?_
                refine lv_i2l hx hb dX11_set_77 rfl ?_
                refine te_vi hw (ru_S (As := [.long u.toInt64, .long (0 : Int64), .long (4 : Int32).toInt64]) (rest := []) hx hb hml hts hown hk hw (c_X11_in l G hG σ hI.1 u.toInt64 (0 : Int64) ((4 : Int32).toInt64)) (m3_in wd156 wd157 wd5) wd158 nm_yX11_in ⟨rfl, rfl⟩ ⟨by decide, by decide⟩ rfl hl.1 rfl (Nat.le_of_ble_eq_true rfl) dX11_set_78 ⟨Nat.zero_le _, Nat.zero_le _⟩) (fun r15 σ14 H locs hr15 hw => ?_)
                rw [hr15.1] at hw
                have hr15 := hr15.2
                simp only [Int32.toInt_toInt64] at hr15
                refine lv_if_ne (tgt := 87) hx hb dX11_set_81 (by decide) (fun c81 => ?_) (fun c81 => ?_)
                · have c81i := mt Int32.toInt_inj.mp c81
                  have p81 := bz1 hr15 c81
                  refine lv_aload_n hx hb dX11_set_87 rfl (lv_at hl 1 rfl) ?_
                  refine lv_iload_n hx hb dX11_set_88 rfl (lv_at hl 2 rfl) ?_
                  refine lv_iload_n hx hb dX11_set_89 rfl (lv_at hl 3 rfl) ?_
                  refine te_vi hw (ru_V (As := [.int v, .int w]) (rest := []) (C := RX11) hx hb hml hts hown hk hw (c_X11_of l G hG σ hI.1 v w (by omega) (by omega)) (m4_in wd159 wd160 wd161 wd5) wd162 (en10 (rfl : nk 78 = 10)) rfl rfl rfl nm_yX11_of ⟨rfl, rfl⟩ ⟨by decide, by decide⟩ rfl hl.1 rfl (Nat.le_of_ble_eq_true rfl) dX11_set_90 ⟨Nat.zero_le _, Nat.zero_le _⟩) (fun r17 σ16 H locs hr17 hw => ?_)
                  rw [hr17.1] at hw
                  have hr17 := hr17.2
                  refine lv_istore (lv' := [(5, .int r17), (4, .int (4 : Int32)), (0, .ref (ad G (78))), (1, .int v), (2, .int w), (3, .int u)]) hx hb dX11_set_93 hl (by decide) rfl (fun ls hl => ?_)
                  refine lv_aload_n hx hb dX11_set_95 rfl (lv_at hl 2 rfl) ?_
                  refine tg_get (ci := 10) (k := 0) (v := .ref (ad G (79))) hx hb hts hown hk hw (en10 (rfl : nk 78 = 10)) rfl inlX11 (by decide) wd105 rfl dX11_set_96 ?_
                  refine lv_bipush (v := 8) hx hb dX11_set_99 (by decide) ?_
                  refine lv_iload_n hx hb dX11_set_101 rfl (lv_at hl 3 rfl) ?_
                  refine lv_imul hx hb dX11_set_102 ?_
                  refine lv_topi (fun x18 ex18 => ?_)
                  have tx18 : x18.toInt = 8 * v.toInt := by rw [ex18, Jvm.Kit.i32_mul (by rw [L8]; omega) (by rw [L8]; omega), L8]
                  refine lv_iload_n hx hb dX11_set_103 rfl (lv_at hl 4 rfl) ?_
                  refine lv_iadd hx hb dX11_set_104 ?_
                  refine lv_topi (fun x19 ex19 => ?_)
                  have tx19 : x19.toInt = x18.toInt + w.toInt := by rw [ex19]; exact Jvm.Kit.i32_add (by omega) (by omega)
                  refine lv_iload_n hx hb dX11_set_105 rfl (lv_at hl 5 rfl) ?_
                  have hv106 : vp_in x19 32 := vin ⟨by omega, by omega⟩
                  have kc106 := clI x19 (by omega)
                  refine tg_iast hx hb hk hG hw (ea132 (rfl : nk 79 = 132)) hv106 dX11_set_106 (fun H locs hw => ?_)
                  obtain ⟨σ20, eσ20⟩ : ∃ z, z = up2 σ (79) x19.toNatClampNeg u := ⟨_, rfl⟩
                  rw [← eσ20] at hw
                  have hI : K0 σ σ20 := by rw [eσ20]; exact hI.up (rfl) (rg132 (rfl : nk 79 = 132) (fun q => by omega))
                  refine lv_iload hx hb dX11_set_107 (lv_at hl 0 rfl) ?_
                  exact ret r17 σ20 _ _ 109 _ (rfl) (⟨hI, trivial⟩) hw dX11_set_109
                · have c81i := congrArg Int32.toInt c81
                  have p81 := bz0 hr15 c81
                  refine lv_bipush (v := -2) hx hb dX11_set_84 (by decide) ?_
                  exact ret (-2 : Int32) σ _ _ 86 _ (rfl) (⟨hI, trivial⟩) hw dX11_set_86
          · have ow := i32b w
            have c39i := congrArg Int32.toInt c39
            refine lv_bipush (v := 99) hx hb dX11_set_42 (by decide) ?_
            refine lv_goto (tgt := 58) hx hb dX11_set_44 (by decide) ?_
            refine lv_istore (lv' := [(4, .int (99 : Int32)), (0, .ref (ad G (78))), (1, .int v), (2, .int w), (3, .int u)]) hx hb dX11_set_58 hl (by decide) rfl (fun ls hl => ?_)
            refine lv_iload_n hx hb dX11_set_60 rfl (lv_at hl 3 rfl) ?_
            refine lv_i2l hx hb dX11_set_61 rfl ?_
            refine lv_lconst (v := 0) hx hb dX11_set_62 (by decide) ?_
            refine lv_ldc2 hx hb hown (hts _ wd151) dX11_set_63 ?_
            refine te_vi hw (ru_S (As := [.long w.toInt64, .long (0 : Int64), .long (5 : Int64)]) (rest := []) hx hb hml hts hown hk hw (c_X11_in l G hG σ hI.1 w.toInt64 (0 : Int64) (5 : Int64)) (m3_in wd156 wd157 wd5) wd158 nm_yX11_in ⟨rfl, rfl⟩ ⟨by decide, by decide⟩ rfl hl.1 rfl (Nat.le_of_ble_eq_true rfl) dX11_set_66 ⟨Nat.zero_le _, Nat.zero_le _⟩) (fun r22 σ21 H locs hr22 hw => ?_)
            rw [hr22.1] at hw
            have hr22 := hr22.2
            simp only [Int32.toInt_toInt64] at hr22
            refine lv_if_eq (tgt := 84) hx hb dX11_set_69 (by decide) (fun c69 => ?_) (fun c69 => ?_)
            · have c69i := congrArg Int32.toInt c69
              have p69 := bz0 hr22 c69
              refine lv_bipush (v := -2) hx hb dX11_set_84 (by decide) ?_
              exact ret (-2 : Int32) σ _ _ 86 _ (rfl) (⟨hI, trivial⟩) hw dX11_set_86
            · have c69i := mt Int32.toInt_inj.mp c69
              have p69 := bz1 hr22 c69
              refine lv_iload_n hx hb dX11_set_72 rfl (lv_at hl 4 rfl) ?_
              refine lv_i2l hx hb dX11_set_73 rfl ?_
              refine lv_lconst (v := 0) hx hb dX11_set_74 (by decide) ?_
              refine lv_iload hx hb dX11_set_75 (lv_at hl 0 rfl) ?_
              refine lv_i2l hx hb dX11_set_77 rfl ?_
              refine te_vi hw (ru_S (As := [.long u.toInt64, .long (0 : Int64), .long (99 : Int32).toInt64]) (rest := []) hx hb hml hts hown hk hw (c_X11_in l G hG σ hI.1 u.toInt64 (0 : Int64) ((99 : Int32).toInt64)) (m3_in wd156 wd157 wd5) wd158 nm_yX11_in ⟨rfl, rfl⟩ ⟨by decide, by decide⟩ rfl hl.1 rfl (Nat.le_of_ble_eq_true rfl) dX11_set_78 ⟨Nat.zero_le _, Nat.zero_le _⟩) (fun r24 σ23 H locs hr24 hw => ?_)
              rw [hr24.1] at hw
              have hr24 := hr24.2
              simp only [Int32.toInt_toInt64] at hr24
              refine lv_if_ne (tgt := 87) hx hb dX11_set_81 (by decide) (fun c81 => ?_) (fun c81 => ?_)
              · have c81i := mt Int32.toInt_inj.mp c81
                have p81 := bz1 hr24 c81
                refine lv_aload_n hx hb dX11_set_87 rfl (lv_at hl 1 rfl) ?_
                refine lv_iload_n hx hb dX11_set_88 rfl (lv_at hl 2 rfl) ?_
                refine lv_iload_n hx hb dX11_set_89 rfl (lv_at hl 3 rfl) ?_
                refine te_vi hw (ru_V (As := [.int v, .int w]) (rest := []) (C := RX11) hx hb hml hts hown hk hw (c_X11_of l G hG σ hI.1 v w (by omega) (by omega)) (m4_in wd159 wd160 wd161 wd5) wd162 (en10 (rfl : nk 78 = 10)) rfl rfl rfl nm_yX11_of ⟨rfl, rfl⟩ ⟨by decide, by decide⟩ rfl hl.1 rfl (Nat.le_of_ble_eq_true rfl) dX11_set_90 ⟨Nat.zero_le _, Nat.zero_le _⟩) (fun r26 σ25 H locs hr26 hw => ?_)
                rw [hr26.1] at hw
                have hr26 := hr26.2
                refine lv_istore (lv' := [(5, .int r26), (4, .int (99 : Int32)), (0, .ref (ad G (78))), (1, .int v), (2, .int w), (3, .int u)]) hx hb dX11_set_93 hl (by decide) rfl (fun ls hl => ?_)
                refine lv_aload_n hx hb dX11_set_95 rfl (lv_at hl 2 rfl) ?_
                refine tg_get (ci := 10) (k := 0) (v := .ref (ad G (79))) hx hb hts hown hk hw (en10 (rfl : nk 78 = 10)) rfl inlX11 (by decide) wd105 rfl dX11_set_96 ?_
                refine lv_bipush (v := 8) hx hb dX11_set_99 (by decide) ?_
                refine lv_iload_n hx hb dX11_set_101 rfl (lv_at hl 3 rfl) ?_
                refine lv_imul hx hb dX11_set_102 ?_
                refine lv_topi (fun x27 ex27 => ?_)
                have tx27 : x27.toInt = 8 * v.toInt := by rw [ex27, Jvm.Kit.i32_mul (by rw [L8]; omega) (by rw [L8]; omega), L8]
                refine lv_iload_n hx hb dX11_set_103 rfl (lv_at hl 4 rfl) ?_
                refine lv_iadd hx hb dX11_set_104 ?_
                refine lv_topi (fun x28 ex28 => ?_)
                have tx28 : x28.toInt = x27.toInt + w.toInt := by rw [ex28]; exact Jvm.Kit.i32_add (by omega) (by omega)
                refine lv_iload_n hx hb dX11_set_105 rfl (lv_at hl 5 rfl) ?_
                have hv106 : vp_in x28 32 := vin ⟨by omega, by omega⟩
                have kc106 := clI x28 (by omega)
                refine tg_iast hx hb hk hG hw (ea132 (rfl : nk 79 = 132)) hv106 dX11_set_106 (fun H locs hw => ?_)
                obtain ⟨σ29, eσ29⟩ : ∃ z, z = up2 σ (79) x28.toNatClampNeg u := ⟨_, rfl⟩
                rw [← eσ29] at hw
                have hI : K0 σ σ29 := by rw [eσ29]; exact hI.up (rfl) (rg132 (rfl : nk 79 = 132) (fun q => by omega))
                refine lv_iload hx hb dX11_set_107 (lv_at hl 0 rfl) ?_
                exact ret r26 σ29 _ _ 109 _ (rfl) (⟨hI, trivial⟩) hw dX11_set_109
              · have c81i := congrArg Int32.toInt c81
                have p81 := bz0 hr24 c81
                refine lv_bipush (v := -2) hx hb dX11_set_84 (by decide) ?_
                exact ret (-2 : Int32) σ _ _ 86 _ (rfl) (⟨hI, trivial⟩) hw dX11_set_86
        · have ow := i32b w
          have c30i := congrArg Int32.toInt c30
          refine lv_iconst (v := 3) hx hb dX11_set_33 (by decide) ?_
          refine lv_goto (tgt := 58) hx hb dX11_set_34 (by decide) ?_
          refine lv_istore (lv' := [(4, .int (3 : Int32)), (0, .ref (ad G (78))), (1, .int v), (2, .int w), (3, .int u)]) hx hb dX11_set_58 hl (by decide) rfl (fun ls hl => ?_)
          refine lv_iload_n hx hb dX11_set_60 rfl (lv_at hl 3 rfl) ?_
          refine lv_i2l hx hb dX11_set_61 rfl ?_
          refine lv_lconst (v := 0) hx hb dX11_set_62 (by decide) ?_
          refine lv_ldc2 hx hb hown (hts _ wd151) dX11_set_63 ?_
          refine te_vi hw (ru_S (As := [.long w.toInt64, .long (0 : Int64), .long (5 : Int64)]) (rest := []) hx hb hml hts hown hk hw (c_X11_in l G hG σ hI.1 w.toInt64 (0 : Int64) (5 : Int64)) (m3_in wd156 wd157 wd5) wd158 nm_yX11_in ⟨rfl, rfl⟩ ⟨by decide, by decide⟩ rfl hl.1 rfl (Nat.le_of_ble_eq_true rfl) dX11_set_66 ⟨Nat.zero_le _, Nat.zero_le _⟩) (fun r31 σ30 H locs hr31 hw => ?_)
          rw [hr31.1] at hw
          have hr31 := hr31.2
          simp only [Int32.toInt_toInt64] at hr31
          refine lv_if_eq (tgt := 84) hx hb dX11_set_69 (by decide) (fun c69 => ?_) (fun c69 => ?_)
          · have c69i := congrArg Int32.toInt c69
            have p69 := bz0 hr31 c69
            refine lv_bipush (v := -2) hx hb dX11_set_84 (by decide) ?_
            exact ret (-2 : Int32) σ _ _ 86 _ (rfl) (⟨hI, trivial⟩) hw dX11_set_86
          · have c69i := mt Int32.toInt_inj.mp c69
            have p69 := bz1 hr31 c69
            refine lv_iload_n hx hb dX11_set_72 rfl (lv_at hl 4 rfl) ?_
            refine lv_i2l hx hb dX11_set_73 rfl ?_
            refine lv_lconst (v := 0) hx hb dX11_set_74 (by decide) ?_
            refine lv_iload hx hb dX11_set_75 (lv_at hl 0 rfl) ?_
            refine lv_i2l hx hb dX11_set_77 rfl ?_
            refine te_vi hw (ru_S (As := [.long u.toInt64, .long (0 : Int64), .long (3 : Int32).toInt64]) (rest := []) hx hb hml hts hown hk hw (c_X11_in l G hG σ hI.1 u.toInt64 (0 : Int64) ((3 : Int32).toInt64)) (m3_in wd156 wd157 wd5) wd158 nm_yX11_in ⟨rfl, rfl⟩ ⟨by decide, by decide⟩ rfl hl.1 rfl (Nat.le_of_ble_eq_true rfl) dX11_set_78 ⟨Nat.zero_le _, Nat.zero_le _⟩) (fun r33 σ32 H locs hr33 hw => ?_)
            rw [hr33.1] at hw
            have hr33 := hr33.2
            simp only [Int32.toInt_toInt64] at hr33
            refine lv_if_ne (tgt := 87) hx hb dX11_set_81 (by decide) (fun c81 => ?_) (fun c81 => ?_)
            · have c81i := mt Int32.toInt_inj.mp c81
              have p81 := bz1 hr33 c81
              refine lv_aload_n hx hb dX11_set_87 rfl (lv_at hl 1 rfl) ?_
              refine lv_iload_n hx hb dX11_set_88 rfl (lv_at hl 2 rfl) ?_
              refine lv_iload_n hx hb dX11_set_89 rfl (lv_at hl 3 rfl) ?_
              refine te_vi hw (ru_V (As := [.int v, .int w]) (rest := []) (C := RX11) hx hb hml hts hown hk hw (c_X11_of l G hG σ hI.1 v w (by omega) (by omega)) (m4_in wd159 wd160 wd161 wd5) wd162 (en10 (rfl : nk 78 = 10)) rfl rfl rfl nm_yX11_of ⟨rfl, rfl⟩ ⟨by decide, by decide⟩ rfl hl.1 rfl (Nat.le_of_ble_eq_true rfl) dX11_set_90 ⟨Nat.zero_le _, Nat.zero_le _⟩) (fun r35 σ34 H locs hr35 hw => ?_)
              rw [hr35.1] at hw
              have hr35 := hr35.2
              refine lv_istore (lv' := [(5, .int r35), (4, .int (3 : Int32)), (0, .ref (ad G (78))), (1, .int v), (2, .int w), (3, .int u)]) hx hb dX11_set_93 hl (by decide) rfl (fun ls hl => ?_)
              refine lv_aload_n hx hb dX11_set_95 rfl (lv_at hl 2 rfl) ?_
              refine tg_get (ci := 10) (k := 0) (v := .ref (ad G (79))) hx hb hts hown hk hw (en10 (rfl : nk 78 = 10)) rfl inlX11 (by decide) wd105 rfl dX11_set_96 ?_
              refine lv_bipush (v := 8) hx hb dX11_set_99 (by decide) ?_
              refine lv_iload_n hx hb dX11_set_101 rfl (lv_at hl 3 rfl) ?_
              refine lv_imul hx hb dX11_set_102 ?_
              refine lv_topi (fun x36 ex36 => ?_)
              have tx36 : x36.toInt = 8 * v.toInt := by rw [ex36, Jvm.Kit.i32_mul (by rw [L8]; omega) (by rw [L8]; omega), L8]
              refine lv_iload_n hx hb dX11_set_103 rfl (lv_at hl 4 rfl) ?_
              refine lv_iadd hx hb dX11_set_104 ?_
              refine lv_topi (fun x37 ex37 => ?_)
              have tx37 : x37.toInt = x36.toInt + w.toInt := by rw [ex37]; exact Jvm.Kit.i32_add (by omega) (by omega)
              refine lv_iload_n hx hb dX11_set_105 rfl (lv_at hl 5 rfl) ?_
              have hv106 : vp_in x37 32 := vin ⟨by omega, by omega⟩
              have kc106 := clI x37 (by omega)
              refine tg_iast hx hb hk hG hw (ea132 (rfl : nk 79 = 132)) hv106 dX11_set_106 (fun H locs hw => ?_)
              obtain ⟨σ38, eσ38⟩ : ∃ z, z = up2 σ (79) x37.toNatClampNeg u := ⟨_, rfl⟩
              rw [← eσ38] at hw
              have hI : K0 σ σ38 := by rw [eσ38]; exact hI.up (rfl) (rg132 (rfl : nk 79 = 132) (fun q => by omega))
              refine lv_iload hx hb dX11_set_107 (lv_at hl 0 rfl) ?_
              exact ret r35 σ38 _ _ 109 _ (rfl) (⟨hI, trivial⟩) hw dX11_set_109
            · have c81i := congrArg Int32.toInt c81
              have p81 := bz0 hr33 c81
              refine lv_bipush (v := -2) hx hb dX11_set_84 (by decide) ?_
              exact ret (-2 : Int32) σ _ _ 86 _ (rfl) (⟨hI, trivial⟩) hw dX11_set_86
      · have ow := i32b w
        have c20i := congrArg Int32.toInt c20
        refine lv_bipush (v := 7) hx hb dX11_set_23 (by decide) ?_
        refine lv_goto (tgt := 58) hx hb dX11_set_25 (by decide) ?_
        refine lv_istore (lv' := [(4, .int (7 : Int32)), (0, .ref (ad G (78))), (1, .int v), (2, .int w), (3, .int u)]) hx hb dX11_set_58 hl (by decide) rfl (fun ls hl => ?_)
        refine lv_iload_n hx hb dX11_set_60 rfl (lv_at hl 3 rfl) ?_
        refine lv_i2l hx hb dX11_set_61 rfl ?_
        refine lv_lconst (v := 0) hx hb dX11_set_62 (by decide) ?_
        refine lv_ldc2 hx hb hown (hts _ wd151) dX11_set_63 ?_
        refine te_vi hw (ru_S (As := [.long w.toInt64, .long (0 : Int64), .long (5 : Int64)]) (rest := []) hx hb hml hts hown hk hw (c_X11_in l G hG σ hI.1 w.toInt64 (0 : Int64) (5 : Int64)) (m3_in wd156 wd157 wd5) wd158 nm_yX11_in ⟨rfl, rfl⟩ ⟨by decide, by decide⟩ rfl hl.1 rfl (Nat.le_of_ble_eq_true rfl) dX11_set_66 ⟨Nat.zero_le _, Nat.zero_le _⟩) (fun r40 σ39 H locs hr40 hw => ?_)
        rw [hr40.1] at hw
        have hr40 := hr40.2
        simp only [Int32.toInt_toInt64] at hr40
        refine lv_if_eq (tgt := 84) hx hb dX11_set_69 (by decide) (fun c69 => ?_) (fun c69 => ?_)
        · have c69i := congrArg Int32.toInt c69
          have p69 := bz0 hr40 c69
          refine lv_bipush (v := -2) hx hb dX11_set_84 (by decide) ?_
          exact ret (-2 : Int32) σ _ _ 86 _ (rfl) (⟨hI, trivial⟩) hw dX11_set_86
        · have c69i := mt Int32.toInt_inj.mp c69
          have p69 := bz1 hr40 c69
          refine lv_iload_n hx hb dX11_set_72 rfl (lv_at hl 4 rfl) ?_
          refine lv_i2l hx hb dX11_set_73 rfl ?_
          refine lv_lconst (v := 0) hx hb dX11_set_74 (by decide) ?_
          refine lv_iload hx hb dX11_set_75 (lv_at hl 0 rfl) ?_
          refine lv_i2l hx hb dX11_set_77 rfl ?_
          refine te_vi hw (ru_S (As := [.long u.toInt64, .long (0 : Int64), .long (7 : Int32).toInt64]) (rest := []) hx hb hml hts hown hk hw (c_X11_in l G hG σ hI.1 u.toInt64 (0 : Int64) ((7 : Int32).toInt64)) (m3_in wd156 wd157 wd5) wd158 nm_yX11_in ⟨rfl, rfl⟩ ⟨by decide, by decide⟩ rfl hl.1 rfl (Nat.le_of_ble_eq_true rfl) dX11_set_78 ⟨Nat.zero_le _, Nat.zero_le _⟩) (fun r42 σ41 H locs hr42 hw => ?_)
          rw [hr42.1] at hw
          have hr42 := hr42.2
          simp only [Int32.toInt_toInt64] at hr42
          refine lv_if_ne (tgt := 87) hx hb dX11_set_81 (by decide) (fun c81 => ?_) (fun c81 => ?_)
          · have c81i := mt Int32.toInt_inj.mp c81
            have p81 := bz1 hr42 c81
            refine lv_aload_n hx hb dX11_set_87 rfl (lv_at hl 1 rfl) ?_
            refine lv_iload_n hx hb dX11_set_88 rfl (lv_at hl 2 rfl) ?_
            refine lv_iload_n hx hb dX11_set_89 rfl (lv_at hl 3 rfl) ?_
            refine te_vi hw (ru_V (As := [.int v, .int w]) (rest := []) (C := RX11) hx hb hml hts hown hk hw (c_X11_of l G hG σ hI.1 v w (by omega) (by omega)) (m4_in wd159 wd160 wd161 wd5) wd162 (en10 (rfl : nk 78 = 10)) rfl rfl rfl nm_yX11_of ⟨rfl, rfl⟩ ⟨by decide, by decide⟩ rfl hl.1 rfl (Nat.le_of_ble_eq_true rfl) dX11_set_90 ⟨Nat.zero_le _, Nat.zero_le _⟩) (fun r44 σ43 H locs hr44 hw => ?_)
            rw [hr44.1] at hw
            have hr44 := hr44.2
            refine lv_istore (lv' := [(5, .int r44), (4, .int (7 : Int32)), (0, .ref (ad G (78))), (1, .int v), (2, .int w), (3, .int u)]) hx hb dX11_set_93 hl (by decide) rfl (fun ls hl => ?_)
            refine lv_aload_n hx hb dX11_set_95 rfl (lv_at hl 2 rfl) ?_
            refine tg_get (ci := 10) (k := 0) (v := .ref (ad G (79))) hx hb hts hown hk hw (en10 (rfl : nk 78 = 10)) rfl inlX11 (by decide) wd105 rfl dX11_set_96 ?_
            refine lv_bipush (v := 8) hx hb dX11_set_99 (by decide) ?_
            refine lv_iload_n hx hb dX11_set_101 rfl (lv_at hl 3 rfl) ?_
            refine lv_imul hx hb dX11_set_102 ?_
            refine lv_topi (fun x45 ex45 => ?_)
            have tx45 : x45.toInt = 8 * v.toInt := by rw [ex45, Jvm.Kit.i32_mul (by rw [L8]; omega) (by rw [L8]; omega), L8]
            refine lv_iload_n hx hb dX11_set_103 rfl (lv_at hl 4 rfl) ?_
            refine lv_iadd hx hb dX11_set_104 ?_
            refine lv_topi (fun x46 ex46 => ?_)
            have tx46 : x46.toInt = x45.toInt + w.toInt := by rw [ex46]; exact Jvm.Kit.i32_add (by omega) (by omega)
            refine lv_iload_n hx hb dX11_set_105 rfl (lv_at hl 5 rfl) ?_
            have hv106 : vp_in x46 32 := vin ⟨by omega, by omega⟩
            have kc106 := clI x46 (by omega)
            refine tg_iast hx hb hk hG hw (ea132 (rfl : nk 79 = 132)) hv106 dX11_set_106 (fun H locs hw => ?_)
            obtain ⟨σ47, eσ47⟩ : ∃ z, z = up2 σ (79) x46.toNatClampNeg u := ⟨_, rfl⟩
            rw [← eσ47] at hw
            have hI : K0 σ σ47 := by rw [eσ47]; exact hI.up (rfl) (rg132 (rfl : nk 79 = 132) (fun q => by omega))
            refine lv_iload hx hb dX11_set_107 (lv_at hl 0 rfl) ?_
            exact ret r44 σ47 _ _ 109 _ (rfl) (⟨hI, trivial⟩) hw dX11_set_109
          · have c81i := congrArg Int32.toInt c81
            have p81 := bz0 hr42 c81
            refine lv_bipush (v := -2) hx hb dX11_set_84 (by decide) ?_
            exact ret (-2 : Int32) σ _ _ 86 _ (rfl) (⟨hI, trivial⟩) hw dX11_set_86
    · have c10i := congrArg Int32.toInt c10
      refine lv_bipush (v := 63) hx hb dX11_set_13 (by decide) ?_
      refine lv_goto (tgt := 58) hx hb dX11_set_15 (by decide) ?_
      refine lv_istore (lv' := [(4, .int (63 : Int32)), (0, .ref (ad G (78))), (1, .int v), (2, .int w), (3, .int u)]) hx hb dX11_set_58 hl (by decide) rfl (fun ls hl => ?_)
      refine lv_iload_n hx hb dX11_set_60 rfl (lv_at hl 3 rfl) ?_
      refine lv_i2l hx hb dX11_set_61 rfl ?_
      refine lv_lconst (v := 0) hx hb dX11_set_62 (by decide) ?_
      refine lv_ldc2 hx hb hown (hts _ wd151) dX11_set_63 ?_
      refine te_vi hw (ru_S (As := [.long w.toInt64, .long (0 : Int64), .long (5 : Int64)]) (rest := []) hx hb hml hts hown hk hw (c_X11_in l G hG σ hI.1 w.toInt64 (0 : Int64) (5 : Int64)) (m3_in wd156 wd157 wd5) wd158 nm_yX11_in ⟨rfl, rfl⟩ ⟨by decide, by decide⟩ rfl hl.1 rfl (Nat.le_of_ble_eq_true rfl) dX11_set_66 ⟨Nat.zero_le _, Nat.zero_le _⟩) (fun r49 σ48 H locs hr49 hw => ?_)
      rw [hr49.1] at hw
      have hr49 := hr49.2
      simp only [Int32.toInt_toInt64] at hr49
      refine lv_if_eq (tgt := 84) hx hb dX11_set_69 (by decide) (fun c69 => ?_) (fun c69 => ?_)
      · have c69i := congrArg Int32.toInt c69
        have p69 := bz0 hr49 c69
        refine lv_bipush (v := -2) hx hb dX11_set_84 (by decide) ?_
        exact ret (-2 : Int32) σ _ _ 86 _ (rfl) (⟨hI, trivial⟩) hw dX11_set_86
      · have c69i := mt Int32.toInt_inj.mp c69
        have p69 := bz1 hr49 c69
        refine lv_iload_n hx hb dX11_set_72 rfl (lv_at hl 4 rfl) ?_
        refine lv_i2l hx hb dX11_set_73 rfl ?_
        refine lv_lconst (v := 0) hx hb dX11_set_74 (by decide) ?_
        refine lv_iload hx hb dX11_set_75 (lv_at hl 0 rfl) ?_
        refine lv_i2l hx hb dX11_set_77 rfl ?_
        refine te_vi hw (ru_S (As := [.long u.toInt64, .long (0 : Int64), .long (63 : Int32).toInt64]) (rest := []) hx hb hml hts hown hk hw (c_X11_in l G hG σ hI.1 u.toInt64 (0 : Int64) ((63 : Int32).toInt64)) (m3_in wd156 wd157 wd5) wd158 nm_yX11_in ⟨rfl, rfl⟩ ⟨by decide, by decide⟩ rfl hl.1 rfl (Nat.le_of_ble_eq_true rfl) dX11_set_78 ⟨Nat.zero_le _, Nat.zero_le _⟩) (fun r51 σ50 H locs hr51 hw => ?_)
        rw [hr51.1] at hw
        have hr51 := hr51.2
        simp only [Int32.toInt_toInt64] at hr51
        refine lv_if_ne (tgt := 87) hx hb dX11_set_81 (by decide) (fun c81 => ?_) (fun c81 => ?_)
        · have c81i := mt Int32.toInt_inj.mp c81
          have p81 := bz1 hr51 c81
          refine lv_aload_n hx hb dX11_set_87 rfl (lv_at hl 1 rfl) ?_
          refine lv_iload_n hx hb dX11_set_88 rfl (lv_at hl 2 rfl) ?_
          refine lv_iload_n hx hb dX11_set_89 rfl (lv_at hl 3 rfl) ?_
          refine te_vi hw (ru_V (As := [.int v, .int w]) (rest := []) (C := RX11) hx hb hml hts hown hk hw (c_X11_of l G hG σ hI.1 v w (by omega) (by omega)) (m4_in wd159 wd160 wd161 wd5) wd162 (en10 (rfl : nk 78 = 10)) rfl rfl rfl nm_yX11_of ⟨rfl, rfl⟩ ⟨by decide, by decide⟩ rfl hl.1 rfl (Nat.le_of_ble_eq_true rfl) dX11_set_90 ⟨Nat.zero_le _, Nat.zero_le _⟩) (fun r53 σ52 H locs hr53 hw => ?_)
          rw [hr53.1] at hw
          have hr53 := hr53.2
          refine lv_istore (lv' := [(5, .int r53), (4, .int (63 : Int32)), (0, .ref (ad G (78))), (1, .int v), (2, .int w), (3, .int u)]) hx hb dX11_set_93 hl (by decide) rfl (fun ls hl => ?_)
          refine lv_aload_n hx hb dX11_set_95 rfl (lv_at hl 2 rfl) ?_
          refine tg_get (ci := 10) (k := 0) (v := .ref (ad G (79))) hx hb hts hown hk hw (en10 (rfl : nk 78 = 10)) rfl inlX11 (by decide) wd105 rfl dX11_set_96 ?_
          refine lv_bipush (v := 8) hx hb dX11_set_99 (by decide) ?_
          refine lv_iload_n hx hb dX11_set_101 rfl (lv_at hl 3 rfl) ?_
          refine lv_imul hx hb dX11_set_102 ?_
          refine lv_topi (fun x54 ex54 => ?_)
          have tx54 : x54.toInt = 8 * v.toInt := by rw [ex54, Jvm.Kit.i32_mul (by rw [L8]; omega) (by rw [L8]; omega), L8]
          refine lv_iload_n hx hb dX11_set_103 rfl (lv_at hl 4 rfl) ?_
          refine lv_iadd hx hb dX11_set_104 ?_
          refine lv_topi (fun x55 ex55 => ?_)
          have tx55 : x55.toInt = x54.toInt + w.toInt := by rw [ex55]; exact Jvm.Kit.i32_add (by omega) (by omega)
          refine lv_iload_n hx hb dX11_set_105 rfl (lv_at hl 5 rfl) ?_
          have hv106 : vp_in x55 32 := vin ⟨by omega, by omega⟩
          have kc106 := clI x55 (by omega)
          refine tg_iast hx hb hk hG hw (ea132 (rfl : nk 79 = 132)) hv106 dX11_set_106 (fun H locs hw => ?_)
          obtain ⟨σ56, eσ56⟩ : ∃ z, z = up2 σ (79) x55.toNatClampNeg u := ⟨_, rfl⟩
          rw [← eσ56] at hw
          have hI : K0 σ σ56 := by rw [eσ56]; exact hI.up (rfl) (rg132 (rfl : nk 79 = 132) (fun q => by omega))
          refine lv_iload hx hb dX11_set_107 (lv_at hl 0 rfl) ?_
          exact ret r53 σ56 _ _ 109 _ (rfl) (⟨hI, trivial⟩) hw dX11_set_109
        · have c81i := congrArg Int32.toInt c81
          have p81 := bz0 hr51 c81
          refine lv_bipush (v := -2) hx hb dX11_set_84 (by decide) ?_
          exact ret (-2 : Int32) σ _ _ 86 _ (rfl) (⟨hI, trivial⟩) hw dX11_set_86
  · have c4i := congrArg Int32.toInt c4
    have p4 := bz0 hr2 c4
    refine lv_iconst (v := -1) hx hb dX11_set_7 (by decide) ?_
    exact ret (-1 : Int32) σ _ _ 8 _ (rfl) (⟨hI, trivial⟩) hw dX11_set_8
set_option maxHeartbeats 4000000 in
set_option maxRecDepth 100000 in
theorem c_X11_post (l : Launch) (G : Gg) (hG : Ginj G) (σ : Sg) (hI0 : Inv σ) (v : Int32) : MI l G yX11_post cX11_post 3 .int (rmO 2 45) σ [.ref (ad G (78)), .int v] (fun r σ' => postP 78 3 81 σ σ' v r) := by
  refine MI.of (by decide +kernel) (Nat.le_of_ble_eq_true rfl) ?_
  intro p e s m a below meth c ls Q hx hb hml hts hown hk hw ret hl
  have hown : s.vm.findClass RX11 = some m.cls := hown
  have hl : lv_has ls 3 [(0, .ref (ad G (78))), (1, .int v)] := hl
  have hI : K0 σ σ := K0.rf hI0
  have Lm5 : (-5 : Int32).toInt = -5 := by decide
  have Lm4 : (-4 : Int32).toInt = -4 := by decide
  have Lm2 : (-2 : Int32).toInt = -2 := by decide
  have L0 : (0 : Int32).toInt = 0 := by decide
  have L1 : (1 : Int32).toInt = 1 := by decide
  have L4 : (4 : Int32).toInt = 4 := by decide
  generalize hHe : s.heap = H at hw ⊢
  generalize hLe : ([] : List Loc) = locs at hw ⊢
  refine lv_iload_n hx hb dX11_post_0 rfl (lv_at hl 1 rfl) ?_
  refine te_vi hw (ru_S (As := [.int v]) (rest := []) hx hb hml hts hown hk hw (c_X11_isCell l G hG σ hI.1 v) (m3_in wd185 wd186 wd5) wd187 nm_yX11_isCell ⟨rfl, rfl⟩ ⟨by decide, by decide⟩ rfl hl.1 rfl (Nat.le_of_ble_eq_true rfl) dX11_post_1 ⟨Nat.zero_le _, Nat.zero_le _⟩) (fun r2 σ1 H locs hr2 hw => ?_)
  rw [hr2.1] at hw
  have hr2 := hr2.2
  refine lv_if_ne (tgt := 10) hx hb dX11_post_4 (by decide) (fun c4 => ?_) (fun c4 => ?_)
  · have c4i := mt Int32.toInt_inj.mp c4
    have p4 := bz1 hr2 c4
    refine lv_iconst (v := 0) hx hb dX11_post_10 (by decide) ?_
    refine lv_istore_n (lv' := [(2, .int (0 : Int32)), (0, .ref (ad G (78))), (1, .int v)]) hx hb dX11_post_11 rfl hl (by decide) rfl (fun ls hl => ?_)
    have cut12 : ∀ (n : Nat) (z2_12 : Int32) (H : Heap) (locs : List Loc) (ls : Array Slot), (0 ≤ z2_12.toInt ∧ z2_12.toInt ≤ 4) → (∀ k : Nat, (k : Int) < z2_12.toInt → ¬ σ 81 k = v) → ((4 - z2_12.toInt).toNat : Int) < (n : Int) → Wo G σ s H locs → lv_has ls 3 [(0, .ref (ad G (78))), (1, .int v), (2, .int z2_12)] → W p l e (rmO 2 45) s m a below meth c H locs 0 0 Q (F0 m 12 ls []) := by
      intro n12
      induction n12 with
      | zero =>
        intro z2_12 H locs ls f12_0 f12_1 hm12 hw hl
        exfalso; omega
      | succ n12 ih12 =>
        intro z2_12 H locs ls f12_0 f12_1 hm12 hw hl
        refine lv_iload_n hx hb dX11_post_12 rfl (lv_at hl 2 rfl) ?_
        refine lv_aload_n hx hb dX11_post_13 rfl (lv_at hl 0 rfl) ?_
        refine tg_get (ci := 10) (k := 3) (v := .int (σ (78) 3)) hx hb hts hown hk hw (en10 (rfl : nk 78 = 10)) rfl inlX11 (by decide) wd184 rfl dX11_post_14 ?_
        refine lv_topi (fun x3 ex3 => ?_)
        have bx3 : 0 ≤ x3.toInt ∧ x3.toInt ≤ 4 := by rw [ex3]; exact hI.1 _ _ _ _ (by rw [(rfl : nk 78 = 10)]; rfl)
        have ux3 : x3.toInt = (σ (78) 3).toInt := by rw [ex3]
        refine lv_icmp_ge (tgt := 39) hx hb dX11_post_17 (by decide) (fun c17 => ?_) (fun c17 => ?_)
        · have c17i := Int32.le_iff_toInt_le.mp c17
          refine lv_aload_n hx hb dX11_post_39 rfl (lv_at hl 0 rfl) ?_
          refine tg_get (ci := 10) (k := 3) (v := .int (σ (78) 3)) hx hb hts hown hk hw (en10 (rfl : nk 78 = 10)) rfl inlX11 (by decide) wd184 rfl dX11_post_40 ?_
          refine lv_topi (fun x4 ex4 => ?_)
          have qx4 : x4.toInt = x3.toInt := by rw [ex4, ex3]
          have bx4 : 0 ≤ x4.toInt ∧ x4.toInt ≤ 4 := by rw [ex4]; exact hI.1 _ _ _ _ (by rw [(rfl : nk 78 = 10)]; rfl)
          have ux4 : x4.toInt = (σ (78) 3).toInt := by rw [ex4]
          refine lv_iconst (v := 4) hx hb dX11_post_43 (by decide) ?_
          refine lv_icmp_ne (tgt := 50) hx hb dX11_post_44 (by decide) (fun c44 => ?_) (fun c44 => ?_)
          · have c44i := mt Int32.toInt_inj.mp c44
            refine lv_aload_n hx hb dX11_post_50 rfl (lv_at hl 0 rfl) ?_
            refine tg_get (ci := 10) (k := 2) (v := .ref (ad G (81))) hx hb hts hown hk hw (en10 (rfl : nk 78 = 10)) rfl inlX11 (by decide) wd107 rfl dX11_post_51 ?_
            refine lv_aload_n hx hb dX11_post_54 rfl (lv_at hl 0 rfl) ?_
            refine tg_get (ci := 10) (k := 3) (v := .int (σ (78) 3)) hx hb hts hown hk hw (en10 (rfl : nk 78 = 10)) rfl inlX11 (by decide) wd184 rfl dX11_post_55 ?_
            refine lv_topi (fun x5 ex5 => ?_)
            have qx5 : x5.toInt = x3.toInt := by rw [ex5, ex3]
            have bx5 : 0 ≤ x5.toInt ∧ x5.toInt ≤ 4 := by rw [ex5]; exact hI.1 _ _ _ _ (by rw [(rfl : nk 78 = 10)]; rfl)
            have ux5 : x5.toInt = (σ (78) 3).toInt := by rw [ex5]
            have a55 := ex5
            refine lv_iload_n hx hb dX11_post_58 rfl (lv_at hl 1 rfl) ?_
            have hv59 : vp_in x5 4 := vin ⟨by omega, by omega⟩
            refine tg_iast hx hb hk hG hw (ea104 (rfl : nk 81 = 104)) hv59 dX11_post_59 (fun H locs hw => ?_)
            obtain ⟨σ6, eσ6⟩ : ∃ z, z = up2 σ (81) x5.toNatClampNeg v := ⟨_, rfl⟩
            rw [← eσ6] at hw
            have hI : K0 (up2 σ 81 x5.toNatClampNeg v) σ6 := by rw [eσ6]; exact hI.put (rg_no (by rw [(rfl : nk 81 = 104)]; rfl))
            refine lv_aload_n hx hb dX11_post_60 rfl (lv_at hl 0 rfl) ?_
            refine lv_dup hx hb dX11_post_61 rfl ?_
            refine tg_get (ci := 10) (k := 3) (v := .int (σ6 (78) 3)) hx hb hts hown hk hw (en10 (rfl : nk 78 = 10)) rfl inlX11 (by decide) wd184 rfl dX11_post_62 ?_
            refine lv_topi (fun x7 ex7 => ?_)
            have bx7 : 0 ≤ x7.toInt ∧ x7.toInt ≤ 4 := by rw [ex7]; exact hI.1 _ _ _ _ (by rw [(rfl : nk 78 = 10)]; rfl)
            have ux7 : x7.toInt = (σ6 (78) 3).toInt := by rw [ex7]
            have qx7 : x7.toInt = x3.toInt := by rw [ex7, eσ6, up2_ne (by omega), ex3]
            have a62 : x7 = σ 78 3 := by rw [ex7, eσ6, up2_ne (by decide)]
            refine lv_iconst (v := 1) hx hb dX11_post_65 (by decide) ?_
            refine lv_iadd hx hb dX11_post_66 ?_
            refine lv_topi (fun x8 ex8 => ?_)
            have tx8 : x8.toInt = x7.toInt + (1 : Int32).toInt := by rw [ex8]; exact Jvm.Kit.i32_add (by omega) (by omega)
            have a66 : x8 = σ 78 3 + 1 := by rw [ex8, a62]
            refine tg_put (ci := 10) (k := 3) (σ' := up2 σ6 (78) 3 x8) hx hb hts hown hk hG hw tyX11 (en10 (rfl : nk 78 = 10)) rfl inlX11 tyX11_ok nmX11 (by decide) wd184 rfl rfl rfl (Nat.le_of_ble_eq_true rfl) (pu10_3 (rfl : nk 78 = 10)) (fun _ h => up2_ne h) dX11_post_67 (fun H locs hw => ?_)
            obtain ⟨σ9, eσ9⟩ : ∃ z, z = up2 σ6 (78) 3 x8 := ⟨_, rfl⟩
            rw [← eσ9] at hw
            have hI : K0 (up2 (up2 σ 81 x5.toNatClampNeg v) 78 3 x8) σ9 := by rw [eσ9]; exact hI.put (rg_is (by rw [(rfl : nk 78 = 10)]; rfl) (by omega) (by omega))
            refine lv_aload_n hx hb dX11_post_70 rfl (lv_at hl 0 rfl) ?_
            refine tg_get (ci := 10) (k := 3) (v := .int (σ9 (78) 3)) hx hb hts hown hk hw (en10 (rfl : nk 78 = 10)) rfl inlX11 (by decide) wd184 rfl dX11_post_71 ?_
            refine lv_topi (fun x10 ex10 => ?_)
            have bx10 : 0 ≤ x10.toInt ∧ x10.toInt ≤ 4 := by rw [ex10]; exact hI.1 _ _ _ _ (by rw [(rfl : nk 78 = 10)]; rfl)
            have ux10 : x10.toInt = (σ9 (78) 3).toInt := by rw [ex10]
            have zx10 : x10 = x8 := by rw [ex10, eσ9, up2_self]
            have yx10 : x10.toInt = x8.toInt := by rw [zx10]
            have a71 : x10 = σ 78 3 + 1 := by rw [ex10, eσ9, up2_self, a66]
            exact ret x10 σ9 _ _ 74 _ (rfl) (Or.inr (Or.inr (Or.inr ⟨by omega, (fun ⟨k, q1, q2⟩ => f12_1 k (by omega) q2), by omega, (by rw [a55, a66] at hI; exact hI), a71⟩))) hw dX11_post_74
          · have c44i := congrArg Int32.toInt c44
            refine lv_bipush (v := -4) hx hb dX11_post_47 (by decide) ?_
            exact ret (-4 : Int32) σ _ _ 49 _ (rfl) (Or.inr (Or.inr (Or.inl ⟨by omega, (fun ⟨k, q1, q2⟩ => f12_1 k (by omega) q2), by omega, hI, rfl⟩))) hw dX11_post_49
        · have c17i := mt Int32.le_iff_toInt_le.mpr c17
          refine lv_aload_n hx hb dX11_post_20 rfl (lv_at hl 0 rfl) ?_
          refine tg_get (ci := 10) (k := 2) (v := .ref (ad G (81))) hx hb hts hown hk hw (en10 (rfl : nk 78 = 10)) rfl inlX11 (by decide) wd107 rfl dX11_post_21 ?_
          refine lv_iload_n hx hb dX11_post_24 rfl (lv_at hl 2 rfl) ?_
          have hv25 : vp_in z2_12 4 := vin ⟨by omega, by omega⟩
          refine tg_iald hx hb hk hw (en104 (rfl : nk 81 = 104)) hv25 dX11_post_25 ?_
          refine lv_topi (fun x11 ex11 => ?_)
          have eL := ex11
          refine lv_iload_n hx hb dX11_post_26 rfl (lv_at hl 1 rfl) ?_
          refine lv_icmp_ne (tgt := 33) hx hb dX11_post_27 (by decide) (fun c27 => ?_) (fun c27 => ?_)
          · have ox11 := i32b x11
            have c27i := mt Int32.toInt_inj.mp c27
            obtain ⟨x12, ex12⟩ : ∃ z : Int32, z = z2_12 + (1 : Int32) := ⟨_, rfl⟩
            refine lv_iinc (v := x12) (lv' := [(2, .int x12), (0, .ref (ad G (78))), (1, .int v)]) hx hb dX11_post_33 hl (k := 2) rfl (by rw [ex12]; rfl) (by decide) rfl (fun ls hl => ?_)
            have tx12 : x12.toInt = z2_12.toInt + 1 := by rw [ex12, Jvm.Kit.i32_add (by omega) (by omega)]; omega
            refine lv_goto (tgt := 12) hx hb dX11_post_36 (by decide) ?_
            exact ih12 x12 _ _ _ (by omega) (by first | (intro k hk; exfalso; omega) | (intro k hk; have q1 := clI z2_12 (by omega); exact (Nat.lt_or_ge k z2_12.toNatClampNeg).elim (fun q => f12_1 k (by omega)) (fun q => by rw [show k = z2_12.toNatClampNeg from by omega, ← eL]; exact c27))) (by omega) hw (lv_sub hl [1, 2, 0] rfl)
          · have ox11 := i32b x11
            have c27i := congrArg Int32.toInt c27
            refine lv_bipush (v := -5) hx hb dX11_post_30 (by decide) ?_
            exact ret (-5 : Int32) σ _ _ 32 _ (rfl) (Or.inr (Or.inl ⟨by omega, ⟨z2_12.toNatClampNeg, by have q := clI z2_12 (by omega); omega, by rw [← eL]; exact c27⟩, hI, rfl⟩)) hw dX11_post_32
    exact cut12 ((((4 - (0 : Int32).toInt).toNat : Int)).toNat + 1) (0 : Int32) _ _ _ (by omega) (by first | (intro k hk; exfalso; omega) | (intro k hk; have q1 := clI z2_12 (by omega); exact (Nat.lt_or_ge k z2_12.toNatClampNeg).elim (fun q => f12_1 k (by omega)) (fun q => by rw [show k = z2_12.toNatClampNeg from by omega, ← eL]; exact c27))) (by omega) hw (lv_sub hl [1, 2, 0] rfl)
  · have c4i := congrArg Int32.toInt c4
    have p4 := bz0 hr2 c4
    refine lv_bipush (v := -2) hx hb dX11_post_7 (by decide) ?_
    exact ret (-2 : Int32) σ _ _ 9 _ (rfl) (Or.inl ⟨by omega, hI, rfl⟩) hw dX11_post_9
set_option maxHeartbeats 4000000 in
set_option maxRecDepth 100000 in
theorem c_X11_clear (l : Launch) (G : Gg) (hG : Ginj G) (σ : Sg) (hI0 : Inv σ) : MI l G yX11_clear cX11_clear 2 .int (rmO 0 0) σ [.ref (ad G (78))] (fun r σ' => K0 (up2 σ 78 3 0) σ' ∧ r = σ 78 3) := by
  refine MI.of (by decide +kernel) (Nat.le_of_ble_eq_true rfl) ?_
  intro p e s m a below meth c ls Q hx hb hml hts hown hk hw ret hl
  have hown : s.vm.findClass RX11 = some m.cls := hown
  have hl : lv_has ls 2 [(0, .ref (ad G (78)))] := hl
  have hI : K0 σ σ := K0.rf hI0
  have L0 : (0 : Int32).toInt = 0 := by decide
  generalize hHe : s.heap = H at hw ⊢
  generalize hLe : ([] : List Loc) = locs at hw ⊢
  refine lv_aload_n hx hb dX11_clear_0 rfl (lv_at hl 0 rfl) ?_
  refine tg_get (ci := 10) (k := 3) (v := .int (σ (78) 3)) hx hb hts hown hk hw (en10 (rfl : nk 78 = 10)) rfl inlX11 (by decide) wd184 rfl dX11_clear_1 ?_
  refine lv_topi (fun x1 ex1 => ?_)
  have bx1 : 0 ≤ x1.toInt ∧ x1.toInt ≤ 4 := by rw [ex1]; exact hI.1 _ _ _ _ (by rw [(rfl : nk 78 = 10)]; rfl)
  have ux1 : x1.toInt = (σ (78) 3).toInt := by rw [ex1]
  have a1 := ex1
  refine lv_istore_n (lv' := [(1, .int x1), (0, .ref (ad G (78)))]) hx hb dX11_clear_4 rfl hl (by decide) rfl (fun ls hl => ?_)
  refine lv_aload_n hx hb dX11_clear_5 rfl (lv_at hl 1 rfl) ?_
  refine lv_iconst (v := 0) hx hb dX11_clear_6 (by decide) ?_
  refine tg_put (ci := 10) (k := 3) (σ' := up2 σ (78) 3 (0 : Int32)) hx hb hts hown hk hG hw tyX11 (en10 (rfl : nk 78 = 10)) rfl inlX11 tyX11_ok nmX11 (by decide) wd184 rfl rfl rfl (Nat.le_of_ble_eq_true rfl) (pu10_3 (rfl : nk 78 = 10)) (fun _ h => up2_ne h) dX11_clear_7 (fun H locs hw => ?_)
  obtain ⟨σ2, eσ2⟩ : ∃ z, z = up2 σ (78) 3 (0 : Int32) := ⟨_, rfl⟩
  rw [← eσ2] at hw
  have hI : K0 (up2 σ 78 3 (0 : Int32)) σ2 := by rw [eσ2]; exact hI.put (rg_is (by rw [(rfl : nk 78 = 10)]; rfl) (by omega) (by omega))
  refine lv_iload_n hx hb dX11_clear_10 rfl (lv_at hl 0 rfl) ?_
  exact ret x1 σ2 _ _ 11 _ (rfl) (⟨hI, a1⟩) hw dX11_clear_11
set_option maxHeartbeats 4000000 in
set_option maxRecDepth 100000 in
theorem c_X11_say (l : Launch) (G : Gg) (hG : Ginj G) (σ : Sg) (hI0 : Inv σ) (v : Int32) : MI l G yX11_say cX11_say 2 .int (rmO 1 25) σ [.ref (ad G (78)), .int v] (fun r σ' => Inv σ' ∧ KeepR σ σ') := by
  refine MI.of (by decide +kernel) (Nat.le_of_ble_eq_true rfl) ?_
  intro p e s m a below meth c ls Q hx hb hml hts hown hk hw ret hl
  have hown : s.vm.findClass RX11 = some m.cls := hown
  have hl : lv_has ls 2 [(0, .ref (ad G (78))), (1, .int v)] := hl
  have hI : K0 σ σ := K0.rf hI0
  have Lm4 : (-4 : Int32).toInt = -4 := by decide
  have Lm2 : (-2 : Int32).toInt = -2 := by decide
  have L0 : (0 : Int32).toInt = 0 := by decide
  have L1 : (1 : Int32).toInt = 1 := by decide
  have L40 : (40 : Int32).toInt = 40 := by decide
  have M33 : (33 : Int64).toInt = 33 := by decide
  have M126 : (126 : Int64).toInt = 126 := by decide
  generalize hHe : s.heap = H at hw ⊢
  generalize hLe : ([] : List Loc) = locs at hw ⊢
  refine lv_iload_n hx hb dX11_say_0 rfl (lv_at hl 1 rfl) ?_
  refine lv_i2l hx hb dX11_say_1 rfl ?_
  refine lv_ldc2 hx hb hown (hts _ wd211) dX11_say_2 ?_
  refine lv_ldc2 hx hb hown (hts _ wd212) dX11_say_5 ?_
  refine te_vi hw (ru_S (As := [.long v.toInt64, .long (33 : Int64), .long (126 : Int64)]) (rest := []) hx hb hml hts hown hk hw (c_X11_in l G hG σ hI.1 v.toInt64 (33 : Int64) (126 : Int64)) (m3_in wd156 wd157 wd5) wd158 nm_yX11_in ⟨rfl, rfl⟩ ⟨by decide, by decide⟩ rfl hl.1 rfl (Nat.le_of_ble_eq_true rfl) dX11_say_8 ⟨Nat.zero_le _, Nat.zero_le _⟩) (fun r2 σ1 H locs hr2 hw => ?_)
  rw [hr2.1] at hw
  have hr2 := hr2.2
  simp only [Int32.toInt_toInt64] at hr2
  refine lv_if_ne (tgt := 17) hx hb dX11_say_11 (by decide) (fun c11 => ?_) (fun c11 => ?_)
  · have c11i := mt Int32.toInt_inj.mp c11
    have p11 := bz1 hr2 c11
    refine lv_aload_n hx hb dX11_say_17 rfl (lv_at hl 0 rfl) ?_
    refine tg_get (ci := 10) (k := 7) (v := .int (σ (78) 7)) hx hb hts hown hk hw (en10 (rfl : nk 78 = 10)) rfl inlX11 (by decide) wd213 rfl dX11_say_18 ?_
    refine lv_topi (fun x3 ex3 => ?_)
    have bx3 : 0 ≤ x3.toInt ∧ x3.toInt ≤ 40 := by rw [ex3]; exact hI.1 _ _ _ _ (by rw [(rfl : nk 78 = 10)]; rfl)
    have ux3 : x3.toInt = (σ (78) 7).toInt := by rw [ex3]
    refine lv_bipush (v := 40) hx hb dX11_say_21 (by decide) ?_
    refine lv_icmp_ne (tgt := 29) hx hb dX11_say_23 (by decide) (fun c23 => ?_) (fun c23 => ?_)
    · have c23i := mt Int32.toInt_inj.mp c23
      refine lv_aload_n hx hb dX11_say_29 rfl (lv_at hl 0 rfl) ?_
      refine tg_get (ci := 10) (k := 6) (v := .ref (ad G (84))) hx hb hts hown hk hw (en10 (rfl : nk 78 = 10)) rfl inlX11 (by decide) wd110 rfl dX11_say_30 ?_
      refine lv_aload_n hx hb dX11_say_33 rfl (lv_at hl 0 rfl) ?_
      refine tg_get (ci := 10) (k := 7) (v := .int (σ (78) 7)) hx hb hts hown hk hw (en10 (rfl : nk 78 = 10)) rfl inlX11 (by decide) wd213 rfl dX11_say_34 ?_
      refine lv_topi (fun x4 ex4 => ?_)
      have qx4 : x4.toInt = x3.toInt := by rw [ex4, ex3]
      have bx4 : 0 ≤ x4.toInt ∧ x4.toInt ≤ 40 := by rw [ex4]; exact hI.1 _ _ _ _ (by rw [(rfl : nk 78 = 10)]; rfl)
      have ux4 : x4.toInt = (σ (78) 7).toInt := by rw [ex4]
      refine lv_iload_n hx hb dX11_say_37 rfl (lv_at hl 1 rfl) ?_
      have hv38 : vp_in x4 40 := vin ⟨by omega, by omega⟩
      refine tg_iast hx hb hk hG hw (ea140 (rfl : nk 84 = 140)) hv38 dX11_say_38 (fun H locs hw => ?_)
      obtain ⟨σ5, eσ5⟩ : ∃ z, z = up2 σ (84) x4.toNatClampNeg v := ⟨_, rfl⟩
      rw [← eσ5] at hw
      have hI : K0 (up2 σ 84 x4.toNatClampNeg v) σ5 := by rw [eσ5]; exact hI.put (rg_no (by rw [(rfl : nk 84 = 140)]; rfl))
      refine lv_aload_n hx hb dX11_say_39 rfl (lv_at hl 0 rfl) ?_
      refine lv_dup hx hb dX11_say_40 rfl ?_
      refine tg_get (ci := 10) (k := 7) (v := .int (σ5 (78) 7)) hx hb hts hown hk hw (en10 (rfl : nk 78 = 10)) rfl inlX11 (by decide) wd213 rfl dX11_say_41 ?_
      refine lv_topi (fun x6 ex6 => ?_)
      have bx6 : 0 ≤ x6.toInt ∧ x6.toInt ≤ 40 := by rw [ex6]; exact hI.1 _ _ _ _ (by rw [(rfl : nk 78 = 10)]; rfl)
      have ux6 : x6.toInt = (σ5 (78) 7).toInt := by rw [ex6]
      have qx6 : x6.toInt = x3.toInt := by rw [ex6, eσ5, up2_ne (by omega), ex3]
      refine lv_iconst (v := 1) hx hb dX11_say_44 (by decide) ?_
      refine lv_iadd hx hb dX11_say_45 ?_
      refine lv_topi (fun x7 ex7 => ?_)
      have tx7 : x7.toInt = x6.toInt + (1 : Int32).toInt := by rw [ex7]; exact Jvm.Kit.i32_add (by omega) (by omega)
      refine tg_put (ci := 10) (k := 7) (σ' := up2 σ5 (78) 7 x7) hx hb hts hown hk hG hw tyX11 (en10 (rfl : nk 78 = 10)) rfl inlX11 tyX11_ok nmX11 (by decide) wd213 rfl rfl rfl (Nat.le_of_ble_eq_true rfl) (pu10_7 (rfl : nk 78 = 10)) (fun _ h => up2_ne h) dX11_say_46 (fun H locs hw => ?_)
      obtain ⟨σ8, eσ8⟩ : ∃ z, z = up2 σ5 (78) 7 x7 := ⟨_, rfl⟩
      rw [← eσ8] at hw
      have hI : K0 (up2 (up2 σ 84 x4.toNatClampNeg v) 78 7 x7) σ8 := by rw [eσ8]; exact hI.put (rg_is (by rw [(rfl : nk 78 = 10)]; rfl) (by omega) (by omega))
      refine lv_aload_n hx hb dX11_say_49 rfl (lv_at hl 0 rfl) ?_
      refine tg_get (ci := 10) (k := 7) (v := .int (σ8 (78) 7)) hx hb hts hown hk hw (en10 (rfl : nk 78 = 10)) rfl inlX11 (by decide) wd213 rfl dX11_say_50 ?_
      refine lv_topi (fun x9 ex9 => ?_)
      have bx9 : 0 ≤ x9.toInt ∧ x9.toInt ≤ 40 := by rw [ex9]; exact hI.1 _ _ _ _ (by rw [(rfl : nk 78 = 10)]; rfl)
      have ux9 : x9.toInt = (σ8 (78) 7).toInt := by rw [ex9]
      have zx9 : x9 = x7 := by rw [ex9, eσ8, up2_self]
      have yx9 : x9.toInt = x7.toInt := by rw [zx9]
      exact ret x9 σ8 _ _ 53 _ (rfl) (⟨hI.1, KR.of hI (KR.up (KR.up (KR.rf) rfl) rfl)⟩) hw dX11_say_53
    · have c23i := congrArg Int32.toInt c23
      refine lv_bipush (v := -4) hx hb dX11_say_26 (by decide) ?_
      exact ret (-4 : Int32) σ _ _ 28 _ (rfl) (⟨hI.1, KR.of hI (KR.rf)⟩) hw dX11_say_28
  · have c11i := congrArg Int32.toInt c11
    have p11 := bz0 hr2 c11
    refine lv_bipush (v := -2) hx hb dX11_say_14 (by decide) ?_
    exact ret (-2 : Int32) σ _ _ 16 _ (rfl) (⟨hI.1, KR.of hI (KR.rf)⟩) hw dX11_say_16
set_option maxHeartbeats 4000000 in
set_option maxRecDepth 100000 in
theorem c_X11_wipe (l : Launch) (G : Gg) (hG : Ginj G) (σ : Sg) (hI0 : Inv σ) : MI l G yX11_wipe cX11_wipe 2 .int (rmO 0 0) σ [.ref (ad G (78))] (fun r σ' => Inv σ' ∧ KeepR σ σ') := by
  refine MI.of (by decide +kernel) (Nat.le_of_ble_eq_true rfl) ?_
  intro p e s m a below meth c ls Q hx hb hml hts hown hk hw ret hl
  have hown : s.vm.findClass RX11 = some m.cls := hown
  have hl : lv_has ls 2 [(0, .ref (ad G (78)))] := hl
  have hI : K0 σ σ := K0.rf hI0
  have L0 : (0 : Int32).toInt = 0 := by decide
  generalize hHe : s.heap = H at hw ⊢
  generalize hLe : ([] : List Loc) = locs at hw ⊢
  refine lv_aload_n hx hb dX11_wipe_0 rfl (lv_at hl 0 rfl) ?_
  refine tg_get (ci := 10) (k := 7) (v := .int (σ (78) 7)) hx hb hts hown hk hw (en10 (rfl : nk 78 = 10)) rfl inlX11 (by decide) wd213 rfl dX11_wipe_1 ?_
  refine lv_topi (fun x1 ex1 => ?_)
  have bx1 : 0 ≤ x1.toInt ∧ x1.toInt ≤ 40 := by rw [ex1]; exact hI.1 _ _ _ _ (by rw [(rfl : nk 78 = 10)]; rfl)
  have ux1 : x1.toInt = (σ (78) 7).toInt := by rw [ex1]
  refine lv_istore_n (lv' := [(1, .int x1), (0, .ref (ad G (78)))]) hx hb dX11_wipe_4 rfl hl (by decide) rfl (fun ls hl => ?_)
  refine lv_aload_n hx hb dX11_wipe_5 rfl (lv_at hl 1 rfl) ?_
  refine lv_iconst (v := 0) hx hb dX11_wipe_6 (by decide) ?_
  refine tg_put (ci := 10) (k := 7) (σ' := up2 σ (78) 7 (0 : Int32)) hx hb hts hown hk hG hw tyX11 (en10 (rfl : nk 78 = 10)) rfl inlX11 tyX11_ok nmX11 (by decide) wd213 rfl rfl rfl (Nat.le_of_ble_eq_true rfl) (pu10_7 (rfl : nk 78 = 10)) (fun _ h => up2_ne h) dX11_wipe_7 (fun H locs hw => ?_)
  obtain ⟨σ2, eσ2⟩ : ∃ z, z = up2 σ (78) 7 (0 : Int32) := ⟨_, rfl⟩
  rw [← eσ2] at hw
  have hI : K0 (up2 σ 78 7 (0 : Int32)) σ2 := by rw [eσ2]; exact hI.put (rg_is (by rw [(rfl : nk 78 = 10)]; rfl) (by omega) (by omega))
  refine lv_iload_n hx hb dX11_wipe_10 rfl (lv_at hl 0 rfl) ?_
  exact ret x1 σ2 _ _ 11 _ (rfl) (⟨hI.1, KR.of hI (KR.up (KR.rf) rfl)⟩) hw dX11_wipe_11
set_option maxHeartbeats 4000000 in
set_option maxRecDepth 100000 in
theorem c_X11_fault (l : Launch) (G : Gg) (hG : Ginj G) (σ : Sg) (hI0 : Inv σ) : MI l G yX11_fault cX11_fault 6 .int (rmO 2 45) σ [.ref (ad G (78))] (fun r σ' => σ' = σ ∧ (r.toInt < 0 → 0 < (σ 78 7).toInt → ¬ ((σ 84 ((σ 78 7).toInt - 1).toNat).toInt = 102 ∨ (σ 84 ((σ 78 7).toInt - 1).toNat).toInt = 119))) := by
  refine MI.of (by decide +kernel) (Nat.le_of_ble_eq_true rfl) ?_
  intro p e s m a below meth c ls Q hx hb hml hts hown hk hw ret hl
  have hown : s.vm.findClass RX11 = some m.cls := hown
  have hl : lv_has ls 6 [(0, .ref (ad G (78)))] := hl
  have hI : K0 σ σ := K0.rf hI0
  have Lm6 : (-6 : Int32).toInt = -6 := by decide
  have L0 : (0 : Int32).toInt = 0 := by decide
  have L1 : (1 : Int32).toInt = 1 := by decide
  have M49 : (49 : Int64).toInt = 49 := by decide
  have M57 : (57 : Int64).toInt = 57 := by decide
  generalize hHe : s.heap = H at hw ⊢
  generalize hLe : ([] : List Loc) = locs at hw ⊢
  have hS7 := hI0 78 7 0 40 rfl
  refine lv_iconst (v := 0) hx hb dX11_fault_0 (by decide) ?_
  refine lv_istore_n (lv' := [(1, .int (0 : Int32)), (0, .ref (ad G (78)))]) hx hb dX11_fault_1 rfl hl (by decide) rfl (fun ls hl => ?_)
  refine lv_iconst (v := 0) hx hb dX11_fault_2 (by decide) ?_
  refine lv_istore_n (lv' := [(2, .int (0 : Int32)), (1, .int (0 : Int32)), (0, .ref (ad G (78)))]) hx hb dX11_fault_3 rfl hl (by decide) rfl (fun ls hl => ?_)
  refine lv_iconst (v := 0) hx hb dX11_fault_4 (by decide) ?_
  refine lv_istore_n (lv' := [(3, .int (0 : Int32)), (2, .int (0 : Int32)), (1, .int (0 : Int32)), (0, .ref (ad G (78)))]) hx hb dX11_fault_5 rfl hl (by decide) rfl (fun ls hl => ?_)
  have cut6 : ∀ (n : Nat) (z1_6 : Int32) (z2_6 : Int32) (z3_6 : Int32) (H : Heap) (locs : List Loc) (ls : Array Slot), (0 ≤ z3_6.toInt ∧ z3_6.toInt ≤ 40) → (z3_6.toInt ≤ (σ 78 7).toInt) → (z2_6.toInt = 0 → 0 < z3_6.toInt → ¬ ((σ 84 (z3_6.toInt - 1).toNat).toInt = 102 ∨ (σ 84 (z3_6.toInt - 1).toNat).toInt = 119)) → ((40 - z3_6.toInt).toNat : Int) < (n : Int) → Wo G σ s H locs → lv_has ls 6 [(0, .ref (ad G (78))), (1, .int z1_6), (2, .int z2_6), (3, .int z3_6)] → W p l e (rmO 2 45) s m a below meth c H locs 0 0 Q (F0 m 6 ls []) := by
    intro n6
    induction n6 with
    | zero =>
      intro z1_6 z2_6 z3_6 H locs ls f6_0 f6_1 f6_2 hm6 hw hl
      exfalso; omega
    | succ n6 ih6 =>
      intro z1_6 z2_6 z3_6 H locs ls f6_0 f6_1 f6_2 hm6 hw hl
      have cut83 : ∀ (z4_83 : Int32) (H : Heap) (locs : List Loc) (ls : Array Slot), (z2_6.toInt = 0 ∨ (49 ≤ z4_83.toInt ∧ z4_83.toInt ≤ 57)) → (z4_83 = σ 84 z3_6.toNatClampNeg) → (z3_6.toInt < (σ 78 7).toInt) → Wo G σ s H locs → lv_has ls 6 [(0, .ref (ad G (78))), (1, .int z1_6), (2, .int z2_6), (3, .int z3_6), (4, .int z4_83)] → W p l e (rmO 2 45) s m a below meth c H locs 0 0 Q (F0 m 83 ls []) := by
        intro z4_83 H locs ls f83_0 f83_1 f83_2 hw hl
        have cut101 : ∀ (z1_101 : Int32) (H : Heap) (locs : List Loc) (ls : Array Slot), (z2_6.toInt = 0 ∨ (49 ≤ z4_83.toInt ∧ z4_83.toInt ≤ 57)) → (z4_83 = σ 84 z3_6.toNatClampNeg) → (z3_6.toInt < (σ 78 7).toInt) → Wo G σ s H locs → lv_has ls 6 [(0, .ref (ad G (78))), (1, .int z1_101), (2, .int z2_6), (3, .int z3_6), (4, .int z4_83)] → W p l e (rmO 2 45) s m a below meth c H locs 0 0 Q (F0 m 101 ls []) := by
          intro z1_101 H locs ls f101_0 f101_1 f101_2 hw hl
          refine lv_iload_n hx hb dX11_fault_101 rfl (lv_at hl 2 rfl) ?_
          refine lv_if_ne (tgt := 117) hx hb dX11_fault_102 (by decide) (fun c102 => ?_) (fun c102 => ?_)
          · have c102i := mt Int32.toInt_inj.mp c102
            refine lv_iconst (v := 0) hx hb dX11_fault_117 (by decide) ?_
            refine lv_istore_n (lv' := [(2, .int (0 : Int32)), (0, .ref (ad G (78))), (1, .int z1_101), (3, .int z3_6), (4, .int z4_83)]) hx hb dX11_fault_118 rfl hl (by decide) rfl (fun ls hl => ?_)
            obtain ⟨x1, ex1⟩ : ∃ z : Int32, z = z3_6 + (1 : Int32) := ⟨_, rfl⟩
            refine lv_iinc (v := x1) (lv' := [(3, .int x1), (2, .int (0 : Int32)), (0, .ref (ad G (78))), (1, .int z1_101), (4, .int z4_83)]) hx hb dX11_fault_119 hl (k := 3) rfl (by rw [ex1]; rfl) (by decide) rfl (fun ls hl => ?_)
            have tx1 : x1.toInt = z3_6.toInt + 1 := by rw [ex1, Jvm.Kit.i32_add (by omega) (by omega)]; omega
            refine lv_goto (tgt := 6) hx hb dX11_fault_122 (by decide) ?_
            exact ih6 z1_101 (0 : Int32) x1 _ _ _ (by omega) (by omega) (by intro z1 z2; first | (exfalso; omega) | (rw [show (x1.toInt - 1).toNat = z3_6.toNatClampNeg from by have q := clI z3_6 (by omega); omega, ← f101_1]; omega)) (by omega) hw (lv_sub hl [2, 3, 1, 0] rfl)
          · have c102i := congrArg Int32.toInt c102
            refine lv_iload hx hb dX11_fault_105 (lv_at hl 4 rfl) ?_
            refine te_vi hw (ru_S (As := [.int z4_83]) (rest := []) hx hb hml hts hown hk hw (c_X11_isGoing l G hG σ hI.1 z4_83) (m3_in wd254 wd255 wd5) wd256 nm_yX11_isGoing ⟨rfl, rfl⟩ ⟨by decide, by decide⟩ rfl hl.1 rfl (Nat.le_of_ble_eq_true rfl) dX11_fault_107 ⟨Nat.zero_le _, Nat.zero_le _⟩) (fun r3 σ2 H locs hr3 hw => ?_)
            rw [hr3.1] at hw
            have hr3 := hr3.2
            refine lv_if_eq (tgt := 117) hx hb dX11_fault_110 (by decide) (fun c110 => ?_) (fun c110 => ?_)
            · have c110i := congrArg Int32.toInt c110
              have p110 := bz0 hr3 c110
              refine lv_iconst (v := 0) hx hb dX11_fault_117 (by decide) ?_
              refine lv_istore_n (lv' := [(2, .int (0 : Int32)), (0, .ref (ad G (78))), (1, .int z1_101), (3, .int z3_6), (4, .int z4_83)]) hx hb dX11_fault_118 rfl hl (by decide) rfl (fun ls hl => ?_)
              obtain ⟨x4, ex4⟩ : ∃ z : Int32, z = z3_6 + (1 : Int32) := ⟨_, rfl⟩
              refine lv_iinc (v := x4) (lv' := [(3, .int x4), (2, .int (0 : Int32)), (0, .ref (ad G (78))), (1, .int z1_101), (4, .int z4_83)]) hx hb dX11_fault_119 hl (k := 3) rfl (by rw [ex4]; rfl) (by decide) rfl (fun ls hl => ?_)
              have tx4 : x4.toInt = z3_6.toInt + 1 := by rw [ex4, Jvm.Kit.i32_add (by omega) (by omega)]; omega
              refine lv_goto (tgt := 6) hx hb dX11_fault_122 (by decide) ?_
              exact ih6 z1_101 (0 : Int32) x4 _ _ _ (by omega) (by omega) (by intro z1 z2; first | (exfalso; omega) | (rw [show (x4.toInt - 1).toNat = z3_6.toNatClampNeg from by have q := clI z3_6 (by omega); omega, ← f101_1]; omega)) (by omega) hw (lv_sub hl [2, 3, 1, 0] rfl)
            · have c110i := mt Int32.toInt_inj.mp c110
              have p110 := bz1 hr3 c110
              refine lv_iconst (v := 1) hx hb dX11_fault_113 (by decide) ?_
              refine lv_goto (tgt := 118) hx hb dX11_fault_114 (by decide) ?_
              refine lv_istore_n (lv' := [(2, .int (1 : Int32)), (0, .ref (ad G (78))), (1, .int z1_101), (3, .int z3_6), (4, .int z4_83)]) hx hb dX11_fault_118 rfl hl (by decide) rfl (fun ls hl => ?_)
              obtain ⟨x5, ex5⟩ : ∃ z : Int32, z = z3_6 + (1 : Int32) := ⟨_, rfl⟩
              refine lv_iinc (v := x5) (lv' := [(3, .int x5), (2, .int (1 : Int32)), (0, .ref (ad G (78))), (1, .int z1_101), (4, .int z4_83)]) hx hb dX11_fault_119 hl (k := 3) rfl (by rw [ex5]; rfl) (by decide) rfl (fun ls hl => ?_)
              have tx5 : x5.toInt = z3_6.toInt + 1 := by rw [ex5, Jvm.Kit.i32_add (by omega) (by omega)]; omega
              refine lv_goto (tgt := 6) hx hb dX11_fault_122 (by decide) ?_
              exact ih6 z1_101 (1 : Int32) x5 _ _ _ (by omega) (by omega) (by intro z1 z2; first | (exfalso; omega) | (rw [show (x5.toInt - 1).toNat = z3_6.toNatClampNeg from by have q := clI z3_6 (by omega); omega, ← f101_1]; omega)) (by omega) hw (lv_sub hl [2, 3, 1, 0] rfl)
        refine lv_iload_n hx hb dX11_fault_83 rfl (lv_at hl 1 rfl) ?_
        refine lv_if_ne (tgt := 95) hx hb dX11_fault_84 (by decide) (fun c84 => ?_) (fun c84 => ?_)
        · have c84i := mt Int32.toInt_inj.mp c84
          refine lv_iconst (v := 1) hx hb dX11_fault_95 (by decide) ?_
          refine lv_goto (tgt := 100) hx hb dX11_fault_96 (by decide) ?_
          refine lv_istore_n (lv' := [(1, .int (1 : Int32)), (0, .ref (ad G (78))), (2, .int z2_6), (3, .int z3_6), (4, .int z4_83)]) hx hb dX11_fault_100 rfl hl (by decide) rfl (fun ls hl => ?_)
          exact cut101 (1 : Int32) _ _ _ (by omega) (by assumption) (by omega) hw (lv_sub hl [1, 0, 2, 3, 4] rfl)
        · have c84i := congrArg Int32.toInt c84
          refine lv_iload hx hb dX11_fault_87 (lv_at hl 4 rfl) ?_
          refine te_vi hw (ru_S (As := [.int z4_83]) (rest := []) hx hb hml hts hown hk hw (c_X11_isLetter l G hG σ hI.1 z4_83) (m3_in wd246 wd247 wd5) wd248 nm_yX11_isLetter ⟨rfl, rfl⟩ ⟨by decide, by decide⟩ rfl hl.1 rfl (Nat.le_of_ble_eq_true rfl) dX11_fault_89 ⟨Nat.zero_le _, Nat.zero_le _⟩) (fun r7 σ6 H locs hr7 hw => ?_)
          rw [hr7.1] at hw
          have hr7 := hr7.2
          refine lv_if_eq (tgt := 99) hx hb dX11_fault_92 (by decide) (fun c92 => ?_) (fun c92 => ?_)
          · have c92i := congrArg Int32.toInt c92
            have p92 := bz0 hr7 c92
            refine lv_iconst (v := 0) hx hb dX11_fault_99 (by decide) ?_
            refine lv_istore_n (lv' := [(1, .int (0 : Int32)), (0, .ref (ad G (78))), (2, .int z2_6), (3, .int z3_6), (4, .int z4_83)]) hx hb dX11_fault_100 rfl hl (by decide) rfl (fun ls hl => ?_)
            exact cut101 (0 : Int32) _ _ _ (by omega) (by assumption) (by omega) hw (lv_sub hl [1, 0, 2, 3, 4] rfl)
          · have c92i := mt Int32.toInt_inj.mp c92
            have p92 := bz1 hr7 c92
            refine lv_iconst (v := 1) hx hb dX11_fault_95 (by decide) ?_
            refine lv_goto (tgt := 100) hx hb dX11_fault_96 (by decide) ?_
            refine lv_istore_n (lv' := [(1, .int (1 : Int32)), (0, .ref (ad G (78))), (2, .int z2_6), (3, .int z3_6), (4, .int z4_83)]) hx hb dX11_fault_100 rfl hl (by decide) rfl (fun ls hl => ?_)
            exact cut101 (1 : Int32) _ _ _ (by omega) (by assumption) (by omega) hw (lv_sub hl [1, 0, 2, 3, 4] rfl)
      refine lv_iload_n hx hb dX11_fault_6 rfl (lv_at hl 3 rfl) ?_
      refine lv_aload_n hx hb dX11_fault_7 rfl (lv_at hl 0 rfl) ?_
      refine tg_get (ci := 10) (k := 7) (v := .int (σ (78) 7)) hx hb hts hown hk hw (en10 (rfl : nk 78 = 10)) rfl inlX11 (by decide) wd213 rfl dX11_fault_8 ?_
      refine lv_topi (fun x8 ex8 => ?_)
      have bx8 : 0 ≤ x8.toInt ∧ x8.toInt ≤ 40 := by rw [ex8]; exact hI.1 _ _ _ _ (by rw [(rfl : nk 78 = 10)]; rfl)
      have ux8 : x8.toInt = (σ (78) 7).toInt := by rw [ex8]
      refine lv_icmp_ge (tgt := 125) hx hb dX11_fault_11 (by decide) (fun c11 => ?_) (fun c11 => ?_)
      · have c11i := Int32.le_iff_toInt_le.mp c11
        refine lv_iload_n hx hb dX11_fault_125 rfl (lv_at hl 2 rfl) ?_
        refine lv_if_eq (tgt := 136) hx hb dX11_fault_126 (by decide) (fun c126 => ?_) (fun c126 => ?_)
        · have c126i := congrArg Int32.toInt c126
          refine lv_bipush (v := -6) hx hb dX11_fault_136 (by decide) ?_
          exact ret (-6 : Int32) σ _ _ 138 _ (rfl) (⟨rfl, by intro z1 z2; first | (exfalso; omega) | (have q := f6_2 (by omega) (by omega); rw [show (σ 78 7).toInt = z3_6.toInt from by omega]; exact q)⟩) hw dX11_fault_138
        · have c126i := mt Int32.toInt_inj.mp c126
          refine lv_aload_n hx hb dX11_fault_129 rfl (lv_at hl 0 rfl) ?_
          refine tg_get (ci := 10) (k := 7) (v := .int (σ (78) 7)) hx hb hts hown hk hw (en10 (rfl : nk 78 = 10)) rfl inlX11 (by decide) wd213 rfl dX11_fault_130 ?_
          refine lv_topi (fun x9 ex9 => ?_)
          have qx9 : x9.toInt = x8.toInt := by rw [ex9, ex8]
          have bx9 : 0 ≤ x9.toInt ∧ x9.toInt ≤ 40 := by rw [ex9]; exact hI.1 _ _ _ _ (by rw [(rfl : nk 78 = 10)]; rfl)
          have ux9 : x9.toInt = (σ (78) 7).toInt := by rw [ex9]
          refine lv_goto (tgt := 138) hx hb dX11_fault_133 (by decide) ?_
          exact ret x9 σ _ _ 138 _ (rfl) (⟨rfl, by intro z1 z2; first | (exfalso; omega) | (have q := f6_2 (by omega) (by omega); rw [show (σ 78 7).toInt = z3_6.toInt from by omega]; exact q)⟩) hw dX11_fault_138
      · have c11i := mt Int32.le_iff_toInt_le.mpr c11
        refine lv_aload_n hx hb dX11_fault_14 rfl (lv_at hl 0 rfl) ?_
        refine tg_get (ci := 10) (k := 6) (v := .ref (ad G (84))) hx hb hts hown hk hw (en10 (rfl : nk 78 = 10)) rfl inlX11 (by decide) wd110 rfl dX11_fault_15 ?_
        refine lv_iload_n hx hb dX11_fault_18 rfl (lv_at hl 3 rfl) ?_
        have hv19 : vp_in z3_6 40 := vin ⟨by omega, by omega⟩
        refine tg_iald hx hb hk hw (en140 (rfl : nk 84 = 140)) hv19 dX11_fault_19 ?_
        refine lv_topi (fun x10 ex10 => ?_)
        refine lv_istore (lv' := [(4, .int x10), (0, .ref (ad G (78))), (1, .int z1_6), (2, .int z2_6), (3, .int z3_6)]) hx hb dX11_fault_20 hl (by decide) rfl (fun ls hl => ?_)
        refine lv_iload_n hx hb dX11_fault_22 rfl (lv_at hl 3 rfl) ?_
        refine lv_if_eq (tgt := 41) hx hb dX11_fault_23 (by decide) (fun c23 => ?_) (fun c23 => ?_)
        · have c23i := congrArg Int32.toInt c23
          refine lv_iload hx hb dX11_fault_41 (lv_at hl 0 rfl) ?_
          refine te_vi hw (ru_S (As := [.int x10]) (rest := []) hx hb hml hts hown hk hw (c_X11_isLetter l G hG σ hI.1 x10) (m3_in wd246 wd247 wd5) wd248 nm_yX11_isLetter ⟨rfl, rfl⟩ ⟨by decide, by decide⟩ rfl hl.1 rfl (Nat.le_of_ble_eq_true rfl) dX11_fault_43 ⟨Nat.zero_le _, Nat.zero_le _⟩) (fun r12 σ11 H locs hr12 hw => ?_)
          rw [hr12.1] at hw
          have hr12 := hr12.2
          refine lv_if_ne (tgt := 69) hx hb dX11_fault_46 (by decide) (fun c46 => ?_) (fun c46 => ?_)
          · have c46i := mt Int32.toInt_inj.mp c46
            have p46 := bz1 hr12 c46
            refine lv_iconst (v := 1) hx hb dX11_fault_69 (by decide) ?_
            refine lv_goto (tgt := 74) hx hb dX11_fault_70 (by decide) ?_
            refine lv_istore (lv' := [(5, .int (1 : Int32)), (4, .int x10), (0, .ref (ad G (78))), (1, .int z1_6), (2, .int z2_6), (3, .int z3_6)]) hx hb dX11_fault_74 hl (by decide) rfl (fun ls hl => ?_)
            refine lv_iload hx hb dX11_fault_76 (lv_at hl 0 rfl) ?_
            refine lv_if_ne (tgt := 83) hx hb dX11_fault_78 (by decide) (fun c78 => ?_) (fun c78 => ?_)
            · have c78i := mt Int32.toInt_inj.mp c78
              exact cut83 x10 _ _ _ (by omega) (by assumption) (by omega) hw (lv_sub hl [2, 3, 4, 5, 1] rfl)
            · have c78i := congrArg Int32.toInt c78
              exfalso; omega
          · have c46i := congrArg Int32.toInt c46
            have p46 := bz0 hr12 c46
            refine lv_iload_n hx hb dX11_fault_49 rfl (lv_at hl 2 rfl) ?_
            refine lv_if_eq (tgt := 73) hx hb dX11_fault_50 (by decide) (fun c50 => ?_) (fun c50 => ?_)
            · have c50i := congrArg Int32.toInt c50
              refine lv_iconst (v := 0) hx hb dX11_fault_73 (by decide) ?_
              refine lv_istore (lv' := [(5, .int (0 : Int32)), (4, .int x10), (0, .ref (ad G (78))), (1, .int z1_6), (2, .int z2_6), (3, .int z3_6)]) hx hb dX11_fault_74 hl (by decide) rfl (fun ls hl => ?_)
              refine lv_iload hx hb dX11_fault_76 (lv_at hl 0 rfl) ?_
              refine lv_if_ne (tgt := 83) hx hb dX11_fault_78 (by decide) (fun c78 => ?_) (fun c78 => ?_)
              · have c78i := mt Int32.toInt_inj.mp c78
                exfalso; omega
              · have c78i := congrArg Int32.toInt c78
                refine lv_iload_n hx hb dX11_fault_81 rfl (lv_at hl 5 rfl) ?_
                exact ret z3_6 σ _ _ 82 _ (rfl) (⟨rfl, by intro z1 z2; exfalso; omega⟩) hw dX11_fault_82
            · have c50i := mt Int32.toInt_inj.mp c50
              refine lv_iload hx hb dX11_fault_53 (lv_at hl 0 rfl) ?_
              refine te_vi hw (ru_S (As := [.int x10]) (rest := []) hx hb hml hts hown hk hw (c_X11_isTurn l G hG σ hI.1 x10) (m3_in wd251 wd252 wd5) wd253 nm_yX11_isTurn ⟨rfl, rfl⟩ ⟨by decide, by decide⟩ rfl hl.1 rfl (Nat.le_of_ble_eq_true rfl) dX11_fault_55 ⟨Nat.zero_le _, Nat.zero_le _⟩) (fun r14 σ13 H locs hr14 hw => ?_)
              rw [hr14.1] at hw
              have hr14 := hr14.2
              refine lv_if_ne (tgt := 69) hx hb dX11_fault_58 (by decide) (fun c58 => ?_) (fun c58 => ?_)
              · have c58i := mt Int32.toInt_inj.mp c58
                refine lv_iconst (v := 1) hx hb dX11_fault_69 (by decide) ?_
                refine lv_goto (tgt := 74) hx hb dX11_fault_70 (by decide) ?_
                refine lv_istore (lv' := [(5, .int (1 : Int32)), (4, .int x10), (0, .ref (ad G (78))), (1, .int z1_6), (2, .int z2_6), (3, .int z3_6)]) hx hb dX11_fault_74 hl (by decide) rfl (fun ls hl => ?_)
                refine lv_iload hx hb dX11_fault_76 (lv_at hl 0 rfl) ?_
                refine lv_if_ne (tgt := 83) hx hb dX11_fault_78 (by decide) (fun c78 => ?_) (fun c78 => ?_)
                · have c78i := mt Int32.toInt_inj.mp c78
                  exact cut83 x10 _ _ _ (by omega) (by assumption) (by omega) hw (lv_sub hl [2, 3, 4, 5, 1] rfl)
                · have c78i := congrArg Int32.toInt c78
                  exfalso; omega
              · have c58i := congrArg Int32.toInt c58
                refine lv_iload hx hb dX11_fault_61 (lv_at hl 0 rfl) ?_
                refine te_vi hw (ru_S (As := [.int x10]) (rest := []) hx hb hml hts hown hk hw (c_X11_isGoing l G hG σ hI.1 x10) (m3_in wd254 wd255 wd5) wd256 nm_yX11_isGoing ⟨rfl, rfl⟩ ⟨by decide, by decide⟩ rfl hl.1 rfl (Nat.le_of_ble_eq_true rfl) dX11_fault_63 ⟨Nat.zero_le _, Nat.zero_le _⟩) (fun r16 σ15 H locs hr16 hw => ?_)
                rw [hr16.1] at hw
                have hr16 := hr16.2
                refine lv_if_eq (tgt := 73) hx hb dX11_fault_66 (by decide) (fun c66 => ?_) (fun c66 => ?_)
                · have c66i := congrArg Int32.toInt c66
                  have p66 := bz0 hr16 c66
                  refine lv_iconst (v := 0) hx hb dX11_fault_73 (by decide) ?_
                  refine lv_istore (lv' := [(5, .int (0 : Int32)), (4, .int x10), (0, .ref (ad G (78))), (1, .int z1_6), (2, .int z2_6), (3, .int z3_6)]) hx hb dX11_fault_74 hl (by decide) rfl (fun ls hl => ?_)
                  refine lv_iload hx hb dX11_fault_76 (lv_at hl 0 rfl) ?_
                  refine lv_if_ne (tgt := 83) hx hb dX11_fault_78 (by decide) (fun c78 => ?_) (fun c78 => ?_)
                  · have c78i := mt Int32.toInt_inj.mp c78
                    exfalso; omega
                  · have c78i := congrArg Int32.toInt c78
                    refine lv_iload_n hx hb dX11_fault_81 rfl (lv_at hl 5 rfl) ?_
                    exact ret z3_6 σ _ _ 82 _ (rfl) (⟨rfl, by intro z1 z2; exfalso; omega⟩) hw dX11_fault_82
                · have c66i := mt Int32.toInt_inj.mp c66
                  have p66 := bz1 hr16 c66
                  refine lv_iconst (v := 1) hx hb dX11_fault_69 (by decide) ?_
                  refine lv_goto (tgt := 74) hx hb dX11_fault_70 (by decide) ?_
                  refine lv_istore (lv' := [(5, .int (1 : Int32)), (4, .int x10), (0, .ref (ad G (78))), (1, .int z1_6), (2, .int z2_6), (3, .int z3_6)]) hx hb dX11_fault_74 hl (by decide) rfl (fun ls hl => ?_)
                  refine lv_iload hx hb dX11_fault_76 (lv_at hl 0 rfl) ?_
                  refine lv_if_ne (tgt := 83) hx hb dX11_fault_78 (by decide) (fun c78 => ?_) (fun c78 => ?_)
                  · have c78i := mt Int32.toInt_inj.mp c78
                    exact cut83 x10 _ _ _ (by omega) (by assumption) (by omega) hw (lv_sub hl [2, 3, 4, 5, 1] rfl)
                  · have c78i := congrArg Int32.toInt c78
                    exfalso; omega
        · have c23i := mt Int32.toInt_inj.mp c23
          refine lv_iload hx hb dX11_fault_26 (lv_at hl 0 rfl) ?_
          refine lv_i2l hx hb dX11_fault_28 rfl ?_
          refine lv_ldc2 hx hb hown (hts _ wd244) dX11_fault_29 ?_
          refine lv_ldc2 hx hb hown (hts _ wd245) dX11_fault_32 ?_
          refine te_vi hw (ru_S (As := [.long x10.toInt64, .long (49 : Int64), .long (57 : Int64)]) (rest := []) hx hb hml hts hown hk hw (c_X11_in l G hG σ hI.1 x10.toInt64 (49 : Int64) (57 : Int64)) (m3_in wd156 wd157 wd5) wd158 nm_yX11_in ⟨rfl, rfl⟩ ⟨by decide, by decide⟩ rfl hl.1 rfl (Nat.le_of_ble_eq_true rfl) dX11_fault_35 ⟨Nat.zero_le _, Nat.zero_le _⟩) (fun r18 σ17 H locs hr18 hw => ?_)
          rw [hr18.1] at hw
          have hr18 := hr18.2
          simp only [Int32.toInt_toInt64] at hr18
          refine lv_goto (tgt := 74) hx hb dX11_fault_38 (by decide) ?_
          refine lv_istore (lv' := [(5, .int r18), (4, .int x10), (0, .ref (ad G (78))), (1, .int z1_6), (2, .int z2_6), (3, .int z3_6)]) hx hb dX11_fault_74 hl (by decide) rfl (fun ls hl => ?_)
          refine lv_iload hx hb dX11_fault_76 (lv_at hl 0 rfl) ?_
          refine lv_if_ne (tgt := 83) hx hb dX11_fault_78 (by decide) (fun c78 => ?_) (fun c78 => ?_)
          · have c78i := mt Int32.toInt_inj.mp c78
            have p78 := bz1 hr18 c78
            exact cut83 x10 _ _ _ (by omega) (by assumption) (by omega) hw (lv_sub hl [2, 3, 4, 5, 1] rfl)
          · have c78i := congrArg Int32.toInt c78
            have p78 := bz0 hr18 c78
            refine lv_iload_n hx hb dX11_fault_81 rfl (lv_at hl 5 rfl) ?_
            exact ret z3_6 σ _ _ 82 _ (rfl) (⟨rfl, by intro z1 z2; exfalso; omega⟩) hw dX11_fault_82
  exact cut6 ((((40 - (0 : Int32).toInt).toNat : Int)).toNat + 1) (0 : Int32) (0 : Int32) (0 : Int32) _ _ _ (by omega) (by omega) (by intro z1 z2; first | (exfalso; omega) | (rw [show ((0 : Int32).toInt - 1).toNat = z3_6.toNatClampNeg from by have q := clI z3_6 (by omega); omega, ← f101_1]; omega)) (by omega) hw (lv_sub hl [3, 2, 1, 0] rfl)
