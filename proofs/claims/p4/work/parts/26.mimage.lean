set_option maxHeartbeats 4000000 in
set_option maxRecDepth 100000 in
theorem c_X11_pass (l : Launch) (G : Gg) (hG : Ginj G) (σ : Sg) (hI0 : Inv σ) (v : Int32) (hq : 0 ≤ (σ 78 23).toInt ∧ (σ 78 23).toInt ≤ 799) (hvr : ∀ lo hi, rg 900 (σ 78 23).toNatClampNeg = some (lo, hi) → lo ≤ v.toInt ∧ v.toInt ≤ hi) : MI l G yX11_pass cX11_pass 3 .int (rmO 0 0) σ [.ref (ad G (78)), .int v] (fun r σ' => Inv σ' ∧ (σ' = up2 (up2 σ 90 (σ 78 23).toNatClampNeg r) 78 23 (σ 78 23 + 1) ∧ r = (if σ 78 24 = 0 then σ 90 (σ 78 23).toNatClampNeg else v))) := by
  refine MI.of (by decide +kernel) (Nat.le_of_ble_eq_true rfl) ?_
  intro p e s m a below meth c ls Q hx hb hml hts hown hk hw ret hl
  have hown : s.vm.findClass RX11 = some m.cls := hown
  have hl : lv_has ls 3 [(0, .ref (ad G (78))), (1, .int v)] := hl
  have hI : K0 σ σ := K0.rf hI0
  have L0 : (0 : Int32).toInt = 0 := by decide
  have L1 : (1 : Int32).toInt = 1 := by decide
  generalize hHe : s.heap = H at hw ⊢
  generalize hLe : ([] : List Loc) = locs at hw ⊢
  refine lv_aload_n hx hb dX11_pass_0 rfl (lv_at hl 0 rfl) ?_
  refine tg_get (ci := 10) (k := 24) (v := .int (σ (78) 24)) hx hb hts hown hk hw (en10 (rfl : nk 78 = 10)) rfl inlX11 (by decide) wd764 rfl dX11_pass_1 ?_
  refine lv_topi (fun x1 ex1 => ?_)
  have e1_ := ex1
  refine lv_if_eq (tgt := 11) hx hb dX11_pass_4 (by decide) (fun c4 => ?_) (fun c4 => ?_)
  · have c4i := congrArg Int32.toInt c4
    refine lv_aload_n hx hb dX11_pass_11 rfl (lv_at hl 0 rfl) ?_
    refine tg_get (ci := 10) (k := 21) (v := .ref (ad G (90))) hx hb hts hown hk hw (en10 (rfl : nk 78 = 10)) rfl inlX11 (by decide) wd116 rfl dX11_pass_12 ?_
    refine lv_aload_n hx hb dX11_pass_15 rfl (lv_at hl 0 rfl) ?_
    refine tg_get (ci := 10) (k := 23) (v := .int (σ (78) 23)) hx hb hts hown hk hw (en10 (rfl : nk 78 = 10)) rfl inlX11 (by decide) wd763 rfl dX11_pass_16 ?_
    refine lv_topi (fun x2 ex2 => ?_)
    have ux2 : x2.toInt = (σ (78) 23).toInt := by rw [ex2]
    have hv19 : vp_in x2 800 := vin ⟨by omega, by omega⟩
    have kc19 := clI x2 (by omega)
    refine tg_iald hx hb hk hw (en900 (rfl : nk 90 = 900)) hv19 dX11_pass_19 ?_
    refine lv_topi (fun x3 ex3 => ?_)
    have bx3 : ∀ lo hi, rg 900 x2.toNatClampNeg = some (lo, hi) → lo ≤ x3.toInt ∧ x3.toInt ≤ hi := by rw [ex3]; exact hI.1 90 _
    have hK := bx3
    rw [ex2] at hK
    have e19 := ex3
    have e16 := ex2
    refine lv_istore_n (lv' := [(2, .int x3), (0, .ref (ad G (78))), (1, .int v)]) hx hb dX11_pass_20 rfl hl (by decide) rfl (fun ls hl => ?_)
    refine lv_aload_n hx hb dX11_pass_21 rfl (lv_at hl 1 rfl) ?_
    refine tg_get (ci := 10) (k := 21) (v := .ref (ad G (90))) hx hb hts hown hk hw (en10 (rfl : nk 78 = 10)) rfl inlX11 (by decide) wd116 rfl dX11_pass_22 ?_
    refine lv_aload_n hx hb dX11_pass_25 rfl (lv_at hl 1 rfl) ?_
    refine tg_get (ci := 10) (k := 23) (v := .int (σ (78) 23)) hx hb hts hown hk hw (en10 (rfl : nk 78 = 10)) rfl inlX11 (by decide) wd763 rfl dX11_pass_26 ?_
    refine lv_topi (fun x4 ex4 => ?_)
    have qx4 : x4.toInt = x2.toInt := by rw [ex4, ex2]
    have ux4 : x4.toInt = (σ (78) 23).toInt := by rw [ex4]
    have e26 := ex4
    refine lv_iload_n hx hb dX11_pass_29 rfl (lv_at hl 0 rfl) ?_
    have hv30 : vp_in x4 800 := vin ⟨by omega, by omega⟩
    have kc30 := clI x4 (by omega)
    refine tg_iast hx hb hk hG hw (ea900 (rfl : nk 90 = 900)) hv30 dX11_pass_30 (fun H locs hw => ?_)
    obtain ⟨σ5, eσ5⟩ : ∃ z, z = up2 σ (90) x4.toNatClampNeg x3 := ⟨_, rfl⟩
    rw [← eσ5] at hw
    have hI : K0 σ5 σ5 := by rw [eσ5]; exact K0.rf (hI.1.up (by intro lo hi q; rw [ex4] at q; first | exact hvr lo hi q | exact hK lo hi q))
    have eA := eσ5
    refine lv_aload_n hx hb dX11_pass_31 rfl (lv_at hl 1 rfl) ?_
    refine lv_dup hx hb dX11_pass_32 rfl ?_
    refine tg_get (ci := 10) (k := 23) (v := .int (σ5 (78) 23)) hx hb hts hown hk hw (en10 (rfl : nk 78 = 10)) rfl inlX11 (by decide) wd763 rfl dX11_pass_33 ?_
    refine lv_topi (fun x6 ex6 => ?_)
    have ux6 : x6.toInt = (σ5 (78) 23).toInt := by rw [ex6]
    have qx6 : x6.toInt = x2.toInt := by rw [ex6, eσ5, up2_ne (by omega), ex2]
    have w33 : x6 = σ 78 23 := by rw [ex6, eσ5, up2_ne (by decide)]
    have v33 : x6.toInt = (σ 78 23).toInt := by rw [w33]
    refine lv_iconst (v := 1) hx hb dX11_pass_36 (by decide) ?_
    refine lv_iadd hx hb dX11_pass_37 ?_
    refine lv_topi (fun x7 ex7 => ?_)
    have tx7 : x7.toInt = x6.toInt + (1 : Int32).toInt := by rw [ex7]; exact Jvm.Kit.i32_add (by omega) (by omega)
    have e37 := ex7
    refine tg_put (ci := 10) (k := 23) (σ' := up2 σ5 (78) 23 x7) hx hb hts hown hk hG hw tyX11 (en10 (rfl : nk 78 = 10)) rfl inlX11 tyX11_ok nmX11 (by decide) wd763 rfl rfl rfl (Nat.le_of_ble_eq_true rfl) (pu10_23 (rfl : nk 78 = 10)) (fun _ h => up2_ne h) dX11_pass_38 (fun H locs hw => ?_)
    obtain ⟨σ8, eσ8⟩ : ∃ z, z = up2 σ5 (78) 23 x7 := ⟨_, rfl⟩
    rw [← eσ8] at hw
    have hI : K0 σ8 σ8 := by rw [eσ8]; exact K0.rf (hI.1.up (rg_no (by rw [(rfl : nk 78 = 10)]; rfl)))
    have eB := eσ8
    refine lv_iload_n hx hb dX11_pass_41 rfl (lv_at hl 0 rfl) ?_
    exact ret x3 σ8 _ _ 42 _ (rfl) (⟨hI.1, ⟨by rw [eB, eA, e37, w33, e26], by first | rw [if_neg (by rw [← e1_]; exact c4)] | rw [if_pos (by rw [← e1_]; exact c4), e19, e16]⟩⟩) hw dX11_pass_42
  · have c4i := mt Int32.toInt_inj.mp c4
    refine lv_iload_n hx hb dX11_pass_7 rfl (lv_at hl 1 rfl) ?_
    refine lv_goto (tgt := 20) hx hb dX11_pass_8 (by decide) ?_
    refine lv_istore_n (lv' := [(2, .int v), (0, .ref (ad G (78))), (1, .int v)]) hx hb dX11_pass_20 rfl hl (by decide) rfl (fun ls hl => ?_)
    refine lv_aload_n hx hb dX11_pass_21 rfl (lv_at hl 1 rfl) ?_
    refine tg_get (ci := 10) (k := 21) (v := .ref (ad G (90))) hx hb hts hown hk hw (en10 (rfl : nk 78 = 10)) rfl inlX11 (by decide) wd116 rfl dX11_pass_22 ?_
    refine lv_aload_n hx hb dX11_pass_25 rfl (lv_at hl 1 rfl) ?_
    refine tg_get (ci := 10) (k := 23) (v := .int (σ (78) 23)) hx hb hts hown hk hw (en10 (rfl : nk 78 = 10)) rfl inlX11 (by decide) wd763 rfl dX11_pass_26 ?_
    refine lv_topi (fun x9 ex9 => ?_)
    have ux9 : x9.toInt = (σ (78) 23).toInt := by rw [ex9]
    have e26 := ex9
    refine lv_iload_n hx hb dX11_pass_29 rfl (lv_at hl 0 rfl) ?_
    have hv30 : vp_in x9 800 := vin ⟨by omega, by omega⟩
    have kc30 := clI x9 (by omega)
    refine tg_iast hx hb hk hG hw (ea900 (rfl : nk 90 = 900)) hv30 dX11_pass_30 (fun H locs hw => ?_)
    obtain ⟨σ10, eσ10⟩ : ∃ z, z = up2 σ (90) x9.toNatClampNeg v := ⟨_, rfl⟩
    rw [← eσ10] at hw
    have hI : K0 σ10 σ10 := by rw [eσ10]; exact K0.rf (hI.1.up (by intro lo hi q; rw [ex9] at q; first | exact hvr lo hi q | exact hK lo hi q))
    have eA := eσ10
    refine lv_aload_n hx hb dX11_pass_31 rfl (lv_at hl 1 rfl) ?_
    refine lv_dup hx hb dX11_pass_32 rfl ?_
    refine tg_get (ci := 10) (k := 23) (v := .int (σ10 (78) 23)) hx hb hts hown hk hw (en10 (rfl : nk 78 = 10)) rfl inlX11 (by decide) wd763 rfl dX11_pass_33 ?_
    refine lv_topi (fun x11 ex11 => ?_)
    have ux11 : x11.toInt = (σ10 (78) 23).toInt := by rw [ex11]
    have qx11 : x11.toInt = x9.toInt := by rw [ex11, eσ10, up2_ne (by omega), ex9]
    have w33 : x11 = σ 78 23 := by rw [ex11, eσ10, up2_ne (by decide)]
    have v33 : x11.toInt = (σ 78 23).toInt := by rw [w33]
    refine lv_iconst (v := 1) hx hb dX11_pass_36 (by decide) ?_
    refine lv_iadd hx hb dX11_pass_37 ?_
    refine lv_topi (fun x12 ex12 => ?_)
    have tx12 : x12.toInt = x11.toInt + (1 : Int32).toInt := by rw [ex12]; exact Jvm.Kit.i32_add (by omega) (by omega)
    have e37 := ex12
    refine tg_put (ci := 10) (k := 23) (σ' := up2 σ10 (78) 23 x12) hx hb hts hown hk hG hw tyX11 (en10 (rfl : nk 78 = 10)) rfl inlX11 tyX11_ok nmX11 (by decide) wd763 rfl rfl rfl (Nat.le_of_ble_eq_true rfl) (pu10_23 (rfl : nk 78 = 10)) (fun _ h => up2_ne h) dX11_pass_38 (fun H locs hw => ?_)
    obtain ⟨σ13, eσ13⟩ : ∃ z, z = up2 σ10 (78) 23 x12 := ⟨_, rfl⟩
    rw [← eσ13] at hw
    have hI : K0 σ13 σ13 := by rw [eσ13]; exact K0.rf (hI.1.up (rg_no (by rw [(rfl : nk 78 = 10)]; rfl)))
    have eB := eσ13
    refine lv_iload_n hx hb dX11_pass_41 rfl (lv_at hl 0 rfl) ?_
    exact ret v σ13 _ _ 42 _ (rfl) (⟨hI.1, ⟨by rw [eB, eA, e37, w33, e26], by first | rw [if_neg (by rw [← e1_]; exact c4)] | rw [if_pos (by rw [← e1_]; exact c4), e19, e16]⟩⟩) hw dX11_pass_42
set_option maxHeartbeats 4000000 in
set_option maxRecDepth 100000 in
theorem c_X11_passAll (l : Launch) (G : Gg) (hG : Ginj G) (σ : Sg) (hI0 : Inv σ) (hq : (σ 78 23).toInt = 0 ∨ (σ 78 23).toInt = 400) : MV l G yX11_passAll cX11_passAll 2 (rmO 1 22) σ [.ref (ad G (78))] (fun σ' => Inv σ' ∧ (PI_q σ (σ 78 23).toNatClampNeg σ' 361)) := by
  refine MV.of (by decide +kernel) (Nat.le_of_ble_eq_true rfl) ?_
  intro p e s m a below meth c ls Q hx hb hml hts hown hk hw ret hl
  have hown : s.vm.findClass RX11 = some m.cls := hown
  have hl : lv_has ls 2 [(0, .ref (ad G (78)))] := hl
  have hI : K0 σ σ := K0.rf hI0
  have L0 : (0 : Int32).toInt = 0 := by decide
  have L1 : (1 : Int32).toInt = 1 := by decide
  have L4 : (4 : Int32).toInt = 4 := by decide
  have L32 : (32 : Int32).toInt = 32 := by decide
  have L64 : (64 : Int32).toInt = 64 := by decide
  have L256 : (256 : Int32).toInt = 256 := by decide
  generalize hHe : s.heap = H at hw ⊢
  generalize hLe : ([] : List Loc) = locs at hw ⊢
  refine lv_iconst (v := 0) hx hb dX11_passAll_0 (by decide) ?_
  refine lv_istore_n (lv' := [(1, .int (0 : Int32)), (0, .ref (ad G (78)))]) hx hb dX11_passAll_1 rfl hl (by decide) rfl (fun ls hl => ?_)
  have cut2 : ∀ (n : Nat) (z1_2 : Int32) (σc2 : Sg) (H : Heap) (locs : List Loc) (ls : Array Slot), (0 ≤ z1_2.toInt ∧ z1_2.toInt ≤ 32) → ((σc2 78 23).toInt = (σ 78 23).toInt + z1_2.toInt) → (PI_q σ (σ 78 23).toNatClampNeg σc2 (0 + z1_2.toNatClampNeg)) → K0 σc2 σc2 → ((32 - z1_2.toInt).toNat : Int) < (n : Int) → Wo G σc2 s H locs → lv_has ls 2 [(0, .ref (ad G (78))), (1, .int z1_2)] → W p l e (rmO 1 22) s m a below meth c H locs 0 0 Q (F0 m 2 ls []) := by
    intro n2
    induction n2 with
    | zero =>
      intro z1_2 σc2 H locs ls f2_0 f2_1 f2_2 hI hm2 hw hl
      exfalso; omega
    | succ n2 ih2 =>
      intro z1_2 σc2 H locs ls f2_0 f2_1 f2_2 hI hm2 hw hl
      refine lv_iload_n hx hb dX11_passAll_2 rfl (lv_at hl 1 rfl) ?_
      refine lv_bipush (v := 32) hx hb dX11_passAll_3 (by decide) ?_
      refine lv_icmp_ge (tgt := 30) hx hb dX11_passAll_5 (by decide) (fun c5 => ?_) (fun c5 => ?_)
      · have c5i := Int32.le_iff_toInt_le.mp c5
        refine lv_iconst (v := 0) hx hb dX11_passAll_30 (by decide) ?_
        refine lv_istore_n (lv' := [(1, .int (0 : Int32)), (0, .ref (ad G (78)))]) hx hb dX11_passAll_31 rfl hl (by decide) rfl (fun ls hl => ?_)
        have cut32 : ∀ (n : Nat) (z1_32 : Int32) (σc32 : Sg) (H : Heap) (locs : List Loc) (ls : Array Slot), (0 ≤ z1_32.toInt ∧ z1_32.toInt ≤ 256) → ((σc32 78 23).toInt = (σ 78 23).toInt + z1_32.toInt + 32) → (PI_q σ (σ 78 23).toNatClampNeg σc32 (32 + z1_32.toNatClampNeg)) → K0 σc32 σc32 → ((256 - z1_32.toInt).toNat : Int) < (n : Int) → Wo G σc32 s H locs → lv_has ls 2 [(0, .ref (ad G (78))), (1, .int z1_32)] → W p l e (rmO 1 22) s m a below meth c H locs 0 0 Q (F0 m 32 ls []) := by
          intro n32
          induction n32 with
          | zero =>
            intro z1_32 σc32 H locs ls f32_0 f32_1 f32_2 hI hm32 hw hl
            exfalso; omega
          | succ n32 ih32 =>
            intro z1_32 σc32 H locs ls f32_0 f32_1 f32_2 hI hm32 hw hl
            refine lv_iload_n hx hb dX11_passAll_32 rfl (lv_at hl 1 rfl) ?_
            refine lv_sipush (v := 256) hx hb dX11_passAll_33 (by decide) ?_
            refine lv_icmp_ge (tgt := 61) hx hb dX11_passAll_36 (by decide) (fun c36 => ?_) (fun c36 => ?_)
            · have c36i := Int32.le_iff_toInt_le.mp c36
              refine lv_iconst (v := 0) hx hb dX11_passAll_61 (by decide) ?_
              refine lv_istore_n (lv' := [(1, .int (0 : Int32)), (0, .ref (ad G (78)))]) hx hb dX11_passAll_62 rfl hl (by decide) rfl (fun ls hl => ?_)
              have cut63 : ∀ (n : Nat) (z1_63 : Int32) (σc63 : Sg) (H : Heap) (locs : List Loc) (ls : Array Slot), (0 ≤ z1_63.toInt ∧ z1_63.toInt ≤ 4) → ((σc63 78 23).toInt = (σ 78 23).toInt + z1_63.toInt + 288) → (PI_q σ (σ 78 23).toNatClampNeg σc63 (288 + z1_63.toNatClampNeg)) → K0 σc63 σc63 → ((4 - z1_63.toInt).toNat : Int) < (n : Int) → Wo G σc63 s H locs → lv_has ls 2 [(0, .ref (ad G (78))), (1, .int z1_63)] → W p l e (rmO 1 22) s m a below meth c H locs 0 0 Q (F0 m 63 ls []) := by
                intro n63
                induction n63 with
                | zero =>
                  intro z1_63 σc63 H locs ls f63_0 f63_1 f63_2 hI hm63 hw hl
                  exfalso; omega
                | succ n63 ih63 =>
                  intro z1_63 σc63 H locs ls f63_0 f63_1 f63_2 hI hm63 hw hl
                  refine lv_iload_n hx hb dX11_passAll_63 rfl (lv_at hl 1 rfl) ?_
                  refine lv_iconst (v := 4) hx hb dX11_passAll_64 (by decide) ?_
                  refine lv_icmp_ge (tgt := 90) hx hb dX11_passAll_65 (by decide) (fun c65 => ?_) (fun c65 => ?_)
                  · have c65i := Int32.le_iff_toInt_le.mp c65
                    refine lv_aload_n hx hb dX11_passAll_90 rfl (lv_at hl 0 rfl) ?_
                    refine lv_aload_n hx hb dX11_passAll_91 rfl (lv_at hl 0 rfl) ?_
                    refine lv_aload_n hx hb dX11_passAll_92 rfl (lv_at hl 0 rfl) ?_
                    refine tg_get (ci := 10) (k := 3) (v := .int (σc63 (78) 3)) hx hb hts hown hk hw (en10 (rfl : nk 78 = 10)) rfl inlX11 (by decide) wd184 rfl dX11_passAll_93 ?_
                    refine lv_topi (fun x1 ex1 => ?_)
                    have bx1 : 0 ≤ x1.toInt ∧ x1.toInt ≤ 4 := by rw [ex1]; exact hI.1 _ _ _ _ (by rw [(rfl : nk 78 = 10)]; rfl)
                    have ux1 : x1.toInt = (σc63 (78) 3).toInt := by rw [ex1]
                    have eV := ex1
                    refine te_vi hw (ru_V (As := [.int x1]) (rest := [.ref (ad G (78))]) (C := RX11) hx hb hml hts hown hk hw (c_X11_pass l G hG σc63 hI.1 x1 (by omega) (rg900 (fun q1 q2 => by have z1 := clI (σc63 78 23) (by omega); omega) (fun q => by have z1 := clI (σc63 78 23) (by omega); omega))) (m4_in wd769 wd770 wd771 wd5) wd772 (en10 (rfl : nk 78 = 10)) rfl rfl rfl nm_yX11_pass ⟨rfl, rfl⟩ ⟨by decide, by decide⟩ rfl hl.1 rfl (Nat.le_of_ble_eq_true rfl) dX11_passAll_96 ⟨Nat.zero_le _, Nat.zero_le _⟩) (fun r3 σ2 H locs hr3 hw => ?_)
                    have hI : K0 σ2 σ2 := K0.rf hr3.1
                    have hr3 := hr3.2
                    have hT : (σ2 78 23).toInt = (σc63 78 23).toInt + 1 := by rw [hr3.1, up2_self, Jvm.Kit.i32_add (by rw [L1]; omega) (by rw [L1]; omega), L1]
                    have hV : ∀ lo hi, rg 900 (σc63 78 23).toNatClampNeg = some (lo, hi) → lo ≤ r3.toInt ∧ r3.toInt ≤ hi := fun lo hi q => by have z := hI.1 90 _ lo hi q; rw [hr3.1, up2_ne (by decide), up2_self] at z; exact z
                    have hB : (σc63 78 23).toNatClampNeg = (σ 78 23).toNatClampNeg + (288 + 4) := by have q1 := clI (σc63 78 23) (by omega); have q3 := clI (σ 78 23) (by omega); omega
                    have hSt := hr3.1
                    rw [hB] at hSt
                    have hr_ := hr3.2
                    rw [hB, eV] at hr_
                    have fM := f63_2
                    rw [show 288 + z1_63.toNatClampNeg = 288 + 4 from by have q := clI z1_63 (by omega); omega] at fM
                    have w99 := hV 0 4 (rg900b (by have z1 := clI (σc63 78 23) (by omega); omega))
                    refine tg_put (ci := 10) (k := 3) (σ' := up2 σ2 (78) 3 r3) hx hb hts hown hk hG hw tyX11 (en10 (rfl : nk 78 = 10)) rfl inlX11 tyX11_ok nmX11 (by decide) wd184 rfl rfl rfl (Nat.le_of_ble_eq_true rfl) (pu10_3 (rfl : nk 78 = 10)) (fun _ h => up2_ne h) dX11_passAll_99 (fun H locs hw => ?_)
                    obtain ⟨σ4, eσ4⟩ : ∃ z, z = up2 σ2 (78) 3 r3 := ⟨_, rfl⟩
                    rw [← eσ4] at hw
                    have hI : K0 σ4 σ4 := by rw [eσ4]; exact K0.rf (hI.1.up (rg_is (by rw [(rfl : nk 78 = 10)]; rfl) (by omega) (by omega)))
                    have kσ4 : (σ4 78 23).toInt = (σ2 78 23).toInt := by rw [eσ4, up2_nk (by decide)]
                    have eS := eσ4
                    rw [hSt] at eS
                    refine lv_iconst (v := 0) hx hb dX11_passAll_102 (by decide) ?_
                    refine lv_istore_n (lv' := [(1, .int (0 : Int32)), (0, .ref (ad G (78)))]) hx hb dX11_passAll_103 rfl hl (by decide) rfl (fun ls hl => ?_)
                    have cut104 : ∀ (n : Nat) (z1_104 : Int32) (σc104 : Sg) (H : Heap) (locs : List Loc) (ls : Array Slot), (0 ≤ z1_104.toInt ∧ z1_104.toInt ≤ 64) → ((σc104 78 23).toInt = (σ 78 23).toInt + z1_104.toInt + 293) → (PI_q σ (σ 78 23).toNatClampNeg σc104 (293 + z1_104.toNatClampNeg)) → K0 σc104 σc104 → ((64 - z1_104.toInt).toNat : Int) < (n : Int) → Wo G σc104 s H locs → lv_has ls 2 [(0, .ref (ad G (78))), (1, .int z1_104)] → W p l e (rmO 1 22) s m a below meth c H locs 0 0 Q (F0 m 104 ls []) := by
                      intro n104
                      induction n104 with
                      | zero =>
                        intro z1_104 σc104 H locs ls f104_0 f104_1 f104_2 hI hm104 hw hl
                        exfalso; omega
                      | succ n104 ih104 =>
                        intro z1_104 σc104 H locs ls f104_0 f104_1 f104_2 hI hm104 hw hl
                        refine lv_iload_n hx hb dX11_passAll_104 rfl (lv_at hl 1 rfl) ?_
                        refine lv_bipush (v := 64) hx hb dX11_passAll_105 (by decide) ?_
                        refine lv_icmp_ge (tgt := 132) hx hb dX11_passAll_107 (by decide) (fun c107 => ?_) (fun c107 => ?_)
                        · have c107i := Int32.le_iff_toInt_le.mp c107
                          refine lv_iconst (v := 0) hx hb dX11_passAll_132 (by decide) ?_
                          refine lv_istore_n (lv' := [(1, .int (0 : Int32)), (0, .ref (ad G (78)))]) hx hb dX11_passAll_133 rfl hl (by decide) rfl (fun ls hl => ?_)
                          have cut134 : ∀ (n : Nat) (z1_134 : Int32) (σc134 : Sg) (H : Heap) (locs : List Loc) (ls : Array Slot), (0 ≤ z1_134.toInt ∧ z1_134.toInt ≤ 4) → ((σc134 78 23).toInt = (σ 78 23).toInt + z1_134.toInt + 357) → (PI_q σ (σ 78 23).toNatClampNeg σc134 (357 + z1_134.toNatClampNeg)) → K0 σc134 σc134 → ((4 - z1_134.toInt).toNat : Int) < (n : Int) → Wo G σc134 s H locs → lv_has ls 2 [(0, .ref (ad G (78))), (1, .int z1_134)] → W p l e (rmO 1 22) s m a below meth c H locs 0 0 Q (F0 m 134 ls []) := by
                            intro n134
                            induction n134 with
                            | zero =>
                              intro z1_134 σc134 H locs ls f134_0 f134_1 f134_2 hI hm134 hw hl
                              exfalso; omega
                            | succ n134 ih134 =>
                              intro z1_134 σc134 H locs ls f134_0 f134_1 f134_2 hI hm134 hw hl
                              refine lv_iload_n hx hb dX11_passAll_134 rfl (lv_at hl 1 rfl) ?_
                              refine lv_iconst (v := 4) hx hb dX11_passAll_135 (by decide) ?_
                              refine lv_icmp_ge (tgt := 161) hx hb dX11_passAll_136 (by decide) (fun c136 => ?_) (fun c136 => ?_)
                              · have c136i := Int32.le_iff_toInt_le.mp c136
                                exact ret σc134 _ _ 161 _ (⟨hI.1, by have q := clI z1_134 (by omega); rw [show 357 + z1_134.toNatClampNeg = 361 from by omega] at f134_2; exact f134_2⟩) hw dX11_passAll_161
                              · have c136i := mt Int32.le_iff_toInt_le.mpr c136
                                refine lv_aload_n hx hb dX11_passAll_139 rfl (lv_at hl 0 rfl) ?_
                                refine tg_get (ci := 10) (k := 5) (v := .ref (ad G (83))) hx hb hts hown hk hw (en10 (rfl : nk 78 = 10)) rfl inlX11 (by decide) wd109 rfl dX11_passAll_140 ?_
                                refine lv_iload_n hx hb dX11_passAll_143 rfl (lv_at hl 1 rfl) ?_
                                refine lv_aload_n hx hb dX11_passAll_144 rfl (lv_at hl 0 rfl) ?_
                                refine lv_aload_n hx hb dX11_passAll_145 rfl (lv_at hl 0 rfl) ?_
                                refine tg_get (ci := 10) (k := 5) (v := .ref (ad G (83))) hx hb hts hown hk hw (en10 (rfl : nk 78 = 10)) rfl inlX11 (by decide) wd109 rfl dX11_passAll_146 ?_
                                refine lv_iload_n hx hb dX11_passAll_149 rfl (lv_at hl 1 rfl) ?_
                                have hv150 : vp_in z1_134 4 := vin ⟨by omega, by omega⟩
                                refine tg_iald hx hb hk hw (en104 (rfl : nk 83 = 104)) hv150 dX11_passAll_150 ?_
                                refine lv_topi (fun x5 ex5 => ?_)
                                have eV := ex5
                                refine te_vi hw (ru_V (As := [.int x5]) (rest := [.int z1_134, .ref (ad G (83))]) (C := RX11) hx hb hml hts hown hk hw (c_X11_pass l G hG σc134 hI.1 x5 (by omega) (rg900 (fun q1 q2 => by have z1 := clI (σc134 78 23) (by omega); omega) (fun q => by have z1 := clI (σc134 78 23) (by omega); omega))) (m4_in wd769 wd770 wd771 wd5) wd772 (en10 (rfl : nk 78 = 10)) rfl rfl rfl nm_yX11_pass ⟨rfl, rfl⟩ ⟨by decide, by decide⟩ rfl hl.1 rfl (Nat.le_of_ble_eq_true rfl) dX11_passAll_151 ⟨Nat.zero_le _, Nat.zero_le _⟩) (fun r7 σ6 H locs hr7 hw => ?_)
                                have hI : K0 σ6 σ6 := K0.rf hr7.1
                                have hr7 := hr7.2
                                have hT : (σ6 78 23).toInt = (σc134 78 23).toInt + 1 := by rw [hr7.1, up2_self, Jvm.Kit.i32_add (by rw [L1]; omega) (by rw [L1]; omega), L1]
                                have hV : ∀ lo hi, rg 900 (σc134 78 23).toNatClampNeg = some (lo, hi) → lo ≤ r7.toInt ∧ r7.toInt ≤ hi := fun lo hi q => by have z := hI.1 90 _ lo hi q; rw [hr7.1, up2_ne (by decide), up2_self] at z; exact z
                                have hB : (σc134 78 23).toNatClampNeg = (σ 78 23).toNatClampNeg + (357 + z1_134.toNatClampNeg) := by have q1 := clI (σc134 78 23) (by omega); have q2 := clI z1_134 (by omega); have q3 := clI (σ 78 23) (by omega); omega
                                have hSt := hr7.1
                                rw [hB] at hSt
                                have hr_ := hr7.2
                                rw [hB, eV] at hr_
                                have hv154 : vp_in z1_134 4 := vin ⟨by omega, by omega⟩
                                refine tg_iast hx hb hk hG hw (ea104 (rfl : nk 83 = 104)) hv154 dX11_passAll_154 (fun H locs hw => ?_)
                                obtain ⟨σ8, eσ8⟩ : ∃ z, z = up2 σ6 (83) z1_134.toNatClampNeg r7 := ⟨_, rfl⟩
                                rw [← eσ8] at hw
                                have hI : K0 σ8 σ8 := by rw [eσ8]; exact K0.rf (hI.1.up (rg_no (by rw [(rfl : nk 83 = 104)]; rfl)))
                                have kσ8 : (σ8 78 23).toInt = (σ6 78 23).toInt := by rw [eσ8, up2_ne (by decide)]
                                have eS := eσ8
                                rw [hSt] at eS
                                obtain ⟨x9, ex9⟩ : ∃ z : Int32, z = z1_134 + (1 : Int32) := ⟨_, rfl⟩
                                refine lv_iinc (v := x9) (lv' := [(1, .int x9), (0, .ref (ad G (78)))]) hx hb dX11_passAll_155 hl (k := 1) rfl (by rw [ex9]; rfl) (by decide) rfl (fun ls hl => ?_)
                                have tx9 : x9.toInt = z1_134.toInt + 1 := by rw [ex9, Jvm.Kit.i32_add (by omega) (by omega)]; omega
                                refine lv_goto (tgt := 134) hx hb dX11_passAll_158 (by decide) ?_
                                exact ih134 x9 σ8 _ _ _ (by omega) (by omega) (by first | (rw [show 357 + (0 : Int32).toNatClampNeg = 293 + z1_104.toNatClampNeg from by rw [show (0 : Int32).toNatClampNeg = 0 from by decide]; have q1 := clI z1_104 (by omega); omega]; exact f104_2) | (rw [eS, show 357 + x9.toNatClampNeg = 357 + z1_134.toNatClampNeg + 1 from by have q1 := clI x9 (by omega); have q2 := clI z1_134 (by omega); omega]; exact PI_q.fruits f134_2 (by have q := clI z1_134 (by omega); omega) hr_)) (K0.rf hI.1) (by omega) hw (lv_sub hl [1, 0] rfl)
                          exact cut134 ((((4 - (0 : Int32).toInt).toNat : Int)).toNat + 1) (0 : Int32) σc104 _ _ _ (by omega) (by omega) (by first | (rw [show 357 + (0 : Int32).toNatClampNeg = 293 + z1_104.toNatClampNeg from by rw [show (0 : Int32).toNatClampNeg = 0 from by decide]; have q1 := clI z1_104 (by omega); omega]; exact f104_2) | (rw [eS, show 357 + (0 : Int32).toNatClampNeg = 357 + z1_134.toNatClampNeg + 1 from by have q1 := clI (0 : Int32) (by omega); have q2 := clI z1_134 (by omega); omega]; exact PI_q.fruits f134_2 (by have q := clI z1_134 (by omega); omega) hr_)) (K0.rf hI.1) (by omega) hw (lv_sub hl [1, 0] rfl)
                        · have c107i := mt Int32.le_iff_toInt_le.mpr c107
                          refine lv_aload_n hx hb dX11_passAll_110 rfl (lv_at hl 0 rfl) ?_
                          refine tg_get (ci := 10) (k := 4) (v := .ref (ad G (82))) hx hb hts hown hk hw (en10 (rfl : nk 78 = 10)) rfl inlX11 (by decide) wd108 rfl dX11_passAll_111 ?_
                          refine lv_iload_n hx hb dX11_passAll_114 rfl (lv_at hl 1 rfl) ?_
                          refine lv_aload_n hx hb dX11_passAll_115 rfl (lv_at hl 0 rfl) ?_
                          refine lv_aload_n hx hb dX11_passAll_116 rfl (lv_at hl 0 rfl) ?_
                          refine tg_get (ci := 10) (k := 4) (v := .ref (ad G (82))) hx hb hts hown hk hw (en10 (rfl : nk 78 = 10)) rfl inlX11 (by decide) wd108 rfl dX11_passAll_117 ?_
                          refine lv_iload_n hx hb dX11_passAll_120 rfl (lv_at hl 1 rfl) ?_
                          have hv121 : vp_in z1_104 64 := vin ⟨by omega, by omega⟩
                          refine tg_iald hx hb hk hw (en164 (rfl : nk 82 = 164)) hv121 dX11_passAll_121 ?_
                          refine lv_topi (fun x10 ex10 => ?_)
                          have eV := ex10
                          refine te_vi hw (ru_V (As := [.int x10]) (rest := [.int z1_104, .ref (ad G (82))]) (C := RX11) hx hb hml hts hown hk hw (c_X11_pass l G hG σc104 hI.1 x10 (by omega) (rg900 (fun q1 q2 => by have z1 := clI (σc104 78 23) (by omega); omega) (fun q => by have z1 := clI (σc104 78 23) (by omega); omega))) (m4_in wd769 wd770 wd771 wd5) wd772 (en10 (rfl : nk 78 = 10)) rfl rfl rfl nm_yX11_pass ⟨rfl, rfl⟩ ⟨by decide, by decide⟩ rfl hl.1 rfl (Nat.le_of_ble_eq_true rfl) dX11_passAll_122 ⟨Nat.zero_le _, Nat.zero_le _⟩) (fun r12 σ11 H locs hr12 hw => ?_)
                          have hI : K0 σ11 σ11 := K0.rf hr12.1
                          have hr12 := hr12.2
                          have hT : (σ11 78 23).toInt = (σc104 78 23).toInt + 1 := by rw [hr12.1, up2_self, Jvm.Kit.i32_add (by rw [L1]; omega) (by rw [L1]; omega), L1]
                          have hV : ∀ lo hi, rg 900 (σc104 78 23).toNatClampNeg = some (lo, hi) → lo ≤ r12.toInt ∧ r12.toInt ≤ hi := fun lo hi q => by have z := hI.1 90 _ lo hi q; rw [hr12.1, up2_ne (by decide), up2_self] at z; exact z
                          have hB : (σc104 78 23).toNatClampNeg = (σ 78 23).toNatClampNeg + (293 + z1_104.toNatClampNeg) := by have q1 := clI (σc104 78 23) (by omega); have q2 := clI z1_104 (by omega); have q3 := clI (σ 78 23) (by omega); omega
                          have hSt := hr12.1
                          rw [hB] at hSt
                          have hr_ := hr12.2
                          rw [hB, eV] at hr_
                          have hv125 : vp_in z1_104 64 := vin ⟨by omega, by omega⟩
                          refine tg_iast hx hb hk hG hw (ea164 (rfl : nk 82 = 164)) hv125 dX11_passAll_125 (fun H locs hw => ?_)
                          obtain ⟨σ13, eσ13⟩ : ∃ z, z = up2 σ11 (82) z1_104.toNatClampNeg r12 := ⟨_, rfl⟩
                          rw [← eσ13] at hw
                          have hI : K0 σ13 σ13 := by rw [eσ13]; exact K0.rf (hI.1.up (rg_no (by rw [(rfl : nk 82 = 164)]; rfl)))
                          have kσ13 : (σ13 78 23).toInt = (σ11 78 23).toInt := by rw [eσ13, up2_ne (by decide)]
                          have eS := eσ13
                          rw [hSt] at eS
                          obtain ⟨x14, ex14⟩ : ∃ z : Int32, z = z1_104 + (1 : Int32) := ⟨_, rfl⟩
                          refine lv_iinc (v := x14) (lv' := [(1, .int x14), (0, .ref (ad G (78)))]) hx hb dX11_passAll_126 hl (k := 1) rfl (by rw [ex14]; rfl) (by decide) rfl (fun ls hl => ?_)
                          have tx14 : x14.toInt = z1_104.toInt + 1 := by rw [ex14, Jvm.Kit.i32_add (by omega) (by omega)]; omega
                          refine lv_goto (tgt := 104) hx hb dX11_passAll_129 (by decide) ?_
                          exact ih104 x14 σ13 _ _ _ (by omega) (by omega) (by first | (rw [show 293 + (0 : Int32).toNatClampNeg = 288 + 4 + 1 from by decide, eS]; exact PI_q.many fM hr_) | (rw [eS, show 293 + x14.toNatClampNeg = 293 + z1_104.toNatClampNeg + 1 from by have q1 := clI x14 (by omega); have q2 := clI z1_104 (by omega); omega]; exact PI_q.rows f104_2 (by have q := clI z1_104 (by omega); omega) hr_)) (K0.rf hI.1) (by omega) hw (lv_sub hl [1, 0] rfl)
                    exact cut104 ((((64 - (0 : Int32).toInt).toNat : Int)).toNat + 1) (0 : Int32) σ4 _ _ _ (by omega) (by omega) (by first | (rw [show 293 + (0 : Int32).toNatClampNeg = 288 + 4 + 1 from by decide, eS]; exact PI_q.many fM hr_) | (rw [eS, show 293 + (0 : Int32).toNatClampNeg = 293 + z1_104.toNatClampNeg + 1 from by have q1 := clI (0 : Int32) (by omega); have q2 := clI z1_104 (by omega); omega]; exact PI_q.rows f104_2 (by have q := clI z1_104 (by omega); omega) hr_)) (K0.rf hI.1) (by omega) hw (lv_sub hl [1, 0] rfl)
                  · have c65i := mt Int32.le_iff_toInt_le.mpr c65
                    refine lv_aload_n hx hb dX11_passAll_68 rfl (lv_at hl 0 rfl) ?_
                    refine tg_get (ci := 10) (k := 2) (v := .ref (ad G (81))) hx hb hts hown hk hw (en10 (rfl : nk 78 = 10)) rfl inlX11 (by decide) wd107 rfl dX11_passAll_69 ?_
                    refine lv_iload_n hx hb dX11_passAll_72 rfl (lv_at hl 1 rfl) ?_
                    refine lv_aload_n hx hb dX11_passAll_73 rfl (lv_at hl 0 rfl) ?_
                    refine lv_aload_n hx hb dX11_passAll_74 rfl (lv_at hl 0 rfl) ?_
                    refine tg_get (ci := 10) (k := 2) (v := .ref (ad G (81))) hx hb hts hown hk hw (en10 (rfl : nk 78 = 10)) rfl inlX11 (by decide) wd107 rfl dX11_passAll_75 ?_
                    refine lv_iload_n hx hb dX11_passAll_78 rfl (lv_at hl 1 rfl) ?_
                    have hv79 : vp_in z1_63 4 := vin ⟨by omega, by omega⟩
                    refine tg_iald hx hb hk hw (en104 (rfl : nk 81 = 104)) hv79 dX11_passAll_79 ?_
                    refine lv_topi (fun x15 ex15 => ?_)
                    have eV := ex15
                    refine te_vi hw (ru_V (As := [.int x15]) (rest := [.int z1_63, .ref (ad G (81))]) (C := RX11) hx hb hml hts hown hk hw (c_X11_pass l G hG σc63 hI.1 x15 (by omega) (rg900 (fun q1 q2 => by have z1 := clI (σc63 78 23) (by omega); omega) (fun q => by have z1 := clI (σc63 78 23) (by omega); omega))) (m4_in wd769 wd770 wd771 wd5) wd772 (en10 (rfl : nk 78 = 10)) rfl rfl rfl nm_yX11_pass ⟨rfl, rfl⟩ ⟨by decide, by decide⟩ rfl hl.1 rfl (Nat.le_of_ble_eq_true rfl) dX11_passAll_80 ⟨Nat.zero_le _, Nat.zero_le _⟩) (fun r17 σ16 H locs hr17 hw => ?_)
                    have hI : K0 σ16 σ16 := K0.rf hr17.1
                    have hr17 := hr17.2
                    have hT : (σ16 78 23).toInt = (σc63 78 23).toInt + 1 := by rw [hr17.1, up2_self, Jvm.Kit.i32_add (by rw [L1]; omega) (by rw [L1]; omega), L1]
                    have hV : ∀ lo hi, rg 900 (σc63 78 23).toNatClampNeg = some (lo, hi) → lo ≤ r17.toInt ∧ r17.toInt ≤ hi := fun lo hi q => by have z := hI.1 90 _ lo hi q; rw [hr17.1, up2_ne (by decide), up2_self] at z; exact z
                    have hB : (σc63 78 23).toNatClampNeg = (σ 78 23).toNatClampNeg + (288 + z1_63.toNatClampNeg) := by have q1 := clI (σc63 78 23) (by omega); have q2 := clI z1_63 (by omega); have q3 := clI (σ 78 23) (by omega); omega
                    have hSt := hr17.1
                    rw [hB] at hSt
                    have hr_ := hr17.2
                    rw [hB, eV] at hr_
                    have hv83 : vp_in z1_63 4 := vin ⟨by omega, by omega⟩
                    refine tg_iast hx hb hk hG hw (ea104 (rfl : nk 81 = 104)) hv83 dX11_passAll_83 (fun H locs hw => ?_)
                    obtain ⟨σ18, eσ18⟩ : ∃ z, z = up2 σ16 (81) z1_63.toNatClampNeg r17 := ⟨_, rfl⟩
                    rw [← eσ18] at hw
                    have hI : K0 σ18 σ18 := by rw [eσ18]; exact K0.rf (hI.1.up (rg_no (by rw [(rfl : nk 81 = 104)]; rfl)))
                    have kσ18 : (σ18 78 23).toInt = (σ16 78 23).toInt := by rw [eσ18, up2_ne (by decide)]
                    have eS := eσ18
                    rw [hSt] at eS
                    obtain ⟨x19, ex19⟩ : ∃ z : Int32, z = z1_63 + (1 : Int32) := ⟨_, rfl⟩
                    refine lv_iinc (v := x19) (lv' := [(1, .int x19), (0, .ref (ad G (78)))]) hx hb dX11_passAll_84 hl (k := 1) rfl (by rw [ex19]; rfl) (by decide) rfl (fun ls hl => ?_)
                    have tx19 : x19.toInt = z1_63.toInt + 1 := by rw [ex19, Jvm.Kit.i32_add (by omega) (by omega)]; omega
                    refine lv_goto (tgt := 63) hx hb dX11_passAll_87 (by decide) ?_
                    exact ih63 x19 σ18 _ _ _ (by omega) (by omega) (by first | (rw [show 288 + (0 : Int32).toNatClampNeg = 32 + z1_32.toNatClampNeg from by rw [show (0 : Int32).toNatClampNeg = 0 from by decide]; have q1 := clI z1_32 (by omega); omega]; exact f32_2) | (rw [eS, show 288 + x19.toNatClampNeg = 288 + z1_63.toNatClampNeg + 1 from by have q1 := clI x19 (by omega); have q2 := clI z1_63 (by omega); omega]; exact PI_q.posts f63_2 (by have q := clI z1_63 (by omega); omega) hr_)) (K0.rf hI.1) (by omega) hw (lv_sub hl [1, 0] rfl)
              exact cut63 ((((4 - (0 : Int32).toInt).toNat : Int)).toNat + 1) (0 : Int32) σc32 _ _ _ (by omega) (by omega) (by first | (rw [show 288 + (0 : Int32).toNatClampNeg = 32 + z1_32.toNatClampNeg from by rw [show (0 : Int32).toNatClampNeg = 0 from by decide]; have q1 := clI z1_32 (by omega); omega]; exact f32_2) | (rw [eS, show 288 + (0 : Int32).toNatClampNeg = 288 + z1_63.toNatClampNeg + 1 from by have q1 := clI (0 : Int32) (by omega); have q2 := clI z1_63 (by omega); omega]; exact PI_q.posts f63_2 (by have q := clI z1_63 (by omega); omega) hr_)) (K0.rf hI.1) (by omega) hw (lv_sub hl [1, 0] rfl)
            · have c36i := mt Int32.le_iff_toInt_le.mpr c36
              refine lv_aload_n hx hb dX11_passAll_39 rfl (lv_at hl 0 rfl) ?_
              refine tg_get (ci := 10) (k := 1) (v := .ref (ad G (80))) hx hb hts hown hk hw (en10 (rfl : nk 78 = 10)) rfl inlX11 (by decide) wd106 rfl dX11_passAll_40 ?_
              refine lv_iload_n hx hb dX11_passAll_43 rfl (lv_at hl 1 rfl) ?_
              refine lv_aload_n hx hb dX11_passAll_44 rfl (lv_at hl 0 rfl) ?_
              refine lv_aload_n hx hb dX11_passAll_45 rfl (lv_at hl 0 rfl) ?_
              refine tg_get (ci := 10) (k := 1) (v := .ref (ad G (80))) hx hb hts hown hk hw (en10 (rfl : nk 78 = 10)) rfl inlX11 (by decide) wd106 rfl dX11_passAll_46 ?_
              refine lv_iload_n hx hb dX11_passAll_49 rfl (lv_at hl 1 rfl) ?_
              have hv50 : vp_in z1_32 256 := vin ⟨by omega, by omega⟩
              refine tg_iald hx hb hk hw (en356 (rfl : nk 80 = 356)) hv50 dX11_passAll_50 ?_
              refine lv_topi (fun x20 ex20 => ?_)
              have eV := ex20
              refine te_vi hw (ru_V (As := [.int x20]) (rest := [.int z1_32, .ref (ad G (80))]) (C := RX11) hx hb hml hts hown hk hw (c_X11_pass l G hG σc32 hI.1 x20 (by omega) (rg900 (fun q1 q2 => by have z1 := clI (σc32 78 23) (by omega); omega) (fun q => by have z1 := clI (σc32 78 23) (by omega); omega))) (m4_in wd769 wd770 wd771 wd5) wd772 (en10 (rfl : nk 78 = 10)) rfl rfl rfl nm_yX11_pass ⟨rfl, rfl⟩ ⟨by decide, by decide⟩ rfl hl.1 rfl (Nat.le_of_ble_eq_true rfl) dX11_passAll_51 ⟨Nat.zero_le _, Nat.zero_le _⟩) (fun r22 σ21 H locs hr22 hw => ?_)
              have hI : K0 σ21 σ21 := K0.rf hr22.1
              have hr22 := hr22.2
              have hT : (σ21 78 23).toInt = (σc32 78 23).toInt + 1 := by rw [hr22.1, up2_self, Jvm.Kit.i32_add (by rw [L1]; omega) (by rw [L1]; omega), L1]
              have hV : ∀ lo hi, rg 900 (σc32 78 23).toNatClampNeg = some (lo, hi) → lo ≤ r22.toInt ∧ r22.toInt ≤ hi := fun lo hi q => by have z := hI.1 90 _ lo hi q; rw [hr22.1, up2_ne (by decide), up2_self] at z; exact z
              have hB : (σc32 78 23).toNatClampNeg = (σ 78 23).toNatClampNeg + (32 + z1_32.toNatClampNeg) := by have q1 := clI (σc32 78 23) (by omega); have q2 := clI z1_32 (by omega); have q3 := clI (σ 78 23) (by omega); omega
              have hSt := hr22.1
              rw [hB] at hSt
              have hr_ := hr22.2
              rw [hB, eV] at hr_
              have hv54 : vp_in z1_32 256 := vin ⟨by omega, by omega⟩
              refine tg_iast hx hb hk hG hw (ea356 (rfl : nk 80 = 356)) hv54 dX11_passAll_54 (fun H locs hw => ?_)
              obtain ⟨σ23, eσ23⟩ : ∃ z, z = up2 σ21 (80) z1_32.toNatClampNeg r22 := ⟨_, rfl⟩
              rw [← eσ23] at hw
              have hI : K0 σ23 σ23 := by rw [eσ23]; exact K0.rf (hI.1.up (rg_no (by rw [(rfl : nk 80 = 356)]; rfl)))
              have kσ23 : (σ23 78 23).toInt = (σ21 78 23).toInt := by rw [eσ23, up2_ne (by decide)]
              have eS := eσ23
              rw [hSt] at eS
              obtain ⟨x24, ex24⟩ : ∃ z : Int32, z = z1_32 + (1 : Int32) := ⟨_, rfl⟩
              refine lv_iinc (v := x24) (lv' := [(1, .int x24), (0, .ref (ad G (78)))]) hx hb dX11_passAll_55 hl (k := 1) rfl (by rw [ex24]; rfl) (by decide) rfl (fun ls hl => ?_)
              have tx24 : x24.toInt = z1_32.toInt + 1 := by rw [ex24, Jvm.Kit.i32_add (by omega) (by omega)]; omega
              refine lv_goto (tgt := 32) hx hb dX11_passAll_58 (by decide) ?_
              exact ih32 x24 σ23 _ _ _ (by omega) (by omega) (by first | (rw [show 32 + (0 : Int32).toNatClampNeg = 0 + z1_2.toNatClampNeg from by rw [show (0 : Int32).toNatClampNeg = 0 from by decide]; have q1 := clI z1_2 (by omega); omega]; exact f2_2) | (rw [eS, show 32 + x24.toNatClampNeg = 32 + z1_32.toNatClampNeg + 1 from by have q1 := clI x24 (by omega); have q2 := clI z1_32 (by omega); omega]; exact PI_q.low f32_2 (by have q := clI z1_32 (by omega); omega) (Or.inr rfl))) (K0.rf hI.1) (by omega) hw (lv_sub hl [1, 0] rfl)
        exact cut32 ((((256 - (0 : Int32).toInt).toNat : Int)).toNat + 1) (0 : Int32) σc2 _ _ _ (by omega) (by omega) (by first | (rw [show 32 + (0 : Int32).toNatClampNeg = 0 + z1_2.toNatClampNeg from by rw [show (0 : Int32).toNatClampNeg = 0 from by decide]; have q1 := clI z1_2 (by omega); omega]; exact f2_2) | (rw [eS, show 32 + (0 : Int32).toNatClampNeg = 32 + z1_32.toNatClampNeg + 1 from by have q1 := clI (0 : Int32) (by omega); have q2 := clI z1_32 (by omega); omega]; exact PI_q.low f32_2 (by have q := clI z1_32 (by omega); omega) (Or.inr rfl))) (K0.rf hI.1) (by omega) hw (lv_sub hl [1, 0] rfl)
      · have c5i := mt Int32.le_iff_toInt_le.mpr c5
        refine lv_aload_n hx hb dX11_passAll_8 rfl (lv_at hl 0 rfl) ?_
        refine tg_get (ci := 10) (k := 0) (v := .ref (ad G (79))) hx hb hts hown hk hw (en10 (rfl : nk 78 = 10)) rfl inlX11 (by decide) wd105 rfl dX11_passAll_9 ?_
        refine lv_iload_n hx hb dX11_passAll_12 rfl (lv_at hl 1 rfl) ?_
        refine lv_aload_n hx hb dX11_passAll_13 rfl (lv_at hl 0 rfl) ?_
        refine lv_aload_n hx hb dX11_passAll_14 rfl (lv_at hl 0 rfl) ?_
        refine tg_get (ci := 10) (k := 0) (v := .ref (ad G (79))) hx hb hts hown hk hw (en10 (rfl : nk 78 = 10)) rfl inlX11 (by decide) wd105 rfl dX11_passAll_15 ?_
        refine lv_iload_n hx hb dX11_passAll_18 rfl (lv_at hl 1 rfl) ?_
        have hv19 : vp_in z1_2 32 := vin ⟨by omega, by omega⟩
        have kc19 := clI z1_2 (by omega)
        refine tg_iald hx hb hk hw (en132 (rfl : nk 79 = 132)) hv19 dX11_passAll_19 ?_
        refine lv_topi (fun x25 ex25 => ?_)
        have bx25 : z1_2.toNatClampNeg % 8 = 2 → 0 ≤ x25.toInt ∧ x25.toInt ≤ 3 := fun q => by rw [ex25]; exact rd132 hI.1 (rfl : nk 79 = 132) q
        have eV := ex25
        refine te_vi hw (ru_V (As := [.int x25]) (rest := [.int z1_2, .ref (ad G (79))]) (C := RX11) hx hb hml hts hown hk hw (c_X11_pass l G hG σc2 hI.1 x25 (by omega) (rg900 (fun q1 q2 => by have z1 := clI (σc2 78 23) (by omega); omega) (fun q => by have z1 := clI (σc2 78 23) (by omega); omega))) (m4_in wd769 wd770 wd771 wd5) wd772 (en10 (rfl : nk 78 = 10)) rfl rfl rfl nm_yX11_pass ⟨rfl, rfl⟩ ⟨by decide, by decide⟩ rfl hl.1 rfl (Nat.le_of_ble_eq_true rfl) dX11_passAll_20 ⟨Nat.zero_le _, Nat.zero_le _⟩) (fun r27 σ26 H locs hr27 hw => ?_)
        have hI : K0 σ26 σ26 := K0.rf hr27.1
        have hr27 := hr27.2
        have hT : (σ26 78 23).toInt = (σc2 78 23).toInt + 1 := by rw [hr27.1, up2_self, Jvm.Kit.i32_add (by rw [L1]; omega) (by rw [L1]; omega), L1]
        have hV : ∀ lo hi, rg 900 (σc2 78 23).toNatClampNeg = some (lo, hi) → lo ≤ r27.toInt ∧ r27.toInt ≤ hi := fun lo hi q => by have z := hI.1 90 _ lo hi q; rw [hr27.1, up2_ne (by decide), up2_self] at z; exact z
        have hB : (σc2 78 23).toNatClampNeg = (σ 78 23).toNatClampNeg + (0 + z1_2.toNatClampNeg) := by have q1 := clI (σc2 78 23) (by omega); have q2 := clI z1_2 (by omega); have q3 := clI (σ 78 23) (by omega); omega
        have hSt := hr27.1
        rw [hB] at hSt
        have hr_ := hr27.2
        rw [hB, eV] at hr_
        have hv23 : vp_in z1_2 32 := vin ⟨by omega, by omega⟩
        have kc23 := clI z1_2 (by omega)
        refine tg_iast hx hb hk hG hw (ea132 (rfl : nk 79 = 132)) hv23 dX11_passAll_23 (fun H locs hw => ?_)
        obtain ⟨σ28, eσ28⟩ : ∃ z, z = up2 σ26 (79) z1_2.toNatClampNeg r27 := ⟨_, rfl⟩
        rw [← eσ28] at hw
        have hI : K0 σ28 σ28 := by rw [eσ28]; exact K0.rf (hI.1.up (rg132 rfl (fun q => hV 0 3 (rg900a (by have z1 := clI (σc2 78 23) (by omega); omega) (by have z1 := clI (σc2 78 23) (by omega); omega)))))
        have kσ28 : (σ28 78 23).toInt = (σ26 78 23).toInt := by rw [eσ28, up2_ne (by decide)]
        have eS := eσ28
        rw [hSt] at eS
        obtain ⟨x29, ex29⟩ : ∃ z : Int32, z = z1_2 + (1 : Int32) := ⟨_, rfl⟩
        refine lv_iinc (v := x29) (lv' := [(1, .int x29), (0, .ref (ad G (78)))]) hx hb dX11_passAll_24 hl (k := 1) rfl (by rw [ex29]; rfl) (by decide) rfl (fun ls hl => ?_)
        have tx29 : x29.toInt = z1_2.toInt + 1 := by rw [ex29, Jvm.Kit.i32_add (by omega) (by omega)]; omega
        refine lv_goto (tgt := 2) hx hb dX11_passAll_27 (by decide) ?_
        exact ih2 x29 σ28 _ _ _ (by omega) (by omega) (by first | (rw [show (0 : Int32).toNatClampNeg = 0 from by decide]; exact PI_q.zero) | (rw [eS, show 0 + x29.toNatClampNeg = 0 + z1_2.toNatClampNeg + 1 from by have q1 := clI x29 (by omega); have q2 := clI z1_2 (by omega); omega]; exact PI_q.low f2_2 (by have q := clI z1_2 (by omega); omega) (Or.inl rfl))) (K0.rf hI.1) (by omega) hw (lv_sub hl [1, 0] rfl)
  exact cut2 ((((32 - (0 : Int32).toInt).toNat : Int)).toNat + 1) (0 : Int32) σ _ _ _ (by omega) (by omega) (by first | (rw [show (0 : Int32).toNatClampNeg = 0 from by decide]; exact PI_q.zero) | (rw [eS, show 0 + (0 : Int32).toNatClampNeg = 0 + z1_2.toNatClampNeg + 1 from by have q1 := clI (0 : Int32) (by omega); have q2 := clI z1_2 (by omega); omega]; exact PI_q.low f2_2 (by have q := clI z1_2 (by omega); omega) (Or.inl rfl))) (K0.rf hI.1) (by omega) hw (lv_sub hl [1, 0] rfl)
set_option maxHeartbeats 4000000 in
set_option maxRecDepth 100000 in
theorem c_X11_image (l : Launch) (G : Gg) (hG : Ginj G) (σ : Sg) (hI0 : Inv σ) (v : Int32) : MI l G yX11_image cX11_image 2 .int (rmO 2 43) σ [.ref (ad G (78)), .int v] (fun r σ' => imgR σ σ' v r) := by
  refine MI.of (by decide +kernel) (Nat.le_of_ble_eq_true rfl) ?_
  intro p e s m a below meth c ls Q hx hb hml hts hown hk hw ret hl
  have hown : s.vm.findClass RX11 = some m.cls := hown
  have hl : lv_has ls 2 [(0, .ref (ad G (78))), (1, .int v)] := hl
  have hI : K0 σ σ := K0.rf hI0
  have Lm2 : (-2 : Int32).toInt = -2 := by decide
  have L0 : (0 : Int32).toInt = 0 := by decide
  have L1 : (1 : Int32).toInt = 1 := by decide
  have L400 : (400 : Int32).toInt = 400 := by decide
  have M0 : (0 : Int64).toInt = 0 := by decide
  have M1 : (1 : Int64).toInt = 1 := by decide
  generalize hHe : s.heap = H at hw ⊢
  generalize hLe : ([] : List Loc) = locs at hw ⊢
  refine lv_iload_n hx hb dX11_image_0 rfl (lv_at hl 1 rfl) ?_
  refine lv_i2l hx hb dX11_image_1 rfl ?_
  refine lv_lconst (v := 0) hx hb dX11_image_2 (by decide) ?_
  refine lv_lconst (v := 1) hx hb dX11_image_3 (by decide) ?_
  refine te_vi hw (ru_S (As := [.long v.toInt64, .long (0 : Int64), .long (1 : Int64)]) (rest := []) hx hb hml hts hown hk hw (c_X11_in l G hG σ hI.1 v.toInt64 (0 : Int64) (1 : Int64)) (m3_in wd156 wd157 wd5) wd158 nm_yX11_in ⟨rfl, rfl⟩ ⟨by decide, by decide⟩ rfl hl.1 rfl (Nat.le_of_ble_eq_true rfl) dX11_image_4 ⟨Nat.zero_le _, Nat.zero_le _⟩) (fun r2 σ1 H locs hr2 hw => ?_)
  rw [hr2.1] at hw
  have hr2 := hr2.2
  simp only [Int32.toInt_toInt64] at hr2
  refine lv_if_ne (tgt := 13) hx hb dX11_image_7 (by decide) (fun c7 => ?_) (fun c7 => ?_)
  · have c7i := mt Int32.toInt_inj.mp c7
    have p7 := bz1 hr2 c7
    refine lv_aload_n hx hb dX11_image_13 rfl (lv_at hl 0 rfl) ?_
    refine lv_sipush (v := 400) hx hb dX11_image_14 (by decide) ?_
    refine lv_iload_n hx hb dX11_image_17 rfl (lv_at hl 1 rfl) ?_
    refine lv_imul hx hb dX11_image_18 ?_
    refine lv_topi (fun x3 ex3 => ?_)
    have tx3 : x3.toInt = 400 * v.toInt := by rw [ex3, Jvm.Kit.i32_mul (by rw [L400]; omega) (by rw [L400]; omega), L400]
    refine tg_put (ci := 10) (k := 23) (σ' := up2 σ (78) 23 x3) hx hb hts hown hk hG hw tyX11 (en10 (rfl : nk 78 = 10)) rfl inlX11 tyX11_ok nmX11 (by decide) wd763 rfl rfl rfl (Nat.le_of_ble_eq_true rfl) (pu10_23 (rfl : nk 78 = 10)) (fun _ h => up2_ne h) dX11_image_19 (fun H locs hw => ?_)
    obtain ⟨σ4, eσ4⟩ : ∃ z, z = up2 σ (78) 23 x3 := ⟨_, rfl⟩
    rw [← eσ4] at hw
    have hI : K0 σ σ4 := by rw [eσ4]; exact hI.up (rfl) (rg_no (by rw [(rfl : nk 78 = 10)]; rfl))
    have eP := eσ4
    refine lv_aload_n hx hb dX11_image_22 rfl (lv_at hl 0 rfl) ?_
    refine lv_iconst (v := 1) hx hb dX11_image_23 (by decide) ?_
    refine tg_put (ci := 10) (k := 24) (σ' := up2 σ4 (78) 24 (1 : Int32)) hx hb hts hown hk hG hw tyX11 (en10 (rfl : nk 78 = 10)) rfl inlX11 tyX11_ok nmX11 (by decide) wd764 rfl rfl rfl (Nat.le_of_ble_eq_true rfl) (pu10_24 (rfl : nk 78 = 10)) (fun _ h => up2_ne h) dX11_image_24 (fun H locs hw => ?_)
    obtain ⟨σ5, eσ5⟩ : ∃ z, z = up2 σ4 (78) 24 (1 : Int32) := ⟨_, rfl⟩
    rw [← eσ5] at hw
    have hI : K0 σ σ5 := by rw [eσ5]; exact hI.up (rfl) (rg_no (by rw [(rfl : nk 78 = 10)]; rfl))
    have sW : ¬ σ5 78 24 = 0 := by rw [eσ5, up2_self]; decide
    have sB0 : (σ5 78 23).toInt = 400 * v.toInt := by rw [eσ5, up2_nk (by decide), eP, up2_self]; omega
    have sB : (σ5 78 23).toNatClampNeg = 400 * v.toNatClampNeg := by have q1 := clI (σ5 78 23) (by omega); have q2 := clI v (by omega); omega
    refine lv_aload_n hx hb dX11_image_27 rfl (lv_at hl 0 rfl) ?_
    refine te_vv hw (ru_V (As := []) (rest := []) (C := RX11) hx hb hml hts hown hk hw (c_X11_passAll l G hG σ5 hI.1 (by rw [eσ5, up2_nk (by decide), eP, up2_self]; omega)) (m4_in wd765 wd766 wd767 wd5) wd768 (en10 (rfl : nk 78 = 10)) rfl rfl rfl nm_yX11_passAll ⟨rfl, rfl⟩ ⟨by decide, by decide⟩ rfl hl.1 rfl (Nat.le_of_ble_eq_true rfl) dX11_image_28 ⟨Nat.zero_le _, Nat.zero_le _⟩) (fun σ6 H locs hr7 hw => ?_)
    have hIo := hI
    have hI : K0 σ6 σ6 := K0.rf hr7.1
    have hr7 := hr7.2
    have hPA := hr7
    rw [sB] at hPA
    refine lv_aload_n hx hb dX11_image_31 rfl (lv_at hl 0 rfl) ?_
    refine tg_get (ci := 10) (k := 22) (v := .ref (ad G (91))) hx hb hts hown hk hw (en10 (rfl : nk 78 = 10)) rfl inlX11 (by decide) wd117 rfl dX11_image_32 ?_
    refine lv_iload_n hx hb dX11_image_35 rfl (lv_at hl 1 rfl) ?_
    refine lv_iconst (v := 1) hx hb dX11_image_36 (by decide) ?_
    have hv37 : vp_in v 2 := vin ⟨by omega, by omega⟩
    refine tg_zast hx hb hk hG hw (ea12 (rfl : nk 91 = 12)) hv37 dX11_image_37 (fun H locs hw => ?_)
    obtain ⟨σ8, eσ8⟩ : ∃ z, z = up2 σ6 (91) v.toNatClampNeg (vp_nar .boolean (1 : Int32)) := ⟨_, rfl⟩
    rw [← eσ8] at hw
    have hI : K0 (up2 σ6 91 v.toNatClampNeg (vp_nar .boolean (1 : Int32))) σ8 := by rw [eσ8]; exact hI.put (rg_no (by rw [(rfl : nk 91 = 12)]; rfl))
    refine lv_iconst (v := 1) hx hb dX11_image_38 (by decide) ?_
    exact ret (1 : Int32) σ8 _ _ 39 _ (rfl) (Or.inr ⟨by omega, rfl, _, _, hIo, sW, hPA, by rw [show vp_nar .boolean (1 : Int32) = 1 from by decide] at hI; exact hI⟩) hw dX11_image_39
  · have c7i := congrArg Int32.toInt c7
    have p7 := bz0 hr2 c7
    refine lv_bipush (v := -2) hx hb dX11_image_10 (by decide) ?_
    exact ret (-2 : Int32) σ _ _ 12 _ (rfl) (Or.inl ⟨by omega, hI, rfl⟩) hw dX11_image_12
set_option maxHeartbeats 4000000 in
set_option maxRecDepth 100000 in
theorem c_X11_restore (l : Launch) (G : Gg) (hG : Ginj G) (σ : Sg) (hI0 : Inv σ) (v : Int32) : MI l G yX11_restore cX11_restore 2 .int (rmO 2 43) σ [.ref (ad G (78)), .int v] (fun r σ' => resR σ σ' v r) := by
  refine MI.of (by decide +kernel) (Nat.le_of_ble_eq_true rfl) ?_
  intro p e s m a below meth c ls Q hx hb hml hts hown hk hw ret hl
  have hown : s.vm.findClass RX11 = some m.cls := hown
  have hl : lv_has ls 2 [(0, .ref (ad G (78))), (1, .int v)] := hl
  have hI : K0 σ σ := K0.rf hI0
  have Lm3 : (-3 : Int32).toInt = -3 := by decide
  have Lm2 : (-2 : Int32).toInt = -2 := by decide
  have L0 : (0 : Int32).toInt = 0 := by decide
  have L1 : (1 : Int32).toInt = 1 := by decide
  have L400 : (400 : Int32).toInt = 400 := by decide
  have M0 : (0 : Int64).toInt = 0 := by decide
  have M1 : (1 : Int64).toInt = 1 := by decide
  generalize hHe : s.heap = H at hw ⊢
  generalize hLe : ([] : List Loc) = locs at hw ⊢
  refine lv_iload_n hx hb dX11_restore_0 rfl (lv_at hl 1 rfl) ?_
  refine lv_i2l hx hb dX11_restore_1 rfl ?_
  refine lv_lconst (v := 0) hx hb dX11_restore_2 (by decide) ?_
  refine lv_lconst (v := 1) hx hb dX11_restore_3 (by decide) ?_
  refine te_vi hw (ru_S (As := [.long v.toInt64, .long (0 : Int64), .long (1 : Int64)]) (rest := []) hx hb hml hts hown hk hw (c_X11_in l G hG σ hI.1 v.toInt64 (0 : Int64) (1 : Int64)) (m3_in wd156 wd157 wd5) wd158 nm_yX11_in ⟨rfl, rfl⟩ ⟨by decide, by decide⟩ rfl hl.1 rfl (Nat.le_of_ble_eq_true rfl) dX11_restore_4 ⟨Nat.zero_le _, Nat.zero_le _⟩) (fun r2 σ1 H locs hr2 hw => ?_)
  rw [hr2.1] at hw
  have hr2 := hr2.2
  simp only [Int32.toInt_toInt64] at hr2
  refine lv_if_ne (tgt := 13) hx hb dX11_restore_7 (by decide) (fun c7 => ?_) (fun c7 => ?_)
  · have c7i := mt Int32.toInt_inj.mp c7
    have p7 := bz1 hr2 c7
    refine lv_aload_n hx hb dX11_restore_13 rfl (lv_at hl 0 rfl) ?_
    refine tg_get (ci := 10) (k := 22) (v := .ref (ad G (91))) hx hb hts hown hk hw (en10 (rfl : nk 78 = 10)) rfl inlX11 (by decide) wd117 rfl dX11_restore_14 ?_
    refine lv_iload_n hx hb dX11_restore_17 rfl (lv_at hl 1 rfl) ?_
    have hv18 : vp_in v 2 := vin ⟨by omega, by omega⟩
    refine tg_zald hx hb hk hw (en12 (rfl : nk 91 = 12)) hv18 dX11_restore_18 ?_
    refine lv_topi (fun x3 ex3 => ?_)
    have eK := ex3
    refine lv_if_ne (tgt := 25) hx hb dX11_restore_19 (by decide) (fun c19 => ?_) (fun c19 => ?_)
    · have c19i := mt Int32.toInt_inj.mp c19
      refine lv_aload_n hx hb dX11_restore_25 rfl (lv_at hl 0 rfl) ?_
      refine lv_sipush (v := 400) hx hb dX11_restore_26 (by decide) ?_
      refine lv_iload_n hx hb dX11_restore_29 rfl (lv_at hl 1 rfl) ?_
      refine lv_imul hx hb dX11_restore_30 ?_
      refine lv_topi (fun x4 ex4 => ?_)
      have tx4 : x4.toInt = 400 * v.toInt := by rw [ex4, Jvm.Kit.i32_mul (by rw [L400]; omega) (by rw [L400]; omega), L400]
      refine tg_put (ci := 10) (k := 23) (σ' := up2 σ (78) 23 x4) hx hb hts hown hk hG hw tyX11 (en10 (rfl : nk 78 = 10)) rfl inlX11 tyX11_ok nmX11 (by decide) wd763 rfl rfl rfl (Nat.le_of_ble_eq_true rfl) (pu10_23 (rfl : nk 78 = 10)) (fun _ h => up2_ne h) dX11_restore_31 (fun H locs hw => ?_)
      obtain ⟨σ5, eσ5⟩ : ∃ z, z = up2 σ (78) 23 x4 := ⟨_, rfl⟩
      rw [← eσ5] at hw
      have hI : K0 σ σ5 := by rw [eσ5]; exact hI.up (rfl) (rg_no (by rw [(rfl : nk 78 = 10)]; rfl))
      have eP := eσ5
      refine lv_aload_n hx hb dX11_restore_34 rfl (lv_at hl 0 rfl) ?_
      refine lv_iconst (v := 0) hx hb dX11_restore_35 (by decide) ?_
      refine tg_put (ci := 10) (k := 24) (σ' := up2 σ5 (78) 24 (0 : Int32)) hx hb hts hown hk hG hw tyX11 (en10 (rfl : nk 78 = 10)) rfl inlX11 tyX11_ok nmX11 (by decide) wd764 rfl rfl rfl (Nat.le_of_ble_eq_true rfl) (pu10_24 (rfl : nk 78 = 10)) (fun _ h => up2_ne h) dX11_restore_36 (fun H locs hw => ?_)
      obtain ⟨σ6, eσ6⟩ : ∃ z, z = up2 σ5 (78) 24 (0 : Int32) := ⟨_, rfl⟩
      rw [← eσ6] at hw
      have hI : K0 σ σ6 := by rw [eσ6]; exact hI.up (rfl) (rg_no (by rw [(rfl : nk 78 = 10)]; rfl))
      have sW : σ6 78 24 = 0 := by rw [eσ6, up2_self]
      have sB0 : (σ6 78 23).toInt = 400 * v.toInt := by rw [eσ6, up2_nk (by decide), eP, up2_self]; omega
      have sB : (σ6 78 23).toNatClampNeg = 400 * v.toNatClampNeg := by have q1 := clI (σ6 78 23) (by omega); have q2 := clI v (by omega); omega
      refine lv_aload_n hx hb dX11_restore_39 rfl (lv_at hl 0 rfl) ?_
      refine te_vv hw (ru_V (As := []) (rest := []) (C := RX11) hx hb hml hts hown hk hw (c_X11_passAll l G hG σ6 hI.1 (by rw [eσ6, up2_nk (by decide), eP, up2_self]; omega)) (m4_in wd765 wd766 wd767 wd5) wd768 (en10 (rfl : nk 78 = 10)) rfl rfl rfl nm_yX11_passAll ⟨rfl, rfl⟩ ⟨by decide, by decide⟩ rfl hl.1 rfl (Nat.le_of_ble_eq_true rfl) dX11_restore_40 ⟨Nat.zero_le _, Nat.zero_le _⟩) (fun σ7 H locs hr8 hw => ?_)
      have hIo := hI
      have hI : K0 σ7 σ7 := K0.rf hr8.1
      have hr8 := hr8.2
      have hPA := hr8
      rw [sB] at hPA
      refine lv_iconst (v := 1) hx hb dX11_restore_43 (by decide) ?_
      exact ret (1 : Int32) σ7 _ _ 44 _ (rfl) (Or.inr (Or.inr ⟨by omega, by rw [← eK]; exact c19, rfl, hI.1, _, hIo, sW, hPA⟩)) hw dX11_restore_44
    · have c19i := congrArg Int32.toInt c19
      refine lv_bipush (v := -3) hx hb dX11_restore_22 (by decide) ?_
      exact ret (-3 : Int32) σ _ _ 24 _ (rfl) (Or.inr (Or.inl ⟨by omega, by rw [← eK]; exact c19, hI, rfl⟩)) hw dX11_restore_24
  · have c7i := congrArg Int32.toInt c7
    have p7 := bz0 hr2 c7
    refine lv_bipush (v := -2) hx hb dX11_restore_10 (by decide) ?_
    exact ret (-2 : Int32) σ _ _ 12 _ (rfl) (Or.inl ⟨by omega, hI, rfl⟩) hw dX11_restore_12
set_option maxHeartbeats 4000000 in
set_option maxRecDepth 100000 in
theorem c_X11_bags (l : Launch) (G : Gg) (hG : Ginj G) (σ : Sg) (hI0 : Inv σ) : MI l G yX11_bags cX11_bags 3 .int (rmO 1 22) σ [.ref (ad G (78))] (fun r σ' => σ' = σ ∧ (True)) := by
  refine MI.of (by decide +kernel) (Nat.le_of_ble_eq_true rfl) ?_
  intro p e s m a below meth c ls Q hx hb hml hts hown hk hw ret hl
  have hown : s.vm.findClass RX11 = some m.cls := hown
  have hl : lv_has ls 3 [(0, .ref (ad G (78)))] := hl
  have hI : K0 σ σ := K0.rf hI0
  have L0 : (0 : Int32).toInt = 0 := by decide
  have L1 : (1 : Int32).toInt = 1 := by decide
  have L3 : (3 : Int32).toInt = 3 := by decide
  have L4 : (4 : Int32).toInt = 4 := by decide
  generalize hHe : s.heap = H at hw ⊢
  generalize hLe : ([] : List Loc) = locs at hw ⊢
  refine lv_iconst (v := 0) hx hb dX11_bags_0 (by decide) ?_
  refine lv_istore_n (lv' := [(1, .int (0 : Int32)), (0, .ref (ad G (78)))]) hx hb dX11_bags_1 rfl hl (by decide) rfl (fun ls hl => ?_)
  refine lv_iconst (v := 0) hx hb dX11_bags_2 (by decide) ?_
  refine lv_istore_n (lv' := [(2, .int (0 : Int32)), (1, .int (0 : Int32)), (0, .ref (ad G (78)))]) hx hb dX11_bags_3 rfl hl (by decide) rfl (fun ls hl => ?_)
  have cut4 : ∀ (n : Nat) (z1_4 : Int32) (z2_4 : Int32) (H : Heap) (locs : List Loc) (ls : Array Slot), (0 ≤ z2_4.toInt ∧ z2_4.toInt ≤ 4) → ((4 - z2_4.toInt).toNat : Int) < (n : Int) → Wo G σ s H locs → lv_has ls 3 [(0, .ref (ad G (78))), (1, .int z1_4), (2, .int z2_4)] → W p l e (rmO 1 22) s m a below meth c H locs 0 0 Q (F0 m 4 ls []) := by
    intro n4
    induction n4 with
    | zero =>
      intro z1_4 z2_4 H locs ls f4_0 hm4 hw hl
      exfalso; omega
    | succ n4 ih4 =>
      intro z1_4 z2_4 H locs ls f4_0 hm4 hw hl
      refine lv_iload_n hx hb dX11_bags_4 rfl (lv_at hl 2 rfl) ?_
      refine lv_iconst (v := 4) hx hb dX11_bags_5 (by decide) ?_
      refine lv_icmp_ge (tgt := 24) hx hb dX11_bags_6 (by decide) (fun c6 => ?_) (fun c6 => ?_)
      · have c6i := Int32.le_iff_toInt_le.mp c6
        refine lv_iload_n hx hb dX11_bags_24 rfl (lv_at hl 1 rfl) ?_
        exact ret z1_4 σ _ _ 25 _ (rfl) (⟨rfl, trivial⟩) hw dX11_bags_25
      · have c6i := mt Int32.le_iff_toInt_le.mpr c6
        refine lv_iload_n hx hb dX11_bags_9 rfl (lv_at hl 1 rfl) ?_
        refine lv_aload_n hx hb dX11_bags_10 rfl (lv_at hl 0 rfl) ?_
        refine lv_iload_n hx hb dX11_bags_11 rfl (lv_at hl 2 rfl) ?_
        refine lv_iconst (v := 3) hx hb dX11_bags_12 (by decide) ?_
        refine te_vi hw (ru_V (As := [.int z2_4, .int (3 : Int32)]) (rest := [.int z1_4]) (C := RX11) hx hb hml hts hown hk hw (c_X11_of l G hG σ hI.1 z2_4 (3 : Int32) (by omega) (by omega)) (m4_in wd159 wd160 wd161 wd5) wd162 (en10 (rfl : nk 78 = 10)) rfl rfl rfl nm_yX11_of ⟨rfl, rfl⟩ ⟨by decide, by decide⟩ rfl hl.1 rfl (Nat.le_of_ble_eq_true rfl) dX11_bags_13 ⟨Nat.zero_le _, Nat.zero_le _⟩) (fun r2 σ1 H locs hr2 hw => ?_)
        rw [hr2.1] at hw
        have hr2 := hr2.2
        refine lv_iadd hx hb dX11_bags_16 ?_
        refine lv_topi (fun x3 ex3 => ?_)
        refine lv_istore_n (lv' := [(1, .int x3), (0, .ref (ad G (78))), (2, .int z2_4)]) hx hb dX11_bags_17 rfl hl (by decide) rfl (fun ls hl => ?_)
        obtain ⟨x4, ex4⟩ : ∃ z : Int32, z = z2_4 + (1 : Int32) := ⟨_, rfl⟩
        refine lv_iinc (v := x4) (lv' := [(2, .int x4), (1, .int x3), (0, .ref (ad G (78)))]) hx hb dX11_bags_18 hl (k := 2) rfl (by rw [ex4]; rfl) (by decide) rfl (fun ls hl => ?_)
        have tx4 : x4.toInt = z2_4.toInt + 1 := by rw [ex4, Jvm.Kit.i32_add (by omega) (by omega)]; omega
        refine lv_goto (tgt := 4) hx hb dX11_bags_21 (by decide) ?_
        exact ih4 x3 x4 _ _ _ (by omega) (by omega) hw (lv_sub hl [2, 1, 0] rfl)
  exact cut4 ((((4 - (0 : Int32).toInt).toNat : Int)).toNat + 1) (0 : Int32) (0 : Int32) _ _ _ (by omega) (by omega) hw (lv_sub hl [2, 1, 0] rfl)
set_option maxHeartbeats 4000000 in
set_option maxRecDepth 100000 in
theorem c_X11_told (l : Launch) (G : Gg) (hG : Ginj G) (σ : Sg) (hI0 : Inv σ) (v : Int32) : MI l G yX11_told cX11_told 2 .int (rmO 2 48) σ [.ref (ad G (78)), .int v] (fun r σ' => σ' = σ ∧ (True)) := by
  refine MI.of (by decide +kernel) (Nat.le_of_ble_eq_true rfl) ?_
  intro p e s m a below meth c ls Q hx hb hml hts hown hk hw ret hl
  have hown : s.vm.findClass RX11 = some m.cls := hown
  have hl : lv_has ls 2 [(0, .ref (ad G (78))), (1, .int v)] := hl
  have hI : K0 σ σ := K0.rf hI0
  have Lm6 : (-6 : Int32).toInt = -6 := by decide
  have Lm2 : (-2 : Int32).toInt = -2 := by decide
  have Lm1 : (-1 : Int32).toInt = -1 := by decide
  have L0 : (0 : Int32).toInt = 0 := by decide
  have L1 : (1 : Int32).toInt = 1 := by decide
  have L2 : (2 : Int32).toInt = 2 := by decide
  have L6 : (6 : Int32).toInt = 6 := by decide
  have L10 : (10 : Int32).toInt = 10 := by decide
  have L11 : (11 : Int32).toInt = 11 := by decide
  have M2 : (2 : Int64).toInt = 2 := by decide
  have M5 : (5 : Int64).toInt = 5 := by decide
  have M6 : (6 : Int64).toInt = 6 := by decide
  have M9 : (9 : Int64).toInt = 9 := by decide
  generalize hHe : s.heap = H at hw ⊢
  generalize hLe : ([] : List Loc) = locs at hw ⊢
  refine lv_iload_n hx hb dX11_told_0 rfl (lv_at hl 1 rfl) ?_
  refine lv_i2l hx hb dX11_told_1 rfl ?_
  refine lv_ldc2 hx hb hown (hts _ wd549) dX11_told_2 ?_
  refine lv_ldc2 hx hb hown (hts _ wd151) dX11_told_5 ?_
  refine te_vi hw (ru_S (As := [.long v.toInt64, .long (2 : Int64), .long (5 : Int64)]) (rest := []) hx hb hml hts hown hk hw (c_X11_in l G hG σ hI.1 v.toInt64 (2 : Int64) (5 : Int64)) (m3_in wd156 wd157 wd5) wd158 nm_yX11_in ⟨rfl, rfl⟩ ⟨by decide, by decide⟩ rfl hl.1 rfl (Nat.le_of_ble_eq_true rfl) dX11_told_8 ⟨Nat.zero_le _, Nat.zero_le _⟩) (fun r2 σ1 H locs hr2 hw => ?_)
  rw [hr2.1] at hw
  have hr2 := hr2.2
  simp only [Int32.toInt_toInt64] at hr2
  refine lv_if_eq (tgt := 38) hx hb dX11_told_11 (by decide) (fun c11 => ?_) (fun c11 => ?_)
  · have c11i := congrArg Int32.toInt c11
    have p11 := bz0 hr2 c11
    refine lv_iload_n hx hb dX11_told_38 rfl (lv_at hl 1 rfl) ?_
    refine lv_i2l hx hb dX11_told_39 rfl ?_
    refine lv_ldc2 hx hb hown (hts _ wd797) dX11_told_40 ?_
    refine lv_ldc2 hx hb hown (hts _ wd503) dX11_told_43 ?_
    refine te_vi hw (ru_S (As := [.long v.toInt64, .long (6 : Int64), .long (9 : Int64)]) (rest := []) hx hb hml hts hown hk hw (c_X11_in l G hG σ hI.1 v.toInt64 (6 : Int64) (9 : Int64)) (m3_in wd156 wd157 wd5) wd158 nm_yX11_in ⟨rfl, rfl⟩ ⟨by decide, by decide⟩ rfl hl.1 rfl (Nat.le_of_ble_eq_true rfl) dX11_told_46 ⟨Nat.zero_le _, Nat.zero_le _⟩) (fun r4 σ3 H locs hr4 hw => ?_)
    rw [hr4.1] at hw
    have hr4 := hr4.2
    simp only [Int32.toInt_toInt64] at hr4
    refine lv_if_eq (tgt := 62) hx hb dX11_told_49 (by decide) (fun c49 => ?_) (fun c49 => ?_)
    · have c49i := congrArg Int32.toInt c49
      have p49 := bz0 hr4 c49
      refine lv_iload_n hx hb dX11_told_62 rfl (lv_at hl 1 rfl) ?_
      by_cases w63_0 : v = (0 : Int32)
      · have w63_0i : v.toInt = 0 := by rw [w63_0]; decide
        refine lv_lookup (tgt := 104) hx hb dX11_told_63 (by decide) (by rw [w63_0i]) (by decide) ?_
        refine lv_aload_n hx hb dX11_told_104 rfl (lv_at hl 0 rfl) ?_
        refine tg_get (ci := 10) (k := 7) (v := .int (σ (78) 7)) hx hb hts hown hk hw (en10 (rfl : nk 78 = 10)) rfl inlX11 (by decide) wd213 rfl dX11_told_105 ?_
        refine lv_topi (fun x5 ex5 => ?_)
        have bx5 : 0 ≤ x5.toInt ∧ x5.toInt ≤ 40 := by rw [ex5]; exact hI.1 _ _ _ _ (by rw [(rfl : nk 78 = 10)]; rfl)
        have ux5 : x5.toInt = (σ (78) 7).toInt := by rw [ex5]
        exact ret x5 σ _ _ 108 _ (rfl) (⟨rfl, trivial⟩) hw dX11_told_108
      have w63_0i : ¬ v.toInt = 0 := fun z => w63_0 (Int32.toInt_inj.mp (z.trans (by decide)))
      by_cases w63_1 : v = (1 : Int32)
      · have w63_1i : v.toInt = 1 := by rw [w63_1]; decide
        refine lv_lookup (tgt := 109) hx hb dX11_told_63 (by decide) (by rw [w63_1i]) (by decide) ?_
        refine lv_aload_n hx hb dX11_told_109 rfl (lv_at hl 0 rfl) ?_
        refine tg_get (ci := 10) (k := 3) (v := .int (σ (78) 3)) hx hb hts hown hk hw (en10 (rfl : nk 78 = 10)) rfl inlX11 (by decide) wd184 rfl dX11_told_110 ?_
        refine lv_topi (fun x6 ex6 => ?_)
        have bx6 : 0 ≤ x6.toInt ∧ x6.toInt ≤ 4 := by rw [ex6]; exact hI.1 _ _ _ _ (by rw [(rfl : nk 78 = 10)]; rfl)
        have ux6 : x6.toInt = (σ (78) 3).toInt := by rw [ex6]
        exact ret x6 σ _ _ 113 _ (rfl) (⟨rfl, trivial⟩) hw dX11_told_113
      have w63_1i : ¬ v.toInt = 1 := fun z => w63_1 (Int32.toInt_inj.mp (z.trans (by decide)))
      by_cases w63_10 : v = (10 : Int32)
      · have w63_10i : v.toInt = 10 := by rw [w63_10]; decide
        refine lv_lookup (tgt := 114) hx hb dX11_told_63 (by decide) (by rw [w63_10i]) (by decide) ?_
        refine lv_aload_n hx hb dX11_told_114 rfl (lv_at hl 0 rfl) ?_
        refine lv_bipush (v := -6) hx hb dX11_told_115 (by decide) ?_
        refine lv_iconst (v := -1) hx hb dX11_told_117 (by decide) ?_
        refine lv_iconst (v := 1) hx hb dX11_told_118 (by decide) ?_
        refine te_vi hw (ru_V (As := [.int (-6 : Int32), .int (-1 : Int32), .int (1 : Int32)]) (rest := []) (C := RX11) hx hb hml hts hown hk hw (c_X11_overOf l G hG σ hI.1 (-6 : Int32) (-1 : Int32) (1 : Int32) (by omega)) (m4_in wd672 wd673 wd674 wd5) wd675 (en10 (rfl : nk 78 = 10)) rfl rfl rfl nm_yX11_overOf ⟨rfl, rfl⟩ ⟨by decide, by decide⟩ rfl hl.1 rfl (Nat.le_of_ble_eq_true rfl) dX11_told_119 ⟨Nat.zero_le _, Nat.zero_le _⟩) (fun r8 σ7 H locs hr8 hw => ?_)
        rw [hr8.1] at hw
        have hr8 := hr8.2
        exact ret r8 σ _ _ 122 _ (rfl) (⟨rfl, trivial⟩) hw dX11_told_122
      have w63_10i : ¬ v.toInt = 10 := fun z => w63_10 (Int32.toInt_inj.mp (z.trans (by decide)))
      by_cases w63_11 : v = (11 : Int32)
      · have w63_11i : v.toInt = 11 := by rw [w63_11]; decide
        refine lv_lookup (tgt := 123) hx hb dX11_told_63 (by decide) (by rw [w63_11i]) (by decide) ?_
        refine lv_aload_n hx hb dX11_told_123 rfl (lv_at hl 0 rfl) ?_
        refine te_vi hw (ru_V (As := []) (rest := []) (C := RX11) hx hb hml hts hown hk hw (c_X11_bags l G hG σ hI.1) (m4_in wd798 wd799 wd800 wd5) wd801 (en10 (rfl : nk 78 = 10)) rfl rfl rfl nm_yX11_bags ⟨rfl, rfl⟩ ⟨by decide, by decide⟩ rfl hl.1 rfl (Nat.le_of_ble_eq_true rfl) dX11_told_124 ⟨Nat.zero_le _, Nat.zero_le _⟩) (fun r10 σ9 H locs hr10 hw => ?_)
        rw [hr10.1] at hw
        have hr10 := hr10.2
        exact ret r10 σ _ _ 127 _ (rfl) (⟨rfl, trivial⟩) hw dX11_told_127
      have w63_11i : ¬ v.toInt = 11 := fun z => w63_11 (Int32.toInt_inj.mp (z.trans (by decide)))
      refine lv_lookup (tgt := 128) hx hb dX11_told_63 (by decide) (lk_out (by simp; omega)) (by decide) ?_
      refine lv_bipush (v := -2) hx hb dX11_told_128 (by decide) ?_
      exact ret (-2 : Int32) σ _ _ 130 _ (rfl) (⟨rfl, trivial⟩) hw dX11_told_130
    · have c49i := mt Int32.toInt_inj.mp c49
      have p49 := bz1 hr4 c49
      refine lv_aload_n hx hb dX11_told_52 rfl (lv_at hl 0 rfl) ?_
      refine tg_get (ci := 10) (k := 5) (v := .ref (ad G (83))) hx hb hts hown hk hw (en10 (rfl : nk 78 = 10)) rfl inlX11 (by decide) wd109 rfl dX11_told_53 ?_
      refine lv_iload_n hx hb dX11_told_56 rfl (lv_at hl 1 rfl) ?_
      refine lv_bipush (v := 6) hx hb dX11_told_57 (by decide) ?_
      refine lv_isub hx hb dX11_told_59 ?_
      refine lv_topi (fun x11 ex11 => ?_)
      have tx11 : x11.toInt = v.toInt - (6 : Int32).toInt := by rw [ex11]; exact Jvm.Kit.i32_sub (by omega) (by omega)
      have hv60 : vp_in x11 4 := vin ⟨by omega, by omega⟩
      refine tg_iald hx hb hk hw (en104 (rfl : nk 83 = 104)) hv60 dX11_told_60 ?_
      refine lv_topi (fun x12 ex12 => ?_)
      exact ret x12 σ _ _ 61 _ (rfl) (⟨rfl, trivial⟩) hw dX11_told_61
  · have c11i := mt Int32.toInt_inj.mp c11
    have p11 := bz1 hr2 c11
    refine lv_iload_n hx hb dX11_told_14 rfl (lv_at hl 1 rfl) ?_
    refine lv_iconst (v := 2) hx hb dX11_told_15 (by decide) ?_
    refine lv_isub hx hb dX11_told_16 ?_
    refine lv_topi (fun x13 ex13 => ?_)
    have tx13 : x13.toInt = v.toInt - (2 : Int32).toInt := by rw [ex13]; exact Jvm.Kit.i32_sub (by omega) (by omega)
    refine lv_aload_n hx hb dX11_told_17 rfl (lv_at hl 0 rfl) ?_
    refine tg_get (ci := 10) (k := 3) (v := .int (σ (78) 3)) hx hb hts hown hk hw (en10 (rfl : nk 78 = 10)) rfl inlX11 (by decide) wd184 rfl dX11_told_18 ?_
    refine lv_topi (fun x14 ex14 => ?_)
    have bx14 : 0 ≤ x14.toInt ∧ x14.toInt ≤ 4 := by rw [ex14]; exact hI.1 _ _ _ _ (by rw [(rfl : nk 78 = 10)]; rfl)
    have ux14 : x14.toInt = (σ (78) 3).toInt := by rw [ex14]
    refine lv_icmp_ge (tgt := 35) hx hb dX11_told_21 (by decide) (fun c21 => ?_) (fun c21 => ?_)
    · have c21i := Int32.le_iff_toInt_le.mp c21
      refine lv_bipush (v := -6) hx hb dX11_told_35 (by decide) ?_
      exact ret (-6 : Int32) σ _ _ 37 _ (rfl) (⟨rfl, trivial⟩) hw dX11_told_37
    · have c21i := mt Int32.le_iff_toInt_le.mpr c21
      refine lv_aload_n hx hb dX11_told_24 rfl (lv_at hl 0 rfl) ?_
      refine tg_get (ci := 10) (k := 2) (v := .ref (ad G (81))) hx hb hts hown hk hw (en10 (rfl : nk 78 = 10)) rfl inlX11 (by decide) wd107 rfl dX11_told_25 ?_
      refine lv_iload_n hx hb dX11_told_28 rfl (lv_at hl 1 rfl) ?_
      refine lv_iconst (v := 2) hx hb dX11_told_29 (by decide) ?_
      refine lv_isub hx hb dX11_told_30 ?_
      refine lv_topi (fun x15 ex15 => ?_)
      have tx15 : x15.toInt = v.toInt - (2 : Int32).toInt := by rw [ex15]; exact Jvm.Kit.i32_sub (by omega) (by omega)
      have hv31 : vp_in x15 4 := vin ⟨by omega, by omega⟩
      refine tg_iald hx hb hk hw (en104 (rfl : nk 81 = 104)) hv31 dX11_told_31 ?_
      refine lv_topi (fun x16 ex16 => ?_)
      refine lv_goto (tgt := 37) hx hb dX11_told_32 (by decide) ?_
      exact ret x16 σ _ _ 37 _ (rfl) (⟨rfl, trivial⟩) hw dX11_told_37
