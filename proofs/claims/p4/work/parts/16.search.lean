set_option maxHeartbeats 4000000 in
set_option maxRecDepth 100000 in
theorem c_X0_tryPosts (l : Launch) (G : Gg) (hG : Ginj G) (σ : Sg) (hI0 : Inv σ) (v : Int32) (w : Int32) (u : Int32) (g1 : 0 ≤ v.toInt ∧ v.toInt ≤ 2) : MV l G yX0_tryPosts cX0_tryPosts 7 (rmO 4 100) σ [.ref (ad G (65)), .int v, .int w, .int u, .ref (ad G (3)), .ref (ad G (1))] (fun σ' => K0 σ σ' ∧ (True)) := by
  refine MV.of (by decide +kernel) (Nat.le_of_ble_eq_true rfl) ?_
  intro p e s m a below meth c ls Q hx hb hml hts hown hk hw ret hl
  have hown : s.vm.findClass RX0 = some m.cls := hown
  have hl : lv_has ls 7 [(0, .ref (ad G (65))), (1, .int v), (2, .int w), (3, .int u), (4, .ref (ad G (3))), (5, .ref (ad G (1)))] := hl
  have hI : K0 σ σ := K0.rf hI0
  have Lm6 : (-6 : Int32).toInt = -6 := by decide
  have L0 : (0 : Int32).toInt = 0 := by decide
  have L1 : (1 : Int32).toInt = 1 := by decide
  generalize hHe : s.heap = H at hw ⊢
  generalize hLe : ([] : List Loc) = locs at hw ⊢
  refine lv_aload_n hx hb dX0_tryPosts_0 rfl (lv_at hl 0 rfl) ?_
  refine tg_get (ci := 0) (k := 0) (v := .ref (ad G (66))) hx hb hts hown hk hw (en0 (rfl : nk 65 = 0)) rfl inlX0 (by decide) wd85 rfl dX0_tryPosts_1 ?_
  refine lv_aload hx hb dX0_tryPosts_4 (lv_at hl 4 rfl) ?_
  refine tg_get (ci := 3) (k := 1) (v := .ref (ad G (7))) hx hb hts hown hk hw (en3 (rfl : nk 3 = 3)) rfl inlX3 (by decide) wd534 rfl dX0_tryPosts_6 ?_
  refine te_vv hw (ru_V (As := [.ref (ad G (7))]) (rest := []) (C := RX1) hx hb hml hts hown hk hw (c_X1_copySowersFrom l G hG σ hI.1 66 (rfl : nk 66 = 1) 7 (rfl : nk 7 = 1)) (m4_in wd542 wd458 wd459 wd52) wd460 (en1 (rfl : nk 66 = 1)) rfl rfl rfl nm_yX1_copySowersFrom ⟨rfl, rfl⟩ ⟨by decide, by decide⟩ rfl hl.1 rfl (Nat.le_of_ble_eq_true rfl) dX0_tryPosts_9 ⟨Nat.zero_le _, Nat.zero_le _⟩) (fun σ1 H locs hr2 hw => ?_)
  have hI := hI.fr hr2.1 hr2.2.1 (fun x k hx => trU (by omega))
  have ghr2 := hr2.2.1
  have hr2 := hr2.2.2
  refine lv_aload_n hx hb dX0_tryPosts_12 rfl (lv_at hl 0 rfl) ?_
  refine tg_get (ci := 0) (k := 0) (v := .ref (ad G (66))) hx hb hts hown hk hw (en0 (rfl : nk 65 = 0)) rfl inlX0 (by decide) wd85 rfl dX0_tryPosts_13 ?_
  refine tg_get (ci := 1) (k := 1) (v := .ref (ad G (68))) hx hb hts hown hk hw (en1 (rfl : nk 66 = 1)) rfl inlX1 (by decide) wd535 rfl dX0_tryPosts_16 ?_
  refine lv_iconst (v := 0) hx hb dX0_tryPosts_19 (by decide) ?_
  refine lv_iload_n hx hb dX0_tryPosts_20 rfl (lv_at hl 2 rfl) ?_
  have hv21 : vp_in (0 : Int32) 4 := vin ⟨by omega, by omega⟩
  refine tg_iast hx hb hk hG hw (ea104 (rfl : nk 68 = 104)) hv21 dX0_tryPosts_21 (fun H locs hw => ?_)
  obtain ⟨σ3, eσ3⟩ : ∃ z, z = up2 σ1 (68) ((0 : Int32).toNatClampNeg) w := ⟨_, rfl⟩
  rw [← eσ3] at hw
  have hI : K0 σ σ3 := by rw [eσ3]; exact hI.up (rfl) (rg_no (by rw [(rfl : nk 68 = 104)]; rfl))
  refine lv_aload_n hx hb dX0_tryPosts_22 rfl (lv_at hl 0 rfl) ?_
  refine tg_get (ci := 0) (k := 0) (v := .ref (ad G (66))) hx hb hts hown hk hw (en0 (rfl : nk 65 = 0)) rfl inlX0 (by decide) wd85 rfl dX0_tryPosts_23 ?_
  refine tg_get (ci := 1) (k := 1) (v := .ref (ad G (68))) hx hb hts hown hk hw (en1 (rfl : nk 66 = 1)) rfl inlX1 (by decide) wd535 rfl dX0_tryPosts_26 ?_
  refine lv_iconst (v := 1) hx hb dX0_tryPosts_29 (by decide) ?_
  refine lv_iload_n hx hb dX0_tryPosts_30 rfl (lv_at hl 3 rfl) ?_
  have hv31 : vp_in (1 : Int32) 4 := vin ⟨by omega, by omega⟩
  refine tg_iast hx hb hk hG hw (ea104 (rfl : nk 68 = 104)) hv31 dX0_tryPosts_31 (fun H locs hw => ?_)
  obtain ⟨σ4, eσ4⟩ : ∃ z, z = up2 σ3 (68) ((1 : Int32).toNatClampNeg) u := ⟨_, rfl⟩
  rw [← eσ4] at hw
  have hI : K0 σ σ4 := by rw [eσ4]; exact hI.up (rfl) (rg_no (by rw [(rfl : nk 68 = 104)]; rfl))
  refine lv_aload_n hx hb dX0_tryPosts_32 rfl (lv_at hl 0 rfl) ?_
  refine tg_get (ci := 0) (k := 0) (v := .ref (ad G (66))) hx hb hts hown hk hw (en0 (rfl : nk 65 = 0)) rfl inlX0 (by decide) wd85 rfl dX0_tryPosts_33 ?_
  refine lv_iload_n hx hb dX0_tryPosts_36 rfl (lv_at hl 1 rfl) ?_
  refine tg_put (ci := 1) (k := 2) (σ' := up2 σ4 (66) 2 v) hx hb hts hown hk hG hw tyX1 (en1 (rfl : nk 66 = 1)) rfl inlX1 tyX1_ok nmX1 (by decide) wd536 rfl rfl rfl (Nat.le_of_ble_eq_true rfl) (pu1_2 (rfl : nk 66 = 1)) (fun _ h => up2_ne h) dX0_tryPosts_37 (fun H locs hw => ?_)
  obtain ⟨σ5, eσ5⟩ : ∃ z, z = up2 σ4 (66) 2 v := ⟨_, rfl⟩
  rw [← eσ5] at hw
  have hI : K0 σ σ5 := by rw [eσ5]; exact hI.up (rfl) (rg_is (by rw [(rfl : nk 66 = 1)]; rfl) (by omega) (by omega))
  refine lv_aload_n hx hb dX0_tryPosts_40 rfl (lv_at hl 0 rfl) ?_
  refine tg_get (ci := 0) (k := 0) (v := .ref (ad G (66))) hx hb hts hown hk hw (en0 (rfl : nk 65 = 0)) rfl inlX0 (by decide) wd85 rfl dX0_tryPosts_41 ?_
  refine lv_bipush (v := -6) hx hb dX0_tryPosts_44 (by decide) ?_
  refine tg_put (ci := 1) (k := 3) (σ' := up2 σ5 (66) 3 (-6 : Int32)) hx hb hts hown hk hG hw tyX1 (en1 (rfl : nk 66 = 1)) rfl inlX1 tyX1_ok nmX1 (by decide) wd537 rfl rfl rfl (Nat.le_of_ble_eq_true rfl) (pu1_3 (rfl : nk 66 = 1)) (fun _ h => up2_ne h) dX0_tryPosts_46 (fun H locs hw => ?_)
  obtain ⟨σ6, eσ6⟩ : ∃ z, z = up2 σ5 (66) 3 (-6 : Int32) := ⟨_, rfl⟩
  rw [← eσ6] at hw
  have hI : K0 σ σ6 := by rw [eσ6]; exact hI.up (rfl) (rg_no (by rw [(rfl : nk 66 = 1)]; rfl))
  refine lv_aload_n hx hb dX0_tryPosts_49 rfl (lv_at hl 0 rfl) ?_
  refine tg_get (ci := 0) (k := 1) (v := .ref (ad G (73))) hx hb hts hown hk hw (en0 (rfl : nk 65 = 0)) rfl inlX0 (by decide) wd89 rfl dX0_tryPosts_50 ?_
  refine lv_iconst (v := 0) hx hb dX0_tryPosts_53 (by decide) ?_
  refine tg_put (ci := 6) (k := 1) (σ' := up2 σ6 (73) 1 (0 : Int32)) hx hb hts hown hk hG hw tyX7 (en6 (rfl : nk 73 = 6)) rfl inlX7 tyX7_ok nmX7 (by decide) wd538 rfl rfl rfl (Nat.le_of_ble_eq_true rfl) (pu6_1 (rfl : nk 73 = 6)) (fun _ h => up2_ne h) dX0_tryPosts_54 (fun H locs hw => ?_)
  obtain ⟨σ7, eσ7⟩ : ∃ z, z = up2 σ6 (73) 1 (0 : Int32) := ⟨_, rfl⟩
  rw [← eσ7] at hw
  have hI : K0 σ σ7 := by rw [eσ7]; exact hI.up (rfl) (rg_no (by rw [(rfl : nk 73 = 6)]; rfl))
  refine lv_iconst (v := 0) hx hb dX0_tryPosts_57 (by decide) ?_
  refine lv_istore (lv' := [(6, .int (0 : Int32)), (0, .ref (ad G (65))), (1, .int v), (2, .int w), (3, .int u), (4, .ref (ad G (3))), (5, .ref (ad G (1)))]) hx hb dX0_tryPosts_58 hl (by decide) rfl (fun ls hl => ?_)
  have cut60 : ∀ (n : Nat) (z6_60 : Int32) (σc60 : Sg) (H : Heap) (locs : List Loc) (ls : Array Slot), (0 ≤ z6_60.toInt ∧ z6_60.toInt ≤ 40) → K0 σ σc60 → ((40 - z6_60.toInt).toNat : Int) < (n : Int) → Wo G σc60 s H locs → lv_has ls 7 [(0, .ref (ad G (65))), (1, .int v), (2, .int w), (3, .int u), (4, .ref (ad G (3))), (5, .ref (ad G (1))), (6, .int z6_60)] → W p l e (rmO 4 100) s m a below meth c H locs 0 0 Q (F0 m 60 ls []) := by
    intro n60
    induction n60 with
    | zero =>
      intro z6_60 σc60 H locs ls f60_0 hI hm60 hw hl
      exfalso; omega
    | succ n60 ih60 =>
      intro z6_60 σc60 H locs ls f60_0 hI hm60 hw hl
      refine lv_iload hx hb dX0_tryPosts_60 (lv_at hl 6 rfl) ?_
      refine lv_aload hx hb dX0_tryPosts_62 (lv_at hl 5 rfl) ?_
      refine tg_get (ci := 4) (k := 1) (v := .int (σc60 (1) 1)) hx hb hts hown hk hw (en4 (rfl : nk 1 = 4)) rfl inlX4 (by decide) wd539 rfl dX0_tryPosts_64 ?_
      refine lv_topi (fun x8 ex8 => ?_)
      have bx8 : 0 ≤ x8.toInt ∧ x8.toInt ≤ 40 := by rw [ex8]; exact hI.1 _ _ _ _ (by rw [(rfl : nk 1 = 4)]; rfl)
      have ux8 : x8.toInt = (σc60 (1) 1).toInt := by rw [ex8]
      refine lv_icmp_ge (tgt := 115) hx hb dX0_tryPosts_67 (by decide) (fun c67 => ?_) (fun c67 => ?_)
      · have c67i := Int32.le_iff_toInt_le.mp c67
        refine lv_aload_n hx hb dX0_tryPosts_115 rfl (lv_at hl 0 rfl) ?_
        refine tg_get (ci := 0) (k := 1) (v := .ref (ad G (73))) hx hb hts hown hk hw (en0 (rfl : nk 65 = 0)) rfl inlX0 (by decide) wd89 rfl dX0_tryPosts_116 ?_
        refine tg_get (ci := 6) (k := 1) (v := .int (σc60 (73) 1)) hx hb hts hown hk hw (en6 (rfl : nk 73 = 6)) rfl inlX7 (by decide) wd538 rfl dX0_tryPosts_119 ?_
        refine lv_topi (fun x9 ex9 => ?_)
        refine lv_aload_n hx hb dX0_tryPosts_122 rfl (lv_at hl 0 rfl) ?_
        refine tg_get (ci := 0) (k := 2) (v := .int (σc60 (65) 2)) hx hb hts hown hk hw (en0 (rfl : nk 65 = 0)) rfl inlX0 (by decide) wd524 rfl dX0_tryPosts_123 ?_
        refine lv_topi (fun x10 ex10 => ?_)
        refine lv_icmp_ge (tgt := 150) hx hb dX0_tryPosts_126 (by decide) (fun c126 => ?_) (fun c126 => ?_)
        · have ox9 := i32b x9
          have ox10 := i32b x10
          have c126i := Int32.le_iff_toInt_le.mp c126
          exact ret σc60 _ _ 150 _ (⟨hI, trivial⟩) hw dX0_tryPosts_150
        · have ox9 := i32b x9
          have ox10 := i32b x10
          have c126i := mt Int32.le_iff_toInt_le.mpr c126
          refine lv_aload_n hx hb dX0_tryPosts_129 rfl (lv_at hl 0 rfl) ?_
          refine lv_aload_n hx hb dX0_tryPosts_130 rfl (lv_at hl 0 rfl) ?_
          refine tg_get (ci := 0) (k := 1) (v := .ref (ad G (73))) hx hb hts hown hk hw (en0 (rfl : nk 65 = 0)) rfl inlX0 (by decide) wd89 rfl dX0_tryPosts_131 ?_
          refine tg_get (ci := 6) (k := 1) (v := .int (σc60 (73) 1)) hx hb hts hown hk hw (en6 (rfl : nk 73 = 6)) rfl inlX7 (by decide) wd538 rfl dX0_tryPosts_134 ?_
          refine lv_topi (fun x11 ex11 => ?_)
          have qx11 : x11.toInt = x9.toInt := by rw [ex11, ex9]
          refine tg_put (ci := 0) (k := 2) (σ' := up2 σc60 (65) 2 x11) hx hb hts hown hk hG hw tyX0 (en0 (rfl : nk 65 = 0)) rfl inlX0 tyX0_ok nmX0 (by decide) wd524 rfl rfl rfl (Nat.le_of_ble_eq_true rfl) (pu0_2 (rfl : nk 65 = 0)) (fun _ h => up2_ne h) dX0_tryPosts_137 (fun H locs hw => ?_)
          obtain ⟨σ12, eσ12⟩ : ∃ z, z = up2 σc60 (65) 2 x11 := ⟨_, rfl⟩
          rw [← eσ12] at hw
          have hI : K0 σ σ12 := by rw [eσ12]; exact hI.up (rfl) (rg_no (by rw [(rfl : nk 65 = 0)]; rfl))
          refine lv_aload_n hx hb dX0_tryPosts_140 rfl (lv_at hl 0 rfl) ?_
          refine lv_iload_n hx hb dX0_tryPosts_141 rfl (lv_at hl 2 rfl) ?_
          refine tg_put (ci := 0) (k := 3) (σ' := up2 σ12 (65) 3 w) hx hb hts hown hk hG hw tyX0 (en0 (rfl : nk 65 = 0)) rfl inlX0 tyX0_ok nmX0 (by decide) wd540 rfl rfl rfl (Nat.le_of_ble_eq_true rfl) (pu0_3 (rfl : nk 65 = 0)) (fun _ h => up2_ne h) dX0_tryPosts_142 (fun H locs hw => ?_)
          obtain ⟨σ13, eσ13⟩ : ∃ z, z = up2 σ12 (65) 3 w := ⟨_, rfl⟩
          rw [← eσ13] at hw
          have hI : K0 σ σ13 := by rw [eσ13]; exact hI.up (rfl) (rg_no (by rw [(rfl : nk 65 = 0)]; rfl))
          refine lv_aload_n hx hb dX0_tryPosts_145 rfl (lv_at hl 0 rfl) ?_
          refine lv_iload_n hx hb dX0_tryPosts_146 rfl (lv_at hl 3 rfl) ?_
          refine tg_put (ci := 0) (k := 4) (σ' := up2 σ13 (65) 4 u) hx hb hts hown hk hG hw tyX0 (en0 (rfl : nk 65 = 0)) rfl inlX0 tyX0_ok nmX0 (by decide) wd541 rfl rfl rfl (Nat.le_of_ble_eq_true rfl) (pu0_4 (rfl : nk 65 = 0)) (fun _ h => up2_ne h) dX0_tryPosts_147 (fun H locs hw => ?_)
          obtain ⟨σ14, eσ14⟩ : ∃ z, z = up2 σ13 (65) 4 u := ⟨_, rfl⟩
          rw [← eσ14] at hw
          have hI : K0 σ σ14 := by rw [eσ14]; exact hI.up (rfl) (rg_no (by rw [(rfl : nk 65 = 0)]; rfl))
          exact ret σ14 _ _ 150 _ (⟨hI, trivial⟩) hw dX0_tryPosts_150
      · have c67i := mt Int32.le_iff_toInt_le.mpr c67
        refine lv_aload_n hx hb dX0_tryPosts_70 rfl (lv_at hl 0 rfl) ?_
        refine tg_get (ci := 0) (k := 1) (v := .ref (ad G (73))) hx hb hts hown hk hw (en0 (rfl : nk 65 = 0)) rfl inlX0 (by decide) wd89 rfl dX0_tryPosts_71 ?_
        refine tg_get (ci := 6) (k := 1) (v := .int (σc60 (73) 1)) hx hb hts hown hk hw (en6 (rfl : nk 73 = 6)) rfl inlX7 (by decide) wd538 rfl dX0_tryPosts_74 ?_
        refine lv_topi (fun x15 ex15 => ?_)
        refine lv_aload_n hx hb dX0_tryPosts_77 rfl (lv_at hl 0 rfl) ?_
        refine tg_get (ci := 0) (k := 2) (v := .int (σc60 (65) 2)) hx hb hts hown hk hw (en0 (rfl : nk 65 = 0)) rfl inlX0 (by decide) wd524 rfl dX0_tryPosts_78 ?_
        refine lv_topi (fun x16 ex16 => ?_)
        refine lv_icmp_ge (tgt := 115) hx hb dX0_tryPosts_81 (by decide) (fun c81 => ?_) (fun c81 => ?_)
        · have ox15 := i32b x15
          have ox16 := i32b x16
          have c81i := Int32.le_iff_toInt_le.mp c81
          refine lv_aload_n hx hb dX0_tryPosts_115 rfl (lv_at hl 0 rfl) ?_
          refine tg_get (ci := 0) (k := 1) (v := .ref (ad G (73))) hx hb hts hown hk hw (en0 (rfl : nk 65 = 0)) rfl inlX0 (by decide) wd89 rfl dX0_tryPosts_116 ?_
          refine tg_get (ci := 6) (k := 1) (v := .int (σc60 (73) 1)) hx hb hts hown hk hw (en6 (rfl : nk 73 = 6)) rfl inlX7 (by decide) wd538 rfl dX0_tryPosts_119 ?_
          refine lv_topi (fun x17 ex17 => ?_)
          have qx17 : x17.toInt = x15.toInt := by rw [ex17, ex15]
          refine lv_aload_n hx hb dX0_tryPosts_122 rfl (lv_at hl 0 rfl) ?_
          refine tg_get (ci := 0) (k := 2) (v := .int (σc60 (65) 2)) hx hb hts hown hk hw (en0 (rfl : nk 65 = 0)) rfl inlX0 (by decide) wd524 rfl dX0_tryPosts_123 ?_
          refine lv_topi (fun x18 ex18 => ?_)
          have qx18 : x18.toInt = x16.toInt := by rw [ex18, ex16]
          refine lv_icmp_ge (tgt := 150) hx hb dX0_tryPosts_126 (by decide) (fun c126 => ?_) (fun c126 => ?_)
          · have ox17 := i32b x17
            have ox18 := i32b x18
            have c126i := Int32.le_iff_toInt_le.mp c126
            exact ret σc60 _ _ 150 _ (⟨hI, trivial⟩) hw dX0_tryPosts_150
          · have ox17 := i32b x17
            have ox18 := i32b x18
            have c126i := mt Int32.le_iff_toInt_le.mpr c126
            refine lv_aload_n hx hb dX0_tryPosts_129 rfl (lv_at hl 0 rfl) ?_
            refine lv_aload_n hx hb dX0_tryPosts_130 rfl (lv_at hl 0 rfl) ?_
            refine tg_get (ci := 0) (k := 1) (v := .ref (ad G (73))) hx hb hts hown hk hw (en0 (rfl : nk 65 = 0)) rfl inlX0 (by decide) wd89 rfl dX0_tryPosts_131 ?_
            refine tg_get (ci := 6) (k := 1) (v := .int (σc60 (73) 1)) hx hb hts hown hk hw (en6 (rfl : nk 73 = 6)) rfl inlX7 (by decide) wd538 rfl dX0_tryPosts_134 ?_
            refine lv_topi (fun x19 ex19 => ?_)
            have qx19 : x19.toInt = x15.toInt := by rw [ex19, ex15]
            refine tg_put (ci := 0) (k := 2) (σ' := up2 σc60 (65) 2 x19) hx hb hts hown hk hG hw tyX0 (en0 (rfl : nk 65 = 0)) rfl inlX0 tyX0_ok nmX0 (by decide) wd524 rfl rfl rfl (Nat.le_of_ble_eq_true rfl) (pu0_2 (rfl : nk 65 = 0)) (fun _ h => up2_ne h) dX0_tryPosts_137 (fun H locs hw => ?_)
            obtain ⟨σ20, eσ20⟩ : ∃ z, z = up2 σc60 (65) 2 x19 := ⟨_, rfl⟩
            rw [← eσ20] at hw
            have hI : K0 σ σ20 := by rw [eσ20]; exact hI.up (rfl) (rg_no (by rw [(rfl : nk 65 = 0)]; rfl))
            refine lv_aload_n hx hb dX0_tryPosts_140 rfl (lv_at hl 0 rfl) ?_
            refine lv_iload_n hx hb dX0_tryPosts_141 rfl (lv_at hl 2 rfl) ?_
            refine tg_put (ci := 0) (k := 3) (σ' := up2 σ20 (65) 3 w) hx hb hts hown hk hG hw tyX0 (en0 (rfl : nk 65 = 0)) rfl inlX0 tyX0_ok nmX0 (by decide) wd540 rfl rfl rfl (Nat.le_of_ble_eq_true rfl) (pu0_3 (rfl : nk 65 = 0)) (fun _ h => up2_ne h) dX0_tryPosts_142 (fun H locs hw => ?_)
            obtain ⟨σ21, eσ21⟩ : ∃ z, z = up2 σ20 (65) 3 w := ⟨_, rfl⟩
            rw [← eσ21] at hw
            have hI : K0 σ σ21 := by rw [eσ21]; exact hI.up (rfl) (rg_no (by rw [(rfl : nk 65 = 0)]; rfl))
            refine lv_aload_n hx hb dX0_tryPosts_145 rfl (lv_at hl 0 rfl) ?_
            refine lv_iload_n hx hb dX0_tryPosts_146 rfl (lv_at hl 3 rfl) ?_
            refine tg_put (ci := 0) (k := 4) (σ' := up2 σ21 (65) 4 u) hx hb hts hown hk hG hw tyX0 (en0 (rfl : nk 65 = 0)) rfl inlX0 tyX0_ok nmX0 (by decide) wd541 rfl rfl rfl (Nat.le_of_ble_eq_true rfl) (pu0_4 (rfl : nk 65 = 0)) (fun _ h => up2_ne h) dX0_tryPosts_147 (fun H locs hw => ?_)
            obtain ⟨σ22, eσ22⟩ : ∃ z, z = up2 σ21 (65) 4 u := ⟨_, rfl⟩
            rw [← eσ22] at hw
            have hI : K0 σ σ22 := by rw [eσ22]; exact hI.up (rfl) (rg_no (by rw [(rfl : nk 65 = 0)]; rfl))
            exact ret σ22 _ _ 150 _ (⟨hI, trivial⟩) hw dX0_tryPosts_150
        · have ox15 := i32b x15
          have ox16 := i32b x16
          have c81i := mt Int32.le_iff_toInt_le.mpr c81
          refine lv_aload hx hb dX0_tryPosts_84 (lv_at hl 5 rfl) ?_
          refine lv_iload hx hb dX0_tryPosts_86 (lv_at hl 6 rfl) ?_
          refine te_vi hw (ru_V (As := [.int z6_60]) (rest := []) (C := RX4) hx hb hml hts hown hk hw (c_X4_startsPart l G hG σc60 hI.1 z6_60) (m4_in wd543 wd268 wd269 wd14) wd270 (en4 (rfl : nk 1 = 4)) rfl rfl rfl nm_yX4_startsPart ⟨rfl, rfl⟩ ⟨by decide, by decide⟩ rfl hl.1 rfl (Nat.le_of_ble_eq_true rfl) dX0_tryPosts_88 ⟨Nat.zero_le _, Nat.zero_le _⟩) (fun r24 σ23 H locs hr24 hw => ?_)
          rw [hr24.1] at hw
          have hr24 := hr24.2
          refine lv_if_eq (tgt := 109) hx hb dX0_tryPosts_91 (by decide) (fun c91 => ?_) (fun c91 => ?_)
          · have c91i := congrArg Int32.toInt c91
            obtain ⟨x25, ex25⟩ : ∃ z : Int32, z = z6_60 + (1 : Int32) := ⟨_, rfl⟩
            refine lv_iinc (v := x25) (lv' := [(6, .int x25), (0, .ref (ad G (65))), (1, .int v), (2, .int w), (3, .int u), (4, .ref (ad G (3))), (5, .ref (ad G (1)))]) hx hb dX0_tryPosts_109 hl (k := 6) rfl (by rw [ex25]; rfl) (by decide) rfl (fun ls hl => ?_)
            have tx25 : x25.toInt = z6_60.toInt + 1 := by rw [ex25, Jvm.Kit.i32_add (by omega) (by omega)]; omega
            refine lv_goto (tgt := 60) hx hb dX0_tryPosts_112 (by decide) ?_
            exact ih60 x25 σc60 _ _ _ (by omega) hI (by omega) hw (lv_sub hl [1, 2, 3, 4, 5, 6, 0] rfl)
          · have c91i := mt Int32.toInt_inj.mp c91
            refine lv_aload_n hx hb dX0_tryPosts_94 rfl (lv_at hl 0 rfl) ?_
            refine tg_get (ci := 0) (k := 0) (v := .ref (ad G (66))) hx hb hts hown hk hw (en0 (rfl : nk 65 = 0)) rfl inlX0 (by decide) wd85 rfl dX0_tryPosts_95 ?_
            refine lv_aload hx hb dX0_tryPosts_98 (lv_at hl 5 rfl) ?_
            refine lv_iload hx hb dX0_tryPosts_100 (lv_at hl 6 rfl) ?_
            refine lv_aload_n hx hb dX0_tryPosts_102 rfl (lv_at hl 0 rfl) ?_
            refine tg_get (ci := 0) (k := 1) (v := .ref (ad G (73))) hx hb hts hown hk hw (en0 (rfl : nk 65 = 0)) rfl inlX0 (by decide) wd89 rfl dX0_tryPosts_103 ?_
            refine te_vv hw (ru_V (As := [.ref (ad G (1)), .int z6_60, .ref (ad G (73))]) (rest := []) (C := RX1) hx hb hml hts hown hk hw (c_X1_goPartT l G hG σc60 hI.1 66 (rfl : nk 66 = 1) z6_60) (m4_in wd544 wd272 wd273 wd52) wd274 (en1 (rfl : nk 66 = 1)) rfl rfl rfl nm_yX1_goPart ⟨rfl, rfl⟩ ⟨by decide, by decide⟩ rfl hl.1 rfl (Nat.le_of_ble_eq_true rfl) dX0_tryPosts_106 ⟨Nat.zero_le _, Nat.zero_le _⟩) (fun σ26 H locs hr27 hw => ?_)
            have hI := hI.go hr27.1
            have hr27 := hr27.2
            obtain ⟨x28, ex28⟩ : ∃ z : Int32, z = z6_60 + (1 : Int32) := ⟨_, rfl⟩
            refine lv_iinc (v := x28) (lv' := [(6, .int x28), (0, .ref (ad G (65))), (1, .int v), (2, .int w), (3, .int u), (4, .ref (ad G (3))), (5, .ref (ad G (1)))]) hx hb dX0_tryPosts_109 hl (k := 6) rfl (by rw [ex28]; rfl) (by decide) rfl (fun ls hl => ?_)
            have tx28 : x28.toInt = z6_60.toInt + 1 := by rw [ex28, Jvm.Kit.i32_add (by omega) (by omega)]; omega
            refine lv_goto (tgt := 60) hx hb dX0_tryPosts_112 (by decide) ?_
            exact ih60 x28 σ26 _ _ _ (by omega) hI (by omega) hw (lv_sub hl [1, 2, 3, 4, 5, 6, 0] rfl)
  exact cut60 ((((40 - (0 : Int32).toInt).toNat : Int)).toNat + 1) (0 : Int32) σ7 _ _ _ (by omega) hI (by omega) hw (lv_sub hl [1, 2, 3, 4, 5, 6, 0] rfl)
set_option maxHeartbeats 4000000 in
set_option maxRecDepth 100000 in
theorem c_X0_seek (l : Launch) (G : Gg) (hG : Ginj G) (σ : Sg) (hI0 : Inv σ) (v : Int32) (g1 : 0 ≤ v.toInt ∧ v.toInt ≤ 2) : MV l G yX0_seek cX0_seek 9 (rmO 5 126) σ [.ref (ad G (65)), .int v, .ref (ad G (3)), .ref (ad G (1))] (fun σ' => K0 σ σ' ∧ (True)) := by
  refine MV.of (by decide +kernel) (Nat.le_of_ble_eq_true rfl) ?_
  intro p e s m a below meth c ls Q hx hb hml hts hown hk hw ret hl
  have hown : s.vm.findClass RX0 = some m.cls := hown
  have hl : lv_has ls 9 [(0, .ref (ad G (65))), (1, .int v), (2, .ref (ad G (3))), (3, .ref (ad G (1)))] := hl
  have hI : K0 σ σ := K0.rf hI0
  have L0 : (0 : Int32).toInt = 0 := by decide
  have L1 : (1 : Int32).toInt = 1 := by decide
  have L2 : (2 : Int32).toInt = 2 := by decide
  have L64 : (64 : Int32).toInt = 64 := by decide
  have L98 : (98 : Int32).toInt = 98 := by decide
  have L999999 : (999999 : Int32).toInt = 999999 := by decide
  have L1000000 : (1000000 : Int32).toInt = 1000000 := by decide
  generalize hHe : s.heap = H at hw ⊢
  generalize hLe : ([] : List Loc) = locs at hw ⊢
  refine lv_aload_n hx hb dX0_seek_0 rfl (lv_at hl 0 rfl) ?_
  refine tg_get (ci := 0) (k := 1) (v := .ref (ad G (73))) hx hb hts hown hk hw (en0 (rfl : nk 65 = 0)) rfl inlX0 (by decide) wd89 rfl dX0_seek_1 ?_
  refine lv_aload_n hx hb dX0_seek_4 rfl (lv_at hl 2 rfl) ?_
  refine tg_get (ci := 3) (k := 0) (v := .ref (ad G (4))) hx hb hts hown hk hw (en3 (rfl : nk 3 = 3)) rfl inlX3 (by decide) wd521 rfl dX0_seek_5 ?_
  refine tg_put (ci := 6) (k := 0) (σ' := up2 σ (73) 0 1) hx hb hts hown hk hG hw tyX7 (en6 (rfl : nk 73 = 6)) rfl inlX7 tyX7_ok nmX7 (by decide) wd522 rfl rfl rfl (Nat.le_of_ble_eq_true rfl) (pu6p (rfl : nk 73 = 6)) (fun _ h => up2_ne h) dX0_seek_8 (fun H locs hw => ?_)
  obtain ⟨σ1, eσ1⟩ : ∃ z, z = up2 σ (73) 0 1 := ⟨_, rfl⟩
  rw [← eσ1] at hw
  have hI : K0 σ σ1 := by rw [eσ1]; exact hI.up (rfl) (rg_no (by rw [(rfl : nk 73 = 6)]; rfl))
  refine lv_aload_n hx hb dX0_seek_11 rfl (lv_at hl 0 rfl) ?_
  refine lv_ldc hx hb hown (hts _ wd523) dX0_seek_12 ?_
  refine tg_put (ci := 0) (k := 2) (σ' := up2 σ1 (65) 2 (1000000 : Int32)) hx hb hts hown hk hG hw tyX0 (en0 (rfl : nk 65 = 0)) rfl inlX0 tyX0_ok nmX0 (by decide) wd524 rfl rfl rfl (Nat.le_of_ble_eq_true rfl) (pu0_2 (rfl : nk 65 = 0)) (fun _ h => up2_ne h) dX0_seek_14 (fun H locs hw => ?_)
  obtain ⟨σ2, eσ2⟩ : ∃ z, z = up2 σ1 (65) 2 (1000000 : Int32) := ⟨_, rfl⟩
  rw [← eσ2] at hw
  have hI : K0 σ σ2 := by rw [eσ2]; exact hI.up (rfl) (rg_no (by rw [(rfl : nk 65 = 0)]; rfl))
  refine lv_aload_n hx hb dX0_seek_17 rfl (lv_at hl 3 rfl) ?_
  refine lv_bipush (v := 98) hx hb dX0_seek_18 (by decide) ?_
  refine te_vi hw (ru_V (As := [.int (98 : Int32)]) (rest := []) (C := RX4) hx hb hml hts hown hk hw (c_X4_has l G hG σ2 hI.1 (98 : Int32)) (m4_in wd526 wd527 wd528 wd14) wd529 (en4 (rfl : nk 1 = 4)) rfl rfl rfl nm_yX4_has ⟨rfl, rfl⟩ ⟨by decide, by decide⟩ rfl hl.1 rfl (Nat.le_of_ble_eq_true rfl) dX0_seek_20 ⟨Nat.zero_le _, Nat.zero_le _⟩) (fun r4 σ3 H locs hr4 hw => ?_)
  rw [hr4.1] at hw
  have hr4 := hr4.2
  refine lv_if_eq (tgt := 30) hx hb dX0_seek_23 (by decide) (fun c23 => ?_) (fun c23 => ?_)
  · have c23i := congrArg Int32.toInt c23
    refine lv_ldc hx hb hown (hts _ wd525) dX0_seek_30 ?_
    refine lv_istore (lv' := [(4, .int (999999 : Int32)), (0, .ref (ad G (65))), (1, .int v), (2, .ref (ad G (3))), (3, .ref (ad G (1)))]) hx hb dX0_seek_32 hl (by decide) rfl (fun ls hl => ?_)
    refine lv_iload_n hx hb dX0_seek_34 rfl (lv_at hl 2 rfl) ?_
    refine lv_if_ne (tgt := 42) hx hb dX0_seek_35 (by decide) (fun c35 => ?_) (fun c35 => ?_)
    · have c35i := mt Int32.toInt_inj.mp c35
      refine lv_bipush (v := 64) hx hb dX0_seek_42 (by decide) ?_
      refine lv_istore (lv' := [(5, .int (64 : Int32)), (4, .int (999999 : Int32)), (0, .ref (ad G (65))), (1, .int v), (2, .ref (ad G (3))), (3, .ref (ad G (1)))]) hx hb dX0_seek_44 hl (by decide) rfl (fun ls hl => ?_)
      refine lv_iconst (v := 0) hx hb dX0_seek_46 (by decide) ?_
      refine lv_istore (lv' := [(6, .int (0 : Int32)), (5, .int (64 : Int32)), (4, .int (999999 : Int32)), (0, .ref (ad G (65))), (1, .int v), (2, .ref (ad G (3))), (3, .ref (ad G (1)))]) hx hb dX0_seek_47 hl (by decide) rfl (fun ls hl => ?_)
      have cut49 : ∀ (n : Nat) (z6_49 : Int32) (σc49 : Sg) (H : Heap) (locs : List Loc) (ls : Array Slot), (0 ≤ z6_49.toInt ∧ z6_49.toInt ≤ 2147483647) → K0 σ σc49 → (((64 : Int32).toInt - z6_49.toInt).toNat : Int) < (n : Int) → Wo G σc49 s H locs → lv_has ls 9 [(0, .ref (ad G (65))), (1, .int v), (2, .ref (ad G (3))), (3, .ref (ad G (1))), (4, .int (999999 : Int32)), (5, .int (64 : Int32)), (6, .int z6_49)] → W p l e (rmO 5 126) s m a below meth c H locs 0 0 Q (F0 m 49 ls []) := by
        intro n49
        induction n49 with
        | zero =>
          intro z6_49 σc49 H locs ls f49_0 hI hm49 hw hl
          exfalso; omega
        | succ n49 ih49 =>
          intro z6_49 σc49 H locs ls f49_0 hI hm49 hw hl
          refine lv_iload hx hb dX0_seek_49 (lv_at hl 6 rfl) ?_
          refine lv_iload hx hb dX0_seek_51 (lv_at hl 5 rfl) ?_
          refine lv_icmp_ge (tgt := 126) hx hb dX0_seek_53 (by decide) (fun c53 => ?_) (fun c53 => ?_)
          · have oz6_49 := i32b z6_49
            have c53i := Int32.le_iff_toInt_le.mp c53
            exact ret σc49 _ _ 126 _ (⟨hI, trivial⟩) hw dX0_seek_126
          · have oz6_49 := i32b z6_49
            have c53i := mt Int32.le_iff_toInt_le.mpr c53
            refine lv_aload_n hx hb dX0_seek_56 rfl (lv_at hl 0 rfl) ?_
            refine tg_get (ci := 0) (k := 2) (v := .int (σc49 (65) 2)) hx hb hts hown hk hw (en0 (rfl : nk 65 = 0)) rfl inlX0 (by decide) wd524 rfl dX0_seek_57 ?_
            refine lv_topi (fun x5 ex5 => ?_)
            refine lv_iload hx hb dX0_seek_60 (lv_at hl 4 rfl) ?_
            refine lv_icmp_le (tgt := 126) hx hb dX0_seek_62 (by decide) (fun c62 => ?_) (fun c62 => ?_)
            · have ox5 := i32b x5
              have c62i := Int32.le_iff_toInt_le.mp c62
              exact ret σc49 _ _ 126 _ (⟨hI, trivial⟩) hw dX0_seek_126
            · have ox5 := i32b x5
              have c62i := mt Int32.le_iff_toInt_le.mpr c62
              refine lv_iload_n hx hb dX0_seek_65 rfl (lv_at hl 1 rfl) ?_
              refine lv_iconst (v := 2) hx hb dX0_seek_66 (by decide) ?_
              refine lv_icmp_ne (tgt := 75) hx hb dX0_seek_67 (by decide) (fun c67 => ?_) (fun c67 => ?_)
              · have c67i := mt Int32.toInt_inj.mp c67
                refine lv_iload hx hb dX0_seek_75 (lv_at hl 6 rfl) ?_
                refine lv_iconst (v := 2) hx hb dX0_seek_77 (by decide) ?_
                refine lv_iadd hx hb dX0_seek_78 ?_
                refine lv_topi (fun x6 ex6 => ?_)
                have tx6 : x6.toInt = z6_49.toInt + (2 : Int32).toInt := by rw [ex6]; exact Jvm.Kit.i32_add (by omega) (by omega)
                refine lv_istore (lv' := [(7, .int x6), (0, .ref (ad G (65))), (1, .int v), (2, .ref (ad G (3))), (3, .ref (ad G (1))), (4, .int (999999 : Int32)), (5, .int (64 : Int32)), (6, .int z6_49)]) hx hb dX0_seek_79 hl (by decide) rfl (fun ls hl => ?_)
                refine lv_iload hx hb dX0_seek_81 (lv_at hl 7 rfl) ?_
                refine lv_iconst (v := 1) hx hb dX0_seek_83 (by decide) ?_
                refine lv_iadd hx hb dX0_seek_84 ?_
                refine lv_topi (fun x7 ex7 => ?_)
                have tx7 : x7.toInt = z6_49.toInt + (1 : Int32).toInt := by rw [ex7]; exact Jvm.Kit.i32_add (by omega) (by omega)
                refine lv_istore (lv' := [(8, .int x7), (7, .int x6), (0, .ref (ad G (65))), (1, .int v), (2, .ref (ad G (3))), (3, .ref (ad G (1))), (4, .int (999999 : Int32)), (5, .int (64 : Int32)), (6, .int z6_49)]) hx hb dX0_seek_85 hl (by decide) rfl (fun ls hl => ?_)
                have cut87 : ∀ (n : Nat) (z8_87 : Int32) (σc87 : Sg) (H : Heap) (locs : List Loc) (ls : Array Slot), (0 ≤ z8_87.toInt ∧ z8_87.toInt ≤ 2147483647) → K0 σ σc87 → ((x6.toInt - z8_87.toInt).toNat : Int) < (n : Int) → Wo G σc87 s H locs → lv_has ls 9 [(0, .ref (ad G (65))), (1, .int v), (2, .ref (ad G (3))), (3, .ref (ad G (1))), (4, .int (999999 : Int32)), (5, .int (64 : Int32)), (6, .int z6_49), (7, .int x6), (8, .int z8_87)] → W p l e (rmO 5 126) s m a below meth c H locs 0 0 Q (F0 m 87 ls []) := by
                  intro n87
                  induction n87 with
                  | zero =>
                    intro z8_87 σc87 H locs ls f87_0 hI hm87 hw hl
                    exfalso; omega
                  | succ n87 ih87 =>
                    intro z8_87 σc87 H locs ls f87_0 hI hm87 hw hl
                    refine lv_iload hx hb dX0_seek_87 (lv_at hl 8 rfl) ?_
                    refine lv_iload hx hb dX0_seek_89 (lv_at hl 7 rfl) ?_
                    refine lv_icmp_ge (tgt := 120) hx hb dX0_seek_91 (by decide) (fun c91 => ?_) (fun c91 => ?_)
                    · have oz8_87 := i32b z8_87
                      have c91i := Int32.le_iff_toInt_le.mp c91
                      obtain ⟨x8, ex8⟩ : ∃ z : Int32, z = z6_49 + (1 : Int32) := ⟨_, rfl⟩
                      refine lv_iinc (v := x8) (lv' := [(6, .int x8), (0, .ref (ad G (65))), (1, .int v), (2, .ref (ad G (3))), (3, .ref (ad G (1))), (4, .int (999999 : Int32)), (5, .int (64 : Int32)), (7, .int x6), (8, .int z8_87)]) hx hb dX0_seek_120 hl (k := 6) rfl (by rw [ex8]; rfl) (by decide) rfl (fun ls hl => ?_)
                      have tx8 : x8.toInt = z6_49.toInt + 1 := by rw [ex8, Jvm.Kit.i32_add (by omega) (by omega)]; omega
                      refine lv_goto (tgt := 49) hx hb dX0_seek_123 (by decide) ?_
                      exact ih49 x8 σc87 _ _ _ (by omega) hI (by omega) hw (lv_sub hl [1, 2, 3, 4, 5, 6, 0] rfl)
                    · have oz8_87 := i32b z8_87
                      have c91i := mt Int32.le_iff_toInt_le.mpr c91
                      refine lv_aload_n hx hb dX0_seek_94 rfl (lv_at hl 0 rfl) ?_
                      refine tg_get (ci := 0) (k := 2) (v := .int (σc87 (65) 2)) hx hb hts hown hk hw (en0 (rfl : nk 65 = 0)) rfl inlX0 (by decide) wd524 rfl dX0_seek_95 ?_
                      refine lv_topi (fun x9 ex9 => ?_)
                      refine lv_iload hx hb dX0_seek_98 (lv_at hl 4 rfl) ?_
                      refine lv_icmp_le (tgt := 120) hx hb dX0_seek_100 (by decide) (fun c100 => ?_) (fun c100 => ?_)
                      · have ox9 := i32b x9
                        have c100i := Int32.le_iff_toInt_le.mp c100
                        obtain ⟨x10, ex10⟩ : ∃ z : Int32, z = z6_49 + (1 : Int32) := ⟨_, rfl⟩
                        refine lv_iinc (v := x10) (lv' := [(6, .int x10), (0, .ref (ad G (65))), (1, .int v), (2, .ref (ad G (3))), (3, .ref (ad G (1))), (4, .int (999999 : Int32)), (5, .int (64 : Int32)), (7, .int x6), (8, .int z8_87)]) hx hb dX0_seek_120 hl (k := 6) rfl (by rw [ex10]; rfl) (by decide) rfl (fun ls hl => ?_)
                        have tx10 : x10.toInt = z6_49.toInt + 1 := by rw [ex10, Jvm.Kit.i32_add (by omega) (by omega)]; omega
                        refine lv_goto (tgt := 49) hx hb dX0_seek_123 (by decide) ?_
                        exact ih49 x10 σc87 _ _ _ (by omega) hI (by omega) hw (lv_sub hl [1, 2, 3, 4, 5, 6, 0] rfl)
                      · have ox9 := i32b x9
                        have c100i := mt Int32.le_iff_toInt_le.mpr c100
                        refine lv_aload_n hx hb dX0_seek_103 rfl (lv_at hl 0 rfl) ?_
                        refine lv_iload_n hx hb dX0_seek_104 rfl (lv_at hl 1 rfl) ?_
                        refine lv_iload hx hb dX0_seek_105 (lv_at hl 6 rfl) ?_
                        refine lv_iload hx hb dX0_seek_107 (lv_at hl 8 rfl) ?_
                        refine lv_aload_n hx hb dX0_seek_109 rfl (lv_at hl 2 rfl) ?_
                        refine lv_aload_n hx hb dX0_seek_110 rfl (lv_at hl 3 rfl) ?_
                        refine te_vv hw (ru_V (As := [.int v, .int z6_49, .int z8_87, .ref (ad G (3)), .ref (ad G (1))]) (rest := []) (C := RX0) hx hb hml hts hown hk hw (c_X0_tryPosts l G hG σc87 hI.1 v z6_49 z8_87 (by omega)) (m4_in wd530 wd531 wd532 wd27) wd533 (en0 (rfl : nk 65 = 0)) rfl rfl rfl nm_yX0_tryPosts ⟨rfl, rfl⟩ ⟨by decide, by decide⟩ rfl hl.1 rfl (Nat.le_of_ble_eq_true rfl) dX0_seek_111 ⟨Nat.zero_le _, Nat.zero_le _⟩) (fun σ11 H locs hr12 hw => ?_)
                        have hI := hI.go hr12.1
                        have hr12 := hr12.2
                        obtain ⟨x13, ex13⟩ : ∃ z : Int32, z = z8_87 + (1 : Int32) := ⟨_, rfl⟩
                        refine lv_iinc (v := x13) (lv' := [(8, .int x13), (0, .ref (ad G (65))), (1, .int v), (2, .ref (ad G (3))), (3, .ref (ad G (1))), (4, .int (999999 : Int32)), (5, .int (64 : Int32)), (6, .int z6_49), (7, .int x6)]) hx hb dX0_seek_114 hl (k := 8) rfl (by rw [ex13]; rfl) (by decide) rfl (fun ls hl => ?_)
                        have tx13 : x13.toInt = z8_87.toInt + 1 := by rw [ex13, Jvm.Kit.i32_add (by omega) (by omega)]; omega
                        refine lv_goto (tgt := 87) hx hb dX0_seek_117 (by decide) ?_
                        exact ih87 x13 σ11 _ _ _ (by omega) hI (by omega) hw (lv_sub hl [1, 2, 3, 4, 5, 6, 7, 8, 0] rfl)
                exact cut87 ((((x6.toInt - x7.toInt).toNat : Int)).toNat + 1) x7 σc49 _ _ _ (by omega) hI (by omega) hw (lv_sub hl [2, 3, 4, 5, 6, 7, 8, 1, 0] rfl)
              · have c67i := congrArg Int32.toInt c67
                refine lv_bipush (v := 64) hx hb dX0_seek_70 (by decide) ?_
                refine lv_goto (tgt := 79) hx hb dX0_seek_72 (by decide) ?_
                refine lv_istore (lv' := [(7, .int (64 : Int32)), (0, .ref (ad G (65))), (1, .int v), (2, .ref (ad G (3))), (3, .ref (ad G (1))), (4, .int (999999 : Int32)), (5, .int (64 : Int32)), (6, .int z6_49)]) hx hb dX0_seek_79 hl (by decide) rfl (fun ls hl => ?_)
                refine lv_iload hx hb dX0_seek_81 (lv_at hl 7 rfl) ?_
                refine lv_iconst (v := 1) hx hb dX0_seek_83 (by decide) ?_
                refine lv_iadd hx hb dX0_seek_84 ?_
                refine lv_topi (fun x14 ex14 => ?_)
                have tx14 : x14.toInt = z6_49.toInt + (1 : Int32).toInt := by rw [ex14]; exact Jvm.Kit.i32_add (by omega) (by omega)
                refine lv_istore (lv' := [(8, .int x14), (7, .int (64 : Int32)), (0, .ref (ad G (65))), (1, .int v), (2, .ref (ad G (3))), (3, .ref (ad G (1))), (4, .int (999999 : Int32)), (5, .int (64 : Int32)), (6, .int z6_49)]) hx hb dX0_seek_85 hl (by decide) rfl (fun ls hl => ?_)
                have cut87 : ∀ (n : Nat) (z8_87 : Int32) (σc87 : Sg) (H : Heap) (locs : List Loc) (ls : Array Slot), (0 ≤ z8_87.toInt ∧ z8_87.toInt ≤ 2147483647) → K0 σ σc87 → (((64 : Int32).toInt - z8_87.toInt).toNat : Int) < (n : Int) → Wo G σc87 s H locs → lv_has ls 9 [(0, .ref (ad G (65))), (1, .int v), (2, .ref (ad G (3))), (3, .ref (ad G (1))), (4, .int (999999 : Int32)), (5, .int (64 : Int32)), (6, .int z6_49), (7, .int (64 : Int32)), (8, .int z8_87)] → W p l e (rmO 5 126) s m a below meth c H locs 0 0 Q (F0 m 87 ls []) := by
                  intro n87
                  induction n87 with
                  | zero =>
                    intro z8_87 σc87 H locs ls f87_0 hI hm87 hw hl
                    exfalso; omega
                  | succ n87 ih87 =>
                    intro z8_87 σc87 H locs ls f87_0 hI hm87 hw hl
                    refine lv_iload hx hb dX0_seek_87 (lv_at hl 8 rfl) ?_
                    refine lv_iload hx hb dX0_seek_89 (lv_at hl 7 rfl) ?_
                    refine lv_icmp_ge (tgt := 120) hx hb dX0_seek_91 (by decide) (fun c91 => ?_) (fun c91 => ?_)
                    · have oz8_87 := i32b z8_87
                      have c91i := Int32.le_iff_toInt_le.mp c91
                      obtain ⟨x15, ex15⟩ : ∃ z : Int32, z = z6_49 + (1 : Int32) := ⟨_, rfl⟩
                      refine lv_iinc (v := x15) (lv' := [(6, .int x15), (0, .ref (ad G (65))), (1, .int v), (2, .ref (ad G (3))), (3, .ref (ad G (1))), (4, .int (999999 : Int32)), (5, .int (64 : Int32)), (7, .int (64 : Int32)), (8, .int z8_87)]) hx hb dX0_seek_120 hl (k := 6) rfl (by rw [ex15]; rfl) (by decide) rfl (fun ls hl => ?_)
                      have tx15 : x15.toInt = z6_49.toInt + 1 := by rw [ex15, Jvm.Kit.i32_add (by omega) (by omega)]; omega
                      refine lv_goto (tgt := 49) hx hb dX0_seek_123 (by decide) ?_
                      exact ih49 x15 σc87 _ _ _ (by omega) hI (by omega) hw (lv_sub hl [1, 2, 3, 4, 5, 6, 0] rfl)
                    · have oz8_87 := i32b z8_87
                      have c91i := mt Int32.le_iff_toInt_le.mpr c91
                      refine lv_aload_n hx hb dX0_seek_94 rfl (lv_at hl 0 rfl) ?_
                      refine tg_get (ci := 0) (k := 2) (v := .int (σc87 (65) 2)) hx hb hts hown hk hw (en0 (rfl : nk 65 = 0)) rfl inlX0 (by decide) wd524 rfl dX0_seek_95 ?_
                      refine lv_topi (fun x16 ex16 => ?_)
                      refine lv_iload hx hb dX0_seek_98 (lv_at hl 4 rfl) ?_
                      refine lv_icmp_le (tgt := 120) hx hb dX0_seek_100 (by decide) (fun c100 => ?_) (fun c100 => ?_)
                      · have ox16 := i32b x16
                        have c100i := Int32.le_iff_toInt_le.mp c100
                        obtain ⟨x17, ex17⟩ : ∃ z : Int32, z = z6_49 + (1 : Int32) := ⟨_, rfl⟩
                        refine lv_iinc (v := x17) (lv' := [(6, .int x17), (0, .ref (ad G (65))), (1, .int v), (2, .ref (ad G (3))), (3, .ref (ad G (1))), (4, .int (999999 : Int32)), (5, .int (64 : Int32)), (7, .int (64 : Int32)), (8, .int z8_87)]) hx hb dX0_seek_120 hl (k := 6) rfl (by rw [ex17]; rfl) (by decide) rfl (fun ls hl => ?_)
                        have tx17 : x17.toInt = z6_49.toInt + 1 := by rw [ex17, Jvm.Kit.i32_add (by omega) (by omega)]; omega
                        refine lv_goto (tgt := 49) hx hb dX0_seek_123 (by decide) ?_
                        exact ih49 x17 σc87 _ _ _ (by omega) hI (by omega) hw (lv_sub hl [1, 2, 3, 4, 5, 6, 0] rfl)
                      · have ox16 := i32b x16
                        have c100i := mt Int32.le_iff_toInt_le.mpr c100
                        refine lv_aload_n hx hb dX0_seek_103 rfl (lv_at hl 0 rfl) ?_
                        refine lv_iload_n hx hb dX0_seek_104 rfl (lv_at hl 1 rfl) ?_
                        refine lv_iload hx hb dX0_seek_105 (lv_at hl 6 rfl) ?_
                        refine lv_iload hx hb dX0_seek_107 (lv_at hl 8 rfl) ?_
                        refine lv_aload_n hx hb dX0_seek_109 rfl (lv_at hl 2 rfl) ?_
                        refine lv_aload_n hx hb dX0_seek_110 rfl (lv_at hl 3 rfl) ?_
                        refine te_vv hw (ru_V (As := [.int v, .int z6_49, .int z8_87, .ref (ad G (3)), .ref (ad G (1))]) (rest := []) (C := RX0) hx hb hml hts hown hk hw (c_X0_tryPosts l G hG σc87 hI.1 v z6_49 z8_87 (by omega)) (m4_in wd530 wd531 wd532 wd27) wd533 (en0 (rfl : nk 65 = 0)) rfl rfl rfl nm_yX0_tryPosts ⟨rfl, rfl⟩ ⟨by decide, by decide⟩ rfl hl.1 rfl (Nat.le_of_ble_eq_true rfl) dX0_seek_111 ⟨Nat.zero_le _, Nat.zero_le _⟩) (fun σ18 H locs hr19 hw => ?_)
                        have hI := hI.go hr19.1
                        have hr19 := hr19.2
                        obtain ⟨x20, ex20⟩ : ∃ z : Int32, z = z8_87 + (1 : Int32) := ⟨_, rfl⟩
                        refine lv_iinc (v := x20) (lv' := [(8, .int x20), (0, .ref (ad G (65))), (1, .int v), (2, .ref (ad G (3))), (3, .ref (ad G (1))), (4, .int (999999 : Int32)), (5, .int (64 : Int32)), (6, .int z6_49), (7, .int (64 : Int32))]) hx hb dX0_seek_114 hl (k := 8) rfl (by rw [ex20]; rfl) (by decide) rfl (fun ls hl => ?_)
                        have tx20 : x20.toInt = z8_87.toInt + 1 := by rw [ex20, Jvm.Kit.i32_add (by omega) (by omega)]; omega
                        refine lv_goto (tgt := 87) hx hb dX0_seek_117 (by decide) ?_
                        exact ih87 x20 σ18 _ _ _ (by omega) hI (by omega) hw (lv_sub hl [1, 2, 3, 4, 5, 6, 7, 8, 0] rfl)
                exact cut87 (((((64 : Int32).toInt - x14.toInt).toNat : Int)).toNat + 1) x14 σc49 _ _ _ (by omega) hI (by omega) hw (lv_sub hl [2, 3, 4, 5, 6, 7, 8, 1, 0] rfl)
      exact cut49 (((((64 : Int32).toInt - (0 : Int32).toInt).toNat : Int)).toNat + 1) (0 : Int32) σ2 _ _ _ (by omega) hI (by omega) hw (lv_sub hl [3, 4, 5, 6, 2, 1, 0] rfl)
    · have c35i := congrArg Int32.toInt c35
      refine lv_iconst (v := 1) hx hb dX0_seek_38 (by decide) ?_
      refine lv_goto (tgt := 44) hx hb dX0_seek_39 (by decide) ?_
      refine lv_istore (lv' := [(5, .int (1 : Int32)), (4, .int (999999 : Int32)), (0, .ref (ad G (65))), (1, .int v), (2, .ref (ad G (3))), (3, .ref (ad G (1)))]) hx hb dX0_seek_44 hl (by decide) rfl (fun ls hl => ?_)
      refine lv_iconst (v := 0) hx hb dX0_seek_46 (by decide) ?_
      refine lv_istore (lv' := [(6, .int (0 : Int32)), (5, .int (1 : Int32)), (4, .int (999999 : Int32)), (0, .ref (ad G (65))), (1, .int v), (2, .ref (ad G (3))), (3, .ref (ad G (1)))]) hx hb dX0_seek_47 hl (by decide) rfl (fun ls hl => ?_)
      have cut49 : ∀ (n : Nat) (z6_49 : Int32) (σc49 : Sg) (H : Heap) (locs : List Loc) (ls : Array Slot), (0 ≤ z6_49.toInt ∧ z6_49.toInt ≤ 2147483647) → K0 σ σc49 → (((1 : Int32).toInt - z6_49.toInt).toNat : Int) < (n : Int) → Wo G σc49 s H locs → lv_has ls 9 [(0, .ref (ad G (65))), (1, .int v), (2, .ref (ad G (3))), (3, .ref (ad G (1))), (4, .int (999999 : Int32)), (5, .int (1 : Int32)), (6, .int z6_49)] → W p l e (rmO 5 126) s m a below meth c H locs 0 0 Q (F0 m 49 ls []) := by
        intro n49
        induction n49 with
        | zero =>
          intro z6_49 σc49 H locs ls f49_0 hI hm49 hw hl
          exfalso; omega
        | succ n49 ih49 =>
          intro z6_49 σc49 H locs ls f49_0 hI hm49 hw hl
          refine lv_iload hx hb dX0_seek_49 (lv_at hl 6 rfl) ?_
          refine lv_iload hx hb dX0_seek_51 (lv_at hl 5 rfl) ?_
          refine lv_icmp_ge (tgt := 126) hx hb dX0_seek_53 (by decide) (fun c53 => ?_) (fun c53 => ?_)
          · have oz6_49 := i32b z6_49
            have c53i := Int32.le_iff_toInt_le.mp c53
            exact ret σc49 _ _ 126 _ (⟨hI, trivial⟩) hw dX0_seek_126
          · have oz6_49 := i32b z6_49
            have c53i := mt Int32.le_iff_toInt_le.mpr c53
            refine lv_aload_n hx hb dX0_seek_56 rfl (lv_at hl 0 rfl) ?_
            refine tg_get (ci := 0) (k := 2) (v := .int (σc49 (65) 2)) hx hb hts hown hk hw (en0 (rfl : nk 65 = 0)) rfl inlX0 (by decide) wd524 rfl dX0_seek_57 ?_
            refine lv_topi (fun x21 ex21 => ?_)
            refine lv_iload hx hb dX0_seek_60 (lv_at hl 4 rfl) ?_
            refine lv_icmp_le (tgt := 126) hx hb dX0_seek_62 (by decide) (fun c62 => ?_) (fun c62 => ?_)
            · have ox21 := i32b x21
              have c62i := Int32.le_iff_toInt_le.mp c62
              exact ret σc49 _ _ 126 _ (⟨hI, trivial⟩) hw dX0_seek_126
            · have ox21 := i32b x21
              have c62i := mt Int32.le_iff_toInt_le.mpr c62
              refine lv_iload_n hx hb dX0_seek_65 rfl (lv_at hl 1 rfl) ?_
              refine lv_iconst (v := 2) hx hb dX0_seek_66 (by decide) ?_
              refine lv_icmp_ne (tgt := 75) hx hb dX0_seek_67 (by decide) (fun c67 => ?_) (fun c67 => ?_)
              · have c67i := mt Int32.toInt_inj.mp c67
                refine lv_iload hx hb dX0_seek_75 (lv_at hl 6 rfl) ?_
                refine lv_iconst (v := 2) hx hb dX0_seek_77 (by decide) ?_
                refine lv_iadd hx hb dX0_seek_78 ?_
                refine lv_topi (fun x22 ex22 => ?_)
                have tx22 : x22.toInt = z6_49.toInt + (2 : Int32).toInt := by rw [ex22]; exact Jvm.Kit.i32_add (by omega) (by omega)
                refine lv_istore (lv' := [(7, .int x22), (0, .ref (ad G (65))), (1, .int v), (2, .ref (ad G (3))), (3, .ref (ad G (1))), (4, .int (999999 : Int32)), (5, .int (1 : Int32)), (6, .int z6_49)]) hx hb dX0_seek_79 hl (by decide) rfl (fun ls hl => ?_)
                refine lv_iload hx hb dX0_seek_81 (lv_at hl 7 rfl) ?_
                refine lv_iconst (v := 1) hx hb dX0_seek_83 (by decide) ?_
                refine lv_iadd hx hb dX0_seek_84 ?_
                refine lv_topi (fun x23 ex23 => ?_)
                have tx23 : x23.toInt = z6_49.toInt + (1 : Int32).toInt := by rw [ex23]; exact Jvm.Kit.i32_add (by omega) (by omega)
                refine lv_istore (lv' := [(8, .int x23), (7, .int x22), (0, .ref (ad G (65))), (1, .int v), (2, .ref (ad G (3))), (3, .ref (ad G (1))), (4, .int (999999 : Int32)), (5, .int (1 : Int32)), (6, .int z6_49)]) hx hb dX0_seek_85 hl (by decide) rfl (fun ls hl => ?_)
                have cut87 : ∀ (n : Nat) (z8_87 : Int32) (σc87 : Sg) (H : Heap) (locs : List Loc) (ls : Array Slot), (0 ≤ z8_87.toInt ∧ z8_87.toInt ≤ 2147483647) → K0 σ σc87 → ((x22.toInt - z8_87.toInt).toNat : Int) < (n : Int) → Wo G σc87 s H locs → lv_has ls 9 [(0, .ref (ad G (65))), (1, .int v), (2, .ref (ad G (3))), (3, .ref (ad G (1))), (4, .int (999999 : Int32)), (5, .int (1 : Int32)), (6, .int z6_49), (7, .int x22), (8, .int z8_87)] → W p l e (rmO 5 126) s m a below meth c H locs 0 0 Q (F0 m 87 ls []) := by
                  intro n87
                  induction n87 with
                  | zero =>
                    intro z8_87 σc87 H locs ls f87_0 hI hm87 hw hl
                    exfalso; omega
                  | succ n87 ih87 =>
                    intro z8_87 σc87 H locs ls f87_0 hI hm87 hw hl
                    refine lv_iload hx hb dX0_seek_87 (lv_at hl 8 rfl) ?_
                    refine lv_iload hx hb dX0_seek_89 (lv_at hl 7 rfl) ?_
                    refine lv_icmp_ge (tgt := 120) hx hb dX0_seek_91 (by decide) (fun c91 => ?_) (fun c91 => ?_)
                    · have oz8_87 := i32b z8_87
                      have c91i := Int32.le_iff_toInt_le.mp c91
                      obtain ⟨x24, ex24⟩ : ∃ z : Int32, z = z6_49 + (1 : Int32) := ⟨_, rfl⟩
                      refine lv_iinc (v := x24) (lv' := [(6, .int x24), (0, .ref (ad G (65))), (1, .int v), (2, .ref (ad G (3))), (3, .ref (ad G (1))), (4, .int (999999 : Int32)), (5, .int (1 : Int32)), (7, .int x22), (8, .int z8_87)]) hx hb dX0_seek_120 hl (k := 6) rfl (by rw [ex24]; rfl) (by decide) rfl (fun ls hl => ?_)
                      have tx24 : x24.toInt = z6_49.toInt + 1 := by rw [ex24, Jvm.Kit.i32_add (by omega) (by omega)]; omega
                      refine lv_goto (tgt := 49) hx hb dX0_seek_123 (by decide) ?_
                      exact ih49 x24 σc87 _ _ _ (by omega) hI (by omega) hw (lv_sub hl [1, 2, 3, 4, 5, 6, 0] rfl)
                    · have oz8_87 := i32b z8_87
                      have c91i := mt Int32.le_iff_toInt_le.mpr c91
                      refine lv_aload_n hx hb dX0_seek_94 rfl (lv_at hl 0 rfl) ?_
                      refine tg_get (ci := 0) (k := 2) (v := .int (σc87 (65) 2)) hx hb hts hown hk hw (en0 (rfl : nk 65 = 0)) rfl inlX0 (by decide) wd524 rfl dX0_seek_95 ?_
                      refine lv_topi (fun x25 ex25 => ?_)
                      refine lv_iload hx hb dX0_seek_98 (lv_at hl 4 rfl) ?_
                      refine lv_icmp_le (tgt := 120) hx hb dX0_seek_100 (by decide) (fun c100 => ?_) (fun c100 => ?_)
                      · have ox25 := i32b x25
                        have c100i := Int32.le_iff_toInt_le.mp c100
                        obtain ⟨x26, ex26⟩ : ∃ z : Int32, z = z6_49 + (1 : Int32) := ⟨_, rfl⟩
                        refine lv_iinc (v := x26) (lv' := [(6, .int x26), (0, .ref (ad G (65))), (1, .int v), (2, .ref (ad G (3))), (3, .ref (ad G (1))), (4, .int (999999 : Int32)), (5, .int (1 : Int32)), (7, .int x22), (8, .int z8_87)]) hx hb dX0_seek_120 hl (k := 6) rfl (by rw [ex26]; rfl) (by decide) rfl (fun ls hl => ?_)
                        have tx26 : x26.toInt = z6_49.toInt + 1 := by rw [ex26, Jvm.Kit.i32_add (by omega) (by omega)]; omega
                        refine lv_goto (tgt := 49) hx hb dX0_seek_123 (by decide) ?_
                        exact ih49 x26 σc87 _ _ _ (by omega) hI (by omega) hw (lv_sub hl [1, 2, 3, 4, 5, 6, 0] rfl)
                      · have ox25 := i32b x25
                        have c100i := mt Int32.le_iff_toInt_le.mpr c100
                        refine lv_aload_n hx hb dX0_seek_103 rfl (lv_at hl 0 rfl) ?_
                        refine lv_iload_n hx hb dX0_seek_104 rfl (lv_at hl 1 rfl) ?_
                        refine lv_iload hx hb dX0_seek_105 (lv_at hl 6 rfl) ?_
                        refine lv_iload hx hb dX0_seek_107 (lv_at hl 8 rfl) ?_
                        refine lv_aload_n hx hb dX0_seek_109 rfl (lv_at hl 2 rfl) ?_
                        refine lv_aload_n hx hb dX0_seek_110 rfl (lv_at hl 3 rfl) ?_
                        refine te_vv hw (ru_V (As := [.int v, .int z6_49, .int z8_87, .ref (ad G (3)), .ref (ad G (1))]) (rest := []) (C := RX0) hx hb hml hts hown hk hw (c_X0_tryPosts l G hG σc87 hI.1 v z6_49 z8_87 (by omega)) (m4_in wd530 wd531 wd532 wd27) wd533 (en0 (rfl : nk 65 = 0)) rfl rfl rfl nm_yX0_tryPosts ⟨rfl, rfl⟩ ⟨by decide, by decide⟩ rfl hl.1 rfl (Nat.le_of_ble_eq_true rfl) dX0_seek_111 ⟨Nat.zero_le _, Nat.zero_le _⟩) (fun σ27 H locs hr28 hw => ?_)
                        have hI := hI.go hr28.1
                        have hr28 := hr28.2
                        obtain ⟨x29, ex29⟩ : ∃ z : Int32, z = z8_87 + (1 : Int32) := ⟨_, rfl⟩
                        refine lv_iinc (v := x29) (lv' := [(8, .int x29), (0, .ref (ad G (65))), (1, .int v), (2, .ref (ad G (3))), (3, .ref (ad G (1))), (4, .int (999999 : Int32)), (5, .int (1 : Int32)), (6, .int z6_49), (7, .int x22)]) hx hb dX0_seek_114 hl (k := 8) rfl (by rw [ex29]; rfl) (by decide) rfl (fun ls hl => ?_)
                        have tx29 : x29.toInt = z8_87.toInt + 1 := by rw [ex29, Jvm.Kit.i32_add (by omega) (by omega)]; omega
                        refine lv_goto (tgt := 87) hx hb dX0_seek_117 (by decide) ?_
                        exact ih87 x29 σ27 _ _ _ (by omega) hI (by omega) hw (lv_sub hl [1, 2, 3, 4, 5, 6, 7, 8, 0] rfl)
                exact cut87 ((((x22.toInt - x23.toInt).toNat : Int)).toNat + 1) x23 σc49 _ _ _ (by omega) hI (by omega) hw (lv_sub hl [2, 3, 4, 5, 6, 7, 8, 1, 0] rfl)
              · have c67i := congrArg Int32.toInt c67
                exfalso; omega
      exact cut49 (((((1 : Int32).toInt - (0 : Int32).toInt).toNat : Int)).toNat + 1) (0 : Int32) σ2 _ _ _ (by omega) hI (by omega) hw (lv_sub hl [3, 4, 5, 6, 2, 1, 0] rfl)
  · have c23i := mt Int32.toInt_inj.mp c23
    refine lv_iconst (v := 0) hx hb dX0_seek_26 (by decide) ?_
    refine lv_goto (tgt := 32) hx hb dX0_seek_27 (by decide) ?_
    refine lv_istore (lv' := [(4, .int (0 : Int32)), (0, .ref (ad G (65))), (1, .int v), (2, .ref (ad G (3))), (3, .ref (ad G (1)))]) hx hb dX0_seek_32 hl (by decide) rfl (fun ls hl => ?_)
    refine lv_iload_n hx hb dX0_seek_34 rfl (lv_at hl 2 rfl) ?_
    refine lv_if_ne (tgt := 42) hx hb dX0_seek_35 (by decide) (fun c35 => ?_) (fun c35 => ?_)
    · have c35i := mt Int32.toInt_inj.mp c35
      refine lv_bipush (v := 64) hx hb dX0_seek_42 (by decide) ?_
      refine lv_istore (lv' := [(5, .int (64 : Int32)), (4, .int (0 : Int32)), (0, .ref (ad G (65))), (1, .int v), (2, .ref (ad G (3))), (3, .ref (ad G (1)))]) hx hb dX0_seek_44 hl (by decide) rfl (fun ls hl => ?_)
      refine lv_iconst (v := 0) hx hb dX0_seek_46 (by decide) ?_
      refine lv_istore (lv' := [(6, .int (0 : Int32)), (5, .int (64 : Int32)), (4, .int (0 : Int32)), (0, .ref (ad G (65))), (1, .int v), (2, .ref (ad G (3))), (3, .ref (ad G (1)))]) hx hb dX0_seek_47 hl (by decide) rfl (fun ls hl => ?_)
      have cut49 : ∀ (n : Nat) (z6_49 : Int32) (σc49 : Sg) (H : Heap) (locs : List Loc) (ls : Array Slot), (0 ≤ z6_49.toInt ∧ z6_49.toInt ≤ 2147483647) → K0 σ σc49 → (((64 : Int32).toInt - z6_49.toInt).toNat : Int) < (n : Int) → Wo G σc49 s H locs → lv_has ls 9 [(0, .ref (ad G (65))), (1, .int v), (2, .ref (ad G (3))), (3, .ref (ad G (1))), (4, .int (0 : Int32)), (5, .int (64 : Int32)), (6, .int z6_49)] → W p l e (rmO 5 126) s m a below meth c H locs 0 0 Q (F0 m 49 ls []) := by
        intro n49
        induction n49 with
        | zero =>
          intro z6_49 σc49 H locs ls f49_0 hI hm49 hw hl
          exfalso; omega
        | succ n49 ih49 =>
          intro z6_49 σc49 H locs ls f49_0 hI hm49 hw hl
          refine lv_iload hx hb dX0_seek_49 (lv_at hl 6 rfl) ?_
          refine lv_iload hx hb dX0_seek_51 (lv_at hl 5 rfl) ?_
          refine lv_icmp_ge (tgt := 126) hx hb dX0_seek_53 (by decide) (fun c53 => ?_) (fun c53 => ?_)
          · have oz6_49 := i32b z6_49
            have c53i := Int32.le_iff_toInt_le.mp c53
            exact ret σc49 _ _ 126 _ (⟨hI, trivial⟩) hw dX0_seek_126
          · have oz6_49 := i32b z6_49
            have c53i := mt Int32.le_iff_toInt_le.mpr c53
            refine lv_aload_n hx hb dX0_seek_56 rfl (lv_at hl 0 rfl) ?_
            refine tg_get (ci := 0) (k := 2) (v := .int (σc49 (65) 2)) hx hb hts hown hk hw (en0 (rfl : nk 65 = 0)) rfl inlX0 (by decide) wd524 rfl dX0_seek_57 ?_
            refine lv_topi (fun x30 ex30 => ?_)
            refine lv_iload hx hb dX0_seek_60 (lv_at hl 4 rfl) ?_
            refine lv_icmp_le (tgt := 126) hx hb dX0_seek_62 (by decide) (fun c62 => ?_) (fun c62 => ?_)
            · have ox30 := i32b x30
              have c62i := Int32.le_iff_toInt_le.mp c62
              exact ret σc49 _ _ 126 _ (⟨hI, trivial⟩) hw dX0_seek_126
            · have ox30 := i32b x30
              have c62i := mt Int32.le_iff_toInt_le.mpr c62
              refine lv_iload_n hx hb dX0_seek_65 rfl (lv_at hl 1 rfl) ?_
              refine lv_iconst (v := 2) hx hb dX0_seek_66 (by decide) ?_
              refine lv_icmp_ne (tgt := 75) hx hb dX0_seek_67 (by decide) (fun c67 => ?_) (fun c67 => ?_)
              · have c67i := mt Int32.toInt_inj.mp c67
                refine lv_iload hx hb dX0_seek_75 (lv_at hl 6 rfl) ?_
                refine lv_iconst (v := 2) hx hb dX0_seek_77 (by decide) ?_
                refine lv_iadd hx hb dX0_seek_78 ?_
                refine lv_topi (fun x31 ex31 => ?_)
                have tx31 : x31.toInt = z6_49.toInt + (2 : Int32).toInt := by rw [ex31]; exact Jvm.Kit.i32_add (by omega) (by omega)
                refine lv_istore (lv' := [(7, .int x31), (0, .ref (ad G (65))), (1, .int v), (2, .ref (ad G (3))), (3, .ref (ad G (1))), (4, .int (0 : Int32)), (5, .int (64 : Int32)), (6, .int z6_49)]) hx hb dX0_seek_79 hl (by decide) rfl (fun ls hl => ?_)
                refine lv_iload hx hb dX0_seek_81 (lv_at hl 7 rfl) ?_
                refine lv_iconst (v := 1) hx hb dX0_seek_83 (by decide) ?_
                refine lv_iadd hx hb dX0_seek_84 ?_
                refine lv_topi (fun x32 ex32 => ?_)
                have tx32 : x32.toInt = z6_49.toInt + (1 : Int32).toInt := by rw [ex32]; exact Jvm.Kit.i32_add (by omega) (by omega)
                refine lv_istore (lv' := [(8, .int x32), (7, .int x31), (0, .ref (ad G (65))), (1, .int v), (2, .ref (ad G (3))), (3, .ref (ad G (1))), (4, .int (0 : Int32)), (5, .int (64 : Int32)), (6, .int z6_49)]) hx hb dX0_seek_85 hl (by decide) rfl (fun ls hl => ?_)
                have cut87 : ∀ (n : Nat) (z8_87 : Int32) (σc87 : Sg) (H : Heap) (locs : List Loc) (ls : Array Slot), (0 ≤ z8_87.toInt ∧ z8_87.toInt ≤ 2147483647) → K0 σ σc87 → ((x31.toInt - z8_87.toInt).toNat : Int) < (n : Int) → Wo G σc87 s H locs → lv_has ls 9 [(0, .ref (ad G (65))), (1, .int v), (2, .ref (ad G (3))), (3, .ref (ad G (1))), (4, .int (0 : Int32)), (5, .int (64 : Int32)), (6, .int z6_49), (7, .int x31), (8, .int z8_87)] → W p l e (rmO 5 126) s m a below meth c H locs 0 0 Q (F0 m 87 ls []) := by
                  intro n87
                  induction n87 with
                  | zero =>
                    intro z8_87 σc87 H locs ls f87_0 hI hm87 hw hl
                    exfalso; omega
                  | succ n87 ih87 =>
                    intro z8_87 σc87 H locs ls f87_0 hI hm87 hw hl
                    refine lv_iload hx hb dX0_seek_87 (lv_at hl 8 rfl) ?_
                    refine lv_iload hx hb dX0_seek_89 (lv_at hl 7 rfl) ?_
                    refine lv_icmp_ge (tgt := 120) hx hb dX0_seek_91 (by decide) (fun c91 => ?_) (fun c91 => ?_)
                    · have oz8_87 := i32b z8_87
                      have c91i := Int32.le_iff_toInt_le.mp c91
                      obtain ⟨x33, ex33⟩ : ∃ z : Int32, z = z6_49 + (1 : Int32) := ⟨_, rfl⟩
                      refine lv_iinc (v := x33) (lv' := [(6, .int x33), (0, .ref (ad G (65))), (1, .int v), (2, .ref (ad G (3))), (3, .ref (ad G (1))), (4, .int (0 : Int32)), (5, .int (64 : Int32)), (7, .int x31), (8, .int z8_87)]) hx hb dX0_seek_120 hl (k := 6) rfl (by rw [ex33]; rfl) (by decide) rfl (fun ls hl => ?_)
                      have tx33 : x33.toInt = z6_49.toInt + 1 := by rw [ex33, Jvm.Kit.i32_add (by omega) (by omega)]; omega
                      refine lv_goto (tgt := 49) hx hb dX0_seek_123 (by decide) ?_
                      exact ih49 x33 σc87 _ _ _ (by omega) hI (by omega) hw (lv_sub hl [1, 2, 3, 4, 5, 6, 0] rfl)
                    · have oz8_87 := i32b z8_87
                      have c91i := mt Int32.le_iff_toInt_le.mpr c91
                      refine lv_aload_n hx hb dX0_seek_94 rfl (lv_at hl 0 rfl) ?_
                      refine tg_get (ci := 0) (k := 2) (v := .int (σc87 (65) 2)) hx hb hts hown hk hw (en0 (rfl : nk 65 = 0)) rfl inlX0 (by decide) wd524 rfl dX0_seek_95 ?_
                      refine lv_topi (fun x34 ex34 => ?_)
                      refine lv_iload hx hb dX0_seek_98 (lv_at hl 4 rfl) ?_
                      refine lv_icmp_le (tgt := 120) hx hb dX0_seek_100 (by decide) (fun c100 => ?_) (fun c100 => ?_)
                      · have ox34 := i32b x34
                        have c100i := Int32.le_iff_toInt_le.mp c100
                        obtain ⟨x35, ex35⟩ : ∃ z : Int32, z = z6_49 + (1 : Int32) := ⟨_, rfl⟩
                        refine lv_iinc (v := x35) (lv' := [(6, .int x35), (0, .ref (ad G (65))), (1, .int v), (2, .ref (ad G (3))), (3, .ref (ad G (1))), (4, .int (0 : Int32)), (5, .int (64 : Int32)), (7, .int x31), (8, .int z8_87)]) hx hb dX0_seek_120 hl (k := 6) rfl (by rw [ex35]; rfl) (by decide) rfl (fun ls hl => ?_)
                        have tx35 : x35.toInt = z6_49.toInt + 1 := by rw [ex35, Jvm.Kit.i32_add (by omega) (by omega)]; omega
                        refine lv_goto (tgt := 49) hx hb dX0_seek_123 (by decide) ?_
                        exact ih49 x35 σc87 _ _ _ (by omega) hI (by omega) hw (lv_sub hl [1, 2, 3, 4, 5, 6, 0] rfl)
                      · have ox34 := i32b x34
                        have c100i := mt Int32.le_iff_toInt_le.mpr c100
                        refine lv_aload_n hx hb dX0_seek_103 rfl (lv_at hl 0 rfl) ?_
                        refine lv_iload_n hx hb dX0_seek_104 rfl (lv_at hl 1 rfl) ?_
                        refine lv_iload hx hb dX0_seek_105 (lv_at hl 6 rfl) ?_
                        refine lv_iload hx hb dX0_seek_107 (lv_at hl 8 rfl) ?_
                        refine lv_aload_n hx hb dX0_seek_109 rfl (lv_at hl 2 rfl) ?_
                        refine lv_aload_n hx hb dX0_seek_110 rfl (lv_at hl 3 rfl) ?_
                        refine te_vv hw (ru_V (As := [.int v, .int z6_49, .int z8_87, .ref (ad G (3)), .ref (ad G (1))]) (rest := []) (C := RX0) hx hb hml hts hown hk hw (c_X0_tryPosts l G hG σc87 hI.1 v z6_49 z8_87 (by omega)) (m4_in wd530 wd531 wd532 wd27) wd533 (en0 (rfl : nk 65 = 0)) rfl rfl rfl nm_yX0_tryPosts ⟨rfl, rfl⟩ ⟨by decide, by decide⟩ rfl hl.1 rfl (Nat.le_of_ble_eq_true rfl) dX0_seek_111 ⟨Nat.zero_le _, Nat.zero_le _⟩) (fun σ36 H locs hr37 hw => ?_)
                        have hI := hI.go hr37.1
                        have hr37 := hr37.2
                        obtain ⟨x38, ex38⟩ : ∃ z : Int32, z = z8_87 + (1 : Int32) := ⟨_, rfl⟩
                        refine lv_iinc (v := x38) (lv' := [(8, .int x38), (0, .ref (ad G (65))), (1, .int v), (2, .ref (ad G (3))), (3, .ref (ad G (1))), (4, .int (0 : Int32)), (5, .int (64 : Int32)), (6, .int z6_49), (7, .int x31)]) hx hb dX0_seek_114 hl (k := 8) rfl (by rw [ex38]; rfl) (by decide) rfl (fun ls hl => ?_)
                        have tx38 : x38.toInt = z8_87.toInt + 1 := by rw [ex38, Jvm.Kit.i32_add (by omega) (by omega)]; omega
                        refine lv_goto (tgt := 87) hx hb dX0_seek_117 (by decide) ?_
                        exact ih87 x38 σ36 _ _ _ (by omega) hI (by omega) hw (lv_sub hl [1, 2, 3, 4, 5, 6, 7, 8, 0] rfl)
                exact cut87 ((((x31.toInt - x32.toInt).toNat : Int)).toNat + 1) x32 σc49 _ _ _ (by omega) hI (by omega) hw (lv_sub hl [2, 3, 4, 5, 6, 7, 8, 1, 0] rfl)
              · have c67i := congrArg Int32.toInt c67
                refine lv_bipush (v := 64) hx hb dX0_seek_70 (by decide) ?_
                refine lv_goto (tgt := 79) hx hb dX0_seek_72 (by decide) ?_
                refine lv_istore (lv' := [(7, .int (64 : Int32)), (0, .ref (ad G (65))), (1, .int v), (2, .ref (ad G (3))), (3, .ref (ad G (1))), (4, .int (0 : Int32)), (5, .int (64 : Int32)), (6, .int z6_49)]) hx hb dX0_seek_79 hl (by decide) rfl (fun ls hl => ?_)
                refine lv_iload hx hb dX0_seek_81 (lv_at hl 7 rfl) ?_
                refine lv_iconst (v := 1) hx hb dX0_seek_83 (by decide) ?_
                refine lv_iadd hx hb dX0_seek_84 ?_
                refine lv_topi (fun x39 ex39 => ?_)
                have tx39 : x39.toInt = z6_49.toInt + (1 : Int32).toInt := by rw [ex39]; exact Jvm.Kit.i32_add (by omega) (by omega)
                refine lv_istore (lv' := [(8, .int x39), (7, .int (64 : Int32)), (0, .ref (ad G (65))), (1, .int v), (2, .ref (ad G (3))), (3, .ref (ad G (1))), (4, .int (0 : Int32)), (5, .int (64 : Int32)), (6, .int z6_49)]) hx hb dX0_seek_85 hl (by decide) rfl (fun ls hl => ?_)
                have cut87 : ∀ (n : Nat) (z8_87 : Int32) (σc87 : Sg) (H : Heap) (locs : List Loc) (ls : Array Slot), (0 ≤ z8_87.toInt ∧ z8_87.toInt ≤ 2147483647) → K0 σ σc87 → (((64 : Int32).toInt - z8_87.toInt).toNat : Int) < (n : Int) → Wo G σc87 s H locs → lv_has ls 9 [(0, .ref (ad G (65))), (1, .int v), (2, .ref (ad G (3))), (3, .ref (ad G (1))), (4, .int (0 : Int32)), (5, .int (64 : Int32)), (6, .int z6_49), (7, .int (64 : Int32)), (8, .int z8_87)] → W p l e (rmO 5 126) s m a below meth c H locs 0 0 Q (F0 m 87 ls []) := by
                  intro n87
                  induction n87 with
                  | zero =>
                    intro z8_87 σc87 H locs ls f87_0 hI hm87 hw hl
                    exfalso; omega
                  | succ n87 ih87 =>
                    intro z8_87 σc87 H locs ls f87_0 hI hm87 hw hl
                    refine lv_iload hx hb dX0_seek_87 (lv_at hl 8 rfl) ?_
                    refine lv_iload hx hb dX0_seek_89 (lv_at hl 7 rfl) ?_
                    refine lv_icmp_ge (tgt := 120) hx hb dX0_seek_91 (by decide) (fun c91 => ?_) (fun c91 => ?_)
                    · have oz8_87 := i32b z8_87
                      have c91i := Int32.le_iff_toInt_le.mp c91
                      obtain ⟨x40, ex40⟩ : ∃ z : Int32, z = z6_49 + (1 : Int32) := ⟨_, rfl⟩
                      refine lv_iinc (v := x40) (lv' := [(6, .int x40), (0, .ref (ad G (65))), (1, .int v), (2, .ref (ad G (3))), (3, .ref (ad G (1))), (4, .int (0 : Int32)), (5, .int (64 : Int32)), (7, .int (64 : Int32)), (8, .int z8_87)]) hx hb dX0_seek_120 hl (k := 6) rfl (by rw [ex40]; rfl) (by decide) rfl (fun ls hl => ?_)
                      have tx40 : x40.toInt = z6_49.toInt + 1 := by rw [ex40, Jvm.Kit.i32_add (by omega) (by omega)]; omega
                      refine lv_goto (tgt := 49) hx hb dX0_seek_123 (by decide) ?_
                      exact ih49 x40 σc87 _ _ _ (by omega) hI (by omega) hw (lv_sub hl [1, 2, 3, 4, 5, 6, 0] rfl)
                    · have oz8_87 := i32b z8_87
                      have c91i := mt Int32.le_iff_toInt_le.mpr c91
                      refine lv_aload_n hx hb dX0_seek_94 rfl (lv_at hl 0 rfl) ?_
                      refine tg_get (ci := 0) (k := 2) (v := .int (σc87 (65) 2)) hx hb hts hown hk hw (en0 (rfl : nk 65 = 0)) rfl inlX0 (by decide) wd524 rfl dX0_seek_95 ?_
                      refine lv_topi (fun x41 ex41 => ?_)
                      refine lv_iload hx hb dX0_seek_98 (lv_at hl 4 rfl) ?_
                      refine lv_icmp_le (tgt := 120) hx hb dX0_seek_100 (by decide) (fun c100 => ?_) (fun c100 => ?_)
                      · have ox41 := i32b x41
                        have c100i := Int32.le_iff_toInt_le.mp c100
                        obtain ⟨x42, ex42⟩ : ∃ z : Int32, z = z6_49 + (1 : Int32) := ⟨_, rfl⟩
                        refine lv_iinc (v := x42) (lv' := [(6, .int x42), (0, .ref (ad G (65))), (1, .int v), (2, .ref (ad G (3))), (3, .ref (ad G (1))), (4, .int (0 : Int32)), (5, .int (64 : Int32)), (7, .int (64 : Int32)), (8, .int z8_87)]) hx hb dX0_seek_120 hl (k := 6) rfl (by rw [ex42]; rfl) (by decide) rfl (fun ls hl => ?_)
                        have tx42 : x42.toInt = z6_49.toInt + 1 := by rw [ex42, Jvm.Kit.i32_add (by omega) (by omega)]; omega
                        refine lv_goto (tgt := 49) hx hb dX0_seek_123 (by decide) ?_
                        exact ih49 x42 σc87 _ _ _ (by omega) hI (by omega) hw (lv_sub hl [1, 2, 3, 4, 5, 6, 0] rfl)
                      · have ox41 := i32b x41
                        have c100i := mt Int32.le_iff_toInt_le.mpr c100
                        refine lv_aload_n hx hb dX0_seek_103 rfl (lv_at hl 0 rfl) ?_
                        refine lv_iload_n hx hb dX0_seek_104 rfl (lv_at hl 1 rfl) ?_
                        refine lv_iload hx hb dX0_seek_105 (lv_at hl 6 rfl) ?_
                        refine lv_iload hx hb dX0_seek_107 (lv_at hl 8 rfl) ?_
                        refine lv_aload_n hx hb dX0_seek_109 rfl (lv_at hl 2 rfl) ?_
                        refine lv_aload_n hx hb dX0_seek_110 rfl (lv_at hl 3 rfl) ?_
                        refine te_vv hw (ru_V (As := [.int v, .int z6_49, .int z8_87, .ref (ad G (3)), .ref (ad G (1))]) (rest := []) (C := RX0) hx hb hml hts hown hk hw (c_X0_tryPosts l G hG σc87 hI.1 v z6_49 z8_87 (by omega)) (m4_in wd530 wd531 wd532 wd27) wd533 (en0 (rfl : nk 65 = 0)) rfl rfl rfl nm_yX0_tryPosts ⟨rfl, rfl⟩ ⟨by decide, by decide⟩ rfl hl.1 rfl (Nat.le_of_ble_eq_true rfl) dX0_seek_111 ⟨Nat.zero_le _, Nat.zero_le _⟩) (fun σ43 H locs hr44 hw => ?_)
                        have hI := hI.go hr44.1
                        have hr44 := hr44.2
                        obtain ⟨x45, ex45⟩ : ∃ z : Int32, z = z8_87 + (1 : Int32) := ⟨_, rfl⟩
                        refine lv_iinc (v := x45) (lv' := [(8, .int x45), (0, .ref (ad G (65))), (1, .int v), (2, .ref (ad G (3))), (3, .ref (ad G (1))), (4, .int (0 : Int32)), (5, .int (64 : Int32)), (6, .int z6_49), (7, .int (64 : Int32))]) hx hb dX0_seek_114 hl (k := 8) rfl (by rw [ex45]; rfl) (by decide) rfl (fun ls hl => ?_)
                        have tx45 : x45.toInt = z8_87.toInt + 1 := by rw [ex45, Jvm.Kit.i32_add (by omega) (by omega)]; omega
                        refine lv_goto (tgt := 87) hx hb dX0_seek_117 (by decide) ?_
                        exact ih87 x45 σ43 _ _ _ (by omega) hI (by omega) hw (lv_sub hl [1, 2, 3, 4, 5, 6, 7, 8, 0] rfl)
                exact cut87 (((((64 : Int32).toInt - x39.toInt).toNat : Int)).toNat + 1) x39 σc49 _ _ _ (by omega) hI (by omega) hw (lv_sub hl [2, 3, 4, 5, 6, 7, 8, 1, 0] rfl)
      exact cut49 (((((64 : Int32).toInt - (0 : Int32).toInt).toNat : Int)).toNat + 1) (0 : Int32) σ2 _ _ _ (by omega) hI (by omega) hw (lv_sub hl [3, 4, 5, 6, 2, 1, 0] rfl)
    · have c35i := congrArg Int32.toInt c35
      refine lv_iconst (v := 1) hx hb dX0_seek_38 (by decide) ?_
      refine lv_goto (tgt := 44) hx hb dX0_seek_39 (by decide) ?_
      refine lv_istore (lv' := [(5, .int (1 : Int32)), (4, .int (0 : Int32)), (0, .ref (ad G (65))), (1, .int v), (2, .ref (ad G (3))), (3, .ref (ad G (1)))]) hx hb dX0_seek_44 hl (by decide) rfl (fun ls hl => ?_)
      refine lv_iconst (v := 0) hx hb dX0_seek_46 (by decide) ?_
      refine lv_istore (lv' := [(6, .int (0 : Int32)), (5, .int (1 : Int32)), (4, .int (0 : Int32)), (0, .ref (ad G (65))), (1, .int v), (2, .ref (ad G (3))), (3, .ref (ad G (1)))]) hx hb dX0_seek_47 hl (by decide) rfl (fun ls hl => ?_)
      have cut49 : ∀ (n : Nat) (z6_49 : Int32) (σc49 : Sg) (H : Heap) (locs : List Loc) (ls : Array Slot), (0 ≤ z6_49.toInt ∧ z6_49.toInt ≤ 2147483647) → K0 σ σc49 → (((1 : Int32).toInt - z6_49.toInt).toNat : Int) < (n : Int) → Wo G σc49 s H locs → lv_has ls 9 [(0, .ref (ad G (65))), (1, .int v), (2, .ref (ad G (3))), (3, .ref (ad G (1))), (4, .int (0 : Int32)), (5, .int (1 : Int32)), (6, .int z6_49)] → W p l e (rmO 5 126) s m a below meth c H locs 0 0 Q (F0 m 49 ls []) := by
        intro n49
        induction n49 with
        | zero =>
          intro z6_49 σc49 H locs ls f49_0 hI hm49 hw hl
          exfalso; omega
        | succ n49 ih49 =>
          intro z6_49 σc49 H locs ls f49_0 hI hm49 hw hl
          refine lv_iload hx hb dX0_seek_49 (lv_at hl 6 rfl) ?_
          refine lv_iload hx hb dX0_seek_51 (lv_at hl 5 rfl) ?_
          refine lv_icmp_ge (tgt := 126) hx hb dX0_seek_53 (by decide) (fun c53 => ?_) (fun c53 => ?_)
          · have oz6_49 := i32b z6_49
            have c53i := Int32.le_iff_toInt_le.mp c53
            exact ret σc49 _ _ 126 _ (⟨hI, trivial⟩) hw dX0_seek_126
          · have oz6_49 := i32b z6_49
            have c53i := mt Int32.le_iff_toInt_le.mpr c53
            refine lv_aload_n hx hb dX0_seek_56 rfl (lv_at hl 0 rfl) ?_
            refine tg_get (ci := 0) (k := 2) (v := .int (σc49 (65) 2)) hx hb hts hown hk hw (en0 (rfl : nk 65 = 0)) rfl inlX0 (by decide) wd524 rfl dX0_seek_57 ?_
            refine lv_topi (fun x46 ex46 => ?_)
            refine lv_iload hx hb dX0_seek_60 (lv_at hl 4 rfl) ?_
            refine lv_icmp_le (tgt := 126) hx hb dX0_seek_62 (by decide) (fun c62 => ?_) (fun c62 => ?_)
            · have ox46 := i32b x46
              have c62i := Int32.le_iff_toInt_le.mp c62
              exact ret σc49 _ _ 126 _ (⟨hI, trivial⟩) hw dX0_seek_126
            · have ox46 := i32b x46
              have c62i := mt Int32.le_iff_toInt_le.mpr c62
              refine lv_iload_n hx hb dX0_seek_65 rfl (lv_at hl 1 rfl) ?_
              refine lv_iconst (v := 2) hx hb dX0_seek_66 (by decide) ?_
              refine lv_icmp_ne (tgt := 75) hx hb dX0_seek_67 (by decide) (fun c67 => ?_) (fun c67 => ?_)
              · have c67i := mt Int32.toInt_inj.mp c67
                refine lv_iload hx hb dX0_seek_75 (lv_at hl 6 rfl) ?_
                refine lv_iconst (v := 2) hx hb dX0_seek_77 (by decide) ?_
                refine lv_iadd hx hb dX0_seek_78 ?_
                refine lv_topi (fun x47 ex47 => ?_)
                have tx47 : x47.toInt = z6_49.toInt + (2 : Int32).toInt := by rw [ex47]; exact Jvm.Kit.i32_add (by omega) (by omega)
                refine lv_istore (lv' := [(7, .int x47), (0, .ref (ad G (65))), (1, .int v), (2, .ref (ad G (3))), (3, .ref (ad G (1))), (4, .int (0 : Int32)), (5, .int (1 : Int32)), (6, .int z6_49)]) hx hb dX0_seek_79 hl (by decide) rfl (fun ls hl => ?_)
                refine lv_iload hx hb dX0_seek_81 (lv_at hl 7 rfl) ?_
                refine lv_iconst (v := 1) hx hb dX0_seek_83 (by decide) ?_
                refine lv_iadd hx hb dX0_seek_84 ?_
                refine lv_topi (fun x48 ex48 => ?_)
                have tx48 : x48.toInt = z6_49.toInt + (1 : Int32).toInt := by rw [ex48]; exact Jvm.Kit.i32_add (by omega) (by omega)
                refine lv_istore (lv' := [(8, .int x48), (7, .int x47), (0, .ref (ad G (65))), (1, .int v), (2, .ref (ad G (3))), (3, .ref (ad G (1))), (4, .int (0 : Int32)), (5, .int (1 : Int32)), (6, .int z6_49)]) hx hb dX0_seek_85 hl (by decide) rfl (fun ls hl => ?_)
                have cut87 : ∀ (n : Nat) (z8_87 : Int32) (σc87 : Sg) (H : Heap) (locs : List Loc) (ls : Array Slot), (0 ≤ z8_87.toInt ∧ z8_87.toInt ≤ 2147483647) → K0 σ σc87 → ((x47.toInt - z8_87.toInt).toNat : Int) < (n : Int) → Wo G σc87 s H locs → lv_has ls 9 [(0, .ref (ad G (65))), (1, .int v), (2, .ref (ad G (3))), (3, .ref (ad G (1))), (4, .int (0 : Int32)), (5, .int (1 : Int32)), (6, .int z6_49), (7, .int x47), (8, .int z8_87)] → W p l e (rmO 5 126) s m a below meth c H locs 0 0 Q (F0 m 87 ls []) := by
                  intro n87
                  induction n87 with
                  | zero =>
                    intro z8_87 σc87 H locs ls f87_0 hI hm87 hw hl
                    exfalso; omega
                  | succ n87 ih87 =>
                    intro z8_87 σc87 H locs ls f87_0 hI hm87 hw hl
                    refine lv_iload hx hb dX0_seek_87 (lv_at hl 8 rfl) ?_
                    refine lv_iload hx hb dX0_seek_89 (lv_at hl 7 rfl) ?_
                    refine lv_icmp_ge (tgt := 120) hx hb dX0_seek_91 (by decide) (fun c91 => ?_) (fun c91 => ?_)
                    · have oz8_87 := i32b z8_87
                      have c91i := Int32.le_iff_toInt_le.mp c91
                      obtain ⟨x49, ex49⟩ : ∃ z : Int32, z = z6_49 + (1 : Int32) := ⟨_, rfl⟩
                      refine lv_iinc (v := x49) (lv' := [(6, .int x49), (0, .ref (ad G (65))), (1, .int v), (2, .ref (ad G (3))), (3, .ref (ad G (1))), (4, .int (0 : Int32)), (5, .int (1 : Int32)), (7, .int x47), (8, .int z8_87)]) hx hb dX0_seek_120 hl (k := 6) rfl (by rw [ex49]; rfl) (by decide) rfl (fun ls hl => ?_)
                      have tx49 : x49.toInt = z6_49.toInt + 1 := by rw [ex49, Jvm.Kit.i32_add (by omega) (by omega)]; omega
                      refine lv_goto (tgt := 49) hx hb dX0_seek_123 (by decide) ?_
                      exact ih49 x49 σc87 _ _ _ (by omega) hI (by omega) hw (lv_sub hl [1, 2, 3, 4, 5, 6, 0] rfl)
                    · have oz8_87 := i32b z8_87
                      have c91i := mt Int32.le_iff_toInt_le.mpr c91
                      refine lv_aload_n hx hb dX0_seek_94 rfl (lv_at hl 0 rfl) ?_
                      refine tg_get (ci := 0) (k := 2) (v := .int (σc87 (65) 2)) hx hb hts hown hk hw (en0 (rfl : nk 65 = 0)) rfl inlX0 (by decide) wd524 rfl dX0_seek_95 ?_
                      refine lv_topi (fun x50 ex50 => ?_)
                      refine lv_iload hx hb dX0_seek_98 (lv_at hl 4 rfl) ?_
                      refine lv_icmp_le (tgt := 120) hx hb dX0_seek_100 (by decide) (fun c100 => ?_) (fun c100 => ?_)
                      · have ox50 := i32b x50
                        have c100i := Int32.le_iff_toInt_le.mp c100
                        obtain ⟨x51, ex51⟩ : ∃ z : Int32, z = z6_49 + (1 : Int32) := ⟨_, rfl⟩
                        refine lv_iinc (v := x51) (lv' := [(6, .int x51), (0, .ref (ad G (65))), (1, .int v), (2, .ref (ad G (3))), (3, .ref (ad G (1))), (4, .int (0 : Int32)), (5, .int (1 : Int32)), (7, .int x47), (8, .int z8_87)]) hx hb dX0_seek_120 hl (k := 6) rfl (by rw [ex51]; rfl) (by decide) rfl (fun ls hl => ?_)
                        have tx51 : x51.toInt = z6_49.toInt + 1 := by rw [ex51, Jvm.Kit.i32_add (by omega) (by omega)]; omega
                        refine lv_goto (tgt := 49) hx hb dX0_seek_123 (by decide) ?_
                        exact ih49 x51 σc87 _ _ _ (by omega) hI (by omega) hw (lv_sub hl [1, 2, 3, 4, 5, 6, 0] rfl)
                      · have ox50 := i32b x50
                        have c100i := mt Int32.le_iff_toInt_le.mpr c100
                        refine lv_aload_n hx hb dX0_seek_103 rfl (lv_at hl 0 rfl) ?_
                        refine lv_iload_n hx hb dX0_seek_104 rfl (lv_at hl 1 rfl) ?_
                        refine lv_iload hx hb dX0_seek_105 (lv_at hl 6 rfl) ?_
                        refine lv_iload hx hb dX0_seek_107 (lv_at hl 8 rfl) ?_
                        refine lv_aload_n hx hb dX0_seek_109 rfl (lv_at hl 2 rfl) ?_
                        refine lv_aload_n hx hb dX0_seek_110 rfl (lv_at hl 3 rfl) ?_
                        refine te_vv hw (ru_V (As := [.int v, .int z6_49, .int z8_87, .ref (ad G (3)), .ref (ad G (1))]) (rest := []) (C := RX0) hx hb hml hts hown hk hw (c_X0_tryPosts l G hG σc87 hI.1 v z6_49 z8_87 (by omega)) (m4_in wd530 wd531 wd532 wd27) wd533 (en0 (rfl : nk 65 = 0)) rfl rfl rfl nm_yX0_tryPosts ⟨rfl, rfl⟩ ⟨by decide, by decide⟩ rfl hl.1 rfl (Nat.le_of_ble_eq_true rfl) dX0_seek_111 ⟨Nat.zero_le _, Nat.zero_le _⟩) (fun σ52 H locs hr53 hw => ?_)
                        have hI := hI.go hr53.1
                        have hr53 := hr53.2
                        obtain ⟨x54, ex54⟩ : ∃ z : Int32, z = z8_87 + (1 : Int32) := ⟨_, rfl⟩
                        refine lv_iinc (v := x54) (lv' := [(8, .int x54), (0, .ref (ad G (65))), (1, .int v), (2, .ref (ad G (3))), (3, .ref (ad G (1))), (4, .int (0 : Int32)), (5, .int (1 : Int32)), (6, .int z6_49), (7, .int x47)]) hx hb dX0_seek_114 hl (k := 8) rfl (by rw [ex54]; rfl) (by decide) rfl (fun ls hl => ?_)
                        have tx54 : x54.toInt = z8_87.toInt + 1 := by rw [ex54, Jvm.Kit.i32_add (by omega) (by omega)]; omega
                        refine lv_goto (tgt := 87) hx hb dX0_seek_117 (by decide) ?_
                        exact ih87 x54 σ52 _ _ _ (by omega) hI (by omega) hw (lv_sub hl [1, 2, 3, 4, 5, 6, 7, 8, 0] rfl)
                exact cut87 ((((x47.toInt - x48.toInt).toNat : Int)).toNat + 1) x48 σc49 _ _ _ (by omega) hI (by omega) hw (lv_sub hl [2, 3, 4, 5, 6, 7, 8, 1, 0] rfl)
              · have c67i := congrArg Int32.toInt c67
                exfalso; omega
      exact cut49 (((((1 : Int32).toInt - (0 : Int32).toInt).toNat : Int)).toNat + 1) (0 : Int32) σ2 _ _ _ (by omega) hI (by omega) hw (lv_sub hl [3, 4, 5, 6, 2, 1, 0] rfl)
set_option maxHeartbeats 4000000 in
set_option maxRecDepth 100000 in
theorem c_X8_go (l : Launch) (G : Gg) (hG : Ginj G) (σ : Sg) (hI0 : Inv σ) (v : Int32) (w : Int32) (g1 : 0 ≤ v.toInt ∧ v.toInt ≤ 63) : MV l G yX8_go cX8_go 6 (rmO 4 87) σ [.ref (ad G (74)), .ref (ad G (3)), .int v, .int w] (fun σ' => K0 σ σ' ∧ (True)) := by
  refine MV.of (by decide +kernel) (Nat.le_of_ble_eq_true rfl) ?_
  intro p e s m a below meth c ls Q hx hb hml hts hown hk hw ret hl
  have hown : s.vm.findClass RX8 = some m.cls := hown
  have hl : lv_has ls 6 [(0, .ref (ad G (74))), (1, .ref (ad G (3))), (2, .int v), (3, .int w)] := hl
  have hI : K0 σ σ := K0.rf hI0
  have Lm6 : (-6 : Int32).toInt = -6 := by decide
  have Lm1 : (-1 : Int32).toInt = -1 := by decide
  have L0 : (0 : Int32).toInt = 0 := by decide
  have L1 : (1 : Int32).toInt = 1 := by decide
  have L8 : (8 : Int32).toInt = 8 := by decide
  generalize hHe : s.heap = H at hw ⊢
  generalize hLe : ([] : List Loc) = locs at hw ⊢
  refine lv_aload_n hx hb dX8_go_0 rfl (lv_at hl 0 rfl) ?_
  refine lv_bipush (v := -6) hx hb dX8_go_1 (by decide) ?_
  refine tg_put (ci := 7) (k := 0) (σ' := up2 σ (74) 0 (-6 : Int32)) hx hb hts hown hk hG hw tyX8 (en7 (rfl : nk 74 = 7)) rfl inlX8 tyX8_ok nmX8 (by decide) wd575 rfl rfl rfl (Nat.le_of_ble_eq_true rfl) (pu7_0 (rfl : nk 74 = 7)) (fun _ h => up2_ne h) dX8_go_3 (fun H locs hw => ?_)
  obtain ⟨σ1, eσ1⟩ : ∃ z, z = up2 σ (74) 0 (-6 : Int32) := ⟨_, rfl⟩
  rw [← eσ1] at hw
  have hI : K0 σ σ1 := by rw [eσ1]; exact hI.up (rfl) (rg_no (by rw [(rfl : nk 74 = 7)]; rfl))
  refine lv_aload_n hx hb dX8_go_6 rfl (lv_at hl 0 rfl) ?_
  refine lv_bipush (v := -6) hx hb dX8_go_7 (by decide) ?_
  refine tg_put (ci := 7) (k := 1) (σ' := up2 σ1 (74) 1 (-6 : Int32)) hx hb hts hown hk hG hw tyX8 (en7 (rfl : nk 74 = 7)) rfl inlX8 tyX8_ok nmX8 (by decide) wd576 rfl rfl rfl (Nat.le_of_ble_eq_true rfl) (pu7_1 (rfl : nk 74 = 7)) (fun _ h => up2_ne h) dX8_go_9 (fun H locs hw => ?_)
  obtain ⟨σ2, eσ2⟩ : ∃ z, z = up2 σ1 (74) 1 (-6 : Int32) := ⟨_, rfl⟩
  rw [← eσ2] at hw
  have hI : K0 σ σ2 := by rw [eσ2]; exact hI.up (rfl) (rg_no (by rw [(rfl : nk 74 = 7)]; rfl))
  refine lv_aload_n hx hb dX8_go_12 rfl (lv_at hl 0 rfl) ?_
  refine lv_iconst (v := 0) hx hb dX8_go_13 (by decide) ?_
  refine tg_put (ci := 7) (k := 2) (σ' := up2 σ2 (74) 2 (0 : Int32)) hx hb hts hown hk hG hw tyX8 (en7 (rfl : nk 74 = 7)) rfl inlX8 tyX8_ok nmX8 (by decide) wd577 rfl rfl rfl (Nat.le_of_ble_eq_true rfl) (pu7_2 (rfl : nk 74 = 7)) (fun _ h => up2_ne h) dX8_go_14 (fun H locs hw => ?_)
  obtain ⟨σ3, eσ3⟩ : ∃ z, z = up2 σ2 (74) 2 (0 : Int32) := ⟨_, rfl⟩
  rw [← eσ3] at hw
  have hI : K0 σ σ3 := by rw [eσ3]; exact hI.up (rfl) (rg_no (by rw [(rfl : nk 74 = 7)]; rfl))
  refine lv_iload_n hx hb dX8_go_17 rfl (lv_at hl 2 rfl) ?_
  refine lv_istore (lv' := [(4, .int v), (0, .ref (ad G (74))), (1, .ref (ad G (3))), (2, .int v), (3, .int w)]) hx hb dX8_go_18 hl (by decide) rfl (fun ls hl => ?_)
  refine lv_iconst (v := 0) hx hb dX8_go_20 (by decide) ?_
  refine lv_istore (lv' := [(5, .int (0 : Int32)), (4, .int v), (0, .ref (ad G (74))), (1, .ref (ad G (3))), (2, .int v), (3, .int w)]) hx hb dX8_go_21 hl (by decide) rfl (fun ls hl => ?_)
  have cut23 : ∀ (n : Nat) (z4_23 : Int32) (z5_23 : Int32) (σc23 : Sg) (H : Heap) (locs : List Loc) (ls : Array Slot), (0 ≤ z5_23.toInt ∧ z5_23.toInt ≤ 8) → (z4_23.toInt = -6 ∨ (0 ≤ z4_23.toInt ∧ z4_23.toInt ≤ 63)) → K0 σ σc23 → ((8 - z5_23.toInt).toNat : Int) < (n : Int) → Wo G σc23 s H locs → lv_has ls 6 [(0, .ref (ad G (74))), (1, .ref (ad G (3))), (2, .int v), (3, .int w), (4, .int z4_23), (5, .int z5_23)] → W p l e (rmO 4 87) s m a below meth c H locs 0 0 Q (F0 m 23 ls []) := by
    intro n23
    induction n23 with
    | zero =>
      intro z4_23 z5_23 σc23 H locs ls f23_0 f23_1 hI hm23 hw hl
      exfalso; omega
    | succ n23 ih23 =>
      intro z4_23 z5_23 σc23 H locs ls f23_0 f23_1 hI hm23 hw hl
      refine lv_iload hx hb dX8_go_23 (lv_at hl 5 rfl) ?_
      refine lv_bipush (v := 8) hx hb dX8_go_25 (by decide) ?_
      refine lv_icmp_ge (tgt := 99) hx hb dX8_go_27 (by decide) (fun c27 => ?_) (fun c27 => ?_)
      · have c27i := Int32.le_iff_toInt_le.mp c27
        exact ret σc23 _ _ 99 _ (⟨hI, trivial⟩) hw dX8_go_99
      · have c27i := mt Int32.le_iff_toInt_le.mpr c27
        refine lv_iload hx hb dX8_go_30 (lv_at hl 4 rfl) ?_
        refine lv_bipush (v := -6) hx hb dX8_go_32 (by decide) ?_
        refine lv_icmp_eq (tgt := 99) hx hb dX8_go_34 (by decide) (fun c34 => ?_) (fun c34 => ?_)
        · have oz4_23 := i32b z4_23
          have c34i := congrArg Int32.toInt c34
          exact ret σc23 _ _ 99 _ (⟨hI, trivial⟩) hw dX8_go_99
        · have oz4_23 := i32b z4_23
          have c34i := mt Int32.toInt_inj.mp c34
          refine lv_aload_n hx hb dX8_go_37 rfl (lv_at hl 0 rfl) ?_
          refine lv_aload_n hx hb dX8_go_38 rfl (lv_at hl 1 rfl) ?_
          refine tg_get (ci := 3) (k := 1) (v := .ref (ad G (7))) hx hb hts hown hk hw (en3 (rfl : nk 3 = 3)) rfl inlX3 (by decide) wd578 rfl dX8_go_39 ?_
          refine lv_iload hx hb dX8_go_42 (lv_at hl 4 rfl) ?_
          refine te_vi hw (ru_V (As := [.int z4_23]) (rest := [.ref (ad G (74))]) (C := RX1) hx hb hml hts hown hk hw (c_X1_listener l G hG σc23 hI.1 7 (rfl : nk 7 = 1) z4_23) (m4_in wd580 wd581 wd582 wd52) wd583 (en1 (rfl : nk 7 = 1)) rfl rfl rfl nm_yX1_listener ⟨rfl, rfl⟩ ⟨by decide, by decide⟩ rfl hl.1 rfl (Nat.le_of_ble_eq_true rfl) dX8_go_44 ⟨Nat.zero_le _, Nat.zero_le _⟩) (fun r5 σ4 H locs hr5 hw => ?_)
          rw [hr5.1] at hw
          have hr5 := hr5.2
          refine tg_put (ci := 7) (k := 1) (σ' := up2 σc23 (74) 1 r5) hx hb hts hown hk hG hw tyX8 (en7 (rfl : nk 74 = 7)) rfl inlX8 tyX8_ok nmX8 (by decide) wd576 rfl rfl rfl (Nat.le_of_ble_eq_true rfl) (pu7_1 (rfl : nk 74 = 7)) (fun _ h => up2_ne h) dX8_go_47 (fun H locs hw => ?_)
          obtain ⟨σ6, eσ6⟩ : ∃ z, z = up2 σc23 (74) 1 r5 := ⟨_, rfl⟩
          rw [← eσ6] at hw
          have hI : K0 σ σ6 := by rw [eσ6]; exact hI.up (rfl) (rg_no (by rw [(rfl : nk 74 = 7)]; rfl))
          refine lv_aload_n hx hb dX8_go_50 rfl (lv_at hl 0 rfl) ?_
          refine tg_get (ci := 7) (k := 1) (v := .int (σ6 (74) 1)) hx hb hts hown hk hw (en7 (rfl : nk 74 = 7)) rfl inlX8 (by decide) wd576 rfl dX8_go_51 ?_
          refine lv_topi (fun x7 ex7 => ?_)
          have zx7 : x7 = r5 := by rw [ex7, eσ6, up2_self]
          have yx7 : x7.toInt = r5.toInt := by rw [zx7]
          refine lv_bipush (v := -6) hx hb dX8_go_54 (by decide) ?_
          refine lv_icmp_eq (tgt := 66) hx hb dX8_go_56 (by decide) (fun c56 => ?_) (fun c56 => ?_)
          · have ox7 := i32b x7
            have c56i := congrArg Int32.toInt c56
            refine lv_aload_n hx hb dX8_go_66 rfl (lv_at hl 0 rfl) ?_
            refine lv_dup hx hb dX8_go_67 rfl ?_
            refine tg_get (ci := 7) (k := 2) (v := .int (σ6 (74) 2)) hx hb hts hown hk hw (en7 (rfl : nk 74 = 7)) rfl inlX8 (by decide) wd577 rfl dX8_go_68 ?_
            refine lv_topi (fun x8 ex8 => ?_)
            refine lv_aload_n hx hb dX8_go_71 rfl (lv_at hl 1 rfl) ?_
            refine tg_get (ci := 3) (k := 0) (v := .ref (ad G (4))) hx hb hts hown hk hw (en3 (rfl : nk 3 = 3)) rfl inlX3 (by decide) wd579 rfl dX8_go_72 ?_
            refine lv_iload hx hb dX8_go_75 (lv_at hl 4 rfl) ?_
            refine lv_iconst (v := -1) hx hb dX8_go_77 (by decide) ?_
            refine te_vi hw (ru_V (As := [.int z4_23, .int (-1 : Int32)]) (rest := [.int x8, .ref (ad G (74))]) (C := RX2) hx hb hml hts hown hk hw (c_X2_grainsIn l G hG σ6 hI.1 4 (rfl : nk 4 = 2) z4_23 (-1 : Int32) (by omega) (by omega)) (m4_in wd588 wd392 wd393 wd48) wd394 (en2 (rfl : nk 4 = 2)) rfl rfl rfl nm_yX2_grainsIn ⟨rfl, rfl⟩ ⟨by decide, by decide⟩ rfl hl.1 rfl (Nat.le_of_ble_eq_true rfl) dX8_go_78 ⟨Nat.zero_le _, Nat.zero_le _⟩) (fun r10 σ9 H locs hr10 hw => ?_)
            rw [hr10.1] at hw
            have hr10 := hr10.2
            refine lv_iadd hx hb dX8_go_81 ?_
            refine lv_topi (fun x11 ex11 => ?_)
            refine tg_put (ci := 7) (k := 2) (σ' := up2 σ6 (74) 2 x11) hx hb hts hown hk hG hw tyX8 (en7 (rfl : nk 74 = 7)) rfl inlX8 tyX8_ok nmX8 (by decide) wd577 rfl rfl rfl (Nat.le_of_ble_eq_true rfl) (pu7_2 (rfl : nk 74 = 7)) (fun _ h => up2_ne h) dX8_go_82 (fun H locs hw => ?_)
            obtain ⟨σ12, eσ12⟩ : ∃ z, z = up2 σ6 (74) 2 x11 := ⟨_, rfl⟩
            rw [← eσ12] at hw
            have hI : K0 σ σ12 := by rw [eσ12]; exact hI.up (rfl) (rg_no (by rw [(rfl : nk 74 = 7)]; rfl))
            refine lv_iload hx hb dX8_go_85 (lv_at hl 4 rfl) ?_
            refine lv_iload_n hx hb dX8_go_87 rfl (lv_at hl 3 rfl) ?_
            refine te_vi hw (ru_N (As := [.int z4_23, .int w]) (rest := []) hx hb hml hts hown hk hw (c_X10_stepFrom l G hG σ12 hI.1 z4_23 w) (m2_in wd281 wd2) (by decide +kernel) wd282 nm_yX10_stepFrom ⟨rfl, rfl⟩ ⟨by decide, by decide⟩ rfl hl.1 rfl (Nat.le_of_ble_eq_true rfl) dX8_go_88 ⟨Nat.zero_le _, Nat.zero_le _⟩) (fun r14 σ13 H locs hr14 hw => ?_)
            rw [hr14.1] at hw
            have hr14 := hr14.2
            refine lv_istore (lv' := [(4, .int r14), (0, .ref (ad G (74))), (1, .ref (ad G (3))), (2, .int v), (3, .int w), (5, .int z5_23)]) hx hb dX8_go_91 hl (by decide) rfl (fun ls hl => ?_)
            obtain ⟨x15, ex15⟩ : ∃ z : Int32, z = z5_23 + (1 : Int32) := ⟨_, rfl⟩
            refine lv_iinc (v := x15) (lv' := [(5, .int x15), (4, .int r14), (0, .ref (ad G (74))), (1, .ref (ad G (3))), (2, .int v), (3, .int w)]) hx hb dX8_go_93 hl (k := 5) rfl (by rw [ex15]; rfl) (by decide) rfl (fun ls hl => ?_)
            have tx15 : x15.toInt = z5_23.toInt + 1 := by rw [ex15, Jvm.Kit.i32_add (by omega) (by omega)]; omega
            refine lv_goto (tgt := 23) hx hb dX8_go_96 (by decide) ?_
            exact ih23 r14 x15 σ12 _ _ _ (by omega) (by omega) hI (by omega) hw (lv_sub hl [2, 3, 4, 5, 1, 0] rfl)
          · have ox7 := i32b x7
            have c56i := mt Int32.toInt_inj.mp c56
            refine lv_aload_n hx hb dX8_go_59 rfl (lv_at hl 0 rfl) ?_
            refine lv_iload hx hb dX8_go_60 (lv_at hl 5 rfl) ?_
            refine tg_put (ci := 7) (k := 0) (σ' := up2 σ6 (74) 0 z5_23) hx hb hts hown hk hG hw tyX8 (en7 (rfl : nk 74 = 7)) rfl inlX8 tyX8_ok nmX8 (by decide) wd575 rfl rfl rfl (Nat.le_of_ble_eq_true rfl) (pu7_0 (rfl : nk 74 = 7)) (fun _ h => up2_ne h) dX8_go_62 (fun H locs hw => ?_)
            obtain ⟨σ16, eσ16⟩ : ∃ z, z = up2 σ6 (74) 0 z5_23 := ⟨_, rfl⟩
            rw [← eσ16] at hw
            have hI : K0 σ σ16 := by rw [eσ16]; exact hI.up (rfl) (rg_no (by rw [(rfl : nk 74 = 7)]; rfl))
            exact ret σ16 _ _ 65 _ (⟨hI, trivial⟩) hw dX8_go_65
  exact cut23 ((((8 - (0 : Int32).toInt).toNat : Int)).toNat + 1) v (0 : Int32) σ3 _ _ _ (by omega) (by omega) hI (by omega) hw (lv_sub hl [2, 3, 4, 5, 1, 0] rfl)
set_option maxHeartbeats 4000000 in
set_option maxRecDepth 100000 in
theorem c_X9_visit (l : Launch) (G : Gg) (hG : Ginj G) (σ : Sg) (hI0 : Inv σ) (v : Int32) (w : Int32) : MV l G yX9_visit cX9_visit 4 (rmO 0 0) σ [.ref (ad G (75)), .int v, .int w] (fun σ' => K0 σ σ' ∧ (True)) := by
  refine MV.of (by decide +kernel) (Nat.le_of_ble_eq_true rfl) ?_
  intro p e s m a below meth c ls Q hx hb hml hts hown hk hw ret hl
  have hown : s.vm.findClass RX9 = some m.cls := hown
  have hl : lv_has ls 4 [(0, .ref (ad G (75))), (1, .int v), (2, .int w)] := hl
  have hI : K0 σ σ := K0.rf hI0
  have L0 : (0 : Int32).toInt = 0 := by decide
  have L1 : (1 : Int32).toInt = 1 := by decide
  have L72 : (72 : Int32).toInt = 72 := by decide
  generalize hHe : s.heap = H at hw ⊢
  generalize hLe : ([] : List Loc) = locs at hw ⊢
  refine lv_iconst (v := 0) hx hb dX9_visit_0 (by decide) ?_
  refine lv_istore_n (lv' := [(3, .int (0 : Int32)), (0, .ref (ad G (75))), (1, .int v), (2, .int w)]) hx hb dX9_visit_1 rfl hl (by decide) rfl (fun ls hl => ?_)
  have cut2 : ∀ (n : Nat) (z3_2 : Int32) (H : Heap) (locs : List Loc) (ls : Array Slot), (0 ≤ z3_2.toInt ∧ z3_2.toInt ≤ 72) → ((72 - z3_2.toInt).toNat : Int) < (n : Int) → Wo G σ s H locs → lv_has ls 4 [(0, .ref (ad G (75))), (1, .int v), (2, .int w), (3, .int z3_2)] → W p l e (rmO 0 0) s m a below meth c H locs 0 0 Q (F0 m 2 ls []) := by
    intro n2
    induction n2 with
    | zero =>
      intro z3_2 H locs ls f2_0 hm2 hw hl
      exfalso; omega
    | succ n2 ih2 =>
      intro z3_2 H locs ls f2_0 hm2 hw hl
      refine lv_iload_n hx hb dX9_visit_2 rfl (lv_at hl 3 rfl) ?_
      refine lv_aload_n hx hb dX9_visit_3 rfl (lv_at hl 0 rfl) ?_
      refine tg_get (ci := 8) (k := 2) (v := .int (σ (75) 2)) hx hb hts hown hk hw (en8 (rfl : nk 75 = 8)) rfl inlX9 (by decide) wd493 rfl dX9_visit_4 ?_
      refine lv_topi (fun x1 ex1 => ?_)
      have bx1 : 0 ≤ x1.toInt ∧ x1.toInt ≤ 72 := by rw [ex1]; exact hI.1 _ _ _ _ (by rw [(rfl : nk 75 = 8)]; rfl)
      have ux1 : x1.toInt = (σ (75) 2).toInt := by rw [ex1]
      refine lv_icmp_ge (tgt := 37) hx hb dX9_visit_7 (by decide) (fun c7 => ?_) (fun c7 => ?_)
      · have c7i := Int32.le_iff_toInt_le.mp c7
        refine lv_aload_n hx hb dX9_visit_37 rfl (lv_at hl 0 rfl) ?_
        refine tg_get (ci := 8) (k := 2) (v := .int (σ (75) 2)) hx hb hts hown hk hw (en8 (rfl : nk 75 = 8)) rfl inlX9 (by decide) wd493 rfl dX9_visit_38 ?_
        refine lv_topi (fun x2 ex2 => ?_)
        have qx2 : x2.toInt = x1.toInt := by rw [ex2, ex1]
        have bx2 : 0 ≤ x2.toInt ∧ x2.toInt ≤ 72 := by rw [ex2]; exact hI.1 _ _ _ _ (by rw [(rfl : nk 75 = 8)]; rfl)
        have ux2 : x2.toInt = (σ (75) 2).toInt := by rw [ex2]
        refine lv_bipush (v := 72) hx hb dX9_visit_41 (by decide) ?_
        refine lv_icmp_ge (tgt := 76) hx hb dX9_visit_43 (by decide) (fun c43 => ?_) (fun c43 => ?_)
        · have c43i := Int32.le_iff_toInt_le.mp c43
          exact ret σ _ _ 76 _ (⟨hI, trivial⟩) hw dX9_visit_76
        · have c43i := mt Int32.le_iff_toInt_le.mpr c43
          refine lv_aload_n hx hb dX9_visit_46 rfl (lv_at hl 0 rfl) ?_
          refine tg_get (ci := 8) (k := 0) (v := .ref (ad G (76))) hx hb hts hown hk hw (en8 (rfl : nk 75 = 8)) rfl inlX9 (by decide) wd99 rfl dX9_visit_47 ?_
          refine lv_aload_n hx hb dX9_visit_50 rfl (lv_at hl 0 rfl) ?_
          refine tg_get (ci := 8) (k := 2) (v := .int (σ (75) 2)) hx hb hts hown hk hw (en8 (rfl : nk 75 = 8)) rfl inlX9 (by decide) wd493 rfl dX9_visit_51 ?_
          refine lv_topi (fun x3 ex3 => ?_)
          have qx3 : x3.toInt = x1.toInt := by rw [ex3, ex1]
          have bx3 : 0 ≤ x3.toInt ∧ x3.toInt ≤ 72 := by rw [ex3]; exact hI.1 _ _ _ _ (by rw [(rfl : nk 75 = 8)]; rfl)
          have ux3 : x3.toInt = (σ (75) 2).toInt := by rw [ex3]
          refine lv_iload_n hx hb dX9_visit_54 rfl (lv_at hl 1 rfl) ?_
          have hv55 : vp_in x3 72 := vin ⟨by omega, by omega⟩
          refine tg_iast hx hb hk hG hw (ea172 (rfl : nk 76 = 172)) hv55 dX9_visit_55 (fun H locs hw => ?_)
          obtain ⟨σ4, eσ4⟩ : ∃ z, z = up2 σ (76) x3.toNatClampNeg v := ⟨_, rfl⟩
          rw [← eσ4] at hw
          have hI : K0 σ σ4 := by rw [eσ4]; exact hI.up (rfl) (rg_no (by rw [(rfl : nk 76 = 172)]; rfl))
          refine lv_aload_n hx hb dX9_visit_56 rfl (lv_at hl 0 rfl) ?_
          refine tg_get (ci := 8) (k := 1) (v := .ref (ad G (77))) hx hb hts hown hk hw (en8 (rfl : nk 75 = 8)) rfl inlX9 (by decide) wd100 rfl dX9_visit_57 ?_
          refine lv_aload_n hx hb dX9_visit_60 rfl (lv_at hl 0 rfl) ?_
          refine tg_get (ci := 8) (k := 2) (v := .int (σ4 (75) 2)) hx hb hts hown hk hw (en8 (rfl : nk 75 = 8)) rfl inlX9 (by decide) wd493 rfl dX9_visit_61 ?_
          refine lv_topi (fun x5 ex5 => ?_)
          have bx5 : 0 ≤ x5.toInt ∧ x5.toInt ≤ 72 := by rw [ex5]; exact hI.1 _ _ _ _ (by rw [(rfl : nk 75 = 8)]; rfl)
          have ux5 : x5.toInt = (σ4 (75) 2).toInt := by rw [ex5]
          have qx5 : x5.toInt = x1.toInt := by rw [ex5, eσ4, up2_ne (by omega), ex1]
          refine lv_iload_n hx hb dX9_visit_64 rfl (lv_at hl 2 rfl) ?_
          have hv65 : vp_in x5 72 := vin ⟨by omega, by omega⟩
          refine tg_iast hx hb hk hG hw (ea172 (rfl : nk 77 = 172)) hv65 dX9_visit_65 (fun H locs hw => ?_)
          obtain ⟨σ6, eσ6⟩ : ∃ z, z = up2 σ4 (77) x5.toNatClampNeg w := ⟨_, rfl⟩
          rw [← eσ6] at hw
          have hI : K0 σ σ6 := by rw [eσ6]; exact hI.up (rfl) (rg_no (by rw [(rfl : nk 77 = 172)]; rfl))
          refine lv_aload_n hx hb dX9_visit_66 rfl (lv_at hl 0 rfl) ?_
          refine lv_dup hx hb dX9_visit_67 rfl ?_
          refine tg_get (ci := 8) (k := 2) (v := .int (σ6 (75) 2)) hx hb hts hown hk hw (en8 (rfl : nk 75 = 8)) rfl inlX9 (by decide) wd493 rfl dX9_visit_68 ?_
          refine lv_topi (fun x7 ex7 => ?_)
          have bx7 : 0 ≤ x7.toInt ∧ x7.toInt ≤ 72 := by rw [ex7]; exact hI.1 _ _ _ _ (by rw [(rfl : nk 75 = 8)]; rfl)
          have ux7 : x7.toInt = (σ6 (75) 2).toInt := by rw [ex7]
          have qx7 : x7.toInt = x1.toInt := by rw [ex7, eσ6, up2_ne (by omega), eσ4, up2_ne (by omega), ex1]
          refine lv_iconst (v := 1) hx hb dX9_visit_71 (by decide) ?_
          refine lv_iadd hx hb dX9_visit_72 ?_
          refine lv_topi (fun x8 ex8 => ?_)
          have tx8 : x8.toInt = x7.toInt + (1 : Int32).toInt := by rw [ex8]; exact Jvm.Kit.i32_add (by omega) (by omega)
          refine tg_put (ci := 8) (k := 2) (σ' := up2 σ6 (75) 2 x8) hx hb hts hown hk hG hw tyX9 (en8 (rfl : nk 75 = 8)) rfl inlX9 tyX9_ok nmX9 (by decide) wd493 rfl rfl rfl (Nat.le_of_ble_eq_true rfl) (pu8_2 (rfl : nk 75 = 8)) (fun _ h => up2_ne h) dX9_visit_73 (fun H locs hw => ?_)
          obtain ⟨σ9, eσ9⟩ : ∃ z, z = up2 σ6 (75) 2 x8 := ⟨_, rfl⟩
          rw [← eσ9] at hw
          have hI : K0 σ σ9 := by rw [eσ9]; exact hI.up (rfl) (rg_is (by rw [(rfl : nk 75 = 8)]; rfl) (by omega) (by omega))
          exact ret σ9 _ _ 76 _ (⟨hI, trivial⟩) hw dX9_visit_76
      · have c7i := mt Int32.le_iff_toInt_le.mpr c7
        refine lv_aload_n hx hb dX9_visit_10 rfl (lv_at hl 0 rfl) ?_
        refine tg_get (ci := 8) (k := 0) (v := .ref (ad G (76))) hx hb hts hown hk hw (en8 (rfl : nk 75 = 8)) rfl inlX9 (by decide) wd99 rfl dX9_visit_11 ?_
        refine lv_iload_n hx hb dX9_visit_14 rfl (lv_at hl 3 rfl) ?_
        have hv15 : vp_in z3_2 72 := vin ⟨by omega, by omega⟩
        refine tg_iald hx hb hk hw (en172 (rfl : nk 76 = 172)) hv15 dX9_visit_15 ?_
        refine lv_topi (fun x10 ex10 => ?_)
        refine lv_iload_n hx hb dX9_visit_16 rfl (lv_at hl 1 rfl) ?_
        refine lv_icmp_ne (tgt := 31) hx hb dX9_visit_17 (by decide) (fun c17 => ?_) (fun c17 => ?_)
        · have ox10 := i32b x10
          have ov := i32b v
          have c17i := mt Int32.toInt_inj.mp c17
          obtain ⟨x11, ex11⟩ : ∃ z : Int32, z = z3_2 + (1 : Int32) := ⟨_, rfl⟩
          refine lv_iinc (v := x11) (lv' := [(3, .int x11), (0, .ref (ad G (75))), (1, .int v), (2, .int w)]) hx hb dX9_visit_31 hl (k := 3) rfl (by rw [ex11]; rfl) (by decide) rfl (fun ls hl => ?_)
          have tx11 : x11.toInt = z3_2.toInt + 1 := by rw [ex11, Jvm.Kit.i32_add (by omega) (by omega)]; omega
          refine lv_goto (tgt := 2) hx hb dX9_visit_34 (by decide) ?_
          exact ih2 x11 _ _ _ (by omega) (by omega) hw (lv_sub hl [1, 2, 3, 0] rfl)
        · have ox10 := i32b x10
          have ov := i32b v
          have c17i := congrArg Int32.toInt c17
          refine lv_aload_n hx hb dX9_visit_20 rfl (lv_at hl 0 rfl) ?_
          refine tg_get (ci := 8) (k := 1) (v := .ref (ad G (77))) hx hb hts hown hk hw (en8 (rfl : nk 75 = 8)) rfl inlX9 (by decide) wd100 rfl dX9_visit_21 ?_
          refine lv_iload_n hx hb dX9_visit_24 rfl (lv_at hl 3 rfl) ?_
          have hv25 : vp_in z3_2 72 := vin ⟨by omega, by omega⟩
          refine tg_iald hx hb hk hw (en172 (rfl : nk 77 = 172)) hv25 dX9_visit_25 ?_
          refine lv_topi (fun x12 ex12 => ?_)
          refine lv_iload_n hx hb dX9_visit_26 rfl (lv_at hl 2 rfl) ?_
          refine lv_icmp_ne (tgt := 31) hx hb dX9_visit_27 (by decide) (fun c27 => ?_) (fun c27 => ?_)
          · have ox12 := i32b x12
            have ow := i32b w
            have c27i := mt Int32.toInt_inj.mp c27
            obtain ⟨x13, ex13⟩ : ∃ z : Int32, z = z3_2 + (1 : Int32) := ⟨_, rfl⟩
            refine lv_iinc (v := x13) (lv' := [(3, .int x13), (0, .ref (ad G (75))), (1, .int v), (2, .int w)]) hx hb dX9_visit_31 hl (k := 3) rfl (by rw [ex13]; rfl) (by decide) rfl (fun ls hl => ?_)
            have tx13 : x13.toInt = z3_2.toInt + 1 := by rw [ex13, Jvm.Kit.i32_add (by omega) (by omega)]; omega
            refine lv_goto (tgt := 2) hx hb dX9_visit_34 (by decide) ?_
            exact ih2 x13 _ _ _ (by omega) (by omega) hw (lv_sub hl [1, 2, 3, 0] rfl)
          · have ox12 := i32b x12
            have ow := i32b w
            have c27i := congrArg Int32.toInt c27
            exact ret σ _ _ 30 _ (⟨hI, trivial⟩) hw dX9_visit_30
  exact cut2 ((((72 - (0 : Int32).toInt).toNat : Int)).toNat + 1) (0 : Int32) _ _ _ (by omega) (by omega) hw (lv_sub hl [1, 2, 3, 0] rfl)
set_option maxHeartbeats 4000000 in
set_option maxRecDepth 100000 in
theorem c_X9_cellsOf (l : Launch) (G : Gg) (hG : Ginj G) (σ : Sg) (hI0 : Inv σ) (v : Int32) (w : Int32) (u : Int32) : MI l G yX9_cellsOf cX9_cellsOf 9 .int (rmO 1 23) σ [.ref (ad G (75)), .int v, .int w, .int u] (fun r σ' => K0 σ σ' ∧ (True)) := by
  refine MI.of (by decide +kernel) (Nat.le_of_ble_eq_true rfl) ?_
  intro p e s m a below meth c ls Q hx hb hml hts hown hk hw ret hl
  have hown : s.vm.findClass RX9 = some m.cls := hown
  have hl : lv_has ls 9 [(0, .ref (ad G (75))), (1, .int v), (2, .int w), (3, .int u)] := hl
  have hI : K0 σ σ := K0.rf hI0
  have L0 : (0 : Int32).toInt = 0 := by decide
  have L1 : (1 : Int32).toInt = 1 := by decide
  have L8 : (8 : Int32).toInt = 8 := by decide
  generalize hHe : s.heap = H at hw ⊢
  generalize hLe : ([] : List Loc) = locs at hw ⊢
  refine lv_iconst (v := 0) hx hb dX9_cellsOf_0 (by decide) ?_
  refine lv_istore (lv' := [(4, .int (0 : Int32)), (0, .ref (ad G (75))), (1, .int v), (2, .int w), (3, .int u)]) hx hb dX9_cellsOf_1 hl (by decide) rfl (fun ls hl => ?_)
  refine lv_iconst (v := 0) hx hb dX9_cellsOf_3 (by decide) ?_
  refine lv_istore (lv' := [(5, .int (0 : Int32)), (4, .int (0 : Int32)), (0, .ref (ad G (75))), (1, .int v), (2, .int w), (3, .int u)]) hx hb dX9_cellsOf_4 hl (by decide) rfl (fun ls hl => ?_)
  refine lv_aload_n hx hb dX9_cellsOf_6 rfl (lv_at hl 2 rfl) ?_
  refine lv_iconst (v := 0) hx hb dX9_cellsOf_7 (by decide) ?_
  refine tg_put (ci := 8) (k := 2) (σ' := up2 σ (75) 2 (0 : Int32)) hx hb hts hown hk hG hw tyX9 (en8 (rfl : nk 75 = 8)) rfl inlX9 tyX9_ok nmX9 (by decide) wd493 rfl rfl rfl (Nat.le_of_ble_eq_true rfl) (pu8_2 (rfl : nk 75 = 8)) (fun _ h => up2_ne h) dX9_cellsOf_8 (fun H locs hw => ?_)
  obtain ⟨σ1, eσ1⟩ : ∃ z, z = up2 σ (75) 2 (0 : Int32) := ⟨_, rfl⟩
  rw [← eσ1] at hw
  have hI : K0 σ σ1 := by rw [eσ1]; exact hI.up (rfl) (rg_is (by rw [(rfl : nk 75 = 8)]; rfl) (by omega) (by omega))
  refine lv_iconst (v := 0) hx hb dX9_cellsOf_11 (by decide) ?_
  refine lv_istore (lv' := [(6, .int (0 : Int32)), (5, .int (0 : Int32)), (4, .int (0 : Int32)), (0, .ref (ad G (75))), (1, .int v), (2, .int w), (3, .int u)]) hx hb dX9_cellsOf_12 hl (by decide) rfl (fun ls hl => ?_)
  have cut14 : ∀ (n : Nat) (z4_14 : Int32) (z5_14 : Int32) (z6_14 : Int32) (σc14 : Sg) (H : Heap) (locs : List Loc) (ls : Array Slot), (0 ≤ z6_14.toInt ∧ z6_14.toInt ≤ 2147483647) → K0 σ σc14 → ((u.toInt - z6_14.toInt).toNat : Int) < (n : Int) → Wo G σc14 s H locs → lv_has ls 9 [(0, .ref (ad G (75))), (1, .int v), (2, .int w), (3, .int u), (4, .int z4_14), (5, .int z5_14), (6, .int z6_14)] → W p l e (rmO 1 23) s m a below meth c H locs 0 0 Q (F0 m 14 ls []) := by
    intro n14
    induction n14 with
    | zero =>
      intro z4_14 z5_14 z6_14 σc14 H locs ls f14_0 hI hm14 hw hl
      exfalso; omega
    | succ n14 ih14 =>
      intro z4_14 z5_14 z6_14 σc14 H locs ls f14_0 hI hm14 hw hl
      refine lv_iload hx hb dX9_cellsOf_14 (lv_at hl 6 rfl) ?_
      refine lv_iload_n hx hb dX9_cellsOf_16 rfl (lv_at hl 3 rfl) ?_
      refine lv_icmp_ge (tgt := 82) hx hb dX9_cellsOf_17 (by decide) (fun c17 => ?_) (fun c17 => ?_)
      · have oz6_14 := i32b z6_14
        have ou := i32b u
        have c17i := Int32.le_iff_toInt_le.mp c17
        refine lv_aload_n hx hb dX9_cellsOf_82 rfl (lv_at hl 0 rfl) ?_
        refine tg_get (ci := 8) (k := 2) (v := .int (σc14 (75) 2)) hx hb hts hown hk hw (en8 (rfl : nk 75 = 8)) rfl inlX9 (by decide) wd493 rfl dX9_cellsOf_83 ?_
        refine lv_topi (fun x2 ex2 => ?_)
        have bx2 : 0 ≤ x2.toInt ∧ x2.toInt ≤ 72 := by rw [ex2]; exact hI.1 _ _ _ _ (by rw [(rfl : nk 75 = 8)]; rfl)
        have ux2 : x2.toInt = (σc14 (75) 2).toInt := by rw [ex2]
        exact ret x2 σc14 _ _ 86 _ (rfl) (⟨hI, trivial⟩) hw dX9_cellsOf_86
      · have oz6_14 := i32b z6_14
        have ou := i32b u
        have c17i := mt Int32.le_iff_toInt_le.mpr c17
        refine lv_iload hx hb dX9_cellsOf_20 (lv_at hl 6 rfl) ?_
        refine lv_iload_n hx hb dX9_cellsOf_22 rfl (lv_at hl 2 rfl) ?_
        refine lv_imul hx hb dX9_cellsOf_23 ?_
        refine lv_topi (fun x3 ex3 => ?_)
        refine lv_bipush (v := 8) hx hb dX9_cellsOf_24 (by decide) ?_
        refine te_vi hw (ru_S (As := [.int x3, .int (8 : Int32)]) (rest := []) hx hb hml hts hown hk hw (c_J9_floorMod_7cf53 l G hG σc14 hI.1 x3) (m3_in wd494 wd301 wd302) wd303 nm_yJ9_floorMod_7cf53 ⟨rfl, rfl⟩ ⟨by decide, by decide⟩ rfl hl.1 rfl (Nat.le_of_ble_eq_true rfl) dX9_cellsOf_26 ⟨Nat.zero_le _, Nat.zero_le _⟩) (fun r5 σ4 H locs hr5 hw => ?_)
        rw [hr5.1] at hw
        have hr5 := hr5.2
        refine lv_istore (lv' := [(7, .int r5), (0, .ref (ad G (75))), (1, .int v), (2, .int w), (3, .int u), (4, .int z4_14), (5, .int z5_14), (6, .int z6_14)]) hx hb dX9_cellsOf_29 hl (by decide) rfl (fun ls hl => ?_)
        refine lv_iconst (v := 0) hx hb dX9_cellsOf_31 (by decide) ?_
        refine lv_istore (lv' := [(8, .int (0 : Int32)), (7, .int r5), (0, .ref (ad G (75))), (1, .int v), (2, .int w), (3, .int u), (4, .int z4_14), (5, .int z5_14), (6, .int z6_14)]) hx hb dX9_cellsOf_32 hl (by decide) rfl (fun ls hl => ?_)
        have cut34 : ∀ (n : Nat) (z4_34 : Int32) (z5_34 : Int32) (z8_34 : Int32) (σc34 : Sg) (H : Heap) (locs : List Loc) (ls : Array Slot), (0 ≤ z8_34.toInt ∧ z8_34.toInt ≤ 2147483647) → K0 σ σc34 → ((v.toInt - z8_34.toInt).toNat : Int) < (n : Int) → Wo G σc34 s H locs → lv_has ls 9 [(0, .ref (ad G (75))), (1, .int v), (2, .int w), (3, .int u), (4, .int z4_34), (5, .int z5_34), (6, .int z6_14), (7, .int r5), (8, .int z8_34)] → W p l e (rmO 1 23) s m a below meth c H locs 0 0 Q (F0 m 34 ls []) := by
          intro n34
          induction n34 with
          | zero =>
            intro z4_34 z5_34 z8_34 σc34 H locs ls f34_0 hI hm34 hw hl
            exfalso; omega
          | succ n34 ih34 =>
            intro z4_34 z5_34 z8_34 σc34 H locs ls f34_0 hI hm34 hw hl
            refine lv_iload hx hb dX9_cellsOf_34 (lv_at hl 8 rfl) ?_
            refine lv_iload_n hx hb dX9_cellsOf_36 rfl (lv_at hl 1 rfl) ?_
            refine lv_icmp_ge (tgt := 76) hx hb dX9_cellsOf_37 (by decide) (fun c37 => ?_) (fun c37 => ?_)
            · have oz8_34 := i32b z8_34
              have ov := i32b v
              have c37i := Int32.le_iff_toInt_le.mp c37
              obtain ⟨x6, ex6⟩ : ∃ z : Int32, z = z6_14 + (1 : Int32) := ⟨_, rfl⟩
              refine lv_iinc (v := x6) (lv' := [(6, .int x6), (0, .ref (ad G (75))), (1, .int v), (2, .int w), (3, .int u), (4, .int z4_34), (5, .int z5_34), (7, .int r5), (8, .int z8_34)]) hx hb dX9_cellsOf_76 hl (k := 6) rfl (by rw [ex6]; rfl) (by decide) rfl (fun ls hl => ?_)
              have tx6 : x6.toInt = z6_14.toInt + 1 := by rw [ex6, Jvm.Kit.i32_add (by omega) (by omega)]; omega
              refine lv_goto (tgt := 14) hx hb dX9_cellsOf_79 (by decide) ?_
              exact ih14 z4_34 z5_34 x6 σc34 _ _ _ (by omega) hI (by omega) hw (lv_sub hl [1, 2, 3, 4, 5, 6, 0] rfl)
            · have oz8_34 := i32b z8_34
              have ov := i32b v
              have c37i := mt Int32.le_iff_toInt_le.mpr c37
              refine lv_iload hx hb dX9_cellsOf_40 (lv_at hl 4 rfl) ?_
              refine tg_getsN hx hb hown hk hk.2.1.2.1 hw (by decide +kernel) dX9_cellsOf_42 ?_
              refine lv_iload hx hb dX9_cellsOf_45 (lv_at hl 7 rfl) ?_
              refine tg_ti hx hb hk.2.1.2.1 hw (vin ⟨by omega, by omega⟩) dX9_cellsOf_47 ?_
              refine lv_topi (fun x7 ex7 => ?_)
              have bx7 : -1 ≤ x7.toInt ∧ x7.toInt ≤ 1 := by rw [ex7]; exact stepXF_bd _
              refine lv_iadd hx hb dX9_cellsOf_48 ?_
              refine lv_topi (fun x8 ex8 => ?_)
              refine lv_istore (lv' := [(4, .int x8), (0, .ref (ad G (75))), (1, .int v), (2, .int w), (3, .int u), (5, .int z5_34), (6, .int z6_14), (7, .int r5), (8, .int z8_34)]) hx hb dX9_cellsOf_49 hl (by decide) rfl (fun ls hl => ?_)
              refine lv_iload hx hb dX9_cellsOf_51 (lv_at hl 5 rfl) ?_
              refine tg_getsN hx hb hown hk hk.2.1.2.2 hw (by decide +kernel) dX9_cellsOf_53 ?_
              refine lv_iload hx hb dX9_cellsOf_56 (lv_at hl 7 rfl) ?_
              refine tg_ti hx hb hk.2.1.2.2 hw (vin ⟨by omega, by omega⟩) dX9_cellsOf_58 ?_
              refine lv_topi (fun x9 ex9 => ?_)
              have bx9 : -1 ≤ x9.toInt ∧ x9.toInt ≤ 1 := by rw [ex9]; exact stepYF_bd _
              refine lv_iadd hx hb dX9_cellsOf_59 ?_
              refine lv_topi (fun x10 ex10 => ?_)
              refine lv_istore (lv' := [(5, .int x10), (4, .int x8), (0, .ref (ad G (75))), (1, .int v), (2, .int w), (3, .int u), (6, .int z6_14), (7, .int r5), (8, .int z8_34)]) hx hb dX9_cellsOf_60 hl (by decide) rfl (fun ls hl => ?_)
              refine lv_aload_n hx hb dX9_cellsOf_62 rfl (lv_at hl 2 rfl) ?_
              refine lv_iload hx hb dX9_cellsOf_63 (lv_at hl 1 rfl) ?_
              refine lv_iload hx hb dX9_cellsOf_65 (lv_at hl 0 rfl) ?_
              refine te_vv hw (ru_V (As := [.int x8, .int x10]) (rest := []) (C := RX9) hx hb hml hts hown hk hw (c_X9_visit l G hG σc34 hI.1 x8 x10) (m4_in wd495 wd496 wd497 wd35) wd498 (en8 (rfl : nk 75 = 8)) rfl rfl rfl nm_yX9_visit ⟨rfl, rfl⟩ ⟨by decide, by decide⟩ rfl hl.1 rfl (Nat.le_of_ble_eq_true rfl) dX9_cellsOf_67 ⟨Nat.zero_le _, Nat.zero_le _⟩) (fun σ11 H locs hr12 hw => ?_)
              have hI := hI.go hr12.1
              have hr12 := hr12.2
              obtain ⟨x13, ex13⟩ : ∃ z : Int32, z = z8_34 + (1 : Int32) := ⟨_, rfl⟩
              refine lv_iinc (v := x13) (lv' := [(8, .int x13), (5, .int x10), (4, .int x8), (0, .ref (ad G (75))), (1, .int v), (2, .int w), (3, .int u), (6, .int z6_14), (7, .int r5)]) hx hb dX9_cellsOf_70 hl (k := 8) rfl (by rw [ex13]; rfl) (by decide) rfl (fun ls hl => ?_)
              have tx13 : x13.toInt = z8_34.toInt + 1 := by rw [ex13, Jvm.Kit.i32_add (by omega) (by omega)]; omega
              refine lv_goto (tgt := 34) hx hb dX9_cellsOf_73 (by decide) ?_
              exact ih34 x8 x10 x13 σ11 _ _ _ (by omega) hI (by omega) hw (lv_sub hl [3, 4, 5, 6, 2, 1, 7, 8, 0] rfl)
        exact cut34 ((((v.toInt - (0 : Int32).toInt).toNat : Int)).toNat + 1) z4_14 z5_14 (0 : Int32) σc14 _ _ _ (by omega) hI (by omega) hw (lv_sub hl [2, 3, 4, 5, 6, 7, 8, 1, 0] rfl)
  exact cut14 ((((u.toInt - (0 : Int32).toInt).toNat : Int)).toNat + 1) (0 : Int32) (0 : Int32) (0 : Int32) σ1 _ _ _ (by omega) hI (by omega) hw (lv_sub hl [3, 4, 5, 6, 2, 1, 0] rfl)
