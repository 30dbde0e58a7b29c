set_option maxHeartbeats 16000000 in
set_option maxRecDepth 100000 in
theorem law_loop {p : Program} {l : Launch} {e : Env} {s : State} {m : MethodId} {below : List Frame} {meth : Method} {c : Code} {G : Gg} {b0 L : Nat} {xs : Nat → Int32} (hL : L ≤ 2048) (hx : p.tables.exec = Jvm.exec) (hb : c.code = cL_law) (hr : meth.sig.returnType = ret) (hml : c.maxLocals = 4) (hown : s.vm.findClass RL = some m.cls) (hts : ∀ w ∈ wsL_law, w.before #[Value.ref b0] s = true) (hX : va_X b0 L xs s s.heap) (hbl : b0 < s.heap.size) (hlocks : meth.locks = false) (hG : Ginj G) (hk : KK G s) (hbn : ∀ i, i < 92 → s.heap.size ≤ ad G i) :
    ∀ (n : Nat) (z3 : Int32) (σ : Sg) (H : Heap) (locs : List Loc) (ls : Array Slot), (0 ≤ z3.toInt ∧ z3.toInt ≤ L) → Inv σ → RelL σ → ((L - z3.toInt).toNat : Int) < (n : Int) → Wo G σ s H locs → lv_has ls 4 [(0, .ref b0), (1, .ref (ad G (0))), (2, .ref (ad G (78))), (3, .int z3)] → W p l e room_1 s m #[Value.ref b0] below meth c H locs 92 3970 (lw_Z below #[Value.ref b0] s) (F0 m 18 ls []) := by
  have hbA : ¬ ndA G b0 := fun ⟨i, hi, e⟩ => by have := hbn i hi; omega
  intro n
  induction n with
  | zero => intro z3 σ H locs ls f1 f2 hR f3; exfalso; omega
  | succ n ih =>
    intro z3 σ H locs ls f1 hI0 hR hm hw hl
    have hI : K0 σ σ := K0.rf hI0
    have L0 : (0 : Int32).toInt = 0 := by decide
    have L1 : (1 : Int32).toInt = 1 := by decide
    have L2 : (2 : Int32).toInt = 2 := by decide
    have L3 : (3 : Int32).toInt = 3 := by decide
    have L4 : (4 : Int32).toInt = 4 := by decide
    have L5 : (5 : Int32).toInt = 5 := by decide
    have L6 : (6 : Int32).toInt = 6 := by decide
    have L7 : (7 : Int32).toInt = 7 := by decide
    have L8 : (8 : Int32).toInt = 8 := by decide
    have L9 : (9 : Int32).toInt = 9 := by decide
    have L10 : (10 : Int32).toInt = 10 := by decide
    have L11 : (11 : Int32).toInt = 11 := by decide
    have L12 : (12 : Int32).toInt = 12 := by decide
    have L13 : (13 : Int32).toInt = 13 := by decide
    have L14 : (14 : Int32).toInt = 14 := by decide
    have L15 : (15 : Int32).toInt = 15 := by decide
    have L16 : (16 : Int32).toInt = 16 := by decide
    have L17 : (17 : Int32).toInt = 17 := by decide
    have L18 : (18 : Int32).toInt = 18 := by decide
    have L19 : (19 : Int32).toInt = 19 := by decide
    have L20 : (20 : Int32).toInt = 20 := by decide
    have L21 : (21 : Int32).toInt = 21 := by decide
    have L22 : (22 : Int32).toInt = 22 := by decide
    have L23 : (23 : Int32).toInt = 23 := by decide
    have L24 : (24 : Int32).toInt = 24 := by decide
    have L25 : (25 : Int32).toInt = 25 := by decide
    have L31 : (31 : Int32).toInt = 31 := by decide
    have tail : z3.toInt + 4 ≤ L → ∀ (σ : Sg) (H : Heap) (locs : List Loc) (ls : Array Slot), Inv σ → Wo G σ s H locs → lv_has ls 4 [(0, .ref b0), (1, .ref (ad G (0))), (2, .ref (ad G (78))), (3, .int z3)] → RelL σ → W p l e room_1 s m #[Value.ref b0] below meth c H locs 92 3970 (lw_Z below #[Value.ref b0] s) (F0 m 880 ls []) := by
      intro g4 σ H locs ls hI hw hl hR 
      obtain ⟨y, ey⟩ : ∃ q : Int32, q = z3 + 4 := ⟨_, rfl⟩
      have ty : y.toInt = z3.toInt + 4 := by rw [ey, Jvm.Kit.i32_add (by omega) (by omega)]; omega
      refine lv_iinc (v := y) (lv' := [(3, .int y), (0, .ref b0), (1, .ref (ad G (0))), (2, .ref (ad G (78)))]) hx hb dL_law_880 hl (k := 3) rfl (by rw [ey]; rfl) (by decide) rfl (fun ls hl => ?_)
      refine lv_goto (tgt := 18) hx hb dL_law_883 (by decide) ?_
      exact ih y σ _ _ _ (by omega) hI hR (by omega) hw (lv_sub hl [1, 2, 3, 0] rfl)
    refine lv_iload_n hx hb dL_law_18 rfl (lv_at hl 3 rfl) ?_
    refine lv_aload_n hx hb dL_law_19 rfl (lv_at hl 0 rfl) ?_
    refine va_slen hx hb hX hbl hbA hw.2 dL_law_20 ?_
    refine lv_topi (fun x1 ex1 => ?_)
    have tx1 : x1.toInt = L := by rw [ex1]; exact nI_toInt (by omega)
    have bx1 : 0 ≤ x1.toInt ∧ x1.toInt ≤ 2048 := by omega
    refine lv_iconst (v := 4) hx hb dL_law_21 (by decide) ?_
    refine lv_isub hx hb dL_law_22 ?_
    refine lv_topi (fun x2 ex2 => ?_)
    have tx2 : x2.toInt = x1.toInt - (4 : Int32).toInt := by rw [ex2]; exact Jvm.Kit.i32_sub (by omega) (by omega)
    refine lv_icmp_gt (tgt := 886) hx hb dL_law_23 (by decide) (fun c23 => ?_) (fun c23 => ?_)
    · refine lv_iconst (v := 1) hx hb dL_law_886 (by decide) ?_
      refine va_forget (fun q hq => ?_) ?_
      · obtain ⟨i, hi, e⟩ := hw.2.2.2 q hq; rw [e]; exact hbn i hi
      · refine W.widen (k := 600000) (n := 7302249) (by decide) (by decide) ?_
        exact lw_ret hx hb hr hlocks dL_law_887
    have c23i := mt Int32.lt_iff_toInt_lt.mpr c23
    have bz3 : z3.toInt ≤ 2044 := by omega
    have tail := tail (by omega)
    refine lv_aload_n hx hb dL_law_26 rfl (lv_at hl 0 rfl) ?_
    refine lv_iload_n hx hb dL_law_27 rfl (lv_at hl 3 rfl) ?_
    refine va_sld hx hb hX hbl hbA hw.2 (vin ⟨by omega, by omega⟩) dL_law_28 ?_
    refine lv_topi (fun x3 ex3 => ?_)
    refine lv_bipush (v := 31) hx hb dL_law_29 (by decide) ?_
    refine lv_iand hx hb dL_law_31 ?_
    refine lv_topi (fun x4 ex4 => ?_)
    by_cases w32_0 : x4 = (0 : Int32)
    · have w32_0i : x4.toInt = 0 := by rw [w32_0]; decide
      refine lv_tableIn (tgt := 152) hx hb dL_law_32 (by omega) (by omega) (by rw [w32_0i]; rfl) (by decide) ?_
      refine lv_aload_n hx hb dL_law_152 rfl (lv_at hl 1 rfl) ?_
      refine lv_aload_n hx hb dL_law_153 rfl (lv_at hl 0 rfl) ?_
      refine lv_iload_n hx hb dL_law_154 rfl (lv_at hl 3 rfl) ?_
      refine lv_iconst (v := 1) hx hb dL_law_155 (by decide) ?_
      refine lv_iadd hx hb dL_law_156 ?_
      refine lv_topi (fun x5 ex5 => ?_)
      have tx5 : x5.toInt = z3.toInt + (1 : Int32).toInt := by rw [ex5]; exact Jvm.Kit.i32_add (by omega) (by omega)
      refine va_sld hx hb hX hbl hbA hw.2 (vin ⟨by omega, by omega⟩) dL_law_157 ?_
      refine lv_topi (fun x6 ex6 => ?_)
      refine lv_aload_n hx hb dL_law_158 rfl (lv_at hl 0 rfl) ?_
      refine lv_iload_n hx hb dL_law_159 rfl (lv_at hl 3 rfl) ?_
      refine lv_iconst (v := 2) hx hb dL_law_160 (by decide) ?_
      refine lv_iadd hx hb dL_law_161 ?_
      refine lv_topi (fun x7 ex7 => ?_)
      have tx7 : x7.toInt = z3.toInt + (2 : Int32).toInt := by rw [ex7]; exact Jvm.Kit.i32_add (by omega) (by omega)
      refine va_sld hx hb hX hbl hbA hw.2 (vin ⟨by omega, by omega⟩) dL_law_162 ?_
      refine lv_topi (fun x8 ex8 => ?_)
      refine lv_aload_n hx hb dL_law_163 rfl (lv_at hl 0 rfl) ?_
      refine lv_iload_n hx hb dL_law_164 rfl (lv_at hl 3 rfl) ?_
      refine lv_iconst (v := 3) hx hb dL_law_165 (by decide) ?_
      refine lv_iadd hx hb dL_law_166 ?_
      refine lv_topi (fun x9 ex9 => ?_)
      have tx9 : x9.toInt = z3.toInt + (3 : Int32).toInt := by rw [ex9]; exact Jvm.Kit.i32_add (by omega) (by omega)
      refine va_sld hx hb hX hbl hbA hw.2 (vin ⟨by omega, by omega⟩) dL_law_167 ?_
      refine lv_topi (fun x10 ex10 => ?_)
      refine te_vi hw (ru_V (As := [.int x6, .int x8, .int x10]) (rest := []) (C := RX10) hx hb hml hts hown hk hw (c_X10_set l G hG σ hI.1 x6 x8 x10) (m4_in wd118 wd119 wd120 wd2) wd121 (en9 (rfl : nk 0 = 9)) rfl rfl rfl nm_yX10_set ⟨rfl, rfl⟩ ⟨by decide, by decide⟩ rfl hl.1 rfl (Nat.le_of_ble_eq_true rfl) dL_law_168 ⟨Nat.le_of_ble_eq_true rfl, Nat.le_of_ble_eq_true rfl⟩) (fun r12 σ11 H locs hr12 hw => ?_)
      have hI := hI.go hr12.1
      have hr12 := hr12.2
      have hJ12 := hI
      refine lv_pop hx hb dL_law_171 rfl ?_
      refine lv_aload_n hx hb dL_law_172 rfl (lv_at hl 2 rfl) ?_
      refine lv_aload_n hx hb dL_law_173 rfl (lv_at hl 0 rfl) ?_
      refine lv_iload_n hx hb dL_law_174 rfl (lv_at hl 3 rfl) ?_
      refine lv_iconst (v := 1) hx hb dL_law_175 (by decide) ?_
      refine lv_iadd hx hb dL_law_176 ?_
      refine lv_topi (fun x13 ex13 => ?_)
      have tx13 : x13.toInt = z3.toInt + (1 : Int32).toInt := by rw [ex13]; exact Jvm.Kit.i32_add (by omega) (by omega)
      refine va_sld hx hb hX hbl hbA hw.2 (vin ⟨by omega, by omega⟩) dL_law_177 ?_
      refine lv_topi (fun x14 ex14 => ?_)
      have qx14 : x14 = x6 := by rw [ex14, ex6, ex13, ex5]
      refine lv_aload_n hx hb dL_law_178 rfl (lv_at hl 0 rfl) ?_
      refine lv_iload_n hx hb dL_law_179 rfl (lv_at hl 3 rfl) ?_
      refine lv_iconst (v := 2) hx hb dL_law_180 (by decide) ?_
      refine lv_iadd hx hb dL_law_181 ?_
      refine lv_topi (fun x15 ex15 => ?_)
      have tx15 : x15.toInt = z3.toInt + (2 : Int32).toInt := by rw [ex15]; exact Jvm.Kit.i32_add (by omega) (by omega)
      refine va_sld hx hb hX hbl hbA hw.2 (vin ⟨by omega, by omega⟩) dL_law_182 ?_
      refine lv_topi (fun x16 ex16 => ?_)
      have qx16 : x16 = x8 := by rw [ex16, ex8, ex15, ex7]
      refine lv_aload_n hx hb dL_law_183 rfl (lv_at hl 0 rfl) ?_
      refine lv_iload_n hx hb dL_law_184 rfl (lv_at hl 3 rfl) ?_
      refine lv_iconst (v := 3) hx hb dL_law_185 (by decide) ?_
      refine lv_iadd hx hb dL_law_186 ?_
      refine lv_topi (fun x17 ex17 => ?_)
      have tx17 : x17.toInt = z3.toInt + (3 : Int32).toInt := by rw [ex17]; exact Jvm.Kit.i32_add (by omega) (by omega)
      refine va_sld hx hb hX hbl hbA hw.2 (vin ⟨by omega, by omega⟩) dL_law_187 ?_
      refine lv_topi (fun x18 ex18 => ?_)
      have qx18 : x18 = x10 := by rw [ex18, ex10, ex17, ex9]
      refine te_vi hw (ru_V (As := [.int x14, .int x16, .int x18]) (rest := []) (C := RX11) hx hb hml hts hown hk hw (c_X11_set l G hG σ11 hI.1 x14 x16 x18) (m4_in wd147 wd148 wd149 wd5) wd150 (en10 (rfl : nk 78 = 10)) rfl rfl rfl nm_yX11_set ⟨rfl, rfl⟩ ⟨by decide, by decide⟩ rfl hl.1 rfl (Nat.le_of_ble_eq_true rfl) dL_law_188 ⟨Nat.le_of_ble_eq_true rfl, Nat.le_of_ble_eq_true rfl⟩) (fun r20 σ19 H locs hr20 hw => ?_)
      have hI := hI.go hr20.1
      have hr20 := hr20.2
      have hJ20 := hI
      refine lv_pop hx hb dL_law_191 rfl ?_
      refine lv_goto (tgt := 880) hx hb dL_law_192 (by decide) ?_
      exact tail σ19 _ _ _ hI.1 hw (lv_sub hl [0, 1, 2, 3] rfl) (hR.go hI)
    have w32_0i : ¬ x4.toInt = 0 := fun z => w32_0 (Int32.toInt_inj.mp (z.trans (by decide)))
    by_cases w32_1 : x4 = (1 : Int32)
    · have w32_1i : x4.toInt = 1 := by rw [w32_1]; decide
      refine lv_tableIn (tgt := 195) hx hb dL_law_32 (by omega) (by omega) (by rw [w32_1i]; rfl) (by decide) ?_
      refine lv_aload_n hx hb dL_law_195 rfl (lv_at hl 1 rfl) ?_
      refine lv_aload_n hx hb dL_law_196 rfl (lv_at hl 0 rfl) ?_
      refine lv_iload_n hx hb dL_law_197 rfl (lv_at hl 3 rfl) ?_
      refine lv_iconst (v := 1) hx hb dL_law_198 (by decide) ?_
      refine lv_iadd hx hb dL_law_199 ?_
      refine lv_topi (fun x21 ex21 => ?_)
      have tx21 : x21.toInt = z3.toInt + (1 : Int32).toInt := by rw [ex21]; exact Jvm.Kit.i32_add (by omega) (by omega)
      refine va_sld hx hb hX hbl hbA hw.2 (vin ⟨by omega, by omega⟩) dL_law_200 ?_
      refine lv_topi (fun x22 ex22 => ?_)
      refine te_vi hw (ru_V (As := [.int x22]) (rest := []) (C := RX10) hx hb hml hts hown hk hw (c_X10_post l G hG σ hI.1 x22) (m4_in wd163 wd164 wd165 wd2) wd166 (en9 (rfl : nk 0 = 9)) rfl rfl rfl nm_yX10_post ⟨rfl, rfl⟩ ⟨by decide, by decide⟩ rfl hl.1 rfl (Nat.le_of_ble_eq_true rfl) dL_law_201 ⟨Nat.le_of_ble_eq_true rfl, Nat.le_of_ble_eq_true rfl⟩) (fun r24 σ23 H locs hr24 hw => ?_)
      have hA1 := hr24
      have hI0 := hI
      have hI : K0 σ23 σ23 := K0.rf (post_inv hr24)
      have hJ24 := hI
      refine lv_pop hx hb dL_law_204 rfl ?_
      refine lv_aload_n hx hb dL_law_205 rfl (lv_at hl 2 rfl) ?_
      refine lv_aload_n hx hb dL_law_206 rfl (lv_at hl 0 rfl) ?_
      refine lv_iload_n hx hb dL_law_207 rfl (lv_at hl 3 rfl) ?_
      refine lv_iconst (v := 1) hx hb dL_law_208 (by decide) ?_
      refine lv_iadd hx hb dL_law_209 ?_
      refine lv_topi (fun x25 ex25 => ?_)
      have tx25 : x25.toInt = z3.toInt + (1 : Int32).toInt := by rw [ex25]; exact Jvm.Kit.i32_add (by omega) (by omega)
      refine va_sld hx hb hX hbl hbA hw.2 (vin ⟨by omega, by omega⟩) dL_law_210 ?_
      refine lv_topi (fun x26 ex26 => ?_)
      have qx26 : x26 = x22 := by rw [ex26, ex22, ex25, ex21]
      refine te_vi hw (ru_V (As := [.int x26]) (rest := []) (C := RX11) hx hb hml hts hown hk hw (c_X11_post l G hG σ23 hI.1 x26) (m4_in wd180 wd181 wd182 wd5) wd183 (en10 (rfl : nk 78 = 10)) rfl rfl rfl nm_yX11_post ⟨rfl, rfl⟩ ⟨by decide, by decide⟩ rfl hl.1 rfl (Nat.le_of_ble_eq_true rfl) dL_law_211 ⟨Nat.le_of_ble_eq_true rfl, Nat.le_of_ble_eq_true rfl⟩) (fun r28 σ27 H locs hr28 hw => ?_)
      have hA2 := hr28
      rw [qx26] at hA2
      have hIR := post_both hR hI0.1 hA1 hA2
      have hI : K0 σ27 σ27 := K0.rf hIR.1.1
      have hR := hIR.1.2
      have hJ28 := hI
      refine lv_pop hx hb dL_law_214 rfl ?_
      refine lv_goto (tgt := 880) hx hb dL_law_215 (by decide) ?_
      exact tail σ27 _ _ _ hI.1 hw (lv_sub hl [0, 1, 2, 3] rfl) (hR.go hI)
    have w32_1i : ¬ x4.toInt = 1 := fun z => w32_1 (Int32.toInt_inj.mp (z.trans (by decide)))
    by_cases w32_2 : x4 = (2 : Int32)
    · have w32_2i : x4.toInt = 2 := by rw [w32_2]; decide
      refine lv_tableIn (tgt := 218) hx hb dL_law_32 (by omega) (by omega) (by rw [w32_2i]; rfl) (by decide) ?_
      refine lv_aload_n hx hb dL_law_218 rfl (lv_at hl 1 rfl) ?_
      refine te_vi hw (ru_V (As := []) (rest := []) (C := RX10) hx hb hml hts hown hk hw (c_X10_clear l G hG σ hI.1) (m4_in wd189 wd190 wd191 wd2) wd192 (en9 (rfl : nk 0 = 9)) rfl rfl rfl nm_yX10_clear ⟨rfl, rfl⟩ ⟨by decide, by decide⟩ rfl hl.1 rfl (Nat.le_of_ble_eq_true rfl) dL_law_219 ⟨Nat.le_of_ble_eq_true rfl, Nat.le_of_ble_eq_true rfl⟩) (fun r30 σ29 H locs hr30 hw => ?_)
      have hA1 := hr30
      have hI : K0 σ29 σ29 := K0.rf hr30.1.1
      have hJ30 := hI
      refine lv_aload_n hx hb dL_law_222 rfl (lv_at hl 2 rfl) ?_
      refine te_vi hw (ru_V (As := []) (rest := [.int r30]) (C := RX11) hx hb hml hts hown hk hw (c_X11_clear l G hG σ29 hI.1) (m4_in wd193 wd194 wd195 wd5) wd196 (en10 (rfl : nk 78 = 10)) rfl rfl rfl nm_yX11_clear ⟨rfl, rfl⟩ ⟨by decide, by decide⟩ rfl hl.1 rfl (Nat.le_of_ble_eq_true rfl) dL_law_223 ⟨Nat.le_of_ble_eq_true rfl, Nat.le_of_ble_eq_true rfl⟩) (fun r32 σ31 H locs hr32 hw => ?_)
      have hA2 := hr32
      have hIR := clear_both hR hA1 hA2
      have hI : K0 σ31 σ31 := K0.rf hIR.1.1
      have hR := hIR.1.2
      have hJ32 := hI
      refine lv_icmp_eq (tgt := 880) hx hb dL_law_226 (by decide) (fun c226 => ?_) (fun c226 => ?_)
      · exact tail σ31 _ _ _ hI.1 hw (lv_sub hl [0, 1, 2, 3] rfl) (hR.go hI)
      · exact absurd hIR.2 c226
    have w32_2i : ¬ x4.toInt = 2 := fun z => w32_2 (Int32.toInt_inj.mp (z.trans (by decide)))
    by_cases w32_3 : x4 = (3 : Int32)
    · have w32_3i : x4.toInt = 3 := by rw [w32_3]; decide
      refine lv_tableIn (tgt := 231) hx hb dL_law_32 (by omega) (by omega) (by rw [w32_3i]; rfl) (by decide) ?_
      refine lv_aload_n hx hb dL_law_231 rfl (lv_at hl 1 rfl) ?_
      refine lv_aload_n hx hb dL_law_232 rfl (lv_at hl 0 rfl) ?_
      refine lv_iload_n hx hb dL_law_233 rfl (lv_at hl 3 rfl) ?_
      refine lv_iconst (v := 1) hx hb dL_law_234 (by decide) ?_
      refine lv_iadd hx hb dL_law_235 ?_
      refine lv_topi (fun x33 ex33 => ?_)
      have tx33 : x33.toInt = z3.toInt + (1 : Int32).toInt := by rw [ex33]; exact Jvm.Kit.i32_add (by omega) (by omega)
      refine va_sld hx hb hX hbl hbA hw.2 (vin ⟨by omega, by omega⟩) dL_law_236 ?_
      refine lv_topi (fun x34 ex34 => ?_)
      refine te_vi hw (ru_V (As := [.int x34]) (rest := []) (C := RX10) hx hb hml hts hown hk hw (c_X10_say l G hG σ hI.1 x34) (m4_in wd197 wd198 wd199 wd2) wd200 (en9 (rfl : nk 0 = 9)) rfl rfl rfl nm_yX10_say ⟨rfl, rfl⟩ ⟨by decide, by decide⟩ rfl hl.1 rfl (Nat.le_of_ble_eq_true rfl) dL_law_237 ⟨Nat.le_of_ble_eq_true rfl, Nat.le_of_ble_eq_true rfl⟩) (fun r36 σ35 H locs hr36 hw => ?_)
      have hI := hI.go hr36.1
      have hr36 := hr36.2
      have hJ36 := hI
      refine lv_pop hx hb dL_law_240 rfl ?_
      refine lv_aload_n hx hb dL_law_241 rfl (lv_at hl 2 rfl) ?_
      refine lv_aload_n hx hb dL_law_242 rfl (lv_at hl 0 rfl) ?_
      refine lv_iload_n hx hb dL_law_243 rfl (lv_at hl 3 rfl) ?_
      refine lv_iconst (v := 1) hx hb dL_law_244 (by decide) ?_
      refine lv_iadd hx hb dL_law_245 ?_
      refine lv_topi (fun x37 ex37 => ?_)
      have tx37 : x37.toInt = z3.toInt + (1 : Int32).toInt := by rw [ex37]; exact Jvm.Kit.i32_add (by omega) (by omega)
      refine va_sld hx hb hX hbl hbA hw.2 (vin ⟨by omega, by omega⟩) dL_law_246 ?_
      refine lv_topi (fun x38 ex38 => ?_)
      have qx38 : x38 = x34 := by rw [ex38, ex34, ex37, ex33]
      refine te_vi hw (ru_V (As := [.int x38]) (rest := []) (C := RX11) hx hb hml hts hown hk hw (c_X11_say l G hG σ35 hI.1 x38) (m4_in wd207 wd208 wd209 wd5) wd210 (en10 (rfl : nk 78 = 10)) rfl rfl rfl nm_yX11_say ⟨rfl, rfl⟩ ⟨by decide, by decide⟩ rfl hl.1 rfl (Nat.le_of_ble_eq_true rfl) dL_law_247 ⟨Nat.le_of_ble_eq_true rfl, Nat.le_of_ble_eq_true rfl⟩) (fun r40 σ39 H locs hr40 hw => ?_)
      have hR := (hR.go hI).gr hr40.2
      have hI : K0 σ39 σ39 := K0.rf hr40.1
      have hJ40 := hI
      refine lv_pop hx hb dL_law_250 rfl ?_
      refine lv_goto (tgt := 880) hx hb dL_law_251 (by decide) ?_
      exact tail σ39 _ _ _ hI.1 hw (lv_sub hl [0, 1, 2, 3] rfl) (hR.go hI)
    have w32_3i : ¬ x4.toInt = 3 := fun z => w32_3 (Int32.toInt_inj.mp (z.trans (by decide)))
    by_cases w32_4 : x4 = (4 : Int32)
    · have w32_4i : x4.toInt = 4 := by rw [w32_4]; decide
      refine lv_tableIn (tgt := 254) hx hb dL_law_32 (by omega) (by omega) (by rw [w32_4i]; rfl) (by decide) ?_
      refine lv_aload_n hx hb dL_law_254 rfl (lv_at hl 1 rfl) ?_
      refine te_vi hw (ru_V (As := []) (rest := []) (C := RX10) hx hb hml hts hown hk hw (c_X10_wipe l G hG σ hI.1) (m4_in wd214 wd215 wd216 wd2) wd217 (en9 (rfl : nk 0 = 9)) rfl rfl rfl nm_yX10_wipe ⟨rfl, rfl⟩ ⟨by decide, by decide⟩ rfl hl.1 rfl (Nat.le_of_ble_eq_true rfl) dL_law_255 ⟨Nat.le_of_ble_eq_true rfl, Nat.le_of_ble_eq_true rfl⟩) (fun r42 σ41 H locs hr42 hw => ?_)
      have hI := hI.go hr42.1
      have hr42 := hr42.2
      have hJ42 := hI
      refine lv_pop hx hb dL_law_258 rfl ?_
      refine lv_aload_n hx hb dL_law_259 rfl (lv_at hl 2 rfl) ?_
      refine te_vi hw (ru_V (As := []) (rest := []) (C := RX11) hx hb hml hts hown hk hw (c_X11_wipe l G hG σ41 hI.1) (m4_in wd218 wd219 wd220 wd5) wd221 (en10 (rfl : nk 78 = 10)) rfl rfl rfl nm_yX11_wipe ⟨rfl, rfl⟩ ⟨by decide, by decide⟩ rfl hl.1 rfl (Nat.le_of_ble_eq_true rfl) dL_law_260 ⟨Nat.le_of_ble_eq_true rfl, Nat.le_of_ble_eq_true rfl⟩) (fun r44 σ43 H locs hr44 hw => ?_)
      have hR := (hR.go hI).gr hr44.2
      have hI : K0 σ43 σ43 := K0.rf hr44.1
      have hJ44 := hI
      refine lv_pop hx hb dL_law_263 rfl ?_
      refine lv_goto (tgt := 880) hx hb dL_law_264 (by decide) ?_
      exact tail σ43 _ _ _ hI.1 hw (lv_sub hl [0, 1, 2, 3] rfl) (hR.go hI)
    have w32_4i : ¬ x4.toInt = 4 := fun z => w32_4 (Int32.toInt_inj.mp (z.trans (by decide)))
    by_cases w32_5 : x4 = (5 : Int32)
    · have w32_5i : x4.toInt = 5 := by rw [w32_5]; decide
      refine lv_tableIn (tgt := 267) hx hb dL_law_32 (by omega) (by omega) (by rw [w32_5i]; rfl) (by decide) ?_
      refine lv_aload_n hx hb dL_law_267 rfl (lv_at hl 1 rfl) ?_
      refine te_vi hw (ru_V (As := []) (rest := []) (C := RX10) hx hb hml hts hown hk hw (c_X10_fault l G hG σ hI.1) (m4_in wd222 wd223 wd224 wd2) wd225 (en9 (rfl : nk 0 = 9)) rfl rfl rfl nm_yX10_fault ⟨rfl, rfl⟩ ⟨by decide, by decide⟩ rfl hl.1 rfl (Nat.le_of_ble_eq_true rfl) dL_law_268 ⟨Nat.le_of_ble_eq_true rfl, Nat.le_of_ble_eq_true rfl⟩) (fun r46 σ45 H locs hr46 hw => ?_)
      rw [hr46.1] at hw
      have hr46 := hr46.2
      have hJ46 := hI
      refine lv_pop hx hb dL_law_271 rfl ?_
      refine lv_aload_n hx hb dL_law_272 rfl (lv_at hl 2 rfl) ?_
      refine te_vi hw (ru_V (As := []) (rest := []) (C := RX11) hx hb hml hts hown hk hw (c_X11_fault l G hG σ hI.1) (m4_in wd240 wd241 wd242 wd5) wd243 (en10 (rfl : nk 78 = 10)) rfl rfl rfl nm_yX11_fault ⟨rfl, rfl⟩ ⟨by decide, by decide⟩ rfl hl.1 rfl (Nat.le_of_ble_eq_true rfl) dL_law_273 ⟨Nat.le_of_ble_eq_true rfl, Nat.le_of_ble_eq_true rfl⟩) (fun r48 σ47 H locs hr48 hw => ?_)
      rw [hr48.1] at hw
      have hr48 := hr48.2
      have hJ48 := hI
      refine lv_pop hx hb dL_law_276 rfl ?_
      refine lv_goto (tgt := 880) hx hb dL_law_277 (by decide) ?_
      exact tail σ _ _ _ hI.1 hw (lv_sub hl [0, 1, 2, 3] rfl) (hR.go hI)
    have w32_5i : ¬ x4.toInt = 5 := fun z => w32_5 (Int32.toInt_inj.mp (z.trans (by decide)))
    by_cases w32_6 : x4 = (6 : Int32)
    · have w32_6i : x4.toInt = 6 := by rw [w32_6]; decide
      refine lv_tableIn (tgt := 280) hx hb dL_law_32 (by omega) (by omega) (by rw [w32_6i]; rfl) (by decide) ?_
      refine lv_aload_n hx hb dL_law_280 rfl (lv_at hl 1 rfl) ?_
      refine te_vi hw (ru_V (As := []) (rest := []) (C := RX10) hx hb hml hts hown hk hw (c_X10_night l G hG σ hI.1) (m4_in wd257 wd258 wd259 wd2) wd260 (en9 (rfl : nk 0 = 9)) rfl rfl rfl nm_yX10_night ⟨rfl, rfl⟩ ⟨by decide, by decide⟩ rfl hl.1 rfl (Nat.le_of_ble_eq_true rfl) dL_law_281 ⟨Nat.le_of_ble_eq_true rfl, Nat.le_of_ble_eq_true rfl⟩) (fun r50 σ49 H locs hr50 hw => ?_)
      have hI := hI.go hr50.1
      have hr50 := hr50.2
      have hJ50 := hI
      refine lv_pop hx hb dL_law_284 rfl ?_
      refine lv_aload_n hx hb dL_law_285 rfl (lv_at hl 2 rfl) ?_
      refine te_vi hw (ru_V (As := []) (rest := []) (C := RX11) hx hb hml hts hown hk hw (c_X11_night l G hG σ49 hI.1) (m4_in wd326 wd327 wd328 wd5) wd329 (en10 (rfl : nk 78 = 10)) rfl rfl rfl nm_yX11_night ⟨rfl, rfl⟩ ⟨by decide, by decide⟩ rfl hl.1 rfl (Nat.le_of_ble_eq_true rfl) dL_law_286 ⟨Nat.le_of_ble_eq_true rfl, Nat.le_of_ble_eq_true rfl⟩) (fun r52 σ51 H locs hr52 hw => ?_)
      have hR := (hR.go hI).gr hr52.2
      have hI : K0 σ51 σ51 := K0.rf hr52.1
      have hJ52 := hI
      refine lv_pop hx hb dL_law_289 rfl ?_
      refine lv_goto (tgt := 880) hx hb dL_law_290 (by decide) ?_
      exact tail σ51 _ _ _ hI.1 hw (lv_sub hl [0, 1, 2, 3] rfl) (hR.go hI)
    have w32_6i : ¬ x4.toInt = 6 := fun z => w32_6 (Int32.toInt_inj.mp (z.trans (by decide)))
    by_cases w32_7 : x4 = (7 : Int32)
    · have w32_7i : x4.toInt = 7 := by rw [w32_7]; decide
      refine lv_tableIn (tgt := 293) hx hb dL_law_32 (by omega) (by omega) (by rw [w32_7i]; rfl) (by decide) ?_
      refine lv_aload_n hx hb dL_law_293 rfl (lv_at hl 1 rfl) ?_
      refine lv_aload_n hx hb dL_law_294 rfl (lv_at hl 0 rfl) ?_
      refine lv_iload_n hx hb dL_law_295 rfl (lv_at hl 3 rfl) ?_
      refine lv_iconst (v := 1) hx hb dL_law_296 (by decide) ?_
      refine lv_iadd hx hb dL_law_297 ?_
      refine lv_topi (fun x53 ex53 => ?_)
      have tx53 : x53.toInt = z3.toInt + (1 : Int32).toInt := by rw [ex53]; exact Jvm.Kit.i32_add (by omega) (by omega)
      refine va_sld hx hb hX hbl hbA hw.2 (vin ⟨by omega, by omega⟩) dL_law_298 ?_
      refine lv_topi (fun x54 ex54 => ?_)
      refine lv_aload_n hx hb dL_law_299 rfl (lv_at hl 0 rfl) ?_
      refine lv_iload_n hx hb dL_law_300 rfl (lv_at hl 3 rfl) ?_
      refine lv_iconst (v := 2) hx hb dL_law_301 (by decide) ?_
      refine lv_iadd hx hb dL_law_302 ?_
      refine lv_topi (fun x55 ex55 => ?_)
      have tx55 : x55.toInt = z3.toInt + (2 : Int32).toInt := by rw [ex55]; exact Jvm.Kit.i32_add (by omega) (by omega)
      refine va_sld hx hb hX hbl hbA hw.2 (vin ⟨by omega, by omega⟩) dL_law_303 ?_
      refine lv_topi (fun x56 ex56 => ?_)
      refine te_vi hw (ru_V (As := [.int x54, .int x56]) (rest := []) (C := RX10) hx hb hml hts hown hk hw (c_X10_about l G hG σ hI.1 x54 x56) (m4_in wd376 wd377 wd378 wd2) wd379 (en9 (rfl : nk 0 = 9)) rfl rfl rfl nm_yX10_about ⟨rfl, rfl⟩ ⟨by decide, by decide⟩ rfl hl.1 rfl (Nat.le_of_ble_eq_true rfl) dL_law_304 ⟨Nat.le_of_ble_eq_true rfl, Nat.le_of_ble_eq_true rfl⟩) (fun r58 σ57 H locs hr58 hw => ?_)
      rw [hr58.1] at hw
      have hr58 := hr58.2
      have hJ58 := hI
      refine lv_pop hx hb dL_law_307 rfl ?_
      refine lv_aload_n hx hb dL_law_308 rfl (lv_at hl 2 rfl) ?_
      refine lv_aload_n hx hb dL_law_309 rfl (lv_at hl 0 rfl) ?_
      refine lv_iload_n hx hb dL_law_310 rfl (lv_at hl 3 rfl) ?_
      refine lv_iconst (v := 1) hx hb dL_law_311 (by decide) ?_
      refine lv_iadd hx hb dL_law_312 ?_
      refine lv_topi (fun x59 ex59 => ?_)
      have tx59 : x59.toInt = z3.toInt + (1 : Int32).toInt := by rw [ex59]; exact Jvm.Kit.i32_add (by omega) (by omega)
      refine va_sld hx hb hX hbl hbA hw.2 (vin ⟨by omega, by omega⟩) dL_law_313 ?_
      refine lv_topi (fun x60 ex60 => ?_)
      have qx60 : x60 = x54 := by rw [ex60, ex54, ex59, ex53]
      refine lv_aload_n hx hb dL_law_314 rfl (lv_at hl 0 rfl) ?_
      refine lv_iload_n hx hb dL_law_315 rfl (lv_at hl 3 rfl) ?_
      refine lv_iconst (v := 2) hx hb dL_law_316 (by decide) ?_
      refine lv_iadd hx hb dL_law_317 ?_
      refine lv_topi (fun x61 ex61 => ?_)
      have tx61 : x61.toInt = z3.toInt + (2 : Int32).toInt := by rw [ex61]; exact Jvm.Kit.i32_add (by omega) (by omega)
      refine va_sld hx hb hX hbl hbA hw.2 (vin ⟨by omega, by omega⟩) dL_law_318 ?_
      refine lv_topi (fun x62 ex62 => ?_)
      have qx62 : x62 = x56 := by rw [ex62, ex56, ex61, ex55]
      refine te_vi hw (ru_V (As := [.int x60, .int x62]) (rest := []) (C := RX11) hx hb hml hts hown hk hw (c_X11_about l G hG σ hI.1 x60 x62) (m4_in wd380 wd381 wd382 wd5) wd383 (en10 (rfl : nk 78 = 10)) rfl rfl rfl nm_yX11_about ⟨rfl, rfl⟩ ⟨by decide, by decide⟩ rfl hl.1 rfl (Nat.le_of_ble_eq_true rfl) dL_law_319 ⟨Nat.le_of_ble_eq_true rfl, Nat.le_of_ble_eq_true rfl⟩) (fun r64 σ63 H locs hr64 hw => ?_)
      rw [hr64.1] at hw
      have hr64 := hr64.2
      have hJ64 := hI
      refine lv_pop hx hb dL_law_322 rfl ?_
      refine lv_goto (tgt := 880) hx hb dL_law_323 (by decide) ?_
      exact tail σ _ _ _ hI.1 hw (lv_sub hl [0, 1, 2, 3] rfl) (hR.go hI)
    have w32_7i : ¬ x4.toInt = 7 := fun z => w32_7 (Int32.toInt_inj.mp (z.trans (by decide)))
    by_cases w32_8 : x4 = (8 : Int32)
    · have w32_8i : x4.toInt = 8 := by rw [w32_8]; decide
      refine lv_tableIn (tgt := 326) hx hb dL_law_32 (by omega) (by omega) (by rw [w32_8i]; rfl) (by decide) ?_
      refine lv_aload_n hx hb dL_law_326 rfl (lv_at hl 1 rfl) ?_
      refine lv_aload_n hx hb dL_law_327 rfl (lv_at hl 0 rfl) ?_
      refine lv_iload_n hx hb dL_law_328 rfl (lv_at hl 3 rfl) ?_
      refine lv_iconst (v := 1) hx hb dL_law_329 (by decide) ?_
      refine lv_iadd hx hb dL_law_330 ?_
      refine lv_topi (fun x65 ex65 => ?_)
      have tx65 : x65.toInt = z3.toInt + (1 : Int32).toInt := by rw [ex65]; exact Jvm.Kit.i32_add (by omega) (by omega)
      refine va_sld hx hb hX hbl hbA hw.2 (vin ⟨by omega, by omega⟩) dL_law_331 ?_
      refine lv_topi (fun x66 ex66 => ?_)
      refine lv_aload_n hx hb dL_law_332 rfl (lv_at hl 0 rfl) ?_
      refine lv_iload_n hx hb dL_law_333 rfl (lv_at hl 3 rfl) ?_
      refine lv_iconst (v := 2) hx hb dL_law_334 (by decide) ?_
      refine lv_iadd hx hb dL_law_335 ?_
      refine lv_topi (fun x67 ex67 => ?_)
      have tx67 : x67.toInt = z3.toInt + (2 : Int32).toInt := by rw [ex67]; exact Jvm.Kit.i32_add (by omega) (by omega)
      refine va_sld hx hb hX hbl hbA hw.2 (vin ⟨by omega, by omega⟩) dL_law_336 ?_
      refine lv_topi (fun x68 ex68 => ?_)
      refine te_vi hw (ru_V (As := [.int x66, .int x68]) (rest := []) (C := RX10) hx hb hml hts hown hk hw (c_X10_up l G hG σ hI.1 x66 x68) (m4_in wd384 wd385 wd386 wd2) wd387 (en9 (rfl : nk 0 = 9)) rfl rfl rfl nm_yX10_up ⟨rfl, rfl⟩ ⟨by decide, by decide⟩ rfl hl.1 rfl (Nat.le_of_ble_eq_true rfl) dL_law_337 ⟨Nat.le_of_ble_eq_true rfl, Nat.le_of_ble_eq_true rfl⟩) (fun r70 σ69 H locs hr70 hw => ?_)
      rw [hr70.1] at hw
      have hr70 := hr70.2
      have hJ70 := hI
      refine lv_pop hx hb dL_law_340 rfl ?_
      refine lv_aload_n hx hb dL_law_341 rfl (lv_at hl 2 rfl) ?_
      refine lv_aload_n hx hb dL_law_342 rfl (lv_at hl 0 rfl) ?_
      refine lv_iload_n hx hb dL_law_343 rfl (lv_at hl 3 rfl) ?_
      refine lv_iconst (v := 1) hx hb dL_law_344 (by decide) ?_
      refine lv_iadd hx hb dL_law_345 ?_
      refine lv_topi (fun x71 ex71 => ?_)
      have tx71 : x71.toInt = z3.toInt + (1 : Int32).toInt := by rw [ex71]; exact Jvm.Kit.i32_add (by omega) (by omega)
      refine va_sld hx hb hX hbl hbA hw.2 (vin ⟨by omega, by omega⟩) dL_law_346 ?_
      refine lv_topi (fun x72 ex72 => ?_)
      have qx72 : x72 = x66 := by rw [ex72, ex66, ex71, ex65]
      refine lv_aload_n hx hb dL_law_347 rfl (lv_at hl 0 rfl) ?_
      refine lv_iload_n hx hb dL_law_348 rfl (lv_at hl 3 rfl) ?_
      refine lv_iconst (v := 2) hx hb dL_law_349 (by decide) ?_
      refine lv_iadd hx hb dL_law_350 ?_
      refine lv_topi (fun x73 ex73 => ?_)
      have tx73 : x73.toInt = z3.toInt + (2 : Int32).toInt := by rw [ex73]; exact Jvm.Kit.i32_add (by omega) (by omega)
      refine va_sld hx hb hX hbl hbA hw.2 (vin ⟨by omega, by omega⟩) dL_law_351 ?_
      refine lv_topi (fun x74 ex74 => ?_)
      have qx74 : x74 = x68 := by rw [ex74, ex68, ex73, ex67]
      refine te_vi hw (ru_V (As := [.int x72, .int x74]) (rest := []) (C := RX11) hx hb hml hts hown hk hw (c_X11_up l G hG σ hI.1 x72 x74) (m4_in wd395 wd396 wd397 wd5) wd398 (en10 (rfl : nk 78 = 10)) rfl rfl rfl nm_yX11_up ⟨rfl, rfl⟩ ⟨by decide, by decide⟩ rfl hl.1 rfl (Nat.le_of_ble_eq_true rfl) dL_law_352 ⟨Nat.le_of_ble_eq_true rfl, Nat.le_of_ble_eq_true rfl⟩) (fun r76 σ75 H locs hr76 hw => ?_)
      rw [hr76.1] at hw
      have hr76 := hr76.2
      have hJ76 := hI
      refine lv_pop hx hb dL_law_355 rfl ?_
      refine lv_goto (tgt := 880) hx hb dL_law_356 (by decide) ?_
      exact tail σ _ _ _ hI.1 hw (lv_sub hl [0, 1, 2, 3] rfl) (hR.go hI)
    have w32_8i : ¬ x4.toInt = 8 := fun z => w32_8 (Int32.toInt_inj.mp (z.trans (by decide)))
    by_cases w32_9 : x4 = (9 : Int32)
    · have w32_9i : x4.toInt = 9 := by rw [w32_9]; decide
      refine lv_tableIn (tgt := 359) hx hb dL_law_32 (by omega) (by omega) (by rw [w32_9i]; rfl) (by decide) ?_
      refine lv_aload_n hx hb dL_law_359 rfl (lv_at hl 1 rfl) ?_
      refine lv_aload_n hx hb dL_law_360 rfl (lv_at hl 0 rfl) ?_
      refine lv_iload_n hx hb dL_law_361 rfl (lv_at hl 3 rfl) ?_
      refine lv_iconst (v := 1) hx hb dL_law_362 (by decide) ?_
      refine lv_iadd hx hb dL_law_363 ?_
      refine lv_topi (fun x77 ex77 => ?_)
      have tx77 : x77.toInt = z3.toInt + (1 : Int32).toInt := by rw [ex77]; exact Jvm.Kit.i32_add (by omega) (by omega)
      refine va_sld hx hb hX hbl hbA hw.2 (vin ⟨by omega, by omega⟩) dL_law_364 ?_
      refine lv_topi (fun x78 ex78 => ?_)
      refine lv_aload_n hx hb dL_law_365 rfl (lv_at hl 0 rfl) ?_
      refine lv_iload_n hx hb dL_law_366 rfl (lv_at hl 3 rfl) ?_
      refine lv_iconst (v := 2) hx hb dL_law_367 (by decide) ?_
      refine lv_iadd hx hb dL_law_368 ?_
      refine lv_topi (fun x79 ex79 => ?_)
      have tx79 : x79.toInt = z3.toInt + (2 : Int32).toInt := by rw [ex79]; exact Jvm.Kit.i32_add (by omega) (by omega)
      refine va_sld hx hb hX hbl hbA hw.2 (vin ⟨by omega, by omega⟩) dL_law_369 ?_
      refine lv_topi (fun x80 ex80 => ?_)
      refine te_vi hw (ru_V (As := [.int x78, .int x80]) (rest := []) (C := RX10) hx hb hml hts hown hk hw (c_X10_row l G hG σ hI.1 x78 x80) (m4_in wd406 wd407 wd408 wd2) wd409 (en9 (rfl : nk 0 = 9)) rfl rfl rfl nm_yX10_row ⟨rfl, rfl⟩ ⟨by decide, by decide⟩ rfl hl.1 rfl (Nat.le_of_ble_eq_true rfl) dL_law_370 ⟨Nat.le_of_ble_eq_true rfl, Nat.le_of_ble_eq_true rfl⟩) (fun r82 σ81 H locs hr82 hw => ?_)
      have hA1 := hr82
      have hI : K0 σ81 σ81 := K0.rf (row_inv hr82)
      have hJ82 := hI
      refine lv_pop hx hb dL_law_373 rfl ?_
      refine lv_aload_n hx hb dL_law_374 rfl (lv_at hl 2 rfl) ?_
      refine lv_aload_n hx hb dL_law_375 rfl (lv_at hl 0 rfl) ?_
      refine lv_iload_n hx hb dL_law_376 rfl (lv_at hl 3 rfl) ?_
      refine lv_iconst (v := 1) hx hb dL_law_377 (by decide) ?_
      refine lv_iadd hx hb dL_law_378 ?_
      refine lv_topi (fun x83 ex83 => ?_)
      have tx83 : x83.toInt = z3.toInt + (1 : Int32).toInt := by rw [ex83]; exact Jvm.Kit.i32_add (by omega) (by omega)
      refine va_sld hx hb hX hbl hbA hw.2 (vin ⟨by omega, by omega⟩) dL_law_379 ?_
      refine lv_topi (fun x84 ex84 => ?_)
      have qx84 : x84 = x78 := by rw [ex84, ex78, ex83, ex77]
      refine lv_aload_n hx hb dL_law_380 rfl (lv_at hl 0 rfl) ?_
      refine lv_iload_n hx hb dL_law_381 rfl (lv_at hl 3 rfl) ?_
      refine lv_iconst (v := 2) hx hb dL_law_382 (by decide) ?_
      refine lv_iadd hx hb dL_law_383 ?_
      refine lv_topi (fun x85 ex85 => ?_)
      have tx85 : x85.toInt = z3.toInt + (2 : Int32).toInt := by rw [ex85]; exact Jvm.Kit.i32_add (by omega) (by omega)
      refine va_sld hx hb hX hbl hbA hw.2 (vin ⟨by omega, by omega⟩) dL_law_384 ?_
      refine lv_topi (fun x86 ex86 => ?_)
      have qx86 : x86 = x80 := by rw [ex86, ex80, ex85, ex79]
      refine te_vi hw (ru_V (As := [.int x84, .int x86]) (rest := []) (C := RX11) hx hb hml hts hown hk hw (c_X11_row l G hG σ81 hI.1 x84 x86) (m4_in wd411 wd412 wd413 wd5) wd414 (en10 (rfl : nk 78 = 10)) rfl rfl rfl nm_yX11_row ⟨rfl, rfl⟩ ⟨by decide, by decide⟩ rfl hl.1 rfl (Nat.le_of_ble_eq_true rfl) dL_law_385 ⟨Nat.le_of_ble_eq_true rfl, Nat.le_of_ble_eq_true rfl⟩) (fun r88 σ87 H locs hr88 hw => ?_)
      have hA2 := hr88
      rw [qx84, qx86] at hA2
      have hIR := row_both hR hA1 hA2
      have hI : K0 σ87 σ87 := K0.rf hIR.1.1
      have hR := hIR.1.2
      have hJ88 := hI
      refine lv_pop hx hb dL_law_388 rfl ?_
      refine lv_goto (tgt := 880) hx hb dL_law_389 (by decide) ?_
      exact tail σ87 _ _ _ hI.1 hw (lv_sub hl [0, 1, 2, 3] rfl) (hR.go hI)
    have w32_9i : ¬ x4.toInt = 9 := fun z => w32_9 (Int32.toInt_inj.mp (z.trans (by decide)))
    by_cases w32_10 : x4 = (10 : Int32)
    · have w32_10i : x4.toInt = 10 := by rw [w32_10]; decide
      refine lv_tableIn (tgt := 392) hx hb dL_law_32 (by omega) (by omega) (by rw [w32_10i]; rfl) (by decide) ?_
      refine lv_aload_n hx hb dL_law_392 rfl (lv_at hl 1 rfl) ?_
      refine lv_aload_n hx hb dL_law_393 rfl (lv_at hl 0 rfl) ?_
      refine lv_iload_n hx hb dL_law_394 rfl (lv_at hl 3 rfl) ?_
      refine lv_iconst (v := 1) hx hb dL_law_395 (by decide) ?_
      refine lv_iadd hx hb dL_law_396 ?_
      refine lv_topi (fun x89 ex89 => ?_)
      have tx89 : x89.toInt = z3.toInt + (1 : Int32).toInt := by rw [ex89]; exact Jvm.Kit.i32_add (by omega) (by omega)
      refine va_sld hx hb hX hbl hbA hw.2 (vin ⟨by omega, by omega⟩) dL_law_397 ?_
      refine lv_topi (fun x90 ex90 => ?_)
      refine lv_aload_n hx hb dL_law_398 rfl (lv_at hl 0 rfl) ?_
      refine lv_iload_n hx hb dL_law_399 rfl (lv_at hl 3 rfl) ?_
      refine lv_iconst (v := 2) hx hb dL_law_400 (by decide) ?_
      refine lv_iadd hx hb dL_law_401 ?_
      refine lv_topi (fun x91 ex91 => ?_)
      have tx91 : x91.toInt = z3.toInt + (2 : Int32).toInt := by rw [ex91]; exact Jvm.Kit.i32_add (by omega) (by omega)
      refine va_sld hx hb hX hbl hbA hw.2 (vin ⟨by omega, by omega⟩) dL_law_402 ?_
      refine lv_topi (fun x92 ex92 => ?_)
      refine te_vi hw (ru_V (As := [.int x90, .int x92]) (rest := []) (C := RX10) hx hb hml hts hown hk hw (c_X10_strayed l G hG σ hI.1 x90 x92) (m4_in wd415 wd416 wd417 wd2) wd418 (en9 (rfl : nk 0 = 9)) rfl rfl rfl nm_yX10_strayed ⟨rfl, rfl⟩ ⟨by decide, by decide⟩ rfl hl.1 rfl (Nat.le_of_ble_eq_true rfl) dL_law_403 ⟨Nat.le_of_ble_eq_true rfl, Nat.le_of_ble_eq_true rfl⟩) (fun r94 σ93 H locs hr94 hw => ?_)
      rw [hr94.1] at hw
      have hr94 := hr94.2
      have hJ94 := hI
      refine lv_pop hx hb dL_law_406 rfl ?_
      refine lv_aload_n hx hb dL_law_407 rfl (lv_at hl 2 rfl) ?_
      refine lv_aload_n hx hb dL_law_408 rfl (lv_at hl 0 rfl) ?_
      refine lv_iload_n hx hb dL_law_409 rfl (lv_at hl 3 rfl) ?_
      refine lv_iconst (v := 1) hx hb dL_law_410 (by decide) ?_
      refine lv_iadd hx hb dL_law_411 ?_
      refine lv_topi (fun x95 ex95 => ?_)
      have tx95 : x95.toInt = z3.toInt + (1 : Int32).toInt := by rw [ex95]; exact Jvm.Kit.i32_add (by omega) (by omega)
      refine va_sld hx hb hX hbl hbA hw.2 (vin ⟨by omega, by omega⟩) dL_law_412 ?_
      refine lv_topi (fun x96 ex96 => ?_)
      have qx96 : x96 = x90 := by rw [ex96, ex90, ex95, ex89]
      refine lv_aload_n hx hb dL_law_413 rfl (lv_at hl 0 rfl) ?_
      refine lv_iload_n hx hb dL_law_414 rfl (lv_at hl 3 rfl) ?_
      refine lv_iconst (v := 2) hx hb dL_law_415 (by decide) ?_
      refine lv_iadd hx hb dL_law_416 ?_
      refine lv_topi (fun x97 ex97 => ?_)
      have tx97 : x97.toInt = z3.toInt + (2 : Int32).toInt := by rw [ex97]; exact Jvm.Kit.i32_add (by omega) (by omega)
      refine va_sld hx hb hX hbl hbA hw.2 (vin ⟨by omega, by omega⟩) dL_law_417 ?_
      refine lv_topi (fun x98 ex98 => ?_)
      have qx98 : x98 = x92 := by rw [ex98, ex92, ex97, ex91]
      refine te_vi hw (ru_V (As := [.int x96, .int x98]) (rest := []) (C := RX11) hx hb hml hts hown hk hw (c_X11_strayed l G hG σ hI.1 x96 x98) (m4_in wd428 wd429 wd430 wd5) wd431 (en10 (rfl : nk 78 = 10)) rfl rfl rfl nm_yX11_strayed ⟨rfl, rfl⟩ ⟨by decide, by decide⟩ rfl hl.1 rfl (Nat.le_of_ble_eq_true rfl) dL_law_418 ⟨Nat.le_of_ble_eq_true rfl, Nat.le_of_ble_eq_true rfl⟩) (fun r100 σ99 H locs hr100 hw => ?_)
      rw [hr100.1] at hw
      have hr100 := hr100.2
      have hJ100 := hI
      refine lv_pop hx hb dL_law_421 rfl ?_
      refine lv_goto (tgt := 880) hx hb dL_law_422 (by decide) ?_
      exact tail σ _ _ _ hI.1 hw (lv_sub hl [0, 1, 2, 3] rfl) (hR.go hI)
    have w32_10i : ¬ x4.toInt = 10 := fun z => w32_10 (Int32.toInt_inj.mp (z.trans (by decide)))
    by_cases w32_11 : x4 = (11 : Int32)
    · have w32_11i : x4.toInt = 11 := by rw [w32_11]; decide
      refine lv_tableIn (tgt := 425) hx hb dL_law_32 (by omega) (by omega) (by rw [w32_11i]; rfl) (by decide) ?_
      refine lv_aload_n hx hb dL_law_425 rfl (lv_at hl 1 rfl) ?_
      refine lv_aload_n hx hb dL_law_426 rfl (lv_at hl 0 rfl) ?_
      refine lv_iload_n hx hb dL_law_427 rfl (lv_at hl 3 rfl) ?_
      refine lv_iconst (v := 1) hx hb dL_law_428 (by decide) ?_
      refine lv_iadd hx hb dL_law_429 ?_
      refine lv_topi (fun x101 ex101 => ?_)
      have tx101 : x101.toInt = z3.toInt + (1 : Int32).toInt := by rw [ex101]; exact Jvm.Kit.i32_add (by omega) (by omega)
      refine va_sld hx hb hX hbl hbA hw.2 (vin ⟨by omega, by omega⟩) dL_law_430 ?_
      refine lv_topi (fun x102 ex102 => ?_)
      refine lv_aload_n hx hb dL_law_431 rfl (lv_at hl 0 rfl) ?_
      refine lv_iload_n hx hb dL_law_432 rfl (lv_at hl 3 rfl) ?_
      refine lv_iconst (v := 2) hx hb dL_law_433 (by decide) ?_
      refine lv_iadd hx hb dL_law_434 ?_
      refine lv_topi (fun x103 ex103 => ?_)
      have tx103 : x103.toInt = z3.toInt + (2 : Int32).toInt := by rw [ex103]; exact Jvm.Kit.i32_add (by omega) (by omega)
      refine va_sld hx hb hX hbl hbA hw.2 (vin ⟨by omega, by omega⟩) dL_law_435 ?_
      refine lv_topi (fun x104 ex104 => ?_)
      refine te_vi hw (ru_V (As := [.int x102, .int x104]) (rest := []) (C := RX10) hx hb hml hts hown hk hw (c_X10_guessed l G hG σ hI.1 x102 x104) (m4_in wd432 wd433 wd434 wd2) wd435 (en9 (rfl : nk 0 = 9)) rfl rfl rfl nm_yX10_guessed ⟨rfl, rfl⟩ ⟨by decide, by decide⟩ rfl hl.1 rfl (Nat.le_of_ble_eq_true rfl) dL_law_436 ⟨Nat.le_of_ble_eq_true rfl, Nat.le_of_ble_eq_true rfl⟩) (fun r106 σ105 H locs hr106 hw => ?_)
      have hI := hI.go hr106.1
      have hr106 := hr106.2
      have hJ106 := hI
      refine lv_pop hx hb dL_law_439 rfl ?_
      refine lv_aload_n hx hb dL_law_440 rfl (lv_at hl 2 rfl) ?_
      refine lv_aload_n hx hb dL_law_441 rfl (lv_at hl 0 rfl) ?_
      refine lv_iload_n hx hb dL_law_442 rfl (lv_at hl 3 rfl) ?_
      refine lv_iconst (v := 1) hx hb dL_law_443 (by decide) ?_
      refine lv_iadd hx hb dL_law_444 ?_
      refine lv_topi (fun x107 ex107 => ?_)
      have tx107 : x107.toInt = z3.toInt + (1 : Int32).toInt := by rw [ex107]; exact Jvm.Kit.i32_add (by omega) (by omega)
      refine va_sld hx hb hX hbl hbA hw.2 (vin ⟨by omega, by omega⟩) dL_law_445 ?_
      refine lv_topi (fun x108 ex108 => ?_)
      have qx108 : x108 = x102 := by rw [ex108, ex102, ex107, ex101]
      refine lv_aload_n hx hb dL_law_446 rfl (lv_at hl 0 rfl) ?_
      refine lv_iload_n hx hb dL_law_447 rfl (lv_at hl 3 rfl) ?_
      refine lv_iconst (v := 2) hx hb dL_law_448 (by decide) ?_
      refine lv_iadd hx hb dL_law_449 ?_
      refine lv_topi (fun x109 ex109 => ?_)
      have tx109 : x109.toInt = z3.toInt + (2 : Int32).toInt := by rw [ex109]; exact Jvm.Kit.i32_add (by omega) (by omega)
      refine va_sld hx hb hX hbl hbA hw.2 (vin ⟨by omega, by omega⟩) dL_law_450 ?_
      refine lv_topi (fun x110 ex110 => ?_)
      have qx110 : x110 = x104 := by rw [ex110, ex104, ex109, ex103]
      refine te_vi hw (ru_V (As := [.int x108, .int x110]) (rest := []) (C := RX11) hx hb hml hts hown hk hw (c_X11_guessed l G hG σ105 hI.1 x108 x110) (m4_in wd469 wd470 wd471 wd5) wd472 (en10 (rfl : nk 78 = 10)) rfl rfl rfl nm_yX11_guessed ⟨rfl, rfl⟩ ⟨by decide, by decide⟩ rfl hl.1 rfl (Nat.le_of_ble_eq_true rfl) dL_law_451 ⟨Nat.le_of_ble_eq_true rfl, Nat.le_of_ble_eq_true rfl⟩) (fun r112 σ111 H locs hr112 hw => ?_)
      have hI := hI.go hr112.1
      have hr112 := hr112.2
      have hJ112 := hI
      refine lv_pop hx hb dL_law_454 rfl ?_
      refine lv_goto (tgt := 880) hx hb dL_law_455 (by decide) ?_
      exact tail σ111 _ _ _ hI.1 hw (lv_sub hl [0, 1, 2, 3] rfl) (hR.go hI)
    have w32_11i : ¬ x4.toInt = 11 := fun z => w32_11 (Int32.toInt_inj.mp (z.trans (by decide)))
    by_cases w32_12 : x4 = (12 : Int32)
    · have w32_12i : x4.toInt = 12 := by rw [w32_12]; decide
      refine lv_tableIn (tgt := 458) hx hb dL_law_32 (by omega) (by omega) (by rw [w32_12i]; rfl) (by decide) ?_
      refine lv_aload_n hx hb dL_law_458 rfl (lv_at hl 1 rfl) ?_
      refine lv_aload_n hx hb dL_law_459 rfl (lv_at hl 0 rfl) ?_
      refine lv_iload_n hx hb dL_law_460 rfl (lv_at hl 3 rfl) ?_
      refine lv_iconst (v := 1) hx hb dL_law_461 (by decide) ?_
      refine lv_iadd hx hb dL_law_462 ?_
      refine lv_topi (fun x113 ex113 => ?_)
      have tx113 : x113.toInt = z3.toInt + (1 : Int32).toInt := by rw [ex113]; exact Jvm.Kit.i32_add (by omega) (by omega)
      refine va_sld hx hb hX hbl hbA hw.2 (vin ⟨by omega, by omega⟩) dL_law_463 ?_
      refine lv_topi (fun x114 ex114 => ?_)
      refine lv_aload_n hx hb dL_law_464 rfl (lv_at hl 0 rfl) ?_
      refine lv_iload_n hx hb dL_law_465 rfl (lv_at hl 3 rfl) ?_
      refine lv_iconst (v := 2) hx hb dL_law_466 (by decide) ?_
      refine lv_iadd hx hb dL_law_467 ?_
      refine lv_topi (fun x115 ex115 => ?_)
      have tx115 : x115.toInt = z3.toInt + (2 : Int32).toInt := by rw [ex115]; exact Jvm.Kit.i32_add (by omega) (by omega)
      refine va_sld hx hb hX hbl hbA hw.2 (vin ⟨by omega, by omega⟩) dL_law_468 ?_
      refine lv_topi (fun x116 ex116 => ?_)
      refine lv_aload_n hx hb dL_law_469 rfl (lv_at hl 0 rfl) ?_
      refine lv_iload_n hx hb dL_law_470 rfl (lv_at hl 3 rfl) ?_
      refine lv_iconst (v := 3) hx hb dL_law_471 (by decide) ?_
      refine lv_iadd hx hb dL_law_472 ?_
      refine lv_topi (fun x117 ex117 => ?_)
      have tx117 : x117.toInt = z3.toInt + (3 : Int32).toInt := by rw [ex117]; exact Jvm.Kit.i32_add (by omega) (by omega)
      refine va_sld hx hb hX hbl hbA hw.2 (vin ⟨by omega, by omega⟩) dL_law_473 ?_
      refine lv_topi (fun x118 ex118 => ?_)
      refine te_vi hw (ru_V (As := [.int x114, .int x116, .int x118]) (rest := []) (C := RX10) hx hb hml hts hown hk hw (c_X10_spiral l G hG σ hI.1 x114 x116 x118) (m4_in wd481 wd482 wd483 wd2) wd484 (en9 (rfl : nk 0 = 9)) rfl rfl rfl nm_yX10_spiral ⟨rfl, rfl⟩ ⟨by decide, by decide⟩ rfl hl.1 rfl (Nat.le_of_ble_eq_true rfl) dL_law_474 ⟨Nat.le_of_ble_eq_true rfl, Nat.le_of_ble_eq_true rfl⟩) (fun r120 σ119 H locs hr120 hw => ?_)
      have hI := hI.go hr120.1
      have hr120 := hr120.2
      have hJ120 := hI
      refine lv_pop hx hb dL_law_477 rfl ?_
      refine lv_aload_n hx hb dL_law_478 rfl (lv_at hl 2 rfl) ?_
      refine lv_aload_n hx hb dL_law_479 rfl (lv_at hl 0 rfl) ?_
      refine lv_iload_n hx hb dL_law_480 rfl (lv_at hl 3 rfl) ?_
      refine lv_iconst (v := 1) hx hb dL_law_481 (by decide) ?_
      refine lv_iadd hx hb dL_law_482 ?_
      refine lv_topi (fun x121 ex121 => ?_)
      have tx121 : x121.toInt = z3.toInt + (1 : Int32).toInt := by rw [ex121]; exact Jvm.Kit.i32_add (by omega) (by omega)
      refine va_sld hx hb hX hbl hbA hw.2 (vin ⟨by omega, by omega⟩) dL_law_483 ?_
      refine lv_topi (fun x122 ex122 => ?_)
      have qx122 : x122 = x114 := by rw [ex122, ex114, ex121, ex113]
      refine lv_aload_n hx hb dL_law_484 rfl (lv_at hl 0 rfl) ?_
      refine lv_iload_n hx hb dL_law_485 rfl (lv_at hl 3 rfl) ?_
      refine lv_iconst (v := 2) hx hb dL_law_486 (by decide) ?_
      refine lv_iadd hx hb dL_law_487 ?_
      refine lv_topi (fun x123 ex123 => ?_)
      have tx123 : x123.toInt = z3.toInt + (2 : Int32).toInt := by rw [ex123]; exact Jvm.Kit.i32_add (by omega) (by omega)
      refine va_sld hx hb hX hbl hbA hw.2 (vin ⟨by omega, by omega⟩) dL_law_488 ?_
      refine lv_topi (fun x124 ex124 => ?_)
      have qx124 : x124 = x116 := by rw [ex124, ex116, ex123, ex115]
      refine lv_aload_n hx hb dL_law_489 rfl (lv_at hl 0 rfl) ?_
      refine lv_iload_n hx hb dL_law_490 rfl (lv_at hl 3 rfl) ?_
      refine lv_iconst (v := 3) hx hb dL_law_491 (by decide) ?_
      refine lv_iadd hx hb dL_law_492 ?_
      refine lv_topi (fun x125 ex125 => ?_)
      have tx125 : x125.toInt = z3.toInt + (3 : Int32).toInt := by rw [ex125]; exact Jvm.Kit.i32_add (by omega) (by omega)
      refine va_sld hx hb hX hbl hbA hw.2 (vin ⟨by omega, by omega⟩) dL_law_493 ?_
      refine lv_topi (fun x126 ex126 => ?_)
      have qx126 : x126 = x118 := by rw [ex126, ex118, ex125, ex117]
      refine te_vi hw (ru_V (As := [.int x122, .int x124, .int x126]) (rest := []) (C := RX11) hx hb hml hts hown hk hw (c_X11_spiral l G hG σ119 hI.1 x122 x124 x126) (m4_in wd499 wd500 wd501 wd5) wd502 (en10 (rfl : nk 78 = 10)) rfl rfl rfl nm_yX11_spiral ⟨rfl, rfl⟩ ⟨by decide, by decide⟩ rfl hl.1 rfl (Nat.le_of_ble_eq_true rfl) dL_law_494 ⟨Nat.le_of_ble_eq_true rfl, Nat.le_of_ble_eq_true rfl⟩) (fun r128 σ127 H locs hr128 hw => ?_)
      have hI := hI.go hr128.1
      have hr128 := hr128.2
      have hJ128 := hI
      refine lv_pop hx hb dL_law_497 rfl ?_
      refine lv_goto (tgt := 880) hx hb dL_law_498 (by decide) ?_
      exact tail σ127 _ _ _ hI.1 hw (lv_sub hl [0, 1, 2, 3] rfl) (hR.go hI)
    have w32_12i : ¬ x4.toInt = 12 := fun z => w32_12 (Int32.toInt_inj.mp (z.trans (by decide)))
    by_cases w32_13 : x4 = (13 : Int32)
    · have w32_13i : x4.toInt = 13 := by rw [w32_13]; decide
      refine lv_tableIn (tgt := 501) hx hb dL_law_32 (by omega) (by omega) (by rw [w32_13i]; rfl) (by decide) ?_
      refine lv_aload_n hx hb dL_law_501 rfl (lv_at hl 1 rfl) ?_
      refine lv_aload_n hx hb dL_law_502 rfl (lv_at hl 0 rfl) ?_
      refine lv_iload_n hx hb dL_law_503 rfl (lv_at hl 3 rfl) ?_
      refine lv_iconst (v := 1) hx hb dL_law_504 (by decide) ?_
      refine lv_iadd hx hb dL_law_505 ?_
      refine lv_topi (fun x129 ex129 => ?_)
      have tx129 : x129.toInt = z3.toInt + (1 : Int32).toInt := by rw [ex129]; exact Jvm.Kit.i32_add (by omega) (by omega)
      refine va_sld hx hb hX hbl hbA hw.2 (vin ⟨by omega, by omega⟩) dL_law_506 ?_
      refine lv_topi (fun x130 ex130 => ?_)
      refine lv_aload_n hx hb dL_law_507 rfl (lv_at hl 0 rfl) ?_
      refine lv_iload_n hx hb dL_law_508 rfl (lv_at hl 3 rfl) ?_
      refine lv_iconst (v := 2) hx hb dL_law_509 (by decide) ?_
      refine lv_iadd hx hb dL_law_510 ?_
      refine lv_topi (fun x131 ex131 => ?_)
      have tx131 : x131.toInt = z3.toInt + (2 : Int32).toInt := by rw [ex131]; exact Jvm.Kit.i32_add (by omega) (by omega)
      refine va_sld hx hb hX hbl hbA hw.2 (vin ⟨by omega, by omega⟩) dL_law_511 ?_
      refine lv_topi (fun x132 ex132 => ?_)
      refine te_vi hw (ru_V (As := [.int x130, .int x132]) (rest := []) (C := RX10) hx hb hml hts hown hk hw (c_X10_bells l G hG σ hI.1 x130 x132) (m4_in wd510 wd511 wd512 wd2) wd513 (en9 (rfl : nk 0 = 9)) rfl rfl rfl nm_yX10_bells ⟨rfl, rfl⟩ ⟨by decide, by decide⟩ rfl hl.1 rfl (Nat.le_of_ble_eq_true rfl) dL_law_512 ⟨Nat.le_of_ble_eq_true rfl, Nat.le_of_ble_eq_true rfl⟩) (fun r134 σ133 H locs hr134 hw => ?_)
      have hI := hI.go hr134.1
      have hr134 := hr134.2
      have hJ134 := hI
      refine lv_pop hx hb dL_law_515 rfl ?_
      refine lv_aload_n hx hb dL_law_516 rfl (lv_at hl 2 rfl) ?_
      refine lv_aload_n hx hb dL_law_517 rfl (lv_at hl 0 rfl) ?_
      refine lv_iload_n hx hb dL_law_518 rfl (lv_at hl 3 rfl) ?_
      refine lv_iconst (v := 1) hx hb dL_law_519 (by decide) ?_
      refine lv_iadd hx hb dL_law_520 ?_
      refine lv_topi (fun x135 ex135 => ?_)
      have tx135 : x135.toInt = z3.toInt + (1 : Int32).toInt := by rw [ex135]; exact Jvm.Kit.i32_add (by omega) (by omega)
      refine va_sld hx hb hX hbl hbA hw.2 (vin ⟨by omega, by omega⟩) dL_law_521 ?_
      refine lv_topi (fun x136 ex136 => ?_)
      have qx136 : x136 = x130 := by rw [ex136, ex130, ex135, ex129]
      refine lv_aload_n hx hb dL_law_522 rfl (lv_at hl 0 rfl) ?_
      refine lv_iload_n hx hb dL_law_523 rfl (lv_at hl 3 rfl) ?_
      refine lv_iconst (v := 2) hx hb dL_law_524 (by decide) ?_
      refine lv_iadd hx hb dL_law_525 ?_
      refine lv_topi (fun x137 ex137 => ?_)
      have tx137 : x137.toInt = z3.toInt + (2 : Int32).toInt := by rw [ex137]; exact Jvm.Kit.i32_add (by omega) (by omega)
      refine va_sld hx hb hX hbl hbA hw.2 (vin ⟨by omega, by omega⟩) dL_law_526 ?_
      refine lv_topi (fun x138 ex138 => ?_)
      have qx138 : x138 = x132 := by rw [ex138, ex132, ex137, ex131]
      refine te_vi hw (ru_V (As := [.int x136, .int x138]) (rest := []) (C := RX11) hx hb hml hts hown hk hw (c_X11_bells l G hG σ133 hI.1 x136 x138) (m4_in wd545 wd546 wd547 wd5) wd548 (en10 (rfl : nk 78 = 10)) rfl rfl rfl nm_yX11_bells ⟨rfl, rfl⟩ ⟨by decide, by decide⟩ rfl hl.1 rfl (Nat.le_of_ble_eq_true rfl) dL_law_527 ⟨Nat.le_of_ble_eq_true rfl, Nat.le_of_ble_eq_true rfl⟩) (fun r140 σ139 H locs hr140 hw => ?_)
      have hI := hI.go hr140.1
      have hr140 := hr140.2
      have hJ140 := hI
      refine lv_pop hx hb dL_law_530 rfl ?_
      refine lv_goto (tgt := 880) hx hb dL_law_531 (by decide) ?_
      exact tail σ139 _ _ _ hI.1 hw (lv_sub hl [0, 1, 2, 3] rfl) (hR.go hI)
    have w32_13i : ¬ x4.toInt = 13 := fun z => w32_13 (Int32.toInt_inj.mp (z.trans (by decide)))
    by_cases w32_14 : x4 = (14 : Int32)
    · have w32_14i : x4.toInt = 14 := by rw [w32_14]; decide
      refine lv_tableIn (tgt := 534) hx hb dL_law_32 (by omega) (by omega) (by rw [w32_14i]; rfl) (by decide) ?_
      refine lv_aload_n hx hb dL_law_534 rfl (lv_at hl 1 rfl) ?_
      refine lv_aload_n hx hb dL_law_535 rfl (lv_at hl 0 rfl) ?_
      refine lv_iload_n hx hb dL_law_536 rfl (lv_at hl 3 rfl) ?_
      refine lv_iconst (v := 1) hx hb dL_law_537 (by decide) ?_
      refine lv_iadd hx hb dL_law_538 ?_
      refine lv_topi (fun x141 ex141 => ?_)
      have tx141 : x141.toInt = z3.toInt + (1 : Int32).toInt := by rw [ex141]; exact Jvm.Kit.i32_add (by omega) (by omega)
      refine va_sld hx hb hX hbl hbA hw.2 (vin ⟨by omega, by omega⟩) dL_law_539 ?_
      refine lv_topi (fun x142 ex142 => ?_)
      refine lv_aload_n hx hb dL_law_540 rfl (lv_at hl 0 rfl) ?_
      refine lv_iload_n hx hb dL_law_541 rfl (lv_at hl 3 rfl) ?_
      refine lv_iconst (v := 2) hx hb dL_law_542 (by decide) ?_
      refine lv_iadd hx hb dL_law_543 ?_
      refine lv_topi (fun x143 ex143 => ?_)
      have tx143 : x143.toInt = z3.toInt + (2 : Int32).toInt := by rw [ex143]; exact Jvm.Kit.i32_add (by omega) (by omega)
      refine va_sld hx hb hX hbl hbA hw.2 (vin ⟨by omega, by omega⟩) dL_law_544 ?_
      refine lv_topi (fun x144 ex144 => ?_)
      refine lv_aload_n hx hb dL_law_545 rfl (lv_at hl 0 rfl) ?_
      refine lv_iload_n hx hb dL_law_546 rfl (lv_at hl 3 rfl) ?_
      refine lv_iconst (v := 3) hx hb dL_law_547 (by decide) ?_
      refine lv_iadd hx hb dL_law_548 ?_
      refine lv_topi (fun x145 ex145 => ?_)
      have tx145 : x145.toInt = z3.toInt + (3 : Int32).toInt := by rw [ex145]; exact Jvm.Kit.i32_add (by omega) (by omega)
      refine va_sld hx hb hX hbl hbA hw.2 (vin ⟨by omega, by omega⟩) dL_law_549 ?_
      refine lv_topi (fun x146 ex146 => ?_)
      refine te_vi hw (ru_V (As := [.int x142, .int x144, .int x146]) (rest := []) (C := RX10) hx hb hml hts hown hk hw (c_X10_thief l G hG σ hI.1 x142 x144 x146) (m4_in wd561 wd562 wd563 wd2) wd564 (en9 (rfl : nk 0 = 9)) rfl rfl rfl nm_yX10_thief ⟨rfl, rfl⟩ ⟨by decide, by decide⟩ rfl hl.1 rfl (Nat.le_of_ble_eq_true rfl) dL_law_550 ⟨Nat.le_of_ble_eq_true rfl, Nat.le_of_ble_eq_true rfl⟩) (fun r148 σ147 H locs hr148 hw => ?_)
      have hI := hI.go hr148.1
      have hr148 := hr148.2
      have hJ148 := hI
      refine lv_pop hx hb dL_law_553 rfl ?_
      refine lv_aload_n hx hb dL_law_554 rfl (lv_at hl 2 rfl) ?_
      refine lv_aload_n hx hb dL_law_555 rfl (lv_at hl 0 rfl) ?_
      refine lv_iload_n hx hb dL_law_556 rfl (lv_at hl 3 rfl) ?_
      refine lv_iconst (v := 1) hx hb dL_law_557 (by decide) ?_
      refine lv_iadd hx hb dL_law_558 ?_
      refine lv_topi (fun x149 ex149 => ?_)
      have tx149 : x149.toInt = z3.toInt + (1 : Int32).toInt := by rw [ex149]; exact Jvm.Kit.i32_add (by omega) (by omega)
      refine va_sld hx hb hX hbl hbA hw.2 (vin ⟨by omega, by omega⟩) dL_law_559 ?_
      refine lv_topi (fun x150 ex150 => ?_)
      have qx150 : x150 = x142 := by rw [ex150, ex142, ex149, ex141]
      refine lv_aload_n hx hb dL_law_560 rfl (lv_at hl 0 rfl) ?_
      refine lv_iload_n hx hb dL_law_561 rfl (lv_at hl 3 rfl) ?_
      refine lv_iconst (v := 2) hx hb dL_law_562 (by decide) ?_
      refine lv_iadd hx hb dL_law_563 ?_
      refine lv_topi (fun x151 ex151 => ?_)
      have tx151 : x151.toInt = z3.toInt + (2 : Int32).toInt := by rw [ex151]; exact Jvm.Kit.i32_add (by omega) (by omega)
      refine va_sld hx hb hX hbl hbA hw.2 (vin ⟨by omega, by omega⟩) dL_law_564 ?_
      refine lv_topi (fun x152 ex152 => ?_)
      have qx152 : x152 = x144 := by rw [ex152, ex144, ex151, ex143]
      refine lv_aload_n hx hb dL_law_565 rfl (lv_at hl 0 rfl) ?_
      refine lv_iload_n hx hb dL_law_566 rfl (lv_at hl 3 rfl) ?_
      refine lv_iconst (v := 3) hx hb dL_law_567 (by decide) ?_
      refine lv_iadd hx hb dL_law_568 ?_
      refine lv_topi (fun x153 ex153 => ?_)
      have tx153 : x153.toInt = z3.toInt + (3 : Int32).toInt := by rw [ex153]; exact Jvm.Kit.i32_add (by omega) (by omega)
      refine va_sld hx hb hX hbl hbA hw.2 (vin ⟨by omega, by omega⟩) dL_law_569 ?_
      refine lv_topi (fun x154 ex154 => ?_)
      have qx154 : x154 = x146 := by rw [ex154, ex146, ex153, ex145]
      refine te_vi hw (ru_V (As := [.int x150, .int x152, .int x154]) (rest := []) (C := RX11) hx hb hml hts hown hk hw (c_X11_thief l G hG σ147 hI.1 x150 x152 x154) (m4_in wd589 wd590 wd591 wd5) wd592 (en10 (rfl : nk 78 = 10)) rfl rfl rfl nm_yX11_thief ⟨rfl, rfl⟩ ⟨by decide, by decide⟩ rfl hl.1 rfl (Nat.le_of_ble_eq_true rfl) dL_law_570 ⟨Nat.le_of_ble_eq_true rfl, Nat.le_of_ble_eq_true rfl⟩) (fun r156 σ155 H locs hr156 hw => ?_)
      have hI := hI.go hr156.1
      have hr156 := hr156.2
      have hJ156 := hI
      refine lv_pop hx hb dL_law_573 rfl ?_
      refine lv_goto (tgt := 880) hx hb dL_law_574 (by decide) ?_
      exact tail σ155 _ _ _ hI.1 hw (lv_sub hl [0, 1, 2, 3] rfl) (hR.go hI)
    have w32_14i : ¬ x4.toInt = 14 := fun z => w32_14 (Int32.toInt_inj.mp (z.trans (by decide)))
    by_cases w32_15 : x4 = (15 : Int32)
    · have w32_15i : x4.toInt = 15 := by rw [w32_15]; decide
      refine lv_tableIn (tgt := 577) hx hb dL_law_32 (by omega) (by omega) (by rw [w32_15i]; rfl) (by decide) ?_
      refine lv_aload_n hx hb dL_law_577 rfl (lv_at hl 1 rfl) ?_
      refine lv_aload_n hx hb dL_law_578 rfl (lv_at hl 0 rfl) ?_
      refine lv_iload_n hx hb dL_law_579 rfl (lv_at hl 3 rfl) ?_
      refine lv_iconst (v := 1) hx hb dL_law_580 (by decide) ?_
      refine lv_iadd hx hb dL_law_581 ?_
      refine lv_topi (fun x157 ex157 => ?_)
      have tx157 : x157.toInt = z3.toInt + (1 : Int32).toInt := by rw [ex157]; exact Jvm.Kit.i32_add (by omega) (by omega)
      refine va_sld hx hb hX hbl hbA hw.2 (vin ⟨by omega, by omega⟩) dL_law_582 ?_
      refine lv_topi (fun x158 ex158 => ?_)
      refine te_vi hw (ru_V (As := [.int x158]) (rest := []) (C := RX10) hx hb hml hts hown hk hw (c_X10_safest l G hG σ hI.1 x158) (m4_in wd604 wd605 wd606 wd2) wd607 (en9 (rfl : nk 0 = 9)) rfl rfl rfl nm_yX10_safest ⟨rfl, rfl⟩ ⟨by decide, by decide⟩ rfl hl.1 rfl (Nat.le_of_ble_eq_true rfl) dL_law_583 ⟨Nat.le_of_ble_eq_true rfl, Nat.le_of_ble_eq_true rfl⟩) (fun r160 σ159 H locs hr160 hw => ?_)
      have hI := hI.go hr160.1
      have hr160 := hr160.2
      have hJ160 := hI
      refine lv_pop hx hb dL_law_586 rfl ?_
      refine lv_aload_n hx hb dL_law_587 rfl (lv_at hl 2 rfl) ?_
      refine lv_aload_n hx hb dL_law_588 rfl (lv_at hl 0 rfl) ?_
      refine lv_iload_n hx hb dL_law_589 rfl (lv_at hl 3 rfl) ?_
      refine lv_iconst (v := 1) hx hb dL_law_590 (by decide) ?_
      refine lv_iadd hx hb dL_law_591 ?_
      refine lv_topi (fun x161 ex161 => ?_)
      have tx161 : x161.toInt = z3.toInt + (1 : Int32).toInt := by rw [ex161]; exact Jvm.Kit.i32_add (by omega) (by omega)
      refine va_sld hx hb hX hbl hbA hw.2 (vin ⟨by omega, by omega⟩) dL_law_592 ?_
      refine lv_topi (fun x162 ex162 => ?_)
      have qx162 : x162 = x158 := by rw [ex162, ex158, ex161, ex157]
      refine te_vi hw (ru_V (As := [.int x162]) (rest := []) (C := RX11) hx hb hml hts hown hk hw (c_X11_safest l G hG σ159 hI.1 x162) (m4_in wd611 wd612 wd613 wd5) wd614 (en10 (rfl : nk 78 = 10)) rfl rfl rfl nm_yX11_safest ⟨rfl, rfl⟩ ⟨by decide, by decide⟩ rfl hl.1 rfl (Nat.le_of_ble_eq_true rfl) dL_law_593 ⟨Nat.le_of_ble_eq_true rfl, Nat.le_of_ble_eq_true rfl⟩) (fun r164 σ163 H locs hr164 hw => ?_)
      have hI := hI.go hr164.1
      have hr164 := hr164.2
      have hJ164 := hI
      refine lv_pop hx hb dL_law_596 rfl ?_
      refine lv_goto (tgt := 880) hx hb dL_law_597 (by decide) ?_
      exact tail σ163 _ _ _ hI.1 hw (lv_sub hl [0, 1, 2, 3] rfl) (hR.go hI)
    have w32_15i : ¬ x4.toInt = 15 := fun z => w32_15 (Int32.toInt_inj.mp (z.trans (by decide)))
    by_cases w32_16 : x4 = (16 : Int32)
    · have w32_16i : x4.toInt = 16 := by rw [w32_16]; decide
      refine lv_tableIn (tgt := 600) hx hb dL_law_32 (by omega) (by omega) (by rw [w32_16i]; rfl) (by decide) ?_
      refine lv_aload_n hx hb dL_law_600 rfl (lv_at hl 1 rfl) ?_
      refine lv_aload_n hx hb dL_law_601 rfl (lv_at hl 0 rfl) ?_
      refine lv_iload_n hx hb dL_law_602 rfl (lv_at hl 3 rfl) ?_
      refine lv_iconst (v := 1) hx hb dL_law_603 (by decide) ?_
      refine lv_iadd hx hb dL_law_604 ?_
      refine lv_topi (fun x165 ex165 => ?_)
      have tx165 : x165.toInt = z3.toInt + (1 : Int32).toInt := by rw [ex165]; exact Jvm.Kit.i32_add (by omega) (by omega)
      refine va_sld hx hb hX hbl hbA hw.2 (vin ⟨by omega, by omega⟩) dL_law_605 ?_
      refine lv_topi (fun x166 ex166 => ?_)
      refine lv_aload_n hx hb dL_law_606 rfl (lv_at hl 0 rfl) ?_
      refine lv_iload_n hx hb dL_law_607 rfl (lv_at hl 3 rfl) ?_
      refine lv_iconst (v := 2) hx hb dL_law_608 (by decide) ?_
      refine lv_iadd hx hb dL_law_609 ?_
      refine lv_topi (fun x167 ex167 => ?_)
      have tx167 : x167.toInt = z3.toInt + (2 : Int32).toInt := by rw [ex167]; exact Jvm.Kit.i32_add (by omega) (by omega)
      refine va_sld hx hb hX hbl hbA hw.2 (vin ⟨by omega, by omega⟩) dL_law_610 ?_
      refine lv_topi (fun x168 ex168 => ?_)
      refine te_vi hw (ru_V (As := [.int x166, .int x168]) (rest := []) (C := RX10) hx hb hml hts hown hk hw (c_X10_swap l G hG σ hI.1 x166 x168) (m4_in wd618 wd619 wd620 wd2) wd621 (en9 (rfl : nk 0 = 9)) rfl rfl rfl nm_yX10_swap ⟨rfl, rfl⟩ ⟨by decide, by decide⟩ rfl hl.1 rfl (Nat.le_of_ble_eq_true rfl) dL_law_611 ⟨Nat.le_of_ble_eq_true rfl, Nat.le_of_ble_eq_true rfl⟩) (fun r170 σ169 H locs hr170 hw => ?_)
      have hI := hI.go hr170.1
      have hr170 := hr170.2
      have hJ170 := hI
      refine lv_pop hx hb dL_law_614 rfl ?_
      refine lv_aload_n hx hb dL_law_615 rfl (lv_at hl 2 rfl) ?_
      refine lv_aload_n hx hb dL_law_616 rfl (lv_at hl 0 rfl) ?_
      refine lv_iload_n hx hb dL_law_617 rfl (lv_at hl 3 rfl) ?_
      refine lv_iconst (v := 1) hx hb dL_law_618 (by decide) ?_
      refine lv_iadd hx hb dL_law_619 ?_
      refine lv_topi (fun x171 ex171 => ?_)
      have tx171 : x171.toInt = z3.toInt + (1 : Int32).toInt := by rw [ex171]; exact Jvm.Kit.i32_add (by omega) (by omega)
      refine va_sld hx hb hX hbl hbA hw.2 (vin ⟨by omega, by omega⟩) dL_law_620 ?_
      refine lv_topi (fun x172 ex172 => ?_)
      have qx172 : x172 = x166 := by rw [ex172, ex166, ex171, ex165]
      refine lv_aload_n hx hb dL_law_621 rfl (lv_at hl 0 rfl) ?_
      refine lv_iload_n hx hb dL_law_622 rfl (lv_at hl 3 rfl) ?_
      refine lv_iconst (v := 2) hx hb dL_law_623 (by decide) ?_
      refine lv_iadd hx hb dL_law_624 ?_
      refine lv_topi (fun x173 ex173 => ?_)
      have tx173 : x173.toInt = z3.toInt + (2 : Int32).toInt := by rw [ex173]; exact Jvm.Kit.i32_add (by omega) (by omega)
      refine va_sld hx hb hX hbl hbA hw.2 (vin ⟨by omega, by omega⟩) dL_law_625 ?_
      refine lv_topi (fun x174 ex174 => ?_)
      have qx174 : x174 = x168 := by rw [ex174, ex168, ex173, ex167]
      refine te_vi hw (ru_V (As := [.int x172, .int x174]) (rest := []) (C := RX11) hx hb hml hts hown hk hw (c_X11_swap l G hG σ169 hI.1 x172 x174) (m4_in wd631 wd632 wd633 wd5) wd634 (en10 (rfl : nk 78 = 10)) rfl rfl rfl nm_yX11_swap ⟨rfl, rfl⟩ ⟨by decide, by decide⟩ rfl hl.1 rfl (Nat.le_of_ble_eq_true rfl) dL_law_626 ⟨Nat.le_of_ble_eq_true rfl, Nat.le_of_ble_eq_true rfl⟩) (fun r176 σ175 H locs hr176 hw => ?_)
      have hI := hI.go hr176.1
      have hr176 := hr176.2
      have hJ176 := hI
      refine lv_pop hx hb dL_law_629 rfl ?_
      refine lv_goto (tgt := 880) hx hb dL_law_630 (by decide) ?_
      exact tail σ175 _ _ _ hI.1 hw (lv_sub hl [0, 1, 2, 3] rfl) (hR.go hI)
    have w32_16i : ¬ x4.toInt = 16 := fun z => w32_16 (Int32.toInt_inj.mp (z.trans (by decide)))
    by_cases w32_17 : x4 = (17 : Int32)
    · have w32_17i : x4.toInt = 17 := by rw [w32_17]; decide
      refine lv_tableIn (tgt := 633) hx hb dL_law_32 (by omega) (by omega) (by rw [w32_17i]; rfl) (by decide) ?_
      refine lv_aload_n hx hb dL_law_633 rfl (lv_at hl 1 rfl) ?_
      refine lv_aload_n hx hb dL_law_634 rfl (lv_at hl 0 rfl) ?_
      refine lv_iload_n hx hb dL_law_635 rfl (lv_at hl 3 rfl) ?_
      refine lv_iconst (v := 1) hx hb dL_law_636 (by decide) ?_
      refine lv_iadd hx hb dL_law_637 ?_
      refine lv_topi (fun x177 ex177 => ?_)
      have tx177 : x177.toInt = z3.toInt + (1 : Int32).toInt := by rw [ex177]; exact Jvm.Kit.i32_add (by omega) (by omega)
      refine va_sld hx hb hX hbl hbA hw.2 (vin ⟨by omega, by omega⟩) dL_law_638 ?_
      refine lv_topi (fun x178 ex178 => ?_)
      refine lv_aload_n hx hb dL_law_639 rfl (lv_at hl 0 rfl) ?_
      refine lv_iload_n hx hb dL_law_640 rfl (lv_at hl 3 rfl) ?_
      refine lv_iconst (v := 2) hx hb dL_law_641 (by decide) ?_
      refine lv_iadd hx hb dL_law_642 ?_
      refine lv_topi (fun x179 ex179 => ?_)
      have tx179 : x179.toInt = z3.toInt + (2 : Int32).toInt := by rw [ex179]; exact Jvm.Kit.i32_add (by omega) (by omega)
      refine va_sld hx hb hX hbl hbA hw.2 (vin ⟨by omega, by omega⟩) dL_law_643 ?_
      refine lv_topi (fun x180 ex180 => ?_)
      refine te_vi hw (ru_V (As := [.int x178, .int x180]) (rest := []) (C := RX10) hx hb hml hts hown hk hw (c_X10_found l G hG σ hI.1 x178 x180) (m4_in wd641 wd642 wd643 wd2) wd644 (en9 (rfl : nk 0 = 9)) rfl rfl rfl nm_yX10_found ⟨rfl, rfl⟩ ⟨by decide, by decide⟩ rfl hl.1 rfl (Nat.le_of_ble_eq_true rfl) dL_law_644 ⟨Nat.le_of_ble_eq_true rfl, Nat.le_of_ble_eq_true rfl⟩) (fun r182 σ181 H locs hr182 hw => ?_)
      have hI := hI.go hr182.1
      have hr182 := hr182.2
      have hJ182 := hI
      refine lv_pop hx hb dL_law_647 rfl ?_
      refine lv_aload_n hx hb dL_law_648 rfl (lv_at hl 2 rfl) ?_
      refine lv_aload_n hx hb dL_law_649 rfl (lv_at hl 0 rfl) ?_
      refine lv_iload_n hx hb dL_law_650 rfl (lv_at hl 3 rfl) ?_
      refine lv_iconst (v := 1) hx hb dL_law_651 (by decide) ?_
      refine lv_iadd hx hb dL_law_652 ?_
      refine lv_topi (fun x183 ex183 => ?_)
      have tx183 : x183.toInt = z3.toInt + (1 : Int32).toInt := by rw [ex183]; exact Jvm.Kit.i32_add (by omega) (by omega)
      refine va_sld hx hb hX hbl hbA hw.2 (vin ⟨by omega, by omega⟩) dL_law_653 ?_
      refine lv_topi (fun x184 ex184 => ?_)
      have qx184 : x184 = x178 := by rw [ex184, ex178, ex183, ex177]
      refine lv_aload_n hx hb dL_law_654 rfl (lv_at hl 0 rfl) ?_
      refine lv_iload_n hx hb dL_law_655 rfl (lv_at hl 3 rfl) ?_
      refine lv_iconst (v := 2) hx hb dL_law_656 (by decide) ?_
      refine lv_iadd hx hb dL_law_657 ?_
      refine lv_topi (fun x185 ex185 => ?_)
      have tx185 : x185.toInt = z3.toInt + (2 : Int32).toInt := by rw [ex185]; exact Jvm.Kit.i32_add (by omega) (by omega)
      refine va_sld hx hb hX hbl hbA hw.2 (vin ⟨by omega, by omega⟩) dL_law_658 ?_
      refine lv_topi (fun x186 ex186 => ?_)
      have qx186 : x186 = x180 := by rw [ex186, ex180, ex185, ex179]
      refine te_vi hw (ru_V (As := [.int x184, .int x186]) (rest := []) (C := RX11) hx hb hml hts hown hk hw (c_X11_found l G hG σ181 hI.1 x184 x186) (m4_in wd648 wd649 wd650 wd5) wd651 (en10 (rfl : nk 78 = 10)) rfl rfl rfl nm_yX11_found ⟨rfl, rfl⟩ ⟨by decide, by decide⟩ rfl hl.1 rfl (Nat.le_of_ble_eq_true rfl) dL_law_659 ⟨Nat.le_of_ble_eq_true rfl, Nat.le_of_ble_eq_true rfl⟩) (fun r188 σ187 H locs hr188 hw => ?_)
      have hI := hI.go hr188.1
      have hr188 := hr188.2
      have hJ188 := hI
      refine lv_pop hx hb dL_law_662 rfl ?_
      refine lv_goto (tgt := 880) hx hb dL_law_663 (by decide) ?_
      exact tail σ187 _ _ _ hI.1 hw (lv_sub hl [0, 1, 2, 3] rfl) (hR.go hI)
    have w32_17i : ¬ x4.toInt = 17 := fun z => w32_17 (Int32.toInt_inj.mp (z.trans (by decide)))
    by_cases w32_18 : x4 = (18 : Int32)
    · have w32_18i : x4.toInt = 18 := by rw [w32_18]; decide
      refine lv_tableIn (tgt := 666) hx hb dL_law_32 (by omega) (by omega) (by rw [w32_18i]; rfl) (by decide) ?_
      refine lv_aload_n hx hb dL_law_666 rfl (lv_at hl 1 rfl) ?_
      refine lv_aload_n hx hb dL_law_667 rfl (lv_at hl 0 rfl) ?_
      refine lv_iload_n hx hb dL_law_668 rfl (lv_at hl 3 rfl) ?_
      refine lv_iconst (v := 1) hx hb dL_law_669 (by decide) ?_
      refine lv_iadd hx hb dL_law_670 ?_
      refine lv_topi (fun x189 ex189 => ?_)
      have tx189 : x189.toInt = z3.toInt + (1 : Int32).toInt := by rw [ex189]; exact Jvm.Kit.i32_add (by omega) (by omega)
      refine va_sld hx hb hX hbl hbA hw.2 (vin ⟨by omega, by omega⟩) dL_law_671 ?_
      refine lv_topi (fun x190 ex190 => ?_)
      refine lv_aload_n hx hb dL_law_672 rfl (lv_at hl 0 rfl) ?_
      refine lv_iload_n hx hb dL_law_673 rfl (lv_at hl 3 rfl) ?_
      refine lv_iconst (v := 2) hx hb dL_law_674 (by decide) ?_
      refine lv_iadd hx hb dL_law_675 ?_
      refine lv_topi (fun x191 ex191 => ?_)
      have tx191 : x191.toInt = z3.toInt + (2 : Int32).toInt := by rw [ex191]; exact Jvm.Kit.i32_add (by omega) (by omega)
      refine va_sld hx hb hX hbl hbA hw.2 (vin ⟨by omega, by omega⟩) dL_law_676 ?_
      refine lv_topi (fun x192 ex192 => ?_)
      refine te_vi hw (ru_V (As := [.int x190, .int x192]) (rest := []) (C := RX10) hx hb hml hts hown hk hw (c_X10_over l G hG σ hI.1 x190 x192) (m4_in wd652 wd653 wd654 wd2) wd655 (en9 (rfl : nk 0 = 9)) rfl rfl rfl nm_yX10_over ⟨rfl, rfl⟩ ⟨by decide, by decide⟩ rfl hl.1 rfl (Nat.le_of_ble_eq_true rfl) dL_law_677 ⟨Nat.le_of_ble_eq_true rfl, Nat.le_of_ble_eq_true rfl⟩) (fun r194 σ193 H locs hr194 hw => ?_)
      rw [hr194.1] at hw
      have hr194 := hr194.2
      have hJ194 := hI
      refine lv_pop hx hb dL_law_680 rfl ?_
      refine lv_aload_n hx hb dL_law_681 rfl (lv_at hl 2 rfl) ?_
      refine lv_aload_n hx hb dL_law_682 rfl (lv_at hl 0 rfl) ?_
      refine lv_iload_n hx hb dL_law_683 rfl (lv_at hl 3 rfl) ?_
      refine lv_iconst (v := 1) hx hb dL_law_684 (by decide) ?_
      refine lv_iadd hx hb dL_law_685 ?_
      refine lv_topi (fun x195 ex195 => ?_)
      have tx195 : x195.toInt = z3.toInt + (1 : Int32).toInt := by rw [ex195]; exact Jvm.Kit.i32_add (by omega) (by omega)
      refine va_sld hx hb hX hbl hbA hw.2 (vin ⟨by omega, by omega⟩) dL_law_686 ?_
      refine lv_topi (fun x196 ex196 => ?_)
      have qx196 : x196 = x190 := by rw [ex196, ex190, ex195, ex189]
      refine lv_aload_n hx hb dL_law_687 rfl (lv_at hl 0 rfl) ?_
      refine lv_iload_n hx hb dL_law_688 rfl (lv_at hl 3 rfl) ?_
      refine lv_iconst (v := 2) hx hb dL_law_689 (by decide) ?_
      refine lv_iadd hx hb dL_law_690 ?_
      refine lv_topi (fun x197 ex197 => ?_)
      have tx197 : x197.toInt = z3.toInt + (2 : Int32).toInt := by rw [ex197]; exact Jvm.Kit.i32_add (by omega) (by omega)
      refine va_sld hx hb hX hbl hbA hw.2 (vin ⟨by omega, by omega⟩) dL_law_691 ?_
      refine lv_topi (fun x198 ex198 => ?_)
      have qx198 : x198 = x192 := by rw [ex198, ex192, ex197, ex191]
      refine te_vi hw (ru_V (As := [.int x196, .int x198]) (rest := []) (C := RX11) hx hb hml hts hown hk hw (c_X11_over l G hG σ hI.1 x196 x198) (m4_in wd668 wd669 wd670 wd5) wd671 (en10 (rfl : nk 78 = 10)) rfl rfl rfl nm_yX11_over ⟨rfl, rfl⟩ ⟨by decide, by decide⟩ rfl hl.1 rfl (Nat.le_of_ble_eq_true rfl) dL_law_692 ⟨Nat.le_of_ble_eq_true rfl, Nat.le_of_ble_eq_true rfl⟩) (fun r200 σ199 H locs hr200 hw => ?_)
      rw [hr200.1] at hw
      have hr200 := hr200.2
      have hJ200 := hI
      refine lv_pop hx hb dL_law_695 rfl ?_
      refine lv_goto (tgt := 880) hx hb dL_law_696 (by decide) ?_
      exact tail σ _ _ _ hI.1 hw (lv_sub hl [0, 1, 2, 3] rfl) (hR.go hI)
    have w32_18i : ¬ x4.toInt = 18 := fun z => w32_18 (Int32.toInt_inj.mp (z.trans (by decide)))
    by_cases w32_19 : x4 = (19 : Int32)
    · have w32_19i : x4.toInt = 19 := by rw [w32_19]; decide
      refine lv_tableIn (tgt := 699) hx hb dL_law_32 (by omega) (by omega) (by rw [w32_19i]; rfl) (by decide) ?_
      refine lv_aload_n hx hb dL_law_699 rfl (lv_at hl 1 rfl) ?_
      refine lv_aload_n hx hb dL_law_700 rfl (lv_at hl 0 rfl) ?_
      refine lv_iload_n hx hb dL_law_701 rfl (lv_at hl 3 rfl) ?_
      refine lv_iconst (v := 1) hx hb dL_law_702 (by decide) ?_
      refine lv_iadd hx hb dL_law_703 ?_
      refine lv_topi (fun x201 ex201 => ?_)
      have tx201 : x201.toInt = z3.toInt + (1 : Int32).toInt := by rw [ex201]; exact Jvm.Kit.i32_add (by omega) (by omega)
      refine va_sld hx hb hX hbl hbA hw.2 (vin ⟨by omega, by omega⟩) dL_law_704 ?_
      refine lv_topi (fun x202 ex202 => ?_)
      refine lv_aload_n hx hb dL_law_705 rfl (lv_at hl 0 rfl) ?_
      refine lv_iload_n hx hb dL_law_706 rfl (lv_at hl 3 rfl) ?_
      refine lv_iconst (v := 2) hx hb dL_law_707 (by decide) ?_
      refine lv_iadd hx hb dL_law_708 ?_
      refine lv_topi (fun x203 ex203 => ?_)
      have tx203 : x203.toInt = z3.toInt + (2 : Int32).toInt := by rw [ex203]; exact Jvm.Kit.i32_add (by omega) (by omega)
      refine va_sld hx hb hX hbl hbA hw.2 (vin ⟨by omega, by omega⟩) dL_law_709 ?_
      refine lv_topi (fun x204 ex204 => ?_)
      refine te_vi hw (ru_V (As := [.int x202, .int x204]) (rest := []) (C := RX10) hx hb hml hts hown hk hw (c_X10_fruit l G hG σ hI.1 x202 x204) (m4_in wd676 wd677 wd678 wd2) wd679 (en9 (rfl : nk 0 = 9)) rfl rfl rfl nm_yX10_fruit ⟨rfl, rfl⟩ ⟨by decide, by decide⟩ rfl hl.1 rfl (Nat.le_of_ble_eq_true rfl) dL_law_710 ⟨Nat.le_of_ble_eq_true rfl, Nat.le_of_ble_eq_true rfl⟩) (fun r206 σ205 H locs hr206 hw => ?_)
      have hA1 := hr206
      have hI : K0 σ205 σ205 := K0.rf (fru_inv hr206)
      have hJ206 := hI
      refine lv_pop hx hb dL_law_713 rfl ?_
      refine lv_aload_n hx hb dL_law_714 rfl (lv_at hl 2 rfl) ?_
      refine lv_aload_n hx hb dL_law_715 rfl (lv_at hl 0 rfl) ?_
      refine lv_iload_n hx hb dL_law_716 rfl (lv_at hl 3 rfl) ?_
      refine lv_iconst (v := 1) hx hb dL_law_717 (by decide) ?_
      refine lv_iadd hx hb dL_law_718 ?_
      refine lv_topi (fun x207 ex207 => ?_)
      have tx207 : x207.toInt = z3.toInt + (1 : Int32).toInt := by rw [ex207]; exact Jvm.Kit.i32_add (by omega) (by omega)
      refine va_sld hx hb hX hbl hbA hw.2 (vin ⟨by omega, by omega⟩) dL_law_719 ?_
      refine lv_topi (fun x208 ex208 => ?_)
      have qx208 : x208 = x202 := by rw [ex208, ex202, ex207, ex201]
      refine lv_aload_n hx hb dL_law_720 rfl (lv_at hl 0 rfl) ?_
      refine lv_iload_n hx hb dL_law_721 rfl (lv_at hl 3 rfl) ?_
      refine lv_iconst (v := 2) hx hb dL_law_722 (by decide) ?_
      refine lv_iadd hx hb dL_law_723 ?_
      refine lv_topi (fun x209 ex209 => ?_)
      have tx209 : x209.toInt = z3.toInt + (2 : Int32).toInt := by rw [ex209]; exact Jvm.Kit.i32_add (by omega) (by omega)
      refine va_sld hx hb hX hbl hbA hw.2 (vin ⟨by omega, by omega⟩) dL_law_724 ?_
      refine lv_topi (fun x210 ex210 => ?_)
      have qx210 : x210 = x204 := by rw [ex210, ex204, ex209, ex203]
      refine te_vi hw (ru_V (As := [.int x208, .int x210]) (rest := []) (C := RX11) hx hb hml hts hown hk hw (c_X11_fruit l G hG σ205 hI.1 x208 x210) (m4_in wd681 wd682 wd683 wd5) wd684 (en10 (rfl : nk 78 = 10)) rfl rfl rfl nm_yX11_fruit ⟨rfl, rfl⟩ ⟨by decide, by decide⟩ rfl hl.1 rfl (Nat.le_of_ble_eq_true rfl) dL_law_725 ⟨Nat.le_of_ble_eq_true rfl, Nat.le_of_ble_eq_true rfl⟩) (fun r212 σ211 H locs hr212 hw => ?_)
      have hA2 := hr212
      rw [qx208, qx210] at hA2
      have hIR := fru_both hR hA1 hA2
      have hI : K0 σ211 σ211 := K0.rf hIR.1.1
      have hR := hIR.1.2
      have hJ212 := hI
      refine lv_pop hx hb dL_law_728 rfl ?_
      refine lv_goto (tgt := 880) hx hb dL_law_729 (by decide) ?_
      exact tail σ211 _ _ _ hI.1 hw (lv_sub hl [0, 1, 2, 3] rfl) (hR.go hI)
    have w32_19i : ¬ x4.toInt = 19 := fun z => w32_19 (Int32.toInt_inj.mp (z.trans (by decide)))
    by_cases w32_20 : x4 = (20 : Int32)
    · have w32_20i : x4.toInt = 20 := by rw [w32_20]; decide
      refine lv_tableIn (tgt := 732) hx hb dL_law_32 (by omega) (by omega) (by rw [w32_20i]; rfl) (by decide) ?_
      refine lv_aload_n hx hb dL_law_732 rfl (lv_at hl 1 rfl) ?_
      refine lv_aload_n hx hb dL_law_733 rfl (lv_at hl 0 rfl) ?_
      refine lv_iload_n hx hb dL_law_734 rfl (lv_at hl 3 rfl) ?_
      refine lv_iconst (v := 1) hx hb dL_law_735 (by decide) ?_
      refine lv_iadd hx hb dL_law_736 ?_
      refine lv_topi (fun x213 ex213 => ?_)
      have tx213 : x213.toInt = z3.toInt + (1 : Int32).toInt := by rw [ex213]; exact Jvm.Kit.i32_add (by omega) (by omega)
      refine va_sld hx hb hX hbl hbA hw.2 (vin ⟨by omega, by omega⟩) dL_law_737 ?_
      refine lv_topi (fun x214 ex214 => ?_)
      refine te_vi hw (ru_V (As := [.int x214]) (rest := []) (C := RX10) hx hb hml hts hown hk hw (c_X10_share l G hG σ hI.1 x214) (m4_in wd685 wd686 wd687 wd2) wd688 (en9 (rfl : nk 0 = 9)) rfl rfl rfl nm_yX10_share ⟨rfl, rfl⟩ ⟨by decide, by decide⟩ rfl hl.1 rfl (Nat.le_of_ble_eq_true rfl) dL_law_738 ⟨Nat.le_of_ble_eq_true rfl, Nat.le_of_ble_eq_true rfl⟩) (fun r216 σ215 H locs hr216 hw => ?_)
      rw [hr216.1] at hw
      have hr216 := hr216.2
      have hJ216 := hI
      refine lv_pop hx hb dL_law_741 rfl ?_
      refine lv_aload_n hx hb dL_law_742 rfl (lv_at hl 2 rfl) ?_
      refine lv_aload_n hx hb dL_law_743 rfl (lv_at hl 0 rfl) ?_
      refine lv_iload_n hx hb dL_law_744 rfl (lv_at hl 3 rfl) ?_
      refine lv_iconst (v := 1) hx hb dL_law_745 (by decide) ?_
      refine lv_iadd hx hb dL_law_746 ?_
      refine lv_topi (fun x217 ex217 => ?_)
      have tx217 : x217.toInt = z3.toInt + (1 : Int32).toInt := by rw [ex217]; exact Jvm.Kit.i32_add (by omega) (by omega)
      refine va_sld hx hb hX hbl hbA hw.2 (vin ⟨by omega, by omega⟩) dL_law_747 ?_
      refine lv_topi (fun x218 ex218 => ?_)
      have qx218 : x218 = x214 := by rw [ex218, ex214, ex217, ex213]
      refine te_vi hw (ru_V (As := [.int x218]) (rest := []) (C := RX11) hx hb hml hts hown hk hw (c_X11_share l G hG σ hI.1 x218) (m4_in wd710 wd711 wd712 wd5) wd713 (en10 (rfl : nk 78 = 10)) rfl rfl rfl nm_yX11_share ⟨rfl, rfl⟩ ⟨by decide, by decide⟩ rfl hl.1 rfl (Nat.le_of_ble_eq_true rfl) dL_law_748 ⟨Nat.le_of_ble_eq_true rfl, Nat.le_of_ble_eq_true rfl⟩) (fun r220 σ219 H locs hr220 hw => ?_)
      rw [hr220.1] at hw
      have hr220 := hr220.2
      have hJ220 := hI
      refine lv_pop hx hb dL_law_751 rfl ?_
      refine lv_goto (tgt := 880) hx hb dL_law_752 (by decide) ?_
      exact tail σ _ _ _ hI.1 hw (lv_sub hl [0, 1, 2, 3] rfl) (hR.go hI)
    have w32_20i : ¬ x4.toInt = 20 := fun z => w32_20 (Int32.toInt_inj.mp (z.trans (by decide)))
    by_cases w32_21 : x4 = (21 : Int32)
    · have w32_21i : x4.toInt = 21 := by rw [w32_21]; decide
      refine lv_tableIn (tgt := 755) hx hb dL_law_32 (by omega) (by omega) (by rw [w32_21i]; rfl) (by decide) ?_
      refine lv_aload_n hx hb dL_law_755 rfl (lv_at hl 1 rfl) ?_
      refine lv_aload_n hx hb dL_law_756 rfl (lv_at hl 0 rfl) ?_
      refine lv_iload_n hx hb dL_law_757 rfl (lv_at hl 3 rfl) ?_
      refine lv_iconst (v := 1) hx hb dL_law_758 (by decide) ?_
      refine lv_iadd hx hb dL_law_759 ?_
      refine lv_topi (fun x221 ex221 => ?_)
      have tx221 : x221.toInt = z3.toInt + (1 : Int32).toInt := by rw [ex221]; exact Jvm.Kit.i32_add (by omega) (by omega)
      refine va_sld hx hb hX hbl hbA hw.2 (vin ⟨by omega, by omega⟩) dL_law_760 ?_
      refine lv_topi (fun x222 ex222 => ?_)
      refine lv_aload_n hx hb dL_law_761 rfl (lv_at hl 0 rfl) ?_
      refine lv_iload_n hx hb dL_law_762 rfl (lv_at hl 3 rfl) ?_
      refine lv_iconst (v := 2) hx hb dL_law_763 (by decide) ?_
      refine lv_iadd hx hb dL_law_764 ?_
      refine lv_topi (fun x223 ex223 => ?_)
      have tx223 : x223.toInt = z3.toInt + (2 : Int32).toInt := by rw [ex223]; exact Jvm.Kit.i32_add (by omega) (by omega)
      refine va_sld hx hb hX hbl hbA hw.2 (vin ⟨by omega, by omega⟩) dL_law_765 ?_
      refine lv_topi (fun x224 ex224 => ?_)
      refine te_vi hw (ru_V (As := [.int x222, .int x224]) (rest := []) (C := RX10) hx hb hml hts hown hk hw (c_X10_facing l G hG σ hI.1 x222 x224) (m4_in wd730 wd731 wd732 wd2) wd733 (en9 (rfl : nk 0 = 9)) rfl rfl rfl nm_yX10_facing ⟨rfl, rfl⟩ ⟨by decide, by decide⟩ rfl hl.1 rfl (Nat.le_of_ble_eq_true rfl) dL_law_766 ⟨Nat.le_of_ble_eq_true rfl, Nat.le_of_ble_eq_true rfl⟩) (fun r226 σ225 H locs hr226 hw => ?_)
      rw [hr226.1] at hw
      have hr226 := hr226.2
      have hJ226 := hI
      refine lv_pop hx hb dL_law_769 rfl ?_
      refine lv_aload_n hx hb dL_law_770 rfl (lv_at hl 2 rfl) ?_
      refine lv_aload_n hx hb dL_law_771 rfl (lv_at hl 0 rfl) ?_
      refine lv_iload_n hx hb dL_law_772 rfl (lv_at hl 3 rfl) ?_
      refine lv_iconst (v := 1) hx hb dL_law_773 (by decide) ?_
      refine lv_iadd hx hb dL_law_774 ?_
      refine lv_topi (fun x227 ex227 => ?_)
      have tx227 : x227.toInt = z3.toInt + (1 : Int32).toInt := by rw [ex227]; exact Jvm.Kit.i32_add (by omega) (by omega)
      refine va_sld hx hb hX hbl hbA hw.2 (vin ⟨by omega, by omega⟩) dL_law_775 ?_
      refine lv_topi (fun x228 ex228 => ?_)
      have qx228 : x228 = x222 := by rw [ex228, ex222, ex227, ex221]
      refine lv_aload_n hx hb dL_law_776 rfl (lv_at hl 0 rfl) ?_
      refine lv_iload_n hx hb dL_law_777 rfl (lv_at hl 3 rfl) ?_
      refine lv_iconst (v := 2) hx hb dL_law_778 (by decide) ?_
      refine lv_iadd hx hb dL_law_779 ?_
      refine lv_topi (fun x229 ex229 => ?_)
      have tx229 : x229.toInt = z3.toInt + (2 : Int32).toInt := by rw [ex229]; exact Jvm.Kit.i32_add (by omega) (by omega)
      refine va_sld hx hb hX hbl hbA hw.2 (vin ⟨by omega, by omega⟩) dL_law_780 ?_
      refine lv_topi (fun x230 ex230 => ?_)
      have qx230 : x230 = x224 := by rw [ex230, ex224, ex229, ex223]
      refine te_vi hw (ru_V (As := [.int x228, .int x230]) (rest := []) (C := RX11) hx hb hml hts hown hk hw (c_X11_facing l G hG σ hI.1 x228 x230) (m4_in wd738 wd739 wd740 wd5) wd741 (en10 (rfl : nk 78 = 10)) rfl rfl rfl nm_yX11_facing ⟨rfl, rfl⟩ ⟨by decide, by decide⟩ rfl hl.1 rfl (Nat.le_of_ble_eq_true rfl) dL_law_781 ⟨Nat.le_of_ble_eq_true rfl, Nat.le_of_ble_eq_true rfl⟩) (fun r232 σ231 H locs hr232 hw => ?_)
      rw [hr232.1] at hw
      have hr232 := hr232.2
      have hJ232 := hI
      refine lv_pop hx hb dL_law_784 rfl ?_
      refine lv_goto (tgt := 880) hx hb dL_law_785 (by decide) ?_
      exact tail σ _ _ _ hI.1 hw (lv_sub hl [0, 1, 2, 3] rfl) (hR.go hI)
    have w32_21i : ¬ x4.toInt = 21 := fun z => w32_21 (Int32.toInt_inj.mp (z.trans (by decide)))
    by_cases w32_22 : x4 = (22 : Int32)
    · have w32_22i : x4.toInt = 22 := by rw [w32_22]; decide
      refine lv_tableIn (tgt := 788) hx hb dL_law_32 (by omega) (by omega) (by rw [w32_22i]; rfl) (by decide) ?_
      refine lv_aload_n hx hb dL_law_788 rfl (lv_at hl 1 rfl) ?_
      refine lv_aload_n hx hb dL_law_789 rfl (lv_at hl 0 rfl) ?_
      refine lv_iload_n hx hb dL_law_790 rfl (lv_at hl 3 rfl) ?_
      refine lv_iconst (v := 1) hx hb dL_law_791 (by decide) ?_
      refine lv_iadd hx hb dL_law_792 ?_
      refine lv_topi (fun x233 ex233 => ?_)
      have tx233 : x233.toInt = z3.toInt + (1 : Int32).toInt := by rw [ex233]; exact Jvm.Kit.i32_add (by omega) (by omega)
      refine va_sld hx hb hX hbl hbA hw.2 (vin ⟨by omega, by omega⟩) dL_law_793 ?_
      refine lv_topi (fun x234 ex234 => ?_)
      refine te_vi hw (ru_V (As := [.int x234]) (rest := []) (C := RX10) hx hb hml hts hown hk hw (c_X10_rest l G hG σ hI.1 x234) (m4_in wd742 wd743 wd744 wd2) wd745 (en9 (rfl : nk 0 = 9)) rfl rfl rfl nm_yX10_rest ⟨rfl, rfl⟩ ⟨by decide, by decide⟩ rfl hl.1 rfl (Nat.le_of_ble_eq_true rfl) dL_law_794 ⟨Nat.le_of_ble_eq_true rfl, Nat.le_of_ble_eq_true rfl⟩) (fun r236 σ235 H locs hr236 hw => ?_)
      rw [hr236.1] at hw
      have hr236 := hr236.2
      have hJ236 := hI
      refine lv_pop hx hb dL_law_797 rfl ?_
      refine lv_aload_n hx hb dL_law_798 rfl (lv_at hl 2 rfl) ?_
      refine lv_aload_n hx hb dL_law_799 rfl (lv_at hl 0 rfl) ?_
      refine lv_iload_n hx hb dL_law_800 rfl (lv_at hl 3 rfl) ?_
      refine lv_iconst (v := 1) hx hb dL_law_801 (by decide) ?_
      refine lv_iadd hx hb dL_law_802 ?_
      refine lv_topi (fun x237 ex237 => ?_)
      have tx237 : x237.toInt = z3.toInt + (1 : Int32).toInt := by rw [ex237]; exact Jvm.Kit.i32_add (by omega) (by omega)
      refine va_sld hx hb hX hbl hbA hw.2 (vin ⟨by omega, by omega⟩) dL_law_803 ?_
      refine lv_topi (fun x238 ex238 => ?_)
      have qx238 : x238 = x234 := by rw [ex238, ex234, ex237, ex233]
      refine te_vi hw (ru_V (As := [.int x238]) (rest := []) (C := RX11) hx hb hml hts hown hk hw (c_X11_rest l G hG σ hI.1 x238) (m4_in wd751 wd752 wd753 wd5) wd754 (en10 (rfl : nk 78 = 10)) rfl rfl rfl nm_yX11_rest ⟨rfl, rfl⟩ ⟨by decide, by decide⟩ rfl hl.1 rfl (Nat.le_of_ble_eq_true rfl) dL_law_804 ⟨Nat.le_of_ble_eq_true rfl, Nat.le_of_ble_eq_true rfl⟩) (fun r240 σ239 H locs hr240 hw => ?_)
      rw [hr240.1] at hw
      have hr240 := hr240.2
      have hJ240 := hI
      refine lv_pop hx hb dL_law_807 rfl ?_
      refine lv_goto (tgt := 880) hx hb dL_law_808 (by decide) ?_
      exact tail σ _ _ _ hI.1 hw (lv_sub hl [0, 1, 2, 3] rfl) (hR.go hI)
    have w32_22i : ¬ x4.toInt = 22 := fun z => w32_22 (Int32.toInt_inj.mp (z.trans (by decide)))
    by_cases w32_23 : x4 = (23 : Int32)
    · have w32_23i : x4.toInt = 23 := by rw [w32_23]; decide
      refine lv_tableIn (tgt := 811) hx hb dL_law_32 (by omega) (by omega) (by rw [w32_23i]; rfl) (by decide) ?_
      refine lv_aload_n hx hb dL_law_811 rfl (lv_at hl 1 rfl) ?_
      refine lv_aload_n hx hb dL_law_812 rfl (lv_at hl 0 rfl) ?_
      refine lv_iload_n hx hb dL_law_813 rfl (lv_at hl 3 rfl) ?_
      refine lv_iconst (v := 1) hx hb dL_law_814 (by decide) ?_
      refine lv_iadd hx hb dL_law_815 ?_
      refine lv_topi (fun x241 ex241 => ?_)
      have tx241 : x241.toInt = z3.toInt + (1 : Int32).toInt := by rw [ex241]; exact Jvm.Kit.i32_add (by omega) (by omega)
      refine va_sld hx hb hX hbl hbA hw.2 (vin ⟨by omega, by omega⟩) dL_law_816 ?_
      refine lv_topi (fun x242 ex242 => ?_)
      refine te_vi hw (ru_V (As := [.int x242]) (rest := []) (C := RX10) hx hb hml hts hown hk hw (c_X10_image l G hG σ hI.1 x242) (m4_in wd755 wd756 wd757 wd2) wd758 (en9 (rfl : nk 0 = 9)) rfl rfl rfl nm_yX10_image ⟨rfl, rfl⟩ ⟨by decide, by decide⟩ rfl hl.1 rfl (Nat.le_of_ble_eq_true rfl) dL_law_817 ⟨Nat.le_of_ble_eq_true rfl, Nat.le_of_ble_eq_true rfl⟩) (fun r244 σ243 H locs hr244 hw => ?_)
      have hA1 := hr244
      have hI : K0 σ243 σ243 := K0.rf (imgC_inv hr244)
      have hJ244 := hI
      refine lv_pop hx hb dL_law_820 rfl ?_
      refine lv_aload_n hx hb dL_law_821 rfl (lv_at hl 2 rfl) ?_
      refine lv_aload_n hx hb dL_law_822 rfl (lv_at hl 0 rfl) ?_
      refine lv_iload_n hx hb dL_law_823 rfl (lv_at hl 3 rfl) ?_
      refine lv_iconst (v := 1) hx hb dL_law_824 (by decide) ?_
      refine lv_iadd hx hb dL_law_825 ?_
      refine lv_topi (fun x245 ex245 => ?_)
      have tx245 : x245.toInt = z3.toInt + (1 : Int32).toInt := by rw [ex245]; exact Jvm.Kit.i32_add (by omega) (by omega)
      refine va_sld hx hb hX hbl hbA hw.2 (vin ⟨by omega, by omega⟩) dL_law_826 ?_
      refine lv_topi (fun x246 ex246 => ?_)
      have qx246 : x246 = x242 := by rw [ex246, ex242, ex245, ex241]
      refine te_vi hw (ru_V (As := [.int x246]) (rest := []) (C := RX11) hx hb hml hts hown hk hw (c_X11_image l G hG σ243 hI.1 x246) (m4_in wd759 wd760 wd761 wd5) wd762 (en10 (rfl : nk 78 = 10)) rfl rfl rfl nm_yX11_image ⟨rfl, rfl⟩ ⟨by decide, by decide⟩ rfl hl.1 rfl (Nat.le_of_ble_eq_true rfl) dL_law_827 ⟨Nat.le_of_ble_eq_true rfl, Nat.le_of_ble_eq_true rfl⟩) (fun r248 σ247 H locs hr248 hw => ?_)
      have hA2 := hr248
      rw [qx246] at hA2
      have hIR := rel_image hR hA1 hA2
      have hI : K0 σ247 σ247 := K0.rf hIR.1
      have hR := hIR.2
      have hJ248 := hI
      refine lv_pop hx hb dL_law_830 rfl ?_
      refine lv_goto (tgt := 880) hx hb dL_law_831 (by decide) ?_
      exact tail σ247 _ _ _ hI.1 hw (lv_sub hl [0, 1, 2, 3] rfl) (hR.go hI)
    have w32_23i : ¬ x4.toInt = 23 := fun z => w32_23 (Int32.toInt_inj.mp (z.trans (by decide)))
    by_cases w32_24 : x4 = (24 : Int32)
    · have w32_24i : x4.toInt = 24 := by rw [w32_24]; decide
      refine lv_tableIn (tgt := 834) hx hb dL_law_32 (by omega) (by omega) (by rw [w32_24i]; rfl) (by decide) ?_
      refine lv_aload_n hx hb dL_law_834 rfl (lv_at hl 1 rfl) ?_
      refine lv_aload_n hx hb dL_law_835 rfl (lv_at hl 0 rfl) ?_
      refine lv_iload_n hx hb dL_law_836 rfl (lv_at hl 3 rfl) ?_
      refine lv_iconst (v := 1) hx hb dL_law_837 (by decide) ?_
      refine lv_iadd hx hb dL_law_838 ?_
      refine lv_topi (fun x249 ex249 => ?_)
      have tx249 : x249.toInt = z3.toInt + (1 : Int32).toInt := by rw [ex249]; exact Jvm.Kit.i32_add (by omega) (by omega)
      refine va_sld hx hb hX hbl hbA hw.2 (vin ⟨by omega, by omega⟩) dL_law_839 ?_
      refine lv_topi (fun x250 ex250 => ?_)
      refine te_vi hw (ru_V (As := [.int x250]) (rest := []) (C := RX10) hx hb hml hts hown hk hw (c_X10_restore l G hG σ hI.1 x250) (m4_in wd773 wd774 wd775 wd2) wd776 (en9 (rfl : nk 0 = 9)) rfl rfl rfl nm_yX10_restore ⟨rfl, rfl⟩ ⟨by decide, by decide⟩ rfl hl.1 rfl (Nat.le_of_ble_eq_true rfl) dL_law_840 ⟨Nat.le_of_ble_eq_true rfl, Nat.le_of_ble_eq_true rfl⟩) (fun r252 σ251 H locs hr252 hw => ?_)
      have hA1 := hr252
      have hI : K0 σ251 σ251 := K0.rf (resC_inv hr252)
      have hJ252 := hI
      refine lv_pop hx hb dL_law_843 rfl ?_
      refine lv_aload_n hx hb dL_law_844 rfl (lv_at hl 2 rfl) ?_
      refine lv_aload_n hx hb dL_law_845 rfl (lv_at hl 0 rfl) ?_
      refine lv_iload_n hx hb dL_law_846 rfl (lv_at hl 3 rfl) ?_
      refine lv_iconst (v := 1) hx hb dL_law_847 (by decide) ?_
      refine lv_iadd hx hb dL_law_848 ?_
      refine lv_topi (fun x253 ex253 => ?_)
      have tx253 : x253.toInt = z3.toInt + (1 : Int32).toInt := by rw [ex253]; exact Jvm.Kit.i32_add (by omega) (by omega)
      refine va_sld hx hb hX hbl hbA hw.2 (vin ⟨by omega, by omega⟩) dL_law_849 ?_
      refine lv_topi (fun x254 ex254 => ?_)
      have qx254 : x254 = x250 := by rw [ex254, ex250, ex253, ex249]
      refine te_vi hw (ru_V (As := [.int x254]) (rest := []) (C := RX11) hx hb hml hts hown hk hw (c_X11_restore l G hG σ251 hI.1 x254) (m4_in wd777 wd778 wd779 wd5) wd780 (en10 (rfl : nk 78 = 10)) rfl rfl rfl nm_yX11_restore ⟨rfl, rfl⟩ ⟨by decide, by decide⟩ rfl hl.1 rfl (Nat.le_of_ble_eq_true rfl) dL_law_850 ⟨Nat.le_of_ble_eq_true rfl, Nat.le_of_ble_eq_true rfl⟩) (fun r256 σ255 H locs hr256 hw => ?_)
      have hA2 := hr256
      rw [qx254] at hA2
      have hIR := rel_restore hR hA1 hA2
      have hI : K0 σ255 σ255 := K0.rf hIR.1
      have hR := hIR.2
      have hJ256 := hI
      refine lv_pop hx hb dL_law_853 rfl ?_
      refine lv_goto (tgt := 880) hx hb dL_law_854 (by decide) ?_
      exact tail σ255 _ _ _ hI.1 hw (lv_sub hl [0, 1, 2, 3] rfl) (hR.go hI)
    have w32_24i : ¬ x4.toInt = 24 := fun z => w32_24 (Int32.toInt_inj.mp (z.trans (by decide)))
    by_cases w32_25 : x4 = (25 : Int32)
    · have w32_25i : x4.toInt = 25 := by rw [w32_25]; decide
      refine lv_tableIn (tgt := 857) hx hb dL_law_32 (by omega) (by omega) (by rw [w32_25i]; rfl) (by decide) ?_
      refine lv_aload_n hx hb dL_law_857 rfl (lv_at hl 1 rfl) ?_
      refine lv_aload_n hx hb dL_law_858 rfl (lv_at hl 0 rfl) ?_
      refine lv_iload_n hx hb dL_law_859 rfl (lv_at hl 3 rfl) ?_
      refine lv_iconst (v := 1) hx hb dL_law_860 (by decide) ?_
      refine lv_iadd hx hb dL_law_861 ?_
      refine lv_topi (fun x257 ex257 => ?_)
      have tx257 : x257.toInt = z3.toInt + (1 : Int32).toInt := by rw [ex257]; exact Jvm.Kit.i32_add (by omega) (by omega)
      refine va_sld hx hb hX hbl hbA hw.2 (vin ⟨by omega, by omega⟩) dL_law_862 ?_
      refine lv_topi (fun x258 ex258 => ?_)
      refine te_vi hw (ru_V (As := [.int x258]) (rest := []) (C := RX10) hx hb hml hts hown hk hw (c_X10_told l G hG σ hI.1 x258) (m4_in wd781 wd782 wd783 wd2) wd784 (en9 (rfl : nk 0 = 9)) rfl rfl rfl nm_yX10_told ⟨rfl, rfl⟩ ⟨by decide, by decide⟩ rfl hl.1 rfl (Nat.le_of_ble_eq_true rfl) dL_law_863 ⟨Nat.le_of_ble_eq_true rfl, Nat.le_of_ble_eq_true rfl⟩) (fun r260 σ259 H locs hr260 hw => ?_)
      rw [hr260.1] at hw
      have hr260 := hr260.2
      have hJ260 := hI
      refine lv_pop hx hb dL_law_866 rfl ?_
      refine lv_aload_n hx hb dL_law_867 rfl (lv_at hl 2 rfl) ?_
      refine lv_aload_n hx hb dL_law_868 rfl (lv_at hl 0 rfl) ?_
      refine lv_iload_n hx hb dL_law_869 rfl (lv_at hl 3 rfl) ?_
      refine lv_iconst (v := 1) hx hb dL_law_870 (by decide) ?_
      refine lv_iadd hx hb dL_law_871 ?_
      refine lv_topi (fun x261 ex261 => ?_)
      have tx261 : x261.toInt = z3.toInt + (1 : Int32).toInt := by rw [ex261]; exact Jvm.Kit.i32_add (by omega) (by omega)
      refine va_sld hx hb hX hbl hbA hw.2 (vin ⟨by omega, by omega⟩) dL_law_872 ?_
      refine lv_topi (fun x262 ex262 => ?_)
      have qx262 : x262 = x258 := by rw [ex262, ex258, ex261, ex257]
      refine te_vi hw (ru_V (As := [.int x262]) (rest := []) (C := RX11) hx hb hml hts hown hk hw (c_X11_told l G hG σ hI.1 x262) (m4_in wd793 wd794 wd795 wd5) wd796 (en10 (rfl : nk 78 = 10)) rfl rfl rfl nm_yX11_told ⟨rfl, rfl⟩ ⟨by decide, by decide⟩ rfl hl.1 rfl (Nat.le_of_ble_eq_true rfl) dL_law_873 ⟨Nat.le_of_ble_eq_true rfl, Nat.le_of_ble_eq_true rfl⟩) (fun r264 σ263 H locs hr264 hw => ?_)
      rw [hr264.1] at hw
      have hr264 := hr264.2
      have hJ264 := hI
      refine lv_pop hx hb dL_law_876 rfl ?_
      refine lv_goto (tgt := 880) hx hb dL_law_877 (by decide) ?_
      exact tail σ _ _ _ hI.1 hw (lv_sub hl [0, 1, 2, 3] rfl) (hR.go hI)
    have w32_25i : ¬ x4.toInt = 25 := fun z => w32_25 (Int32.toInt_inj.mp (z.trans (by decide)))
    refine lv_tableOut (tgt := 880) hx hb dL_law_32 (by omega) (by decide) ?_
    exact tail σ _ _ _ hI.1 hw (lv_sub hl [0, 1, 2, 3] rfl) (hR.go hI)
