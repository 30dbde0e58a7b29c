theorem nm_yX5_init : nMH yX5_init 0 := by decide +kernel
theorem nm_yX4_init : nMH yX4_init 0 := by decide +kernel
theorem nm_yX2_init : nMH yX2_init 0 := by decide +kernel
theorem nm_yX6_init : nMH yX6_init 1 := by decide +kernel
theorem nm_yX1_init : nMH yX1_init 0 := by decide +kernel
theorem nm_yX3_init : nMH yX3_init 0 := by decide +kernel
theorem nm_yX7_init : nMH yX7_init 0 := by decide +kernel
theorem nm_yX0_init : nMH yX0_init 0 := by decide +kernel
theorem nm_yX8_init : nMH yX8_init 0 := by decide +kernel
theorem nm_yX9_init : nMH yX9_init 0 := by decide +kernel
theorem nm_yX10_init : nMH yX10_init 0 := by decide +kernel
theorem nm_yX11_init : nMH yX11_init 0 := by decide +kernel
theorem upE_id {E : Nat → va_E} {i : Nat} {e : va_E} (h : E i = e) : upE E i e = E := by funext q; by_cases hq : q = i <;> simp [upE, hq, h]
theorem tn_obj {p : Program} {l : Launch} {e : Env} {R : Room} {s : State} {m : MethodId} {args : Array Value} {below : List Frame} {meth : Method} {c : Code} {H : Heap} {locs : List Loc} {cells slots : Nat} {Q : State → Prop} {cc : ByteArray} {pc idx a : Nat} {ls : Array Slot} {rest : List Value} {own : String} (hx : p.tables.exec = Jvm.exec) (hb : c.code = cc) (hown : s.vm.findClass own = some m.cls) (hlink : (Cond.methodLink own idx Lib.objectInit).before args s = true) (hinst : (Cond.instanceMethod Lib.objectInit).before args s = true) (hcode : (Cond.code Lib.objectInit ⟨#[0xb1]⟩ 1 none).before args s = true) (hsize : ls.size = c.maxLocals) (hd : decode cc pc = .ok (.invokespecial idx, 3)) (hframes : 1 ≤ R.frames) (hlocals : (rest.map fun v => v.category).sum + 12 ≤ R.locals) (kk : W p l e R s m args below meth c H locs cells slots Q (F0 m (pc + 3) ls rest)) : W p l e R s m args below meth c H locs cells slots Q (F0 m pc ls (.ref a :: rest)) :=
  W.objInit hx hb hown hlink hinst hcode rfl hsize rfl hd hframes (by show 2 * 0 + _ + 12 ≤ _; omega) kk
theorem bl0_fs : ∀ j, j < 5 → defaultValue (tyX0 j) = vp_V [.null, .null, .int 0, .int 0, .int 0] j := fun j hj => by
  match j, hj with
  | 0, _ => rfl
  | 1, _ => rfl
  | 2, _ => rfl
  | 3, _ => rfl
  | 4, _ => rfl
  | j + 5, h => exact absurd h (by omega)
theorem bl1_fs : ∀ j, j < 4 → defaultValue (tyX1 j) = vp_V [.null, .null, .int 0, .int 0] j := fun j hj => by
  match j, hj with
  | 0, _ => rfl
  | 1, _ => rfl
  | 2, _ => rfl
  | 3, _ => rfl
  | j + 4, h => exact absurd h (by omega)
theorem bl2_fs : ∀ j, j < 2 → defaultValue (tyX2 j) = vp_V [.null, .null] j := fun j hj => by
  match j, hj with
  | 0, _ => rfl
  | 1, _ => rfl
  | j + 2, h => exact absurd h (by omega)
theorem bl3_fs : ∀ j, j < 3 → defaultValue (tyX3 j) = vp_V [.null, .null, .null] j := fun j hj => by
  match j, hj with
  | 0, _ => rfl
  | 1, _ => rfl
  | 2, _ => rfl
  | j + 3, h => exact absurd h (by omega)
theorem bl4_fs : ∀ j, j < 2 → defaultValue (tyX4 j) = vp_V [.null, .int 0] j := fun j hj => by
  match j, hj with
  | 0, _ => rfl
  | 1, _ => rfl
  | j + 2, h => exact absurd h (by omega)
theorem bl5_fs : ∀ j, j < 8 → defaultValue (tyX6 j) = vp_V [.int 0, .int 0, .int 0, .int 0, .int 0, .int 0, .int 0, .int 0] j := fun j hj => by
  match j, hj with
  | 0, _ => rfl
  | 1, _ => rfl
  | 2, _ => rfl
  | 3, _ => rfl
  | 4, _ => rfl
  | 5, _ => rfl
  | 6, _ => rfl
  | 7, _ => rfl
  | j + 8, h => exact absurd h (by omega)
theorem bl6_fs : ∀ j, j < 2 → defaultValue (tyX7 j) = vp_V [.null, .int 0] j := fun j hj => by
  match j, hj with
  | 0, _ => rfl
  | 1, _ => rfl
  | j + 2, h => exact absurd h (by omega)
theorem bl7_fs : ∀ j, j < 3 → defaultValue (tyX8 j) = vp_V [.int 0, .int 0, .int 0] j := fun j hj => by
  match j, hj with
  | 0, _ => rfl
  | 1, _ => rfl
  | 2, _ => rfl
  | j + 3, h => exact absurd h (by omega)
theorem bl8_fs : ∀ j, j < 3 → defaultValue (tyX9 j) = vp_V [.null, .null, .int 0] j := fun j hj => by
  match j, hj with
  | 0, _ => rfl
  | 1, _ => rfl
  | 2, _ => rfl
  | j + 3, h => exact absurd h (by omega)
theorem bl9_fs : ∀ j, j < 9 → defaultValue (tyX10 j) = vp_V [.null, .null, .null, .null, .null, .null, .null, .null, .null] j := fun j hj => by
  match j, hj with
  | 0, _ => rfl
  | 1, _ => rfl
  | 2, _ => rfl
  | 3, _ => rfl
  | 4, _ => rfl
  | 5, _ => rfl
  | 6, _ => rfl
  | 7, _ => rfl
  | 8, _ => rfl
  | j + 9, h => exact absurd h (by omega)
theorem bl10_fs : ∀ j, j < 25 → defaultValue (tyX11 j) = vp_V [.null, .null, .null, .int 0, .null, .null, .null, .int 0, .null, .null, .null, .int 0, .null, .int 0, .int 0, .int 0, .int 0, .int 0, .int 0, .int 0, .null, .null, .null, .int 0, .int 0] j := fun j hj => by
  match j, hj with
  | 0, _ => rfl
  | 1, _ => rfl
  | 2, _ => rfl
  | 3, _ => rfl
  | 4, _ => rfl
  | 5, _ => rfl
  | 6, _ => rfl
  | 7, _ => rfl
  | 8, _ => rfl
  | 9, _ => rfl
  | 10, _ => rfl
  | 11, _ => rfl
  | 12, _ => rfl
  | 13, _ => rfl
  | 14, _ => rfl
  | 15, _ => rfl
  | 16, _ => rfl
  | 17, _ => rfl
  | 18, _ => rfl
  | 19, _ => rfl
  | 20, _ => rfl
  | 21, _ => rfl
  | 22, _ => rfl
  | 23, _ => rfl
  | 24, _ => rfl
  | j + 25, h => exact absurd h (by omega)
set_option maxHeartbeats 4000000 in
theorem c_X5_init (l : Launch) (G : Gg) (b : Nat) (E : Nat → va_E) (o : Nat) : MC l G yX5_init cX5_init 1 (rmC 1 20 0 0) 0 0 b E o [.ref (b + (o))] (fun E' => E' = E) := by
  refine MC.of (by decide +kernel) rfl (Nat.le_of_ble_eq_true rfl) ?_
  intro p e s m a below meth c ls Q hx hb hml hts hown hin hk hw ret hl
  have hown : s.vm.findClass RX5 = some m.cls := hown
  have hl : lv_has ls 1 [(0, .ref (b + (o)))] := hl
  refine lv_aload_n hx hb dX5_init_0 rfl (lv_at hl 0 rfl) ?_
  refine tn_obj hx hb hown (hts _ wd63) (hts _ wd10) (hts _ wd11) (hl.1.trans hml.symm) dX5_init_1 (Nat.le_of_ble_eq_true rfl) (Nat.le_of_ble_eq_true rfl) ?_
  exact ret E _ _ 4 _ rfl hw dX5_init_4
def atX4 (G : Gg) (b : Nat) (E : Nat → va_E) (o : Nat) : Prop := E (o) = .inr (4, [.ref (b + (o + 1)), .int 0]) ∧ E (o + 1) = .inl (G.2.1.1, 40, .inl z0)
theorem atX4_cong {G : Gg} {b : Nat} {E E' : Nat → va_E} {o : Nat} (q : atX4 G b E o) (h : ∀ j, o ≤ j → j < o + 2 → E' j = E j) : atX4 G b E' o := by
  obtain ⟨q0, q1⟩ := q
  exact ⟨(h _ (by omega) (by omega)).trans q0, (h _ (by omega) (by omega)).trans q1⟩
set_option maxHeartbeats 4000000 in
set_option maxRecDepth 100000 in
theorem c_X4_init (l : Launch) (G : Gg) (b : Nat) (E : Nat → va_E) (o : Nat) (tO : E o = .inr (4, [.null, .int 0])) : MC l G yX4_init cX4_init 1 (rmC 1 20 1 40) 1 40 b E o [.ref (b + (o))] (fun E' => (∀ j, j < o → E' j = E j) ∧ atX4 G b E' o) := by
  refine MC.of (by decide +kernel) rfl (Nat.le_of_ble_eq_true rfl) ?_
  intro p e s m a below meth c ls Q hx hb hml hts hown hin hk hw ret hl
  have hown : s.vm.findClass RX4 = some m.cls := hown
  have hl : lv_has ls 1 [(0, .ref (b + (o)))] := hl
  have hF : ∀ j, j < o → E j = E j := fun _ _ => rfl
  generalize hHe : s.heap = H at hw ⊢
  generalize hLe : ([] : List Loc) = locs at hw ⊢
  refine lv_aload_n hx hb dX4_init_0 rfl (lv_at hl 0 rfl) ?_
  refine tn_obj hx hb hown (hts _ wd39) (hts _ wd10) (hts _ wd11) (hl.1.trans hml.symm) dX4_init_1 (Nat.le_of_ble_eq_true rfl) (Nat.le_of_ble_eq_true rfl) ?_
  refine lv_aload_n hx hb dX4_init_4 rfl (lv_at hl 0 rfl) ?_
  refine lv_bipush (v := 40) hx hb dX4_init_5 (by decide) ?_
  refine tn_newa (t0 := 0) (ty := .int) hx hb hts hk.1 hw rfl rfl rfl (fun z => z) wd40 (N := 40) (by decide) (by decide) (by decide) (Nat.le_of_ble_eq_true rfl) (Nat.le_of_ble_eq_true rfl) dX4_init_7 (fun H hw => ?_)
  obtain ⟨E1, eE1⟩ : ∃ zz, zz = upE E (o + 1) (.inl (G.2.1.1, 40, .inl z0)) := ⟨_, rfl⟩
  have hw : PE G.1 b E1 (o + 2) s H locs := by rw [eE1]; exact hw
  have hF : ∀ j, j < o → E1 j = E j := fun j hj => (show E1 j = E j by rw [eE1, upE_ne (by omega)]).trans (hF j hj)
  have tO : E1 (o) = .inr (4, [.null, .int 0]) := by rw [eE1, upE_ne (by omega)]; exact tO
  have t1 : E1 (o + 1) = .inl (G.2.1.1, 40, .inl z0) := by rw [eE1]; exact upE_at
  refine tn_putF (i := o) (ci := 4) (k := 0) hx hb hts hown hk.1 hw tyX4 hin rfl (by omega) tO rfl inlX4 tyX4_ok nmX4 (by decide) wd41 rfl rfl rfl (Nat.le_of_ble_eq_true rfl) dX4_init_9 (fun H locs hw => ?_)
  obtain ⟨E2, eE2⟩ : ∃ zz, zz = upE E1 (o) (.inr (4, [.ref (b + (o + 1)), .int 0])) := ⟨_, rfl⟩
  have hw : PE G.1 b E2 (o + 2) s H locs := by rw [eE2]; exact hw
  have hF : ∀ j, j < o → E2 j = E j := fun j hj => (show E2 j = E1 j by rw [eE2, upE_ne (by omega)]).trans (hF j hj)
  have t1 : E2 (o + 1) = .inl (G.2.1.1, 40, .inl z0) := by rw [eE2, upE_ne (by omega)]; exact t1
  have tO : E2 (o) = .inr (4, [.ref (b + (o + 1)), .int 0]) := by rw [eE2]; exact upE_at
  exact ret E2 _ _ 12 _ ⟨hF, ⟨tO, t1⟩⟩ hw dX4_init_12
def atX2 (G : Gg) (b : Nat) (E : Nat → va_E) (o : Nat) : Prop := E (o) = .inr (2, [.ref (b + (o + 1)), .ref (b + (o + 2))]) ∧ E (o + 1) = .inl (G.2.1.1, 256, .inl z0) ∧ E (o + 2) = .inl (G.2.1.1, 64, .inl (fillF (-6 : Int32) 64))
theorem atX2_cong {G : Gg} {b : Nat} {E E' : Nat → va_E} {o : Nat} (q : atX2 G b E o) (h : ∀ j, o ≤ j → j < o + 3 → E' j = E j) : atX2 G b E' o := by
  obtain ⟨q0, q1, q2⟩ := q
  exact ⟨(h _ (by omega) (by omega)).trans q0, (h _ (by omega) (by omega)).trans q1, (h _ (by omega) (by omega)).trans q2⟩
set_option maxHeartbeats 4000000 in
set_option maxRecDepth 100000 in
theorem c_X2_init (l : Launch) (G : Gg) (b : Nat) (E : Nat → va_E) (o : Nat) (tO : E o = .inr (2, [.null, .null])) : MC l G yX2_init cX2_init 2 (rmC 2 40 2 320) 2 320 b E o [.ref (b + (o))] (fun E' => (∀ j, j < o → E' j = E j) ∧ atX2 G b E' o) := by
  refine MC.of (by decide +kernel) rfl (Nat.le_of_ble_eq_true rfl) ?_
  intro p e s m a below meth c ls Q hx hb hml hts hown hin hk hw ret hl
  have hown : s.vm.findClass RX2 = some m.cls := hown
  have hl : lv_has ls 2 [(0, .ref (b + (o)))] := hl
  have hF : ∀ j, j < o → E j = E j := fun _ _ => rfl
  generalize hHe : s.heap = H at hw ⊢
  generalize hLe : ([] : List Loc) = locs at hw ⊢
  refine lv_aload_n hx hb dX2_init_0 rfl (lv_at hl 0 rfl) ?_
  refine tn_IN (As := []) (rest := []) (o := o) hx hb hml hts hown hk hw (c_X5_init l G b E (o)) (m2_in wd61 wd60) (by decide +kernel) wd62 rfl nm_yX5_init ⟨rfl, rfl⟩ ⟨by decide, by decide⟩ rfl hl.1 rfl (Nat.le_of_ble_eq_true rfl) dX2_init_1 ⟨Nat.le_of_ble_eq_true rfl, Nat.le_of_ble_eq_true rfl⟩ (fun E1 H locs hE1 hw => ?_)
  rw [hE1] at hw
  have hw : PE G.1 b E (o + 1) s H locs := hw
  refine lv_aload_n hx hb dX2_init_4 rfl (lv_at hl 0 rfl) ?_
  refine lv_sipush (v := 256) hx hb dX2_init_5 (by decide) ?_
  refine tn_newa (t0 := 0) (ty := .int) hx hb hts hk.1 hw rfl rfl rfl (fun z => z) wd40 (N := 256) (by decide) (by decide) (by decide) (Nat.le_of_ble_eq_true rfl) (Nat.le_of_ble_eq_true rfl) dX2_init_8 (fun H hw => ?_)
  obtain ⟨E2, eE2⟩ : ∃ zz, zz = upE E (o + 1) (.inl (G.2.1.1, 256, .inl z0)) := ⟨_, rfl⟩
  have hw : PE G.1 b E2 (o + 2) s H locs := by rw [eE2]; exact hw
  have hF : ∀ j, j < o → E2 j = E j := fun j hj => (show E2 j = E j by rw [eE2, upE_ne (by omega)]).trans (hF j hj)
  have tO : E2 (o) = .inr (2, [.null, .null]) := by rw [eE2, upE_ne (by omega)]; exact tO
  have t1 : E2 (o + 1) = .inl (G.2.1.1, 256, .inl z0) := by rw [eE2]; exact upE_at
  refine tn_putF (i := o) (ci := 2) (k := 0) hx hb hts hown hk.1 hw tyX2 hin rfl (by omega) tO rfl inlX2 tyX2_ok nmX2 (by decide) wd58 rfl rfl rfl (Nat.le_of_ble_eq_true rfl) dX2_init_10 (fun H locs hw => ?_)
  obtain ⟨E3, eE3⟩ : ∃ zz, zz = upE E2 (o) (.inr (2, [.ref (b + (o + 1)), .null])) := ⟨_, rfl⟩
  have hw : PE G.1 b E3 (o + 2) s H locs := by rw [eE3]; exact hw
  have hF : ∀ j, j < o → E3 j = E j := fun j hj => (show E3 j = E2 j by rw [eE3, upE_ne (by omega)]).trans (hF j hj)
  have t1 : E3 (o + 1) = .inl (G.2.1.1, 256, .inl z0) := by rw [eE3, upE_ne (by omega)]; exact t1
  have tO : E3 (o) = .inr (2, [.ref (b + (o + 1)), .null]) := by rw [eE3]; exact upE_at
  refine lv_aload_n hx hb dX2_init_13 rfl (lv_at hl 0 rfl) ?_
  refine lv_bipush (v := 64) hx hb dX2_init_14 (by decide) ?_
  refine tn_newa (t0 := 0) (ty := .int) hx hb hts hk.1 hw rfl rfl rfl (fun z => z) wd40 (N := 64) (by decide) (by decide) (by decide) (Nat.le_of_ble_eq_true rfl) (Nat.le_of_ble_eq_true rfl) dX2_init_16 (fun H hw => ?_)
  obtain ⟨E4, eE4⟩ : ∃ zz, zz = upE E3 (o + 2) (.inl (G.2.1.1, 64, .inl z0)) := ⟨_, rfl⟩
  have hw : PE G.1 b E4 (o + 3) s H locs := by rw [eE4]; exact hw
  have hF : ∀ j, j < o → E4 j = E j := fun j hj => (show E4 j = E3 j by rw [eE4, upE_ne (by omega)]).trans (hF j hj)
  have tO : E4 (o) = .inr (2, [.ref (b + (o + 1)), .null]) := by rw [eE4, upE_ne (by omega)]; exact tO
  have t1 : E4 (o + 1) = .inl (G.2.1.1, 256, .inl z0) := by rw [eE4, upE_ne (by omega)]; exact t1
  have t2 : E4 (o + 2) = .inl (G.2.1.1, 64, .inl z0) := by rw [eE4]; exact upE_at
  refine tn_putF (i := o) (ci := 2) (k := 1) hx hb hts hown hk.1 hw tyX2 hin rfl (by omega) tO rfl inlX2 tyX2_ok nmX2 (by decide) wd59 rfl rfl rfl (Nat.le_of_ble_eq_true rfl) dX2_init_18 (fun H locs hw => ?_)
  obtain ⟨E5, eE5⟩ : ∃ zz, zz = upE E4 (o) (.inr (2, [.ref (b + (o + 1)), .ref (b + (o + 2))])) := ⟨_, rfl⟩
  have hw : PE G.1 b E5 (o + 3) s H locs := by rw [eE5]; exact hw
  have hF : ∀ j, j < o → E5 j = E j := fun j hj => (show E5 j = E4 j by rw [eE5, upE_ne (by omega)]).trans (hF j hj)
  have t1 : E5 (o + 1) = .inl (G.2.1.1, 256, .inl z0) := by rw [eE5, upE_ne (by omega)]; exact t1
  have t2 : E5 (o + 2) = .inl (G.2.1.1, 64, .inl z0) := by rw [eE5, upE_ne (by omega)]; exact t2
  have tO : E5 (o) = .inr (2, [.ref (b + (o + 1)), .ref (b + (o + 2))]) := by rw [eE5]; exact upE_at
  refine lv_iconst (v := 0) hx hb dX2_init_21 (by decide) ?_
  refine lv_istore_n (lv' := [(1, .int (0 : Int32)), (0, .ref (b + (o)))]) hx hb dX2_init_22 rfl hl (by decide) rfl (fun ls hl => ?_)
  have cut23 : ∀ (n23 : Nat) (z : Int32) (H : Heap) (locs : List Loc) (ls : Array Slot), (0 ≤ z.toInt ∧ z.toInt ≤ 64) → ((64 - z.toInt).toNat : Int) < (n23 : Int) → PE G.1 b (upE E5 (o + 2) (.inl (G.2.1.1, 64, .inl (fillF (-6 : Int32) z.toNatClampNeg)))) (o + 3) s H locs → lv_has ls 2 [(0, .ref (b + (o))), (1, .int z)] → W p l e (rmC 2 40 2 320) s m a below meth c H locs 2 320 Q (F0 m 23 ls []) := by
    intro n23
    induction n23 with
    | zero => intro z H locs ls f hm; exfalso; omega
    | succ n23 ih23 =>
      intro z H locs ls f hm hw hl
      have LV : (64 : Int32).toInt = 64 := by decide
      obtain ⟨E6, eE6⟩ : ∃ zz, zz = upE E5 (o + 2) (.inl (G.2.1.1, 64, .inl (fillF (-6 : Int32) z.toNatClampNeg))) := ⟨_, rfl⟩
      have hw : PE G.1 b E6 (o + 3) s H locs := by rw [eE6]; exact hw
      have hF : ∀ j, j < o → E6 j = E j := fun j hj => (show E6 j = E5 j by rw [eE6, upE_ne (by omega)]).trans (hF j hj)
      have tO : E6 (o) = .inr (2, [.ref (b + (o + 1)), .ref (b + (o + 2))]) := by rw [eE6, upE_ne (by omega)]; exact tO
      have t1 : E6 (o + 1) = .inl (G.2.1.1, 256, .inl z0) := by rw [eE6, upE_ne (by omega)]; exact t1
      have t2 : E6 (o + 2) = .inl (G.2.1.1, 64, .inl (fillF (-6 : Int32) z.toNatClampNeg)) := by rw [eE6]; exact upE_at
      refine lv_iload_n hx hb dX2_init_23 rfl (lv_at hl 1 rfl) ?_
      refine lv_bipush (v := 64) hx hb dX2_init_24 (by decide) ?_
      refine lv_icmp_ge (tgt := 43) hx hb dX2_init_26 (by decide) (fun cc1 => ?_) (fun cc1 => ?_)
      · have cc2 := Int32.le_iff_toInt_le.mp cc1
        have t2 : E6 (o + 2) = .inl (G.2.1.1, 64, .inl (fillF (-6 : Int32) 64)) := by rw [t2, show z.toNatClampNeg = 64 from by have q := clI z (by omega); omega]
        exact ret E6 _ _ 43 _ ⟨hF, ⟨tO, t1, t2⟩⟩ hw dX2_init_43
      · have cc2 := mt Int32.le_iff_toInt_le.mpr cc1
        have cc3 := clI z (by omega)
        refine lv_aload_n hx hb dX2_init_29 rfl (lv_at hl 0 rfl) ?_
        refine tn_get (i := o) (ci := 2) (k := 1) (v := .ref (b + (o + 2))) hx hb hts hown hk.1 hw (by omega) tO rfl inlX2 (by decide) wd59 rfl dX2_init_30 ?_
        refine lv_iload_n hx hb dX2_init_33 rfl (lv_at hl 1 rfl) ?_
        refine lv_bipush (v := -6) hx hb dX2_init_34 (by decide) ?_
        refine tn_iast (i := o + 2) hx hb hk.1 hw (by omega) t2 (vin ⟨by omega, by omega⟩) dX2_init_36 (fun H locs hw => ?_)
        obtain ⟨y, ey⟩ : ∃ q : Int32, q = z + 1 := ⟨_, rfl⟩
        have L1 : (1 : Int32).toInt = 1 := by decide
        have ty : y.toInt = z.toInt + 1 := by rw [ey, Jvm.Kit.i32_add (by omega) (by omega)]; omega
        have cy := clI y (by omega)
        refine lv_iinc (v := y) (lv' := [(1, .int y), (0, .ref (b + (o)))]) hx hb dX2_init_37 hl (k := 1) rfl (by rw [ey]; rfl) (by decide) rfl (fun ls hl => ?_)
        refine lv_goto (tgt := 23) hx hb dX2_init_40 (by decide) ?_
        exact ih23 y _ _ _ (by omega) (by omega) (by rw [show y.toNatClampNeg = z.toNatClampNeg + 1 from by omega, ← fillF_s, ← upE_up (e := .inl (G.2.1.1, 64, .inl (fillF (-6 : Int32) z.toNatClampNeg))), ← eE6]; exact hw) (lv_sub hl [1, 0] rfl)
  exact cut23 65 (0 : Int32) _ _ _ (by decide) (by decide) (by rw [show (0 : Int32).toNatClampNeg = 0 from rfl, fillF_0, upE_id t2]; exact hw) (lv_sub hl [1, 0] rfl)
def atX6 (G : Gg) (b : Nat) (E : Nat → va_E) (o : Nat) (num : Int32) : Prop := E (o) = .inr (5, [.int 0, .int 0, .int num, .int (20 : Int32), .int 0, .int (3 : Int32), .int 0, .int 0])
theorem atX6_cong {G : Gg} {b : Nat} {E E' : Nat → va_E} {o : Nat} {num : Int32} (q : atX6 G b E o num) (h : ∀ j, o ≤ j → j < o + 1 → E' j = E j) : atX6 G b E' o num := by
  exact (h _ (by omega) (by omega)).trans q
set_option maxHeartbeats 4000000 in
set_option maxRecDepth 100000 in
theorem c_X6_init (l : Launch) (G : Gg) (b : Nat) (E : Nat → va_E) (o : Nat) (tO : E o = .inr (5, [.int 0, .int 0, .int 0, .int 0, .int 0, .int 0, .int 0, .int 0])) (number : Int32) : MC l G yX6_init cX6_init 2 (rmC 1 20 0 0) 0 0 b E o [.ref (b + (o)), .int number] (fun E' => (∀ j, j < o → E' j = E j) ∧ atX6 G b E' o number) := by
  refine MC.of (by decide +kernel) rfl (Nat.le_of_ble_eq_true rfl) ?_
  intro p e s m a below meth c ls Q hx hb hml hts hown hin hk hw ret hl
  have hown : s.vm.findClass RX6 = some m.cls := hown
  have hl : lv_has ls 2 [(0, .ref (b + (o))), (1, .int number)] := hl
  have hF : ∀ j, j < o → E j = E j := fun _ _ => rfl
  generalize hHe : s.heap = H at hw ⊢
  generalize hLe : ([] : List Loc) = locs at hw ⊢
  refine lv_aload_n hx hb dX6_init_0 rfl (lv_at hl 0 rfl) ?_
  refine tn_obj hx hb hown (hts _ wd77) (hts _ wd10) (hts _ wd11) (hl.1.trans hml.symm) dX6_init_1 (Nat.le_of_ble_eq_true rfl) (Nat.le_of_ble_eq_true rfl) ?_
  refine lv_aload_n hx hb dX6_init_4 rfl (lv_at hl 0 rfl) ?_
  refine lv_iload_n hx hb dX6_init_5 rfl (lv_at hl 1 rfl) ?_
  refine tn_put (i := o) (ci := 5) (k := 2) hx hb hts hown hk.1 hw tyX6 (by omega) tO rfl inlX6 tyX6_ok nmX6 (by decide) wd78 rfl rfl rfl (Nat.le_of_ble_eq_true rfl) dX6_init_6 (fun H locs hw => ?_)
  obtain ⟨E1, eE1⟩ : ∃ zz, zz = upE E (o) (.inr (5, [.int 0, .int 0, .int number, .int 0, .int 0, .int 0, .int 0, .int 0])) := ⟨_, rfl⟩
  have hw : PE G.1 b E1 (o + 1) s H locs := by rw [eE1]; exact hw
  have hF : ∀ j, j < o → E1 j = E j := fun j hj => (show E1 j = E j by rw [eE1, upE_ne (by omega)]).trans (hF j hj)
  have tO : E1 (o) = .inr (5, [.int 0, .int 0, .int number, .int 0, .int 0, .int 0, .int 0, .int 0]) := by rw [eE1]; exact upE_at
  refine lv_aload_n hx hb dX6_init_9 rfl (lv_at hl 0 rfl) ?_
  refine lv_bipush (v := 20) hx hb dX6_init_10 (by decide) ?_
  refine tn_put (i := o) (ci := 5) (k := 3) hx hb hts hown hk.1 hw tyX6 (by omega) tO rfl inlX6 tyX6_ok nmX6 (by decide) wd79 rfl rfl rfl (Nat.le_of_ble_eq_true rfl) dX6_init_12 (fun H locs hw => ?_)
  obtain ⟨E2, eE2⟩ : ∃ zz, zz = upE E1 (o) (.inr (5, [.int 0, .int 0, .int number, .int (20 : Int32), .int 0, .int 0, .int 0, .int 0])) := ⟨_, rfl⟩
  have hw : PE G.1 b E2 (o + 1) s H locs := by rw [eE2]; exact hw
  have hF : ∀ j, j < o → E2 j = E j := fun j hj => (show E2 j = E1 j by rw [eE2, upE_ne (by omega)]).trans (hF j hj)
  have tO : E2 (o) = .inr (5, [.int 0, .int 0, .int number, .int (20 : Int32), .int 0, .int 0, .int 0, .int 0]) := by rw [eE2]; exact upE_at
  refine lv_aload_n hx hb dX6_init_15 rfl (lv_at hl 0 rfl) ?_
  refine lv_iconst (v := 3) hx hb dX6_init_16 (by decide) ?_
  refine tn_put (i := o) (ci := 5) (k := 5) hx hb hts hown hk.1 hw tyX6 (by omega) tO rfl inlX6 tyX6_ok nmX6 (by decide) wd80 rfl rfl rfl (Nat.le_of_ble_eq_true rfl) dX6_init_17 (fun H locs hw => ?_)
  obtain ⟨E3, eE3⟩ : ∃ zz, zz = upE E2 (o) (.inr (5, [.int 0, .int 0, .int number, .int (20 : Int32), .int 0, .int (3 : Int32), .int 0, .int 0])) := ⟨_, rfl⟩
  have hw : PE G.1 b E3 (o + 1) s H locs := by rw [eE3]; exact hw
  have hF : ∀ j, j < o → E3 j = E j := fun j hj => (show E3 j = E2 j by rw [eE3, upE_ne (by omega)]).trans (hF j hj)
  have tO : E3 (o) = .inr (5, [.int 0, .int 0, .int number, .int (20 : Int32), .int 0, .int (3 : Int32), .int 0, .int 0]) := by rw [eE3]; exact upE_at
  exact ret E3 _ _ 20 _ ⟨hF, tO⟩ hw dX6_init_20
def atX1 (G : Gg) (b : Nat) (E : Nat → va_E) (o : Nat) : Prop := E (o) = .inr (1, [.ref (b + (o + 1)), .ref (b + (o + 2)), .int 0, .int (-6 : Int32)]) ∧ E (o + 1) = .inl (G.2.1.2.2.2, 4, .inr (.inr (.inr (.inr (va_up (va_up (va_up (va_up (fun _ => none) 0 (some (b + (o + 3)))) 1 (some (b + (o + 4)))) 2 (some (b + (o + 5)))) 3 (some (b + (o + 6)))))))) ∧ E (o + 2) = .inl (G.2.1.1, 4, .inl z0) ∧ atX6 G b E (o + 3) (0 : Int32) ∧ atX6 G b E (o + 4) (1 : Int32) ∧ atX6 G b E (o + 5) (2 : Int32) ∧ atX6 G b E (o + 6) (3 : Int32)
theorem atX1_cong {G : Gg} {b : Nat} {E E' : Nat → va_E} {o : Nat} (q : atX1 G b E o) (h : ∀ j, o ≤ j → j < o + 7 → E' j = E j) : atX1 G b E' o := by
  obtain ⟨q0, q1, q2, q3, q4, q5, q6⟩ := q
  exact ⟨(h _ (by omega) (by omega)).trans q0, (h _ (by omega) (by omega)).trans q1, (h _ (by omega) (by omega)).trans q2, atX6_cong q3 (fun j h1 h2 => h j (by omega) (by omega)), atX6_cong q4 (fun j h1 h2 => h j (by omega) (by omega)), atX6_cong q5 (fun j h1 h2 => h j (by omega) (by omega)), atX6_cong q6 (fun j h1 h2 => h j (by omega) (by omega))⟩
set_option maxHeartbeats 4000000 in
set_option maxRecDepth 100000 in
theorem c_X1_init (l : Launch) (G : Gg) (b : Nat) (E : Nat → va_E) (o : Nat) (tO : E o = .inr (1, [.null, .null, .int 0, .int 0])) : MC l G yX1_init cX1_init 2 (rmC 2 41 6 40) 6 40 b E o [.ref (b + (o))] (fun E' => (∀ j, j < o → E' j = E j) ∧ atX1 G b E' o) := by
  refine MC.of (by decide +kernel) rfl (Nat.le_of_ble_eq_true rfl) ?_
  intro p e s m a below meth c ls Q hx hb hml hts hown hin hk hw ret hl
  have hown : s.vm.findClass RX1 = some m.cls := hown
  have hl : lv_has ls 2 [(0, .ref (b + (o)))] := hl
  have hF : ∀ j, j < o → E j = E j := fun _ _ => rfl
  generalize hHe : s.heap = H at hw ⊢
  generalize hLe : ([] : List Loc) = locs at hw ⊢
  refine lv_aload_n hx hb dX1_init_0 rfl (lv_at hl 0 rfl) ?_
  refine tn_obj hx hb hown (hts _ wd67) (hts _ wd10) (hts _ wd11) (hl.1.trans hml.symm) dX1_init_1 (Nat.le_of_ble_eq_true rfl) (Nat.le_of_ble_eq_true rfl) ?_
  refine lv_aload_n hx hb dX1_init_4 rfl (lv_at hl 0 rfl) ?_
  refine lv_iconst (v := 4) hx hb dX1_init_5 (by decide) ?_
  refine tn_newq hx hb hts hown hk.1 hw (va_AO.use hk.2.2.2) wd68 3 rfl (N := 4) (by decide) (by decide) (by decide) (Nat.le_of_ble_eq_true rfl) (Nat.le_of_ble_eq_true rfl) dX1_init_6 (fun H hw => ?_)
  obtain ⟨E1, eE1⟩ : ∃ zz, zz = upE E (o + 1) (.inl (G.2.1.2.2.2, 4, .inr (.inr (.inr (.inr (fun _ => none)))))) := ⟨_, rfl⟩
  have hw : PE G.1 b E1 (o + 2) s H locs := by rw [eE1]; exact hw
  have hF : ∀ j, j < o → E1 j = E j := fun j hj => (show E1 j = E j by rw [eE1, upE_ne (by omega)]).trans (hF j hj)
  have tO : E1 (o) = .inr (1, [.null, .null, .int 0, .int 0]) := by rw [eE1, upE_ne (by omega)]; exact tO
  have t1 : E1 (o + 1) = .inl (G.2.1.2.2.2, 4, .inr (.inr (.inr (.inr (fun _ => none))))) := by rw [eE1]; exact upE_at
  refine tn_putF (i := o) (ci := 1) (k := 0) hx hb hts hown hk.1 hw tyX1 hin rfl (by omega) tO rfl inlX1 tyX1_ok nmX1 (by decide) wd69 rfl rfl rfl (Nat.le_of_ble_eq_true rfl) dX1_init_9 (fun H locs hw => ?_)
  obtain ⟨E2, eE2⟩ : ∃ zz, zz = upE E1 (o) (.inr (1, [.ref (b + (o + 1)), .null, .int 0, .int 0])) := ⟨_, rfl⟩
  have hw : PE G.1 b E2 (o + 2) s H locs := by rw [eE2]; exact hw
  have hF : ∀ j, j < o → E2 j = E j := fun j hj => (show E2 j = E1 j by rw [eE2, upE_ne (by omega)]).trans (hF j hj)
  have t1 : E2 (o + 1) = .inl (G.2.1.2.2.2, 4, .inr (.inr (.inr (.inr (fun _ => none))))) := by rw [eE2, upE_ne (by omega)]; exact t1
  have tO : E2 (o) = .inr (1, [.ref (b + (o + 1)), .null, .int 0, .int 0]) := by rw [eE2]; exact upE_at
  refine lv_aload_n hx hb dX1_init_12 rfl (lv_at hl 0 rfl) ?_
  refine lv_iconst (v := 4) hx hb dX1_init_13 (by decide) ?_
  refine tn_newa (t0 := 0) (ty := .int) hx hb hts hk.1 hw rfl rfl rfl (fun z => z) wd40 (N := 4) (by decide) (by decide) (by decide) (Nat.le_of_ble_eq_true rfl) (Nat.le_of_ble_eq_true rfl) dX1_init_14 (fun H hw => ?_)
  obtain ⟨E3, eE3⟩ : ∃ zz, zz = upE E2 (o + 2) (.inl (G.2.1.1, 4, .inl z0)) := ⟨_, rfl⟩
  have hw : PE G.1 b E3 (o + 3) s H locs := by rw [eE3]; exact hw
  have hF : ∀ j, j < o → E3 j = E j := fun j hj => (show E3 j = E2 j by rw [eE3, upE_ne (by omega)]).trans (hF j hj)
  have tO : E3 (o) = .inr (1, [.ref (b + (o + 1)), .null, .int 0, .int 0]) := by rw [eE3, upE_ne (by omega)]; exact tO
  have t1 : E3 (o + 1) = .inl (G.2.1.2.2.2, 4, .inr (.inr (.inr (.inr (fun _ => none))))) := by rw [eE3, upE_ne (by omega)]; exact t1
  have t2 : E3 (o + 2) = .inl (G.2.1.1, 4, .inl z0) := by rw [eE3]; exact upE_at
  refine tn_putF (i := o) (ci := 1) (k := 1) hx hb hts hown hk.1 hw tyX1 hin rfl (by omega) tO rfl inlX1 tyX1_ok nmX1 (by decide) wd70 rfl rfl rfl (Nat.le_of_ble_eq_true rfl) dX1_init_16 (fun H locs hw => ?_)
  obtain ⟨E4, eE4⟩ : ∃ zz, zz = upE E3 (o) (.inr (1, [.ref (b + (o + 1)), .ref (b + (o + 2)), .int 0, .int 0])) := ⟨_, rfl⟩
  have hw : PE G.1 b E4 (o + 3) s H locs := by rw [eE4]; exact hw
  have hF : ∀ j, j < o → E4 j = E j := fun j hj => (show E4 j = E3 j by rw [eE4, upE_ne (by omega)]).trans (hF j hj)
  have t1 : E4 (o + 1) = .inl (G.2.1.2.2.2, 4, .inr (.inr (.inr (.inr (fun _ => none))))) := by rw [eE4, upE_ne (by omega)]; exact t1
  have t2 : E4 (o + 2) = .inl (G.2.1.1, 4, .inl z0) := by rw [eE4, upE_ne (by omega)]; exact t2
  have tO : E4 (o) = .inr (1, [.ref (b + (o + 1)), .ref (b + (o + 2)), .int 0, .int 0]) := by rw [eE4]; exact upE_at
  refine lv_aload_n hx hb dX1_init_19 rfl (lv_at hl 0 rfl) ?_
  refine lv_bipush (v := -6) hx hb dX1_init_20 (by decide) ?_
  refine tn_put (i := o) (ci := 1) (k := 3) hx hb hts hown hk.1 hw tyX1 (by omega) tO rfl inlX1 tyX1_ok nmX1 (by decide) wd71 rfl rfl rfl (Nat.le_of_ble_eq_true rfl) dX1_init_22 (fun H locs hw => ?_)
  obtain ⟨E5, eE5⟩ : ∃ zz, zz = upE E4 (o) (.inr (1, [.ref (b + (o + 1)), .ref (b + (o + 2)), .int 0, .int (-6 : Int32)])) := ⟨_, rfl⟩
  have hw : PE G.1 b E5 (o + 3) s H locs := by rw [eE5]; exact hw
  have hF : ∀ j, j < o → E5 j = E j := fun j hj => (show E5 j = E4 j by rw [eE5, upE_ne (by omega)]).trans (hF j hj)
  have t1 : E5 (o + 1) = .inl (G.2.1.2.2.2, 4, .inr (.inr (.inr (.inr (fun _ => none))))) := by rw [eE5, upE_ne (by omega)]; exact t1
  have t2 : E5 (o + 2) = .inl (G.2.1.1, 4, .inl z0) := by rw [eE5, upE_ne (by omega)]; exact t2
  have tO : E5 (o) = .inr (1, [.ref (b + (o + 1)), .ref (b + (o + 2)), .int 0, .int (-6 : Int32)]) := by rw [eE5]; exact upE_at
  refine lv_iconst (v := 0) hx hb dX1_init_25 (by decide) ?_
  refine lv_istore_n (lv' := [(1, .int (0 : Int32)), (0, .ref (b + (o)))]) hx hb dX1_init_26 rfl hl (by decide) rfl (fun ls hl => ?_)
  refine lv_iload_n hx hb dX1_init_27 rfl (lv_at hl 0 rfl) ?_
  refine lv_iconst (v := 4) hx hb dX1_init_28 (by decide) ?_
  refine lv_icmp_ge (tgt := 52) hx hb dX1_init_29 (by decide) (fun c29 => ?_) (fun c29 => ?_)
  · exact absurd c29 (by decide)
  refine lv_aload_n hx hb dX1_init_32 rfl (lv_at hl 1 rfl) ?_
  refine tn_get (i := o) (ci := 1) (k := 0) (v := .ref (b + (o + 1))) hx hb hts hown hk.1 hw (by omega) tO rfl inlX1 (by decide) wd69 rfl dX1_init_33 ?_
  refine lv_iload_n hx hb dX1_init_36 rfl (lv_at hl 0 rfl) ?_
  refine tn_new (ci := 5) (fs := [.int 0, .int 0, .int 0, .int 0, .int 0, .int 0, .int 0, .int 0]) hx hb hts hown hk.1 hw tyX6 rfl inlX6 tyX6_ok (m3_in wd68 wd72 wd73) (bl5_fs) (Nat.le_of_ble_eq_true rfl) (Nat.le_of_ble_eq_true rfl) dX1_init_37 (fun H hw => ?_)
  obtain ⟨E6, eE6⟩ : ∃ zz, zz = upE E5 (o + 3) (.inr (5, [.int 0, .int 0, .int 0, .int 0, .int 0, .int 0, .int 0, .int 0])) := ⟨_, rfl⟩
  have hw : PE G.1 b E6 (o + 4) s H locs := by rw [eE6]; exact hw
  have hF : ∀ j, j < o → E6 j = E j := fun j hj => (show E6 j = E5 j by rw [eE6, upE_ne (by omega)]).trans (hF j hj)
  have tO : E6 (o) = .inr (1, [.ref (b + (o + 1)), .ref (b + (o + 2)), .int 0, .int (-6 : Int32)]) := by rw [eE6, upE_ne (by omega)]; exact tO
  have t1 : E6 (o + 1) = .inl (G.2.1.2.2.2, 4, .inr (.inr (.inr (.inr (fun _ => none))))) := by rw [eE6, upE_ne (by omega)]; exact t1
  have t2 : E6 (o + 2) = .inl (G.2.1.1, 4, .inl z0) := by rw [eE6, upE_ne (by omega)]; exact t2
  have t3 : E6 (o + 3) = .inr (5, [.int 0, .int 0, .int 0, .int 0, .int 0, .int 0, .int 0, .int 0]) := by rw [eE6]; exact upE_at
  refine lv_dup hx hb dX1_init_40 rfl ?_
  refine lv_iload_n hx hb dX1_init_41 rfl (lv_at hl 0 rfl) ?_
  refine tn_I (As := [.int (0 : Int32)]) (rest := [.ref (b + (o + 3)), .int (0 : Int32), .ref (b + (o + 1))]) (o := o + 3) hx hb hml hts hown hk hw (c_X6_init l G b E6 (o + 3) t3 (0 : Int32)) (m3_in wd73 wd74 wd75) wd76 rfl nm_yX6_init ⟨rfl, rfl⟩ ⟨by decide, by decide⟩ rfl hl.1 rfl (Nat.le_of_ble_eq_true rfl) dX1_init_42 ⟨Nat.le_of_ble_eq_true rfl, Nat.le_of_ble_eq_true rfl⟩ (fun E7 H locs hE7 hw => ?_)
  have hw : PE G.1 b E7 (o + 4) s H locs := hw
  have hF : ∀ j, j < o → E7 j = E j := fun j hj => (hE7.1 j (by omega)).trans (hF j hj)
  have tO : E7 (o) = .inr (1, [.ref (b + (o + 1)), .ref (b + (o + 2)), .int 0, .int (-6 : Int32)]) := (hE7.1 _ (by omega)).trans tO
  have t1 : E7 (o + 1) = .inl (G.2.1.2.2.2, 4, .inr (.inr (.inr (.inr (fun _ => none))))) := (hE7.1 _ (by omega)).trans t1
  have t2 : E7 (o + 2) = .inl (G.2.1.1, 4, .inl z0) := (hE7.1 _ (by omega)).trans t2
  have g3 := hE7.2
  refine tn_astq (i := o + 1) (k := o + 3) (ci := 5) hx hb hk.1 hw 3 (by omega) t1 rfl (by omega) g3 rfl (vin ⟨by decide, by decide⟩) dX1_init_45 (fun H locs hw => ?_)
  obtain ⟨E8, eE8⟩ : ∃ zz, zz = upE E7 (o + 1) (.inl (G.2.1.2.2.2, 4, .inr (.inr (.inr (.inr (va_up (fun _ => none) 0 (some (b + (o + 3))))))))) := ⟨_, rfl⟩
  have hw : PE G.1 b E8 (o + 4) s H locs := by rw [eE8]; exact hw
  have hF : ∀ j, j < o → E8 j = E j := fun j hj => (show E8 j = E7 j by rw [eE8, upE_ne (by omega)]).trans (hF j hj)
  have tO : E8 (o) = .inr (1, [.ref (b + (o + 1)), .ref (b + (o + 2)), .int 0, .int (-6 : Int32)]) := by rw [eE8, upE_ne (by omega)]; exact tO
  have t2 : E8 (o + 2) = .inl (G.2.1.1, 4, .inl z0) := by rw [eE8, upE_ne (by omega)]; exact t2
  have g3 : atX6 G b E8 (o + 3) (0 : Int32) := atX6_cong g3 (fun j h1 h2 => by rw [eE8, upE_ne (by omega)])
  have t1 : E8 (o + 1) = .inl (G.2.1.2.2.2, 4, .inr (.inr (.inr (.inr (va_up (fun _ => none) 0 (some (b + (o + 3)))))))) := by rw [eE8]; exact upE_at
  refine lv_iinc (v := 1) (lv' := [(1, .int (1 : Int32)), (0, .ref (b + (o)))]) hx hb dX1_init_46 hl (k := 0) rfl (by decide) (by decide) rfl (fun ls hl => ?_)
  refine lv_goto (tgt := 27) hx hb dX1_init_49 (by decide) ?_
  refine lv_iload_n hx hb dX1_init_27 rfl (lv_at hl 0 rfl) ?_
  refine lv_iconst (v := 4) hx hb dX1_init_28 (by decide) ?_
  refine lv_icmp_ge (tgt := 52) hx hb dX1_init_29 (by decide) (fun c29 => ?_) (fun c29 => ?_)
  · exact absurd c29 (by decide)
  refine lv_aload_n hx hb dX1_init_32 rfl (lv_at hl 1 rfl) ?_
  refine tn_get (i := o) (ci := 1) (k := 0) (v := .ref (b + (o + 1))) hx hb hts hown hk.1 hw (by omega) tO rfl inlX1 (by decide) wd69 rfl dX1_init_33 ?_
  refine lv_iload_n hx hb dX1_init_36 rfl (lv_at hl 0 rfl) ?_
  refine tn_new (ci := 5) (fs := [.int 0, .int 0, .int 0, .int 0, .int 0, .int 0, .int 0, .int 0]) hx hb hts hown hk.1 hw tyX6 rfl inlX6 tyX6_ok (m3_in wd68 wd72 wd73) (bl5_fs) (Nat.le_of_ble_eq_true rfl) (Nat.le_of_ble_eq_true rfl) dX1_init_37 (fun H hw => ?_)
  obtain ⟨E9, eE9⟩ : ∃ zz, zz = upE E8 (o + 4) (.inr (5, [.int 0, .int 0, .int 0, .int 0, .int 0, .int 0, .int 0, .int 0])) := ⟨_, rfl⟩
  have hw : PE G.1 b E9 (o + 5) s H locs := by rw [eE9]; exact hw
  have hF : ∀ j, j < o → E9 j = E j := fun j hj => (show E9 j = E8 j by rw [eE9, upE_ne (by omega)]).trans (hF j hj)
  have tO : E9 (o) = .inr (1, [.ref (b + (o + 1)), .ref (b + (o + 2)), .int 0, .int (-6 : Int32)]) := by rw [eE9, upE_ne (by omega)]; exact tO
  have t1 : E9 (o + 1) = .inl (G.2.1.2.2.2, 4, .inr (.inr (.inr (.inr (va_up (fun _ => none) 0 (some (b + (o + 3)))))))) := by rw [eE9, upE_ne (by omega)]; exact t1
  have t2 : E9 (o + 2) = .inl (G.2.1.1, 4, .inl z0) := by rw [eE9, upE_ne (by omega)]; exact t2
  have g3 : atX6 G b E9 (o + 3) (0 : Int32) := atX6_cong g3 (fun j h1 h2 => by rw [eE9, upE_ne (by omega)])
  have t4 : E9 (o + 4) = .inr (5, [.int 0, .int 0, .int 0, .int 0, .int 0, .int 0, .int 0, .int 0]) := by rw [eE9]; exact upE_at
  refine lv_dup hx hb dX1_init_40 rfl ?_
  refine lv_iload_n hx hb dX1_init_41 rfl (lv_at hl 0 rfl) ?_
  refine tn_I (As := [.int (1 : Int32)]) (rest := [.ref (b + (o + 4)), .int (1 : Int32), .ref (b + (o + 1))]) (o := o + 4) hx hb hml hts hown hk hw (c_X6_init l G b E9 (o + 4) t4 (1 : Int32)) (m3_in wd73 wd74 wd75) wd76 rfl nm_yX6_init ⟨rfl, rfl⟩ ⟨by decide, by decide⟩ rfl hl.1 rfl (Nat.le_of_ble_eq_true rfl) dX1_init_42 ⟨Nat.le_of_ble_eq_true rfl, Nat.le_of_ble_eq_true rfl⟩ (fun E10 H locs hE10 hw => ?_)
  have hw : PE G.1 b E10 (o + 5) s H locs := hw
  have hF : ∀ j, j < o → E10 j = E j := fun j hj => (hE10.1 j (by omega)).trans (hF j hj)
  have tO : E10 (o) = .inr (1, [.ref (b + (o + 1)), .ref (b + (o + 2)), .int 0, .int (-6 : Int32)]) := (hE10.1 _ (by omega)).trans tO
  have t1 : E10 (o + 1) = .inl (G.2.1.2.2.2, 4, .inr (.inr (.inr (.inr (va_up (fun _ => none) 0 (some (b + (o + 3)))))))) := (hE10.1 _ (by omega)).trans t1
  have t2 : E10 (o + 2) = .inl (G.2.1.1, 4, .inl z0) := (hE10.1 _ (by omega)).trans t2
  have g3 : atX6 G b E10 (o + 3) (0 : Int32) := atX6_cong g3 (fun j h1 h2 => hE10.1 j (by omega))
  have g4 := hE10.2
  refine tn_astq (i := o + 1) (k := o + 4) (ci := 5) hx hb hk.1 hw 3 (by omega) t1 rfl (by omega) g4 rfl (vin ⟨by decide, by decide⟩) dX1_init_45 (fun H locs hw => ?_)
  obtain ⟨E11, eE11⟩ : ∃ zz, zz = upE E10 (o + 1) (.inl (G.2.1.2.2.2, 4, .inr (.inr (.inr (.inr (va_up (va_up (fun _ => none) 0 (some (b + (o + 3)))) 1 (some (b + (o + 4))))))))) := ⟨_, rfl⟩
  have hw : PE G.1 b E11 (o + 5) s H locs := by rw [eE11]; exact hw
  have hF : ∀ j, j < o → E11 j = E j := fun j hj => (show E11 j = E10 j by rw [eE11, upE_ne (by omega)]).trans (hF j hj)
  have tO : E11 (o) = .inr (1, [.ref (b + (o + 1)), .ref (b + (o + 2)), .int 0, .int (-6 : Int32)]) := by rw [eE11, upE_ne (by omega)]; exact tO
  have t2 : E11 (o + 2) = .inl (G.2.1.1, 4, .inl z0) := by rw [eE11, upE_ne (by omega)]; exact t2
  have g3 : atX6 G b E11 (o + 3) (0 : Int32) := atX6_cong g3 (fun j h1 h2 => by rw [eE11, upE_ne (by omega)])
  have g4 : atX6 G b E11 (o + 4) (1 : Int32) := atX6_cong g4 (fun j h1 h2 => by rw [eE11, upE_ne (by omega)])
  have t1 : E11 (o + 1) = .inl (G.2.1.2.2.2, 4, .inr (.inr (.inr (.inr (va_up (va_up (fun _ => none) 0 (some (b + (o + 3)))) 1 (some (b + (o + 4)))))))) := by rw [eE11]; exact upE_at
  refine lv_iinc (v := 2) (lv' := [(1, .int (2 : Int32)), (0, .ref (b + (o)))]) hx hb dX1_init_46 hl (k := 0) rfl (by decide) (by decide) rfl (fun ls hl => ?_)
  refine lv_goto (tgt := 27) hx hb dX1_init_49 (by decide) ?_
  refine lv_iload_n hx hb dX1_init_27 rfl (lv_at hl 0 rfl) ?_
  refine lv_iconst (v := 4) hx hb dX1_init_28 (by decide) ?_
  refine lv_icmp_ge (tgt := 52) hx hb dX1_init_29 (by decide) (fun c29 => ?_) (fun c29 => ?_)
  · exact absurd c29 (by decide)
  refine lv_aload_n hx hb dX1_init_32 rfl (lv_at hl 1 rfl) ?_
  refine tn_get (i := o) (ci := 1) (k := 0) (v := .ref (b + (o + 1))) hx hb hts hown hk.1 hw (by omega) tO rfl inlX1 (by decide) wd69 rfl dX1_init_33 ?_
  refine lv_iload_n hx hb dX1_init_36 rfl (lv_at hl 0 rfl) ?_
  refine tn_new (ci := 5) (fs := [.int 0, .int 0, .int 0, .int 0, .int 0, .int 0, .int 0, .int 0]) hx hb hts hown hk.1 hw tyX6 rfl inlX6 tyX6_ok (m3_in wd68 wd72 wd73) (bl5_fs) (Nat.le_of_ble_eq_true rfl) (Nat.le_of_ble_eq_true rfl) dX1_init_37 (fun H hw => ?_)
  obtain ⟨E12, eE12⟩ : ∃ zz, zz = upE E11 (o + 5) (.inr (5, [.int 0, .int 0, .int 0, .int 0, .int 0, .int 0, .int 0, .int 0])) := ⟨_, rfl⟩
  have hw : PE G.1 b E12 (o + 6) s H locs := by rw [eE12]; exact hw
  have hF : ∀ j, j < o → E12 j = E j := fun j hj => (show E12 j = E11 j by rw [eE12, upE_ne (by omega)]).trans (hF j hj)
  have tO : E12 (o) = .inr (1, [.ref (b + (o + 1)), .ref (b + (o + 2)), .int 0, .int (-6 : Int32)]) := by rw [eE12, upE_ne (by omega)]; exact tO
  have t1 : E12 (o + 1) = .inl (G.2.1.2.2.2, 4, .inr (.inr (.inr (.inr (va_up (va_up (fun _ => none) 0 (some (b + (o + 3)))) 1 (some (b + (o + 4)))))))) := by rw [eE12, upE_ne (by omega)]; exact t1
  have t2 : E12 (o + 2) = .inl (G.2.1.1, 4, .inl z0) := by rw [eE12, upE_ne (by omega)]; exact t2
  have g3 : atX6 G b E12 (o + 3) (0 : Int32) := atX6_cong g3 (fun j h1 h2 => by rw [eE12, upE_ne (by omega)])
  have g4 : atX6 G b E12 (o + 4) (1 : Int32) := atX6_cong g4 (fun j h1 h2 => by rw [eE12, upE_ne (by omega)])
  have t5 : E12 (o + 5) = .inr (5, [.int 0, .int 0, .int 0, .int 0, .int 0, .int 0, .int 0, .int 0]) := by rw [eE12]; exact upE_at
  refine lv_dup hx hb dX1_init_40 rfl ?_
  refine lv_iload_n hx hb dX1_init_41 rfl (lv_at hl 0 rfl) ?_
  refine tn_I (As := [.int (2 : Int32)]) (rest := [.ref (b + (o + 5)), .int (2 : Int32), .ref (b + (o + 1))]) (o := o + 5) hx hb hml hts hown hk hw (c_X6_init l G b E12 (o + 5) t5 (2 : Int32)) (m3_in wd73 wd74 wd75) wd76 rfl nm_yX6_init ⟨rfl, rfl⟩ ⟨by decide, by decide⟩ rfl hl.1 rfl (Nat.le_of_ble_eq_true rfl) dX1_init_42 ⟨Nat.le_of_ble_eq_true rfl, Nat.le_of_ble_eq_true rfl⟩ (fun E13 H locs hE13 hw => ?_)
  have hw : PE G.1 b E13 (o + 6) s H locs := hw
  have hF : ∀ j, j < o → E13 j = E j := fun j hj => (hE13.1 j (by omega)).trans (hF j hj)
  have tO : E13 (o) = .inr (1, [.ref (b + (o + 1)), .ref (b + (o + 2)), .int 0, .int (-6 : Int32)]) := (hE13.1 _ (by omega)).trans tO
  have t1 : E13 (o + 1) = .inl (G.2.1.2.2.2, 4, .inr (.inr (.inr (.inr (va_up (va_up (fun _ => none) 0 (some (b + (o + 3)))) 1 (some (b + (o + 4)))))))) := (hE13.1 _ (by omega)).trans t1
  have t2 : E13 (o + 2) = .inl (G.2.1.1, 4, .inl z0) := (hE13.1 _ (by omega)).trans t2
  have g3 : atX6 G b E13 (o + 3) (0 : Int32) := atX6_cong g3 (fun j h1 h2 => hE13.1 j (by omega))
  have g4 : atX6 G b E13 (o + 4) (1 : Int32) := atX6_cong g4 (fun j h1 h2 => hE13.1 j (by omega))
  have g5 := hE13.2
  refine tn_astq (i := o + 1) (k := o + 5) (ci := 5) hx hb hk.1 hw 3 (by omega) t1 rfl (by omega) g5 rfl (vin ⟨by decide, by decide⟩) dX1_init_45 (fun H locs hw => ?_)
  obtain ⟨E14, eE14⟩ : ∃ zz, zz = upE E13 (o + 1) (.inl (G.2.1.2.2.2, 4, .inr (.inr (.inr (.inr (va_up (va_up (va_up (fun _ => none) 0 (some (b + (o + 3)))) 1 (some (b + (o + 4)))) 2 (some (b + (o + 5))))))))) := ⟨_, rfl⟩
  have hw : PE G.1 b E14 (o + 6) s H locs := by rw [eE14]; exact hw
  have hF : ∀ j, j < o → E14 j = E j := fun j hj => (show E14 j = E13 j by rw [eE14, upE_ne (by omega)]).trans (hF j hj)
  have tO : E14 (o) = .inr (1, [.ref (b + (o + 1)), .ref (b + (o + 2)), .int 0, .int (-6 : Int32)]) := by rw [eE14, upE_ne (by omega)]; exact tO
  have t2 : E14 (o + 2) = .inl (G.2.1.1, 4, .inl z0) := by rw [eE14, upE_ne (by omega)]; exact t2
  have g3 : atX6 G b E14 (o + 3) (0 : Int32) := atX6_cong g3 (fun j h1 h2 => by rw [eE14, upE_ne (by omega)])
  have g4 : atX6 G b E14 (o + 4) (1 : Int32) := atX6_cong g4 (fun j h1 h2 => by rw [eE14, upE_ne (by omega)])
  have g5 : atX6 G b E14 (o + 5) (2 : Int32) := atX6_cong g5 (fun j h1 h2 => by rw [eE14, upE_ne (by omega)])
  have t1 : E14 (o + 1) = .inl (G.2.1.2.2.2, 4, .inr (.inr (.inr (.inr (va_up (va_up (va_up (fun _ => none) 0 (some (b + (o + 3)))) 1 (some (b + (o + 4)))) 2 (some (b + (o + 5)))))))) := by rw [eE14]; exact upE_at
  refine lv_iinc (v := 3) (lv' := [(1, .int (3 : Int32)), (0, .ref (b + (o)))]) hx hb dX1_init_46 hl (k := 0) rfl (by decide) (by decide) rfl (fun ls hl => ?_)
  refine lv_goto (tgt := 27) hx hb dX1_init_49 (by decide) ?_
  refine lv_iload_n hx hb dX1_init_27 rfl (lv_at hl 0 rfl) ?_
  refine lv_iconst (v := 4) hx hb dX1_init_28 (by decide) ?_
  refine lv_icmp_ge (tgt := 52) hx hb dX1_init_29 (by decide) (fun c29 => ?_) (fun c29 => ?_)
  · exact absurd c29 (by decide)
  refine lv_aload_n hx hb dX1_init_32 rfl (lv_at hl 1 rfl) ?_
  refine tn_get (i := o) (ci := 1) (k := 0) (v := .ref (b + (o + 1))) hx hb hts hown hk.1 hw (by omega) tO rfl inlX1 (by decide) wd69 rfl dX1_init_33 ?_
  refine lv_iload_n hx hb dX1_init_36 rfl (lv_at hl 0 rfl) ?_
  refine tn_new (ci := 5) (fs := [.int 0, .int 0, .int 0, .int 0, .int 0, .int 0, .int 0, .int 0]) hx hb hts hown hk.1 hw tyX6 rfl inlX6 tyX6_ok (m3_in wd68 wd72 wd73) (bl5_fs) (Nat.le_of_ble_eq_true rfl) (Nat.le_of_ble_eq_true rfl) dX1_init_37 (fun H hw => ?_)
  obtain ⟨E15, eE15⟩ : ∃ zz, zz = upE E14 (o + 6) (.inr (5, [.int 0, .int 0, .int 0, .int 0, .int 0, .int 0, .int 0, .int 0])) := ⟨_, rfl⟩
  have hw : PE G.1 b E15 (o + 7) s H locs := by rw [eE15]; exact hw
  have hF : ∀ j, j < o → E15 j = E j := fun j hj => (show E15 j = E14 j by rw [eE15, upE_ne (by omega)]).trans (hF j hj)
  have tO : E15 (o) = .inr (1, [.ref (b + (o + 1)), .ref (b + (o + 2)), .int 0, .int (-6 : Int32)]) := by rw [eE15, upE_ne (by omega)]; exact tO
  have t1 : E15 (o + 1) = .inl (G.2.1.2.2.2, 4, .inr (.inr (.inr (.inr (va_up (va_up (va_up (fun _ => none) 0 (some (b + (o + 3)))) 1 (some (b + (o + 4)))) 2 (some (b + (o + 5)))))))) := by rw [eE15, upE_ne (by omega)]; exact t1
  have t2 : E15 (o + 2) = .inl (G.2.1.1, 4, .inl z0) := by rw [eE15, upE_ne (by omega)]; exact t2
  have g3 : atX6 G b E15 (o + 3) (0 : Int32) := atX6_cong g3 (fun j h1 h2 => by rw [eE15, upE_ne (by omega)])
  have g4 : atX6 G b E15 (o + 4) (1 : Int32) := atX6_cong g4 (fun j h1 h2 => by rw [eE15, upE_ne (by omega)])
  have g5 : atX6 G b E15 (o + 5) (2 : Int32) := atX6_cong g5 (fun j h1 h2 => by rw [eE15, upE_ne (by omega)])
  have t6 : E15 (o + 6) = .inr (5, [.int 0, .int 0, .int 0, .int 0, .int 0, .int 0, .int 0, .int 0]) := by rw [eE15]; exact upE_at
  refine lv_dup hx hb dX1_init_40 rfl ?_
  refine lv_iload_n hx hb dX1_init_41 rfl (lv_at hl 0 rfl) ?_
  refine tn_I (As := [.int (3 : Int32)]) (rest := [.ref (b + (o + 6)), .int (3 : Int32), .ref (b + (o + 1))]) (o := o + 6) hx hb hml hts hown hk hw (c_X6_init l G b E15 (o + 6) t6 (3 : Int32)) (m3_in wd73 wd74 wd75) wd76 rfl nm_yX6_init ⟨rfl, rfl⟩ ⟨by decide, by decide⟩ rfl hl.1 rfl (Nat.le_of_ble_eq_true rfl) dX1_init_42 ⟨Nat.le_of_ble_eq_true rfl, Nat.le_of_ble_eq_true rfl⟩ (fun E16 H locs hE16 hw => ?_)
  have hw : PE G.1 b E16 (o + 7) s H locs := hw
  have hF : ∀ j, j < o → E16 j = E j := fun j hj => (hE16.1 j (by omega)).trans (hF j hj)
  have tO : E16 (o) = .inr (1, [.ref (b + (o + 1)), .ref (b + (o + 2)), .int 0, .int (-6 : Int32)]) := (hE16.1 _ (by omega)).trans tO
  have t1 : E16 (o + 1) = .inl (G.2.1.2.2.2, 4, .inr (.inr (.inr (.inr (va_up (va_up (va_up (fun _ => none) 0 (some (b + (o + 3)))) 1 (some (b + (o + 4)))) 2 (some (b + (o + 5)))))))) := (hE16.1 _ (by omega)).trans t1
  have t2 : E16 (o + 2) = .inl (G.2.1.1, 4, .inl z0) := (hE16.1 _ (by omega)).trans t2
  have g3 : atX6 G b E16 (o + 3) (0 : Int32) := atX6_cong g3 (fun j h1 h2 => hE16.1 j (by omega))
  have g4 : atX6 G b E16 (o + 4) (1 : Int32) := atX6_cong g4 (fun j h1 h2 => hE16.1 j (by omega))
  have g5 : atX6 G b E16 (o + 5) (2 : Int32) := atX6_cong g5 (fun j h1 h2 => hE16.1 j (by omega))
  have g6 := hE16.2
  refine tn_astq (i := o + 1) (k := o + 6) (ci := 5) hx hb hk.1 hw 3 (by omega) t1 rfl (by omega) g6 rfl (vin ⟨by decide, by decide⟩) dX1_init_45 (fun H locs hw => ?_)
  obtain ⟨E17, eE17⟩ : ∃ zz, zz = upE E16 (o + 1) (.inl (G.2.1.2.2.2, 4, .inr (.inr (.inr (.inr (va_up (va_up (va_up (va_up (fun _ => none) 0 (some (b + (o + 3)))) 1 (some (b + (o + 4)))) 2 (some (b + (o + 5)))) 3 (some (b + (o + 6))))))))) := ⟨_, rfl⟩
  have hw : PE G.1 b E17 (o + 7) s H locs := by rw [eE17]; exact hw
  have hF : ∀ j, j < o → E17 j = E j := fun j hj => (show E17 j = E16 j by rw [eE17, upE_ne (by omega)]).trans (hF j hj)
  have tO : E17 (o) = .inr (1, [.ref (b + (o + 1)), .ref (b + (o + 2)), .int 0, .int (-6 : Int32)]) := by rw [eE17, upE_ne (by omega)]; exact tO
  have t2 : E17 (o + 2) = .inl (G.2.1.1, 4, .inl z0) := by rw [eE17, upE_ne (by omega)]; exact t2
  have g3 : atX6 G b E17 (o + 3) (0 : Int32) := atX6_cong g3 (fun j h1 h2 => by rw [eE17, upE_ne (by omega)])
  have g4 : atX6 G b E17 (o + 4) (1 : Int32) := atX6_cong g4 (fun j h1 h2 => by rw [eE17, upE_ne (by omega)])
  have g5 : atX6 G b E17 (o + 5) (2 : Int32) := atX6_cong g5 (fun j h1 h2 => by rw [eE17, upE_ne (by omega)])
  have g6 : atX6 G b E17 (o + 6) (3 : Int32) := atX6_cong g6 (fun j h1 h2 => by rw [eE17, upE_ne (by omega)])
  have t1 : E17 (o + 1) = .inl (G.2.1.2.2.2, 4, .inr (.inr (.inr (.inr (va_up (va_up (va_up (va_up (fun _ => none) 0 (some (b + (o + 3)))) 1 (some (b + (o + 4)))) 2 (some (b + (o + 5)))) 3 (some (b + (o + 6)))))))) := by rw [eE17]; exact upE_at
  refine lv_iinc (v := 4) (lv' := [(1, .int (4 : Int32)), (0, .ref (b + (o)))]) hx hb dX1_init_46 hl (k := 0) rfl (by decide) (by decide) rfl (fun ls hl => ?_)
  refine lv_goto (tgt := 27) hx hb dX1_init_49 (by decide) ?_
  refine lv_iload_n hx hb dX1_init_27 rfl (lv_at hl 0 rfl) ?_
  refine lv_iconst (v := 4) hx hb dX1_init_28 (by decide) ?_
  refine lv_icmp_ge (tgt := 52) hx hb dX1_init_29 (by decide) (fun c29 => ?_) (fun c29 => ?_)
  rotate_left
  · exact absurd (by decide) c29
  exact ret E17 _ _ 52 _ ⟨hF, ⟨tO, t1, t2, g3, g4, g5, g6⟩⟩ hw dX1_init_52
def atX3 (G : Gg) (b : Nat) (E : Nat → va_E) (o : Nat) : Prop := E (o) = .inr (3, [.ref (b + (o + 1)), .ref (b + (o + 4)), .ref (b + (o + 11))]) ∧ atX2 G b E (o + 1) ∧ atX1 G b E (o + 4) ∧ E (o + 11) = .inl (G.2.1.1, 4, .inl (upd (upd (upd (upd z0 0 (5 : Int32)) 1 (5 : Int32)) 2 (5 : Int32)) 3 (5 : Int32)))
theorem atX3_cong {G : Gg} {b : Nat} {E E' : Nat → va_E} {o : Nat} (q : atX3 G b E o) (h : ∀ j, o ≤ j → j < o + 12 → E' j = E j) : atX3 G b E' o := by
  obtain ⟨q0, q1, q2, q3⟩ := q
  exact ⟨(h _ (by omega) (by omega)).trans q0, atX2_cong q1 (fun j h1 h2 => h j (by omega) (by omega)), atX1_cong q2 (fun j h1 h2 => h j (by omega) (by omega)), (h _ (by omega) (by omega)).trans q3⟩
set_option maxHeartbeats 4000000 in
set_option maxRecDepth 100000 in
theorem c_X3_init (l : Launch) (G : Gg) (b : Nat) (E : Nat → va_E) (o : Nat) (tO : E o = .inr (3, [.null, .null, .null])) : MC l G yX3_init cX3_init 2 (rmC 3 62 11 370) 11 370 b E o [.ref (b + (o))] (fun E' => (∀ j, j < o → E' j = E j) ∧ atX3 G b E' o) := by
  refine MC.of (by decide +kernel) rfl (Nat.le_of_ble_eq_true rfl) ?_
  intro p e s m a below meth c ls Q hx hb hml hts hown hin hk hw ret hl
  have hown : s.vm.findClass RX3 = some m.cls := hown
  have hl : lv_has ls 2 [(0, .ref (b + (o)))] := hl
  have hF : ∀ j, j < o → E j = E j := fun _ _ => rfl
  generalize hHe : s.heap = H at hw ⊢
  generalize hLe : ([] : List Loc) = locs at hw ⊢
  refine lv_aload_n hx hb dX3_init_0 rfl (lv_at hl 0 rfl) ?_
  refine tn_obj hx hb hown (hts _ wd45) (hts _ wd10) (hts _ wd11) (hl.1.trans hml.symm) dX3_init_1 (Nat.le_of_ble_eq_true rfl) (Nat.le_of_ble_eq_true rfl) ?_
  refine lv_aload_n hx hb dX3_init_4 rfl (lv_at hl 0 rfl) ?_
  refine tn_new (ci := 2) (fs := [.null, .null]) hx hb hts hown hk.1 hw tyX2 rfl inlX2 tyX2_ok (m3_in wd46 wd47 wd48) (bl2_fs) (Nat.le_of_ble_eq_true rfl) (Nat.le_of_ble_eq_true rfl) dX3_init_5 (fun H hw => ?_)
  obtain ⟨E1, eE1⟩ : ∃ zz, zz = upE E (o + 1) (.inr (2, [.null, .null])) := ⟨_, rfl⟩
  have hw : PE G.1 b E1 (o + 2) s H locs := by rw [eE1]; exact hw
  have hF : ∀ j, j < o → E1 j = E j := fun j hj => (show E1 j = E j by rw [eE1, upE_ne (by omega)]).trans (hF j hj)
  have tO : E1 (o) = .inr (3, [.null, .null, .null]) := by rw [eE1, upE_ne (by omega)]; exact tO
  have t1 : E1 (o + 1) = .inr (2, [.null, .null]) := by rw [eE1]; exact upE_at
  refine lv_dup hx hb dX3_init_8 rfl ?_
  refine tn_I (As := []) (rest := [.ref (b + (o + 1)), .ref (b + (o))]) (o := o + 1) hx hb hml hts hown hk hw (c_X2_init l G b E1 (o + 1) t1) (m3_in wd48 wd55 wd56) wd57 rfl nm_yX2_init ⟨rfl, rfl⟩ ⟨by decide, by decide⟩ rfl hl.1 rfl (Nat.le_of_ble_eq_true rfl) dX3_init_9 ⟨Nat.le_of_ble_eq_true rfl, Nat.le_of_ble_eq_true rfl⟩ (fun E2 H locs hE2 hw => ?_)
  have hw : PE G.1 b E2 (o + 4) s H locs := hw
  have hF : ∀ j, j < o → E2 j = E j := fun j hj => (hE2.1 j (by omega)).trans (hF j hj)
  have tO : E2 (o) = .inr (3, [.null, .null, .null]) := (hE2.1 _ (by omega)).trans tO
  have g1 := hE2.2
  refine tn_putF (i := o) (ci := 3) (k := 0) hx hb hts hown hk.1 hw tyX3 hin rfl (by omega) tO rfl inlX3 tyX3_ok nmX3 (by decide) wd49 rfl rfl rfl (Nat.le_of_ble_eq_true rfl) dX3_init_12 (fun H locs hw => ?_)
  obtain ⟨E3, eE3⟩ : ∃ zz, zz = upE E2 (o) (.inr (3, [.ref (b + (o + 1)), .null, .null])) := ⟨_, rfl⟩
  have hw : PE G.1 b E3 (o + 4) s H locs := by rw [eE3]; exact hw
  have hF : ∀ j, j < o → E3 j = E j := fun j hj => (show E3 j = E2 j by rw [eE3, upE_ne (by omega)]).trans (hF j hj)
  have g1 : atX2 G b E3 (o + 1) := atX2_cong g1 (fun j h1 h2 => by rw [eE3, upE_ne (by omega)])
  have tO : E3 (o) = .inr (3, [.ref (b + (o + 1)), .null, .null]) := by rw [eE3]; exact upE_at
  refine lv_aload_n hx hb dX3_init_15 rfl (lv_at hl 0 rfl) ?_
  refine tn_new (ci := 1) (fs := [.null, .null, .int 0, .int 0]) hx hb hts hown hk.1 hw tyX1 rfl inlX1 tyX1_ok (m3_in wd50 wd51 wd52) (bl1_fs) (Nat.le_of_ble_eq_true rfl) (Nat.le_of_ble_eq_true rfl) dX3_init_16 (fun H hw => ?_)
  obtain ⟨E4, eE4⟩ : ∃ zz, zz = upE E3 (o + 4) (.inr (1, [.null, .null, .int 0, .int 0])) := ⟨_, rfl⟩
  have hw : PE G.1 b E4 (o + 5) s H locs := by rw [eE4]; exact hw
  have hF : ∀ j, j < o → E4 j = E j := fun j hj => (show E4 j = E3 j by rw [eE4, upE_ne (by omega)]).trans (hF j hj)
  have tO : E4 (o) = .inr (3, [.ref (b + (o + 1)), .null, .null]) := by rw [eE4, upE_ne (by omega)]; exact tO
  have g1 : atX2 G b E4 (o + 1) := atX2_cong g1 (fun j h1 h2 => by rw [eE4, upE_ne (by omega)])
  have t4 : E4 (o + 4) = .inr (1, [.null, .null, .int 0, .int 0]) := by rw [eE4]; exact upE_at
  refine lv_dup hx hb dX3_init_19 rfl ?_
  refine tn_I (As := []) (rest := [.ref (b + (o + 4)), .ref (b + (o))]) (o := o + 4) hx hb hml hts hown hk hw (c_X1_init l G b E4 (o + 4) t4) (m3_in wd52 wd64 wd65) wd66 rfl nm_yX1_init ⟨rfl, rfl⟩ ⟨by decide, by decide⟩ rfl hl.1 rfl (Nat.le_of_ble_eq_true rfl) dX3_init_20 ⟨Nat.le_of_ble_eq_true rfl, Nat.le_of_ble_eq_true rfl⟩ (fun E5 H locs hE5 hw => ?_)
  have hw : PE G.1 b E5 (o + 11) s H locs := hw
  have hF : ∀ j, j < o → E5 j = E j := fun j hj => (hE5.1 j (by omega)).trans (hF j hj)
  have tO : E5 (o) = .inr (3, [.ref (b + (o + 1)), .null, .null]) := (hE5.1 _ (by omega)).trans tO
  have g1 : atX2 G b E5 (o + 1) := atX2_cong g1 (fun j h1 h2 => hE5.1 j (by omega))
  have g4 := hE5.2
  refine tn_putF (i := o) (ci := 3) (k := 1) hx hb hts hown hk.1 hw tyX3 hin rfl (by omega) tO rfl inlX3 tyX3_ok nmX3 (by decide) wd53 rfl rfl rfl (Nat.le_of_ble_eq_true rfl) dX3_init_23 (fun H locs hw => ?_)
  obtain ⟨E6, eE6⟩ : ∃ zz, zz = upE E5 (o) (.inr (3, [.ref (b + (o + 1)), .ref (b + (o + 4)), .null])) := ⟨_, rfl⟩
  have hw : PE G.1 b E6 (o + 11) s H locs := by rw [eE6]; exact hw
  have hF : ∀ j, j < o → E6 j = E j := fun j hj => (show E6 j = E5 j by rw [eE6, upE_ne (by omega)]).trans (hF j hj)
  have g1 : atX2 G b E6 (o + 1) := atX2_cong g1 (fun j h1 h2 => by rw [eE6, upE_ne (by omega)])
  have g4 : atX1 G b E6 (o + 4) := atX1_cong g4 (fun j h1 h2 => by rw [eE6, upE_ne (by omega)])
  have tO : E6 (o) = .inr (3, [.ref (b + (o + 1)), .ref (b + (o + 4)), .null]) := by rw [eE6]; exact upE_at
  refine lv_aload_n hx hb dX3_init_26 rfl (lv_at hl 0 rfl) ?_
  refine lv_iconst (v := 4) hx hb dX3_init_27 (by decide) ?_
  refine tn_newa (t0 := 0) (ty := .int) hx hb hts hk.1 hw rfl rfl rfl (fun z => z) wd40 (N := 4) (by decide) (by decide) (by decide) (Nat.le_of_ble_eq_true rfl) (Nat.le_of_ble_eq_true rfl) dX3_init_28 (fun H hw => ?_)
  obtain ⟨E7, eE7⟩ : ∃ zz, zz = upE E6 (o + 11) (.inl (G.2.1.1, 4, .inl z0)) := ⟨_, rfl⟩
  have hw : PE G.1 b E7 (o + 12) s H locs := by rw [eE7]; exact hw
  have hF : ∀ j, j < o → E7 j = E j := fun j hj => (show E7 j = E6 j by rw [eE7, upE_ne (by omega)]).trans (hF j hj)
  have tO : E7 (o) = .inr (3, [.ref (b + (o + 1)), .ref (b + (o + 4)), .null]) := by rw [eE7, upE_ne (by omega)]; exact tO
  have g1 : atX2 G b E7 (o + 1) := atX2_cong g1 (fun j h1 h2 => by rw [eE7, upE_ne (by omega)])
  have g4 : atX1 G b E7 (o + 4) := atX1_cong g4 (fun j h1 h2 => by rw [eE7, upE_ne (by omega)])
  have t11 : E7 (o + 11) = .inl (G.2.1.1, 4, .inl z0) := by rw [eE7]; exact upE_at
  refine tn_putF (i := o) (ci := 3) (k := 2) hx hb hts hown hk.1 hw tyX3 hin rfl (by omega) tO rfl inlX3 tyX3_ok nmX3 (by decide) wd54 rfl rfl rfl (Nat.le_of_ble_eq_true rfl) dX3_init_30 (fun H locs hw => ?_)
  obtain ⟨E8, eE8⟩ : ∃ zz, zz = upE E7 (o) (.inr (3, [.ref (b + (o + 1)), .ref (b + (o + 4)), .ref (b + (o + 11))])) := ⟨_, rfl⟩
  have hw : PE G.1 b E8 (o + 12) s H locs := by rw [eE8]; exact hw
  have hF : ∀ j, j < o → E8 j = E j := fun j hj => (show E8 j = E7 j by rw [eE8, upE_ne (by omega)]).trans (hF j hj)
  have t11 : E8 (o + 11) = .inl (G.2.1.1, 4, .inl z0) := by rw [eE8, upE_ne (by omega)]; exact t11
  have g1 : atX2 G b E8 (o + 1) := atX2_cong g1 (fun j h1 h2 => by rw [eE8, upE_ne (by omega)])
  have g4 : atX1 G b E8 (o + 4) := atX1_cong g4 (fun j h1 h2 => by rw [eE8, upE_ne (by omega)])
  have tO : E8 (o) = .inr (3, [.ref (b + (o + 1)), .ref (b + (o + 4)), .ref (b + (o + 11))]) := by rw [eE8]; exact upE_at
  refine lv_iconst (v := 0) hx hb dX3_init_33 (by decide) ?_
  refine lv_istore_n (lv' := [(1, .int (0 : Int32)), (0, .ref (b + (o)))]) hx hb dX3_init_34 rfl hl (by decide) rfl (fun ls hl => ?_)
  refine lv_iload_n hx hb dX3_init_35 rfl (lv_at hl 0 rfl) ?_
  refine lv_iconst (v := 4) hx hb dX3_init_36 (by decide) ?_
  refine lv_icmp_ge (tgt := 53) hx hb dX3_init_37 (by decide) (fun c37 => ?_) (fun c37 => ?_)
  · exact absurd c37 (by decide)
  refine lv_aload_n hx hb dX3_init_40 rfl (lv_at hl 1 rfl) ?_
  refine tn_get (i := o) (ci := 3) (k := 2) (v := .ref (b + (o + 11))) hx hb hts hown hk.1 hw (by omega) tO rfl inlX3 (by decide) wd54 rfl dX3_init_41 ?_
  refine lv_iload_n hx hb dX3_init_44 rfl (lv_at hl 0 rfl) ?_
  refine lv_iconst (v := 5) hx hb dX3_init_45 (by decide) ?_
  refine tn_iast (i := o + 11) hx hb hk.1 hw (by omega) t11 (vin ⟨by decide, by decide⟩) dX3_init_46 (fun H locs hw => ?_)
  obtain ⟨E9, eE9⟩ : ∃ zz, zz = upE E8 (o + 11) (.inl (G.2.1.1, 4, .inl (upd z0 0 (5 : Int32)))) := ⟨_, rfl⟩
  have hw : PE G.1 b E9 (o + 12) s H locs := by rw [eE9]; exact hw
  have hF : ∀ j, j < o → E9 j = E j := fun j hj => (show E9 j = E8 j by rw [eE9, upE_ne (by omega)]).trans (hF j hj)
  have tO : E9 (o) = .inr (3, [.ref (b + (o + 1)), .ref (b + (o + 4)), .ref (b + (o + 11))]) := by rw [eE9, upE_ne (by omega)]; exact tO
  have g1 : atX2 G b E9 (o + 1) := atX2_cong g1 (fun j h1 h2 => by rw [eE9, upE_ne (by omega)])
  have g4 : atX1 G b E9 (o + 4) := atX1_cong g4 (fun j h1 h2 => by rw [eE9, upE_ne (by omega)])
  have t11 : E9 (o + 11) = .inl (G.2.1.1, 4, .inl (upd z0 0 (5 : Int32))) := by rw [eE9]; exact upE_at
  refine lv_iinc (v := 1) (lv' := [(1, .int (1 : Int32)), (0, .ref (b + (o)))]) hx hb dX3_init_47 hl (k := 0) rfl (by decide) (by decide) rfl (fun ls hl => ?_)
  refine lv_goto (tgt := 35) hx hb dX3_init_50 (by decide) ?_
  refine lv_iload_n hx hb dX3_init_35 rfl (lv_at hl 0 rfl) ?_
  refine lv_iconst (v := 4) hx hb dX3_init_36 (by decide) ?_
  refine lv_icmp_ge (tgt := 53) hx hb dX3_init_37 (by decide) (fun c37 => ?_) (fun c37 => ?_)
  · exact absurd c37 (by decide)
  refine lv_aload_n hx hb dX3_init_40 rfl (lv_at hl 1 rfl) ?_
  refine tn_get (i := o) (ci := 3) (k := 2) (v := .ref (b + (o + 11))) hx hb hts hown hk.1 hw (by omega) tO rfl inlX3 (by decide) wd54 rfl dX3_init_41 ?_
  refine lv_iload_n hx hb dX3_init_44 rfl (lv_at hl 0 rfl) ?_
  refine lv_iconst (v := 5) hx hb dX3_init_45 (by decide) ?_
  refine tn_iast (i := o + 11) hx hb hk.1 hw (by omega) t11 (vin ⟨by decide, by decide⟩) dX3_init_46 (fun H locs hw => ?_)
  obtain ⟨E10, eE10⟩ : ∃ zz, zz = upE E9 (o + 11) (.inl (G.2.1.1, 4, .inl (upd (upd z0 0 (5 : Int32)) 1 (5 : Int32)))) := ⟨_, rfl⟩
  have hw : PE G.1 b E10 (o + 12) s H locs := by rw [eE10]; exact hw
  have hF : ∀ j, j < o → E10 j = E j := fun j hj => (show E10 j = E9 j by rw [eE10, upE_ne (by omega)]).trans (hF j hj)
  have tO : E10 (o) = .inr (3, [.ref (b + (o + 1)), .ref (b + (o + 4)), .ref (b + (o + 11))]) := by rw [eE10, upE_ne (by omega)]; exact tO
  have g1 : atX2 G b E10 (o + 1) := atX2_cong g1 (fun j h1 h2 => by rw [eE10, upE_ne (by omega)])
  have g4 : atX1 G b E10 (o + 4) := atX1_cong g4 (fun j h1 h2 => by rw [eE10, upE_ne (by omega)])
  have t11 : E10 (o + 11) = .inl (G.2.1.1, 4, .inl (upd (upd z0 0 (5 : Int32)) 1 (5 : Int32))) := by rw [eE10]; exact upE_at
  refine lv_iinc (v := 2) (lv' := [(1, .int (2 : Int32)), (0, .ref (b + (o)))]) hx hb dX3_init_47 hl (k := 0) rfl (by decide) (by decide) rfl (fun ls hl => ?_)
  refine lv_goto (tgt := 35) hx hb dX3_init_50 (by decide) ?_
  refine lv_iload_n hx hb dX3_init_35 rfl (lv_at hl 0 rfl) ?_
  refine lv_iconst (v := 4) hx hb dX3_init_36 (by decide) ?_
  refine lv_icmp_ge (tgt := 53) hx hb dX3_init_37 (by decide) (fun c37 => ?_) (fun c37 => ?_)
  · exact absurd c37 (by decide)
  refine lv_aload_n hx hb dX3_init_40 rfl (lv_at hl 1 rfl) ?_
  refine tn_get (i := o) (ci := 3) (k := 2) (v := .ref (b + (o + 11))) hx hb hts hown hk.1 hw (by omega) tO rfl inlX3 (by decide) wd54 rfl dX3_init_41 ?_
  refine lv_iload_n hx hb dX3_init_44 rfl (lv_at hl 0 rfl) ?_
  refine lv_iconst (v := 5) hx hb dX3_init_45 (by decide) ?_
  refine tn_iast (i := o + 11) hx hb hk.1 hw (by omega) t11 (vin ⟨by decide, by decide⟩) dX3_init_46 (fun H locs hw => ?_)
  obtain ⟨E11, eE11⟩ : ∃ zz, zz = upE E10 (o + 11) (.inl (G.2.1.1, 4, .inl (upd (upd (upd z0 0 (5 : Int32)) 1 (5 : Int32)) 2 (5 : Int32)))) := ⟨_, rfl⟩
  have hw : PE G.1 b E11 (o + 12) s H locs := by rw [eE11]; exact hw
  have hF : ∀ j, j < o → E11 j = E j := fun j hj => (show E11 j = E10 j by rw [eE11, upE_ne (by omega)]).trans (hF j hj)
  have tO : E11 (o) = .inr (3, [.ref (b + (o + 1)), .ref (b + (o + 4)), .ref (b + (o + 11))]) := by rw [eE11, upE_ne (by omega)]; exact tO
  have g1 : atX2 G b E11 (o + 1) := atX2_cong g1 (fun j h1 h2 => by rw [eE11, upE_ne (by omega)])
  have g4 : atX1 G b E11 (o + 4) := atX1_cong g4 (fun j h1 h2 => by rw [eE11, upE_ne (by omega)])
  have t11 : E11 (o + 11) = .inl (G.2.1.1, 4, .inl (upd (upd (upd z0 0 (5 : Int32)) 1 (5 : Int32)) 2 (5 : Int32))) := by rw [eE11]; exact upE_at
  refine lv_iinc (v := 3) (lv' := [(1, .int (3 : Int32)), (0, .ref (b + (o)))]) hx hb dX3_init_47 hl (k := 0) rfl (by decide) (by decide) rfl (fun ls hl => ?_)
  refine lv_goto (tgt := 35) hx hb dX3_init_50 (by decide) ?_
  refine lv_iload_n hx hb dX3_init_35 rfl (lv_at hl 0 rfl) ?_
  refine lv_iconst (v := 4) hx hb dX3_init_36 (by decide) ?_
  refine lv_icmp_ge (tgt := 53) hx hb dX3_init_37 (by decide) (fun c37 => ?_) (fun c37 => ?_)
  · exact absurd c37 (by decide)
  refine lv_aload_n hx hb dX3_init_40 rfl (lv_at hl 1 rfl) ?_
  refine tn_get (i := o) (ci := 3) (k := 2) (v := .ref (b + (o + 11))) hx hb hts hown hk.1 hw (by omega) tO rfl inlX3 (by decide) wd54 rfl dX3_init_41 ?_
  refine lv_iload_n hx hb dX3_init_44 rfl (lv_at hl 0 rfl) ?_
  refine lv_iconst (v := 5) hx hb dX3_init_45 (by decide) ?_
  refine tn_iast (i := o + 11) hx hb hk.1 hw (by omega) t11 (vin ⟨by decide, by decide⟩) dX3_init_46 (fun H locs hw => ?_)
  obtain ⟨E12, eE12⟩ : ∃ zz, zz = upE E11 (o + 11) (.inl (G.2.1.1, 4, .inl (upd (upd (upd (upd z0 0 (5 : Int32)) 1 (5 : Int32)) 2 (5 : Int32)) 3 (5 : Int32)))) := ⟨_, rfl⟩
  have hw : PE G.1 b E12 (o + 12) s H locs := by rw [eE12]; exact hw
  have hF : ∀ j, j < o → E12 j = E j := fun j hj => (show E12 j = E11 j by rw [eE12, upE_ne (by omega)]).trans (hF j hj)
  have tO : E12 (o) = .inr (3, [.ref (b + (o + 1)), .ref (b + (o + 4)), .ref (b + (o + 11))]) := by rw [eE12, upE_ne (by omega)]; exact tO
  have g1 : atX2 G b E12 (o + 1) := atX2_cong g1 (fun j h1 h2 => by rw [eE12, upE_ne (by omega)])
  have g4 : atX1 G b E12 (o + 4) := atX1_cong g4 (fun j h1 h2 => by rw [eE12, upE_ne (by omega)])
  have t11 : E12 (o + 11) = .inl (G.2.1.1, 4, .inl (upd (upd (upd (upd z0 0 (5 : Int32)) 1 (5 : Int32)) 2 (5 : Int32)) 3 (5 : Int32))) := by rw [eE12]; exact upE_at
  refine lv_iinc (v := 4) (lv' := [(1, .int (4 : Int32)), (0, .ref (b + (o)))]) hx hb dX3_init_47 hl (k := 0) rfl (by decide) (by decide) rfl (fun ls hl => ?_)
  refine lv_goto (tgt := 35) hx hb dX3_init_50 (by decide) ?_
  refine lv_iload_n hx hb dX3_init_35 rfl (lv_at hl 0 rfl) ?_
  refine lv_iconst (v := 4) hx hb dX3_init_36 (by decide) ?_
  refine lv_icmp_ge (tgt := 53) hx hb dX3_init_37 (by decide) (fun c37 => ?_) (fun c37 => ?_)
  rotate_left
  · exact absurd (by decide) c37
  exact ret E12 _ _ 53 _ ⟨hF, ⟨tO, g1, g4, t11⟩⟩ hw dX3_init_53
def atX7 (G : Gg) (b : Nat) (E : Nat → va_E) (o : Nat) : Prop := E (o) = .inr (6, [.null, .int 0])
theorem atX7_cong {G : Gg} {b : Nat} {E E' : Nat → va_E} {o : Nat} (q : atX7 G b E o) (h : ∀ j, o ≤ j → j < o + 1 → E' j = E j) : atX7 G b E' o := by
  exact (h _ (by omega) (by omega)).trans q
set_option maxHeartbeats 4000000 in
set_option maxRecDepth 100000 in
theorem c_X7_init (l : Launch) (G : Gg) (b : Nat) (E : Nat → va_E) (o : Nat) (tO : E o = .inr (6, [.null, .int 0])) : MC l G yX7_init cX7_init 1 (rmC 2 40 0 0) 0 0 b E o [.ref (b + (o))] (fun E' => (∀ j, j < o → E' j = E j) ∧ atX7 G b E' o) := by
  refine MC.of (by decide +kernel) rfl (Nat.le_of_ble_eq_true rfl) ?_
  intro p e s m a below meth c ls Q hx hb hml hts hown hin hk hw ret hl
  have hown : s.vm.findClass RX7 = some m.cls := hown
  have hl : lv_has ls 1 [(0, .ref (b + (o)))] := hl
  have hF : ∀ j, j < o → E j = E j := fun _ _ => rfl
  generalize hHe : s.heap = H at hw ⊢
  generalize hLe : ([] : List Loc) = locs at hw ⊢
  refine lv_aload_n hx hb dX7_init_0 rfl (lv_at hl 0 rfl) ?_
  refine tn_IN (As := []) (rest := []) (o := o) hx hb hml hts hown hk hw (c_X5_init l G b E (o)) (m2_in wd61 wd60) (by decide +kernel) wd62 rfl nm_yX5_init ⟨rfl, rfl⟩ ⟨by decide, by decide⟩ rfl hl.1 rfl (Nat.le_of_ble_eq_true rfl) dX7_init_1 ⟨Nat.le_of_ble_eq_true rfl, Nat.le_of_ble_eq_true rfl⟩ (fun E1 H locs hE1 hw => ?_)
  rw [hE1] at hw
  have hw : PE G.1 b E (o + 1) s H locs := hw
  exact ret E _ _ 4 _ ⟨hF, tO⟩ hw dX7_init_4
def atX0 (G : Gg) (b : Nat) (E : Nat → va_E) (o : Nat) : Prop := E (o) = .inr (0, [.ref (b + (o + 1)), .ref (b + (o + 8)), .int 0, .int 0, .int 0]) ∧ atX1 G b E (o + 1) ∧ atX7 G b E (o + 8)
theorem atX0_cong {G : Gg} {b : Nat} {E E' : Nat → va_E} {o : Nat} (q : atX0 G b E o) (h : ∀ j, o ≤ j → j < o + 9 → E' j = E j) : atX0 G b E' o := by
  obtain ⟨q0, q1, q2⟩ := q
  exact ⟨(h _ (by omega) (by omega)).trans q0, atX1_cong q1 (fun j h1 h2 => h j (by omega) (by omega)), atX7_cong q2 (fun j h1 h2 => h j (by omega) (by omega))⟩
set_option maxHeartbeats 4000000 in
set_option maxRecDepth 100000 in
theorem c_X0_init (l : Launch) (G : Gg) (b : Nat) (E : Nat → va_E) (o : Nat) (tO : E o = .inr (0, [.null, .null, .int 0, .int 0, .int 0])) : MC l G yX0_init cX0_init 1 (rmC 3 62 8 46) 8 46 b E o [.ref (b + (o))] (fun E' => (∀ j, j < o → E' j = E j) ∧ atX0 G b E' o) := by
  refine MC.of (by decide +kernel) rfl (Nat.le_of_ble_eq_true rfl) ?_
  intro p e s m a below meth c ls Q hx hb hml hts hown hin hk hw ret hl
  have hown : s.vm.findClass RX0 = some m.cls := hown
  have hl : lv_has ls 1 [(0, .ref (b + (o)))] := hl
  have hF : ∀ j, j < o → E j = E j := fun _ _ => rfl
  generalize hHe : s.heap = H at hw ⊢
  generalize hLe : ([] : List Loc) = locs at hw ⊢
  refine lv_aload_n hx hb dX0_init_0 rfl (lv_at hl 0 rfl) ?_
  refine tn_obj hx hb hown (hts _ wd83) (hts _ wd10) (hts _ wd11) (hl.1.trans hml.symm) dX0_init_1 (Nat.le_of_ble_eq_true rfl) (Nat.le_of_ble_eq_true rfl) ?_
  refine lv_aload_n hx hb dX0_init_4 rfl (lv_at hl 0 rfl) ?_
  refine tn_new (ci := 1) (fs := [.null, .null, .int 0, .int 0]) hx hb hts hown hk.1 hw tyX1 rfl inlX1 tyX1_ok (m3_in wd84 wd51 wd52) (bl1_fs) (Nat.le_of_ble_eq_true rfl) (Nat.le_of_ble_eq_true rfl) dX0_init_5 (fun H hw => ?_)
  obtain ⟨E1, eE1⟩ : ∃ zz, zz = upE E (o + 1) (.inr (1, [.null, .null, .int 0, .int 0])) := ⟨_, rfl⟩
  have hw : PE G.1 b E1 (o + 2) s H locs := by rw [eE1]; exact hw
  have hF : ∀ j, j < o → E1 j = E j := fun j hj => (show E1 j = E j by rw [eE1, upE_ne (by omega)]).trans (hF j hj)
  have tO : E1 (o) = .inr (0, [.null, .null, .int 0, .int 0, .int 0]) := by rw [eE1, upE_ne (by omega)]; exact tO
  have t1 : E1 (o + 1) = .inr (1, [.null, .null, .int 0, .int 0]) := by rw [eE1]; exact upE_at
  refine lv_dup hx hb dX0_init_8 rfl ?_
  refine tn_I (As := []) (rest := [.ref (b + (o + 1)), .ref (b + (o))]) (o := o + 1) hx hb hml hts hown hk hw (c_X1_init l G b E1 (o + 1) t1) (m3_in wd52 wd90 wd65) wd66 rfl nm_yX1_init ⟨rfl, rfl⟩ ⟨by decide, by decide⟩ rfl hl.1 rfl (Nat.le_of_ble_eq_true rfl) dX0_init_9 ⟨Nat.le_of_ble_eq_true rfl, Nat.le_of_ble_eq_true rfl⟩ (fun E2 H locs hE2 hw => ?_)
  have hw : PE G.1 b E2 (o + 8) s H locs := hw
  have hF : ∀ j, j < o → E2 j = E j := fun j hj => (hE2.1 j (by omega)).trans (hF j hj)
  have tO : E2 (o) = .inr (0, [.null, .null, .int 0, .int 0, .int 0]) := (hE2.1 _ (by omega)).trans tO
  have g1 := hE2.2
  refine tn_putF (i := o) (ci := 0) (k := 0) hx hb hts hown hk.1 hw tyX0 hin rfl (by omega) tO rfl inlX0 tyX0_ok nmX0 (by decide) wd85 rfl rfl rfl (Nat.le_of_ble_eq_true rfl) dX0_init_12 (fun H locs hw => ?_)
  obtain ⟨E3, eE3⟩ : ∃ zz, zz = upE E2 (o) (.inr (0, [.ref (b + (o + 1)), .null, .int 0, .int 0, .int 0])) := ⟨_, rfl⟩
  have hw : PE G.1 b E3 (o + 8) s H locs := by rw [eE3]; exact hw
  have hF : ∀ j, j < o → E3 j = E j := fun j hj => (show E3 j = E2 j by rw [eE3, upE_ne (by omega)]).trans (hF j hj)
  have g1 : atX1 G b E3 (o + 1) := atX1_cong g1 (fun j h1 h2 => by rw [eE3, upE_ne (by omega)])
  have tO : E3 (o) = .inr (0, [.ref (b + (o + 1)), .null, .int 0, .int 0, .int 0]) := by rw [eE3]; exact upE_at
  refine lv_aload_n hx hb dX0_init_15 rfl (lv_at hl 0 rfl) ?_
  refine tn_new (ci := 6) (fs := [.null, .int 0]) hx hb hts hown hk.1 hw tyX7 rfl inlX7 tyX7_ok (m3_in wd86 wd87 wd88) (bl6_fs) (Nat.le_of_ble_eq_true rfl) (Nat.le_of_ble_eq_true rfl) dX0_init_16 (fun H hw => ?_)
  obtain ⟨E4, eE4⟩ : ∃ zz, zz = upE E3 (o + 8) (.inr (6, [.null, .int 0])) := ⟨_, rfl⟩
  have hw : PE G.1 b E4 (o + 9) s H locs := by rw [eE4]; exact hw
  have hF : ∀ j, j < o → E4 j = E j := fun j hj => (show E4 j = E3 j by rw [eE4, upE_ne (by omega)]).trans (hF j hj)
  have tO : E4 (o) = .inr (0, [.ref (b + (o + 1)), .null, .int 0, .int 0, .int 0]) := by rw [eE4, upE_ne (by omega)]; exact tO
  have g1 : atX1 G b E4 (o + 1) := atX1_cong g1 (fun j h1 h2 => by rw [eE4, upE_ne (by omega)])
  have t8 : E4 (o + 8) = .inr (6, [.null, .int 0]) := by rw [eE4]; exact upE_at
  refine lv_dup hx hb dX0_init_19 rfl ?_
  refine tn_IN (As := []) (rest := [.ref (b + (o + 8)), .ref (b + (o))]) (o := o + 8) hx hb hml hts hown hk hw (c_X7_init l G b E4 (o + 8) t8) (m2_in wd88 wd91) (by decide +kernel) wd92 rfl nm_yX7_init ⟨rfl, rfl⟩ ⟨by decide, by decide⟩ rfl hl.1 rfl (Nat.le_of_ble_eq_true rfl) dX0_init_20 ⟨Nat.le_of_ble_eq_true rfl, Nat.le_of_ble_eq_true rfl⟩ (fun E5 H locs hE5 hw => ?_)
  have hw : PE G.1 b E5 (o + 9) s H locs := hw
  have hF : ∀ j, j < o → E5 j = E j := fun j hj => (hE5.1 j (by omega)).trans (hF j hj)
  have tO : E5 (o) = .inr (0, [.ref (b + (o + 1)), .null, .int 0, .int 0, .int 0]) := (hE5.1 _ (by omega)).trans tO
  have g1 : atX1 G b E5 (o + 1) := atX1_cong g1 (fun j h1 h2 => hE5.1 j (by omega))
  have g8 := hE5.2
  refine tn_putF (i := o) (ci := 0) (k := 1) hx hb hts hown hk.1 hw tyX0 hin rfl (by omega) tO rfl inlX0 tyX0_ok nmX0 (by decide) wd89 rfl rfl rfl (Nat.le_of_ble_eq_true rfl) dX0_init_23 (fun H locs hw => ?_)
  obtain ⟨E6, eE6⟩ : ∃ zz, zz = upE E5 (o) (.inr (0, [.ref (b + (o + 1)), .ref (b + (o + 8)), .int 0, .int 0, .int 0])) := ⟨_, rfl⟩
  have hw : PE G.1 b E6 (o + 9) s H locs := by rw [eE6]; exact hw
  have hF : ∀ j, j < o → E6 j = E j := fun j hj => (show E6 j = E5 j by rw [eE6, upE_ne (by omega)]).trans (hF j hj)
  have g1 : atX1 G b E6 (o + 1) := atX1_cong g1 (fun j h1 h2 => by rw [eE6, upE_ne (by omega)])
  have g8 : atX7 G b E6 (o + 8) := atX7_cong g8 (fun j h1 h2 => by rw [eE6, upE_ne (by omega)])
  have tO : E6 (o) = .inr (0, [.ref (b + (o + 1)), .ref (b + (o + 8)), .int 0, .int 0, .int 0]) := by rw [eE6]; exact upE_at
  exact ret E6 _ _ 26 _ ⟨hF, ⟨tO, g1, g8⟩⟩ hw dX0_init_26
def atX8 (G : Gg) (b : Nat) (E : Nat → va_E) (o : Nat) : Prop := E (o) = .inr (7, [.int 0, .int 0, .int 0])
theorem atX8_cong {G : Gg} {b : Nat} {E E' : Nat → va_E} {o : Nat} (q : atX8 G b E o) (h : ∀ j, o ≤ j → j < o + 1 → E' j = E j) : atX8 G b E' o := by
  exact (h _ (by omega) (by omega)).trans q
set_option maxHeartbeats 4000000 in
set_option maxRecDepth 100000 in
theorem c_X8_init (l : Launch) (G : Gg) (b : Nat) (E : Nat → va_E) (o : Nat) (tO : E o = .inr (7, [.int 0, .int 0, .int 0])) : MC l G yX8_init cX8_init 1 (rmC 1 20 0 0) 0 0 b E o [.ref (b + (o))] (fun E' => (∀ j, j < o → E' j = E j) ∧ atX8 G b E' o) := by
  refine MC.of (by decide +kernel) rfl (Nat.le_of_ble_eq_true rfl) ?_
  intro p e s m a below meth c ls Q hx hb hml hts hown hin hk hw ret hl
  have hown : s.vm.findClass RX8 = some m.cls := hown
  have hl : lv_has ls 1 [(0, .ref (b + (o)))] := hl
  have hF : ∀ j, j < o → E j = E j := fun _ _ => rfl
  generalize hHe : s.heap = H at hw ⊢
  generalize hLe : ([] : List Loc) = locs at hw ⊢
  refine lv_aload_n hx hb dX8_init_0 rfl (lv_at hl 0 rfl) ?_
  refine tn_obj hx hb hown (hts _ wd95) (hts _ wd10) (hts _ wd11) (hl.1.trans hml.symm) dX8_init_1 (Nat.le_of_ble_eq_true rfl) (Nat.le_of_ble_eq_true rfl) ?_
  exact ret E _ _ 4 _ ⟨hF, tO⟩ hw dX8_init_4
def atX9 (G : Gg) (b : Nat) (E : Nat → va_E) (o : Nat) : Prop := E (o) = .inr (8, [.ref (b + (o + 1)), .ref (b + (o + 2)), .int 0]) ∧ E (o + 1) = .inl (G.2.1.1, 72, .inl z0) ∧ E (o + 2) = .inl (G.2.1.1, 72, .inl z0)
theorem atX9_cong {G : Gg} {b : Nat} {E E' : Nat → va_E} {o : Nat} (q : atX9 G b E o) (h : ∀ j, o ≤ j → j < o + 3 → E' j = E j) : atX9 G b E' o := by
  obtain ⟨q0, q1, q2⟩ := q
  exact ⟨(h _ (by omega) (by omega)).trans q0, (h _ (by omega) (by omega)).trans q1, (h _ (by omega) (by omega)).trans q2⟩
set_option maxHeartbeats 4000000 in
set_option maxRecDepth 100000 in
theorem c_X9_init (l : Launch) (G : Gg) (b : Nat) (E : Nat → va_E) (o : Nat) (tO : E o = .inr (8, [.null, .null, .int 0])) : MC l G yX9_init cX9_init 1 (rmC 1 20 2 144) 2 144 b E o [.ref (b + (o))] (fun E' => (∀ j, j < o → E' j = E j) ∧ atX9 G b E' o) := by
  refine MC.of (by decide +kernel) rfl (Nat.le_of_ble_eq_true rfl) ?_
  intro p e s m a below meth c ls Q hx hb hml hts hown hin hk hw ret hl
  have hown : s.vm.findClass RX9 = some m.cls := hown
  have hl : lv_has ls 1 [(0, .ref (b + (o)))] := hl
  have hF : ∀ j, j < o → E j = E j := fun _ _ => rfl
  generalize hHe : s.heap = H at hw ⊢
  generalize hLe : ([] : List Loc) = locs at hw ⊢
  refine lv_aload_n hx hb dX9_init_0 rfl (lv_at hl 0 rfl) ?_
  refine tn_obj hx hb hown (hts _ wd98) (hts _ wd10) (hts _ wd11) (hl.1.trans hml.symm) dX9_init_1 (Nat.le_of_ble_eq_true rfl) (Nat.le_of_ble_eq_true rfl) ?_
  refine lv_aload_n hx hb dX9_init_4 rfl (lv_at hl 0 rfl) ?_
  refine lv_bipush (v := 72) hx hb dX9_init_5 (by decide) ?_
  refine tn_newa (t0 := 0) (ty := .int) hx hb hts hk.1 hw rfl rfl rfl (fun z => z) wd40 (N := 72) (by decide) (by decide) (by decide) (Nat.le_of_ble_eq_true rfl) (Nat.le_of_ble_eq_true rfl) dX9_init_7 (fun H hw => ?_)
  obtain ⟨E1, eE1⟩ : ∃ zz, zz = upE E (o + 1) (.inl (G.2.1.1, 72, .inl z0)) := ⟨_, rfl⟩
  have hw : PE G.1 b E1 (o + 2) s H locs := by rw [eE1]; exact hw
  have hF : ∀ j, j < o → E1 j = E j := fun j hj => (show E1 j = E j by rw [eE1, upE_ne (by omega)]).trans (hF j hj)
  have tO : E1 (o) = .inr (8, [.null, .null, .int 0]) := by rw [eE1, upE_ne (by omega)]; exact tO
  have t1 : E1 (o + 1) = .inl (G.2.1.1, 72, .inl z0) := by rw [eE1]; exact upE_at
  refine tn_putF (i := o) (ci := 8) (k := 0) hx hb hts hown hk.1 hw tyX9 hin rfl (by omega) tO rfl inlX9 tyX9_ok nmX9 (by decide) wd99 rfl rfl rfl (Nat.le_of_ble_eq_true rfl) dX9_init_9 (fun H locs hw => ?_)
  obtain ⟨E2, eE2⟩ : ∃ zz, zz = upE E1 (o) (.inr (8, [.ref (b + (o + 1)), .null, .int 0])) := ⟨_, rfl⟩
  have hw : PE G.1 b E2 (o + 2) s H locs := by rw [eE2]; exact hw
  have hF : ∀ j, j < o → E2 j = E j := fun j hj => (show E2 j = E1 j by rw [eE2, upE_ne (by omega)]).trans (hF j hj)
  have t1 : E2 (o + 1) = .inl (G.2.1.1, 72, .inl z0) := by rw [eE2, upE_ne (by omega)]; exact t1
  have tO : E2 (o) = .inr (8, [.ref (b + (o + 1)), .null, .int 0]) := by rw [eE2]; exact upE_at
  refine lv_aload_n hx hb dX9_init_12 rfl (lv_at hl 0 rfl) ?_
  refine lv_bipush (v := 72) hx hb dX9_init_13 (by decide) ?_
  refine tn_newa (t0 := 0) (ty := .int) hx hb hts hk.1 hw rfl rfl rfl (fun z => z) wd40 (N := 72) (by decide) (by decide) (by decide) (Nat.le_of_ble_eq_true rfl) (Nat.le_of_ble_eq_true rfl) dX9_init_15 (fun H hw => ?_)
  obtain ⟨E3, eE3⟩ : ∃ zz, zz = upE E2 (o + 2) (.inl (G.2.1.1, 72, .inl z0)) := ⟨_, rfl⟩
  have hw : PE G.1 b E3 (o + 3) s H locs := by rw [eE3]; exact hw
  have hF : ∀ j, j < o → E3 j = E j := fun j hj => (show E3 j = E2 j by rw [eE3, upE_ne (by omega)]).trans (hF j hj)
  have tO : E3 (o) = .inr (8, [.ref (b + (o + 1)), .null, .int 0]) := by rw [eE3, upE_ne (by omega)]; exact tO
  have t1 : E3 (o + 1) = .inl (G.2.1.1, 72, .inl z0) := by rw [eE3, upE_ne (by omega)]; exact t1
  have t2 : E3 (o + 2) = .inl (G.2.1.1, 72, .inl z0) := by rw [eE3]; exact upE_at
  refine tn_putF (i := o) (ci := 8) (k := 1) hx hb hts hown hk.1 hw tyX9 hin rfl (by omega) tO rfl inlX9 tyX9_ok nmX9 (by decide) wd100 rfl rfl rfl (Nat.le_of_ble_eq_true rfl) dX9_init_17 (fun H locs hw => ?_)
  obtain ⟨E4, eE4⟩ : ∃ zz, zz = upE E3 (o) (.inr (8, [.ref (b + (o + 1)), .ref (b + (o + 2)), .int 0])) := ⟨_, rfl⟩
  have hw : PE G.1 b E4 (o + 3) s H locs := by rw [eE4]; exact hw
  have hF : ∀ j, j < o → E4 j = E j := fun j hj => (show E4 j = E3 j by rw [eE4, upE_ne (by omega)]).trans (hF j hj)
  have t1 : E4 (o + 1) = .inl (G.2.1.1, 72, .inl z0) := by rw [eE4, upE_ne (by omega)]; exact t1
  have t2 : E4 (o + 2) = .inl (G.2.1.1, 72, .inl z0) := by rw [eE4, upE_ne (by omega)]; exact t2
  have tO : E4 (o) = .inr (8, [.ref (b + (o + 1)), .ref (b + (o + 2)), .int 0]) := by rw [eE4]; exact upE_at
  exact ret E4 _ _ 20 _ ⟨hF, ⟨tO, t1, t2⟩⟩ hw dX9_init_20
def atX10 (G : Gg) (b : Nat) (E : Nat → va_E) (o : Nat) : Prop := E (o) = .inr (9, [.ref (b + (o + 1)), .ref (b + (o + 3)), .ref (b + (o + 15)), .ref (b + (o + 40)), .ref (b + (o + 41)), .ref (b + (o + 53)), .ref (b + (o + 65)), .ref (b + (o + 74)), .ref (b + (o + 75))]) ∧ atX4 G b E (o + 1) ∧ atX3 G b E (o + 3) ∧ E (o + 15) = .inl (G.2.1.2.2.1, 2, .inr (.inr (.inr (.inr (va_up (va_up (fun _ => none) 0 (some (b + (o + 16)))) 1 (some (b + (o + 28)))))))) ∧ atX3 G b E (o + 16) ∧ atX3 G b E (o + 28) ∧ E (o + 40) = .inl (G.2.1.2.1, 2, .inl z0) ∧ atX3 G b E (o + 41) ∧ atX3 G b E (o + 53) ∧ atX0 G b E (o + 65) ∧ atX8 G b E (o + 74) ∧ atX9 G b E (o + 75)
theorem atX10_cong {G : Gg} {b : Nat} {E E' : Nat → va_E} {o : Nat} (q : atX10 G b E o) (h : ∀ j, o ≤ j → j < o + 78 → E' j = E j) : atX10 G b E' o := by
  obtain ⟨q0, q1, q2, q3, q4, q5, q6, q7, q8, q9, q10, q11⟩ := q
  exact ⟨(h _ (by omega) (by omega)).trans q0, atX4_cong q1 (fun j h1 h2 => h j (by omega) (by omega)), atX3_cong q2 (fun j h1 h2 => h j (by omega) (by omega)), (h _ (by omega) (by omega)).trans q3, atX3_cong q4 (fun j h1 h2 => h j (by omega) (by omega)), atX3_cong q5 (fun j h1 h2 => h j (by omega) (by omega)), (h _ (by omega) (by omega)).trans q6, atX3_cong q7 (fun j h1 h2 => h j (by omega) (by omega)), atX3_cong q8 (fun j h1 h2 => h j (by omega) (by omega)), atX0_cong q9 (fun j h1 h2 => h j (by omega) (by omega)), atX8_cong q10 (fun j h1 h2 => h j (by omega) (by omega)), atX9_cong q11 (fun j h1 h2 => h j (by omega) (by omega))⟩
set_option maxHeartbeats 4000000 in
set_option maxRecDepth 100000 in
theorem c_X10_init (l : Launch) (G : Gg) (b : Nat) (E : Nat → va_E) (o : Nat) (tO : E o = .inr (9, [.null, .null, .null, .null, .null, .null, .null, .null, .null])) : MC l G yX10_init cX10_init 2 (rmC 4 83 77 2112) 77 2112 b E o [.ref (b + (o))] (fun E' => (∀ j, j < o → E' j = E j) ∧ atX10 G b E' o) := by
  refine MC.of (by decide +kernel) rfl (Nat.le_of_ble_eq_true rfl) ?_
  intro p e s m a below meth c ls Q hx hb hml hts hown hin hk hw ret hl
  have hown : s.vm.findClass RX10 = some m.cls := hown
  have hl : lv_has ls 2 [(0, .ref (b + (o)))] := hl
  have hF : ∀ j, j < o → E j = E j := fun _ _ => rfl
  generalize hHe : s.heap = H at hw ⊢
  generalize hLe : ([] : List Loc) = locs at hw ⊢
  refine lv_aload_n hx hb dX10_init_0 rfl (lv_at hl 0 rfl) ?_
  refine tn_obj hx hb hown (hts _ wd9) (hts _ wd10) (hts _ wd11) (hl.1.trans hml.symm) dX10_init_1 (Nat.le_of_ble_eq_true rfl) (Nat.le_of_ble_eq_true rfl) ?_
  refine lv_aload_n hx hb dX10_init_4 rfl (lv_at hl 0 rfl) ?_
  refine tn_new (ci := 4) (fs := [.null, .int 0]) hx hb hts hown hk.1 hw tyX4 rfl inlX4 tyX4_ok (m3_in wd12 wd13 wd14) (bl4_fs) (Nat.le_of_ble_eq_true rfl) (Nat.le_of_ble_eq_true rfl) dX10_init_5 (fun H hw => ?_)
  obtain ⟨E1, eE1⟩ : ∃ zz, zz = upE E (o + 1) (.inr (4, [.null, .int 0])) := ⟨_, rfl⟩
  have hw : PE G.1 b E1 (o + 2) s H locs := by rw [eE1]; exact hw
  have hF : ∀ j, j < o → E1 j = E j := fun j hj => (show E1 j = E j by rw [eE1, upE_ne (by omega)]).trans (hF j hj)
  have tO : E1 (o) = .inr (9, [.null, .null, .null, .null, .null, .null, .null, .null, .null]) := by rw [eE1, upE_ne (by omega)]; exact tO
  have t1 : E1 (o + 1) = .inr (4, [.null, .int 0]) := by rw [eE1]; exact upE_at
  refine lv_dup hx hb dX10_init_8 rfl ?_
  refine tn_IN (As := []) (rest := [.ref (b + (o + 1)), .ref (b + (o))]) (o := o + 1) hx hb hml hts hown hk hw (c_X4_init l G b E1 (o + 1) t1) (m2_in wd14 wd37) (by decide +kernel) wd38 rfl nm_yX4_init ⟨rfl, rfl⟩ ⟨by decide, by decide⟩ rfl hl.1 rfl (Nat.le_of_ble_eq_true rfl) dX10_init_9 ⟨Nat.le_of_ble_eq_true rfl, Nat.le_of_ble_eq_true rfl⟩ (fun E2 H locs hE2 hw => ?_)
  have hw : PE G.1 b E2 (o + 3) s H locs := hw
  have hF : ∀ j, j < o → E2 j = E j := fun j hj => (hE2.1 j (by omega)).trans (hF j hj)
  have tO : E2 (o) = .inr (9, [.null, .null, .null, .null, .null, .null, .null, .null, .null]) := (hE2.1 _ (by omega)).trans tO
  have g1 := hE2.2
  refine tn_putF (i := o) (ci := 9) (k := 0) hx hb hts hown hk.1 hw tyX10 hin rfl (by omega) tO rfl inlX10 tyX10_ok nmX10 (by decide) wd15 rfl rfl rfl (Nat.le_of_ble_eq_true rfl) dX10_init_12 (fun H locs hw => ?_)
  obtain ⟨E3, eE3⟩ : ∃ zz, zz = upE E2 (o) (.inr (9, [.ref (b + (o + 1)), .null, .null, .null, .null, .null, .null, .null, .null])) := ⟨_, rfl⟩
  have hw : PE G.1 b E3 (o + 3) s H locs := by rw [eE3]; exact hw
  have hF : ∀ j, j < o → E3 j = E j := fun j hj => (show E3 j = E2 j by rw [eE3, upE_ne (by omega)]).trans (hF j hj)
  have g1 : atX4 G b E3 (o + 1) := atX4_cong g1 (fun j h1 h2 => by rw [eE3, upE_ne (by omega)])
  have tO : E3 (o) = .inr (9, [.ref (b + (o + 1)), .null, .null, .null, .null, .null, .null, .null, .null]) := by rw [eE3]; exact upE_at
  refine lv_aload_n hx hb dX10_init_15 rfl (lv_at hl 0 rfl) ?_
  refine tn_new (ci := 3) (fs := [.null, .null, .null]) hx hb hts hown hk.1 hw tyX3 rfl inlX3 tyX3_ok (m3_in wd16 wd17 wd18) (bl3_fs) (Nat.le_of_ble_eq_true rfl) (Nat.le_of_ble_eq_true rfl) dX10_init_16 (fun H hw => ?_)
  obtain ⟨E4, eE4⟩ : ∃ zz, zz = upE E3 (o + 3) (.inr (3, [.null, .null, .null])) := ⟨_, rfl⟩
  have hw : PE G.1 b E4 (o + 4) s H locs := by rw [eE4]; exact hw
  have hF : ∀ j, j < o → E4 j = E j := fun j hj => (show E4 j = E3 j by rw [eE4, upE_ne (by omega)]).trans (hF j hj)
  have tO : E4 (o) = .inr (9, [.ref (b + (o + 1)), .null, .null, .null, .null, .null, .null, .null, .null]) := by rw [eE4, upE_ne (by omega)]; exact tO
  have g1 : atX4 G b E4 (o + 1) := atX4_cong g1 (fun j h1 h2 => by rw [eE4, upE_ne (by omega)])
  have t3 : E4 (o + 3) = .inr (3, [.null, .null, .null]) := by rw [eE4]; exact upE_at
  refine lv_dup hx hb dX10_init_19 rfl ?_
  refine tn_I (As := []) (rest := [.ref (b + (o + 3)), .ref (b + (o))]) (o := o + 3) hx hb hml hts hown hk hw (c_X3_init l G b E4 (o + 3) t3) (m3_in wd18 wd42 wd43) wd44 rfl nm_yX3_init ⟨rfl, rfl⟩ ⟨by decide, by decide⟩ rfl hl.1 rfl (Nat.le_of_ble_eq_true rfl) dX10_init_20 ⟨Nat.le_of_ble_eq_true rfl, Nat.le_of_ble_eq_true rfl⟩ (fun E5 H locs hE5 hw => ?_)
  have hw : PE G.1 b E5 (o + 15) s H locs := hw
  have hF : ∀ j, j < o → E5 j = E j := fun j hj => (hE5.1 j (by omega)).trans (hF j hj)
  have tO : E5 (o) = .inr (9, [.ref (b + (o + 1)), .null, .null, .null, .null, .null, .null, .null, .null]) := (hE5.1 _ (by omega)).trans tO
  have g1 : atX4 G b E5 (o + 1) := atX4_cong g1 (fun j h1 h2 => hE5.1 j (by omega))
  have g3 := hE5.2
  refine tn_putF (i := o) (ci := 9) (k := 1) hx hb hts hown hk.1 hw tyX10 hin rfl (by omega) tO rfl inlX10 tyX10_ok nmX10 (by decide) wd19 rfl rfl rfl (Nat.le_of_ble_eq_true rfl) dX10_init_23 (fun H locs hw => ?_)
  obtain ⟨E6, eE6⟩ : ∃ zz, zz = upE E5 (o) (.inr (9, [.ref (b + (o + 1)), .ref (b + (o + 3)), .null, .null, .null, .null, .null, .null, .null])) := ⟨_, rfl⟩
  have hw : PE G.1 b E6 (o + 15) s H locs := by rw [eE6]; exact hw
  have hF : ∀ j, j < o → E6 j = E j := fun j hj => (show E6 j = E5 j by rw [eE6, upE_ne (by omega)]).trans (hF j hj)
  have g1 : atX4 G b E6 (o + 1) := atX4_cong g1 (fun j h1 h2 => by rw [eE6, upE_ne (by omega)])
  have g3 : atX3 G b E6 (o + 3) := atX3_cong g3 (fun j h1 h2 => by rw [eE6, upE_ne (by omega)])
  have tO : E6 (o) = .inr (9, [.ref (b + (o + 1)), .ref (b + (o + 3)), .null, .null, .null, .null, .null, .null, .null]) := by rw [eE6]; exact upE_at
  refine lv_aload_n hx hb dX10_init_26 rfl (lv_at hl 0 rfl) ?_
  refine lv_iconst (v := 2) hx hb dX10_init_27 (by decide) ?_
  refine tn_newq hx hb hts hown hk.1 hw (va_AO.use hk.2.2.1) wd16 2 rfl (N := 2) (by decide) (by decide) (by decide) (Nat.le_of_ble_eq_true rfl) (Nat.le_of_ble_eq_true rfl) dX10_init_28 (fun H hw => ?_)
  obtain ⟨E7, eE7⟩ : ∃ zz, zz = upE E6 (o + 15) (.inl (G.2.1.2.2.1, 2, .inr (.inr (.inr (.inr (fun _ => none)))))) := ⟨_, rfl⟩
  have hw : PE G.1 b E7 (o + 16) s H locs := by rw [eE7]; exact hw
  have hF : ∀ j, j < o → E7 j = E j := fun j hj => (show E7 j = E6 j by rw [eE7, upE_ne (by omega)]).trans (hF j hj)
  have tO : E7 (o) = .inr (9, [.ref (b + (o + 1)), .ref (b + (o + 3)), .null, .null, .null, .null, .null, .null, .null]) := by rw [eE7, upE_ne (by omega)]; exact tO
  have g1 : atX4 G b E7 (o + 1) := atX4_cong g1 (fun j h1 h2 => by rw [eE7, upE_ne (by omega)])
  have g3 : atX3 G b E7 (o + 3) := atX3_cong g3 (fun j h1 h2 => by rw [eE7, upE_ne (by omega)])
  have t15 : E7 (o + 15) = .inl (G.2.1.2.2.1, 2, .inr (.inr (.inr (.inr (fun _ => none))))) := by rw [eE7]; exact upE_at
  refine tn_putF (i := o) (ci := 9) (k := 2) hx hb hts hown hk.1 hw tyX10 hin rfl (by omega) tO rfl inlX10 tyX10_ok nmX10 (by decide) wd20 rfl rfl rfl (Nat.le_of_ble_eq_true rfl) dX10_init_31 (fun H locs hw => ?_)
  obtain ⟨E8, eE8⟩ : ∃ zz, zz = upE E7 (o) (.inr (9, [.ref (b + (o + 1)), .ref (b + (o + 3)), .ref (b + (o + 15)), .null, .null, .null, .null, .null, .null])) := ⟨_, rfl⟩
  have hw : PE G.1 b E8 (o + 16) s H locs := by rw [eE8]; exact hw
  have hF : ∀ j, j < o → E8 j = E j := fun j hj => (show E8 j = E7 j by rw [eE8, upE_ne (by omega)]).trans (hF j hj)
  have t15 : E8 (o + 15) = .inl (G.2.1.2.2.1, 2, .inr (.inr (.inr (.inr (fun _ => none))))) := by rw [eE8, upE_ne (by omega)]; exact t15
  have g1 : atX4 G b E8 (o + 1) := atX4_cong g1 (fun j h1 h2 => by rw [eE8, upE_ne (by omega)])
  have g3 : atX3 G b E8 (o + 3) := atX3_cong g3 (fun j h1 h2 => by rw [eE8, upE_ne (by omega)])
  have tO : E8 (o) = .inr (9, [.ref (b + (o + 1)), .ref (b + (o + 3)), .ref (b + (o + 15)), .null, .null, .null, .null, .null, .null]) := by rw [eE8]; exact upE_at
  refine lv_iconst (v := 0) hx hb dX10_init_34 (by decide) ?_
  refine lv_istore_n (lv' := [(1, .int (0 : Int32)), (0, .ref (b + (o)))]) hx hb dX10_init_35 rfl hl (by decide) rfl (fun ls hl => ?_)
  refine lv_iload_n hx hb dX10_init_36 rfl (lv_at hl 0 rfl) ?_
  refine lv_iconst (v := 2) hx hb dX10_init_37 (by decide) ?_
  refine lv_icmp_ge (tgt := 60) hx hb dX10_init_38 (by decide) (fun c38 => ?_) (fun c38 => ?_)
  · exact absurd c38 (by decide)
  refine lv_aload_n hx hb dX10_init_41 rfl (lv_at hl 1 rfl) ?_
  refine tn_get (i := o) (ci := 9) (k := 2) (v := .ref (b + (o + 15))) hx hb hts hown hk.1 hw (by omega) tO rfl inlX10 (by decide) wd20 rfl dX10_init_42 ?_
  refine lv_iload_n hx hb dX10_init_45 rfl (lv_at hl 0 rfl) ?_
  refine tn_new (ci := 3) (fs := [.null, .null, .null]) hx hb hts hown hk.1 hw tyX3 rfl inlX3 tyX3_ok (m3_in wd16 wd17 wd18) (bl3_fs) (Nat.le_of_ble_eq_true rfl) (Nat.le_of_ble_eq_true rfl) dX10_init_46 (fun H hw => ?_)
  obtain ⟨E9, eE9⟩ : ∃ zz, zz = upE E8 (o + 16) (.inr (3, [.null, .null, .null])) := ⟨_, rfl⟩
  have hw : PE G.1 b E9 (o + 17) s H locs := by rw [eE9]; exact hw
  have hF : ∀ j, j < o → E9 j = E j := fun j hj => (show E9 j = E8 j by rw [eE9, upE_ne (by omega)]).trans (hF j hj)
  have tO : E9 (o) = .inr (9, [.ref (b + (o + 1)), .ref (b + (o + 3)), .ref (b + (o + 15)), .null, .null, .null, .null, .null, .null]) := by rw [eE9, upE_ne (by omega)]; exact tO
  have t15 : E9 (o + 15) = .inl (G.2.1.2.2.1, 2, .inr (.inr (.inr (.inr (fun _ => none))))) := by rw [eE9, upE_ne (by omega)]; exact t15
  have g1 : atX4 G b E9 (o + 1) := atX4_cong g1 (fun j h1 h2 => by rw [eE9, upE_ne (by omega)])
  have g3 : atX3 G b E9 (o + 3) := atX3_cong g3 (fun j h1 h2 => by rw [eE9, upE_ne (by omega)])
  have t16 : E9 (o + 16) = .inr (3, [.null, .null, .null]) := by rw [eE9]; exact upE_at
  refine lv_dup hx hb dX10_init_49 rfl ?_
  refine tn_I (As := []) (rest := [.ref (b + (o + 16)), .int (0 : Int32), .ref (b + (o + 15))]) (o := o + 16) hx hb hml hts hown hk hw (c_X3_init l G b E9 (o + 16) t16) (m3_in wd18 wd42 wd43) wd44 rfl nm_yX3_init ⟨rfl, rfl⟩ ⟨by decide, by decide⟩ rfl hl.1 rfl (Nat.le_of_ble_eq_true rfl) dX10_init_50 ⟨Nat.le_of_ble_eq_true rfl, Nat.le_of_ble_eq_true rfl⟩ (fun E10 H locs hE10 hw => ?_)
  have hw : PE G.1 b E10 (o + 28) s H locs := hw
  have hF : ∀ j, j < o → E10 j = E j := fun j hj => (hE10.1 j (by omega)).trans (hF j hj)
  have tO : E10 (o) = .inr (9, [.ref (b + (o + 1)), .ref (b + (o + 3)), .ref (b + (o + 15)), .null, .null, .null, .null, .null, .null]) := (hE10.1 _ (by omega)).trans tO
  have t15 : E10 (o + 15) = .inl (G.2.1.2.2.1, 2, .inr (.inr (.inr (.inr (fun _ => none))))) := (hE10.1 _ (by omega)).trans t15
  have g1 : atX4 G b E10 (o + 1) := atX4_cong g1 (fun j h1 h2 => hE10.1 j (by omega))
  have g3 : atX3 G b E10 (o + 3) := atX3_cong g3 (fun j h1 h2 => hE10.1 j (by omega))
  have g16 := hE10.2
  refine tn_astq (i := o + 15) (k := o + 16) (ci := 3) hx hb hk.1 hw 2 (by omega) t15 rfl (by omega) g16.1 rfl (vin ⟨by decide, by decide⟩) dX10_init_53 (fun H locs hw => ?_)
  obtain ⟨E11, eE11⟩ : ∃ zz, zz = upE E10 (o + 15) (.inl (G.2.1.2.2.1, 2, .inr (.inr (.inr (.inr (va_up (fun _ => none) 0 (some (b + (o + 16))))))))) := ⟨_, rfl⟩
  have hw : PE G.1 b E11 (o + 28) s H locs := by rw [eE11]; exact hw
  have hF : ∀ j, j < o → E11 j = E j := fun j hj => (show E11 j = E10 j by rw [eE11, upE_ne (by omega)]).trans (hF j hj)
  have tO : E11 (o) = .inr (9, [.ref (b + (o + 1)), .ref (b + (o + 3)), .ref (b + (o + 15)), .null, .null, .null, .null, .null, .null]) := by rw [eE11, upE_ne (by omega)]; exact tO
  have g1 : atX4 G b E11 (o + 1) := atX4_cong g1 (fun j h1 h2 => by rw [eE11, upE_ne (by omega)])
  have g3 : atX3 G b E11 (o + 3) := atX3_cong g3 (fun j h1 h2 => by rw [eE11, upE_ne (by omega)])
  have g16 : atX3 G b E11 (o + 16) := atX3_cong g16 (fun j h1 h2 => by rw [eE11, upE_ne (by omega)])
  have t15 : E11 (o + 15) = .inl (G.2.1.2.2.1, 2, .inr (.inr (.inr (.inr (va_up (fun _ => none) 0 (some (b + (o + 16)))))))) := by rw [eE11]; exact upE_at
  refine lv_iinc (v := 1) (lv' := [(1, .int (1 : Int32)), (0, .ref (b + (o)))]) hx hb dX10_init_54 hl (k := 0) rfl (by decide) (by decide) rfl (fun ls hl => ?_)
  refine lv_goto (tgt := 36) hx hb dX10_init_57 (by decide) ?_
  refine lv_iload_n hx hb dX10_init_36 rfl (lv_at hl 0 rfl) ?_
  refine lv_iconst (v := 2) hx hb dX10_init_37 (by decide) ?_
  refine lv_icmp_ge (tgt := 60) hx hb dX10_init_38 (by decide) (fun c38 => ?_) (fun c38 => ?_)
  · exact absurd c38 (by decide)
  refine lv_aload_n hx hb dX10_init_41 rfl (lv_at hl 1 rfl) ?_
  refine tn_get (i := o) (ci := 9) (k := 2) (v := .ref (b + (o + 15))) hx hb hts hown hk.1 hw (by omega) tO rfl inlX10 (by decide) wd20 rfl dX10_init_42 ?_
  refine lv_iload_n hx hb dX10_init_45 rfl (lv_at hl 0 rfl) ?_
  refine tn_new (ci := 3) (fs := [.null, .null, .null]) hx hb hts hown hk.1 hw tyX3 rfl inlX3 tyX3_ok (m3_in wd16 wd17 wd18) (bl3_fs) (Nat.le_of_ble_eq_true rfl) (Nat.le_of_ble_eq_true rfl) dX10_init_46 (fun H hw => ?_)
  obtain ⟨E12, eE12⟩ : ∃ zz, zz = upE E11 (o + 28) (.inr (3, [.null, .null, .null])) := ⟨_, rfl⟩
  have hw : PE G.1 b E12 (o + 29) s H locs := by rw [eE12]; exact hw
  have hF : ∀ j, j < o → E12 j = E j := fun j hj => (show E12 j = E11 j by rw [eE12, upE_ne (by omega)]).trans (hF j hj)
  have tO : E12 (o) = .inr (9, [.ref (b + (o + 1)), .ref (b + (o + 3)), .ref (b + (o + 15)), .null, .null, .null, .null, .null, .null]) := by rw [eE12, upE_ne (by omega)]; exact tO
  have t15 : E12 (o + 15) = .inl (G.2.1.2.2.1, 2, .inr (.inr (.inr (.inr (va_up (fun _ => none) 0 (some (b + (o + 16)))))))) := by rw [eE12, upE_ne (by omega)]; exact t15
  have g1 : atX4 G b E12 (o + 1) := atX4_cong g1 (fun j h1 h2 => by rw [eE12, upE_ne (by omega)])
  have g3 : atX3 G b E12 (o + 3) := atX3_cong g3 (fun j h1 h2 => by rw [eE12, upE_ne (by omega)])
  have g16 : atX3 G b E12 (o + 16) := atX3_cong g16 (fun j h1 h2 => by rw [eE12, upE_ne (by omega)])
  have t28 : E12 (o + 28) = .inr (3, [.null, .null, .null]) := by rw [eE12]; exact upE_at
  refine lv_dup hx hb dX10_init_49 rfl ?_
  refine tn_I (As := []) (rest := [.ref (b + (o + 28)), .int (1 : Int32), .ref (b + (o + 15))]) (o := o + 28) hx hb hml hts hown hk hw (c_X3_init l G b E12 (o + 28) t28) (m3_in wd18 wd42 wd43) wd44 rfl nm_yX3_init ⟨rfl, rfl⟩ ⟨by decide, by decide⟩ rfl hl.1 rfl (Nat.le_of_ble_eq_true rfl) dX10_init_50 ⟨Nat.le_of_ble_eq_true rfl, Nat.le_of_ble_eq_true rfl⟩ (fun E13 H locs hE13 hw => ?_)
  have hw : PE G.1 b E13 (o + 40) s H locs := hw
  have hF : ∀ j, j < o → E13 j = E j := fun j hj => (hE13.1 j (by omega)).trans (hF j hj)
  have tO : E13 (o) = .inr (9, [.ref (b + (o + 1)), .ref (b + (o + 3)), .ref (b + (o + 15)), .null, .null, .null, .null, .null, .null]) := (hE13.1 _ (by omega)).trans tO
  have t15 : E13 (o + 15) = .inl (G.2.1.2.2.1, 2, .inr (.inr (.inr (.inr (va_up (fun _ => none) 0 (some (b + (o + 16)))))))) := (hE13.1 _ (by omega)).trans t15
  have g1 : atX4 G b E13 (o + 1) := atX4_cong g1 (fun j h1 h2 => hE13.1 j (by omega))
  have g3 : atX3 G b E13 (o + 3) := atX3_cong g3 (fun j h1 h2 => hE13.1 j (by omega))
  have g16 : atX3 G b E13 (o + 16) := atX3_cong g16 (fun j h1 h2 => hE13.1 j (by omega))
  have g28 := hE13.2
  refine tn_astq (i := o + 15) (k := o + 28) (ci := 3) hx hb hk.1 hw 2 (by omega) t15 rfl (by omega) g28.1 rfl (vin ⟨by decide, by decide⟩) dX10_init_53 (fun H locs hw => ?_)
  obtain ⟨E14, eE14⟩ : ∃ zz, zz = upE E13 (o + 15) (.inl (G.2.1.2.2.1, 2, .inr (.inr (.inr (.inr (va_up (va_up (fun _ => none) 0 (some (b + (o + 16)))) 1 (some (b + (o + 28))))))))) := ⟨_, rfl⟩
  have hw : PE G.1 b E14 (o + 40) s H locs := by rw [eE14]; exact hw
  have hF : ∀ j, j < o → E14 j = E j := fun j hj => (show E14 j = E13 j by rw [eE14, upE_ne (by omega)]).trans (hF j hj)
  have tO : E14 (o) = .inr (9, [.ref (b + (o + 1)), .ref (b + (o + 3)), .ref (b + (o + 15)), .null, .null, .null, .null, .null, .null]) := by rw [eE14, upE_ne (by omega)]; exact tO
  have g1 : atX4 G b E14 (o + 1) := atX4_cong g1 (fun j h1 h2 => by rw [eE14, upE_ne (by omega)])
  have g3 : atX3 G b E14 (o + 3) := atX3_cong g3 (fun j h1 h2 => by rw [eE14, upE_ne (by omega)])
  have g16 : atX3 G b E14 (o + 16) := atX3_cong g16 (fun j h1 h2 => by rw [eE14, upE_ne (by omega)])
  have g28 : atX3 G b E14 (o + 28) := atX3_cong g28 (fun j h1 h2 => by rw [eE14, upE_ne (by omega)])
  have t15 : E14 (o + 15) = .inl (G.2.1.2.2.1, 2, .inr (.inr (.inr (.inr (va_up (va_up (fun _ => none) 0 (some (b + (o + 16)))) 1 (some (b + (o + 28)))))))) := by rw [eE14]; exact upE_at
  refine lv_iinc (v := 2) (lv' := [(1, .int (2 : Int32)), (0, .ref (b + (o)))]) hx hb dX10_init_54 hl (k := 0) rfl (by decide) (by decide) rfl (fun ls hl => ?_)
  refine lv_goto (tgt := 36) hx hb dX10_init_57 (by decide) ?_
  refine lv_iload_n hx hb dX10_init_36 rfl (lv_at hl 0 rfl) ?_
  refine lv_iconst (v := 2) hx hb dX10_init_37 (by decide) ?_
  refine lv_icmp_ge (tgt := 60) hx hb dX10_init_38 (by decide) (fun c38 => ?_) (fun c38 => ?_)
  rotate_left
  · exact absurd (by decide) c38
  refine lv_aload_n hx hb dX10_init_60 rfl (lv_at hl 1 rfl) ?_
  refine lv_iconst (v := 2) hx hb dX10_init_61 (by decide) ?_
  refine tn_newa (t0 := 1) (ty := .boolean) hx hb hts hk.1 hw rfl rfl rfl (fun z => z) wd21 (N := 2) (by decide) (by decide) (by decide) (Nat.le_of_ble_eq_true rfl) (Nat.le_of_ble_eq_true rfl) dX10_init_62 (fun H hw => ?_)
  obtain ⟨E15, eE15⟩ : ∃ zz, zz = upE E14 (o + 40) (.inl (G.2.1.2.1, 2, .inl z0)) := ⟨_, rfl⟩
  have hw : PE G.1 b E15 (o + 41) s H locs := by rw [eE15]; exact hw
  have hF : ∀ j, j < o → E15 j = E j := fun j hj => (show E15 j = E14 j by rw [eE15, upE_ne (by omega)]).trans (hF j hj)
  have tO : E15 (o) = .inr (9, [.ref (b + (o + 1)), .ref (b + (o + 3)), .ref (b + (o + 15)), .null, .null, .null, .null, .null, .null]) := by rw [eE15, upE_ne (by omega)]; exact tO
  have t15 : E15 (o + 15) = .inl (G.2.1.2.2.1, 2, .inr (.inr (.inr (.inr (va_up (va_up (fun _ => none) 0 (some (b + (o + 16)))) 1 (some (b + (o + 28)))))))) := by rw [eE15, upE_ne (by omega)]; exact t15
  have g1 : atX4 G b E15 (o + 1) := atX4_cong g1 (fun j h1 h2 => by rw [eE15, upE_ne (by omega)])
  have g3 : atX3 G b E15 (o + 3) := atX3_cong g3 (fun j h1 h2 => by rw [eE15, upE_ne (by omega)])
  have g16 : atX3 G b E15 (o + 16) := atX3_cong g16 (fun j h1 h2 => by rw [eE15, upE_ne (by omega)])
  have g28 : atX3 G b E15 (o + 28) := atX3_cong g28 (fun j h1 h2 => by rw [eE15, upE_ne (by omega)])
  have t40 : E15 (o + 40) = .inl (G.2.1.2.1, 2, .inl z0) := by rw [eE15]; exact upE_at
  refine tn_putF (i := o) (ci := 9) (k := 3) hx hb hts hown hk.1 hw tyX10 hin rfl (by omega) tO rfl inlX10 tyX10_ok nmX10 (by decide) wd22 rfl rfl rfl (Nat.le_of_ble_eq_true rfl) dX10_init_64 (fun H locs hw => ?_)
  obtain ⟨E16, eE16⟩ : ∃ zz, zz = upE E15 (o) (.inr (9, [.ref (b + (o + 1)), .ref (b + (o + 3)), .ref (b + (o + 15)), .ref (b + (o + 40)), .null, .null, .null, .null, .null])) := ⟨_, rfl⟩
  have hw : PE G.1 b E16 (o + 41) s H locs := by rw [eE16]; exact hw
  have hF : ∀ j, j < o → E16 j = E j := fun j hj => (show E16 j = E15 j by rw [eE16, upE_ne (by omega)]).trans (hF j hj)
  have t15 : E16 (o + 15) = .inl (G.2.1.2.2.1, 2, .inr (.inr (.inr (.inr (va_up (va_up (fun _ => none) 0 (some (b + (o + 16)))) 1 (some (b + (o + 28)))))))) := by rw [eE16, upE_ne (by omega)]; exact t15
  have t40 : E16 (o + 40) = .inl (G.2.1.2.1, 2, .inl z0) := by rw [eE16, upE_ne (by omega)]; exact t40
  have g1 : atX4 G b E16 (o + 1) := atX4_cong g1 (fun j h1 h2 => by rw [eE16, upE_ne (by omega)])
  have g3 : atX3 G b E16 (o + 3) := atX3_cong g3 (fun j h1 h2 => by rw [eE16, upE_ne (by omega)])
  have g16 : atX3 G b E16 (o + 16) := atX3_cong g16 (fun j h1 h2 => by rw [eE16, upE_ne (by omega)])
  have g28 : atX3 G b E16 (o + 28) := atX3_cong g28 (fun j h1 h2 => by rw [eE16, upE_ne (by omega)])
  have tO : E16 (o) = .inr (9, [.ref (b + (o + 1)), .ref (b + (o + 3)), .ref (b + (o + 15)), .ref (b + (o + 40)), .null, .null, .null, .null, .null]) := by rw [eE16]; exact upE_at
  refine lv_aload_n hx hb dX10_init_67 rfl (lv_at hl 1 rfl) ?_
  refine tn_new (ci := 3) (fs := [.null, .null, .null]) hx hb hts hown hk.1 hw tyX3 rfl inlX3 tyX3_ok (m3_in wd16 wd17 wd18) (bl3_fs) (Nat.le_of_ble_eq_true rfl) (Nat.le_of_ble_eq_true rfl) dX10_init_68 (fun H hw => ?_)
  obtain ⟨E17, eE17⟩ : ∃ zz, zz = upE E16 (o + 41) (.inr (3, [.null, .null, .null])) := ⟨_, rfl⟩
  have hw : PE G.1 b E17 (o + 42) s H locs := by rw [eE17]; exact hw
  have hF : ∀ j, j < o → E17 j = E j := fun j hj => (show E17 j = E16 j by rw [eE17, upE_ne (by omega)]).trans (hF j hj)
  have tO : E17 (o) = .inr (9, [.ref (b + (o + 1)), .ref (b + (o + 3)), .ref (b + (o + 15)), .ref (b + (o + 40)), .null, .null, .null, .null, .null]) := by rw [eE17, upE_ne (by omega)]; exact tO
  have t15 : E17 (o + 15) = .inl (G.2.1.2.2.1, 2, .inr (.inr (.inr (.inr (va_up (va_up (fun _ => none) 0 (some (b + (o + 16)))) 1 (some (b + (o + 28)))))))) := by rw [eE17, upE_ne (by omega)]; exact t15
  have t40 : E17 (o + 40) = .inl (G.2.1.2.1, 2, .inl z0) := by rw [eE17, upE_ne (by omega)]; exact t40
  have g1 : atX4 G b E17 (o + 1) := atX4_cong g1 (fun j h1 h2 => by rw [eE17, upE_ne (by omega)])
  have g3 : atX3 G b E17 (o + 3) := atX3_cong g3 (fun j h1 h2 => by rw [eE17, upE_ne (by omega)])
  have g16 : atX3 G b E17 (o + 16) := atX3_cong g16 (fun j h1 h2 => by rw [eE17, upE_ne (by omega)])
  have g28 : atX3 G b E17 (o + 28) := atX3_cong g28 (fun j h1 h2 => by rw [eE17, upE_ne (by omega)])
  have t41 : E17 (o + 41) = .inr (3, [.null, .null, .null]) := by rw [eE17]; exact upE_at
  refine lv_dup hx hb dX10_init_71 rfl ?_
  refine tn_I (As := []) (rest := [.ref (b + (o + 41)), .ref (b + (o))]) (o := o + 41) hx hb hml hts hown hk hw (c_X3_init l G b E17 (o + 41) t41) (m3_in wd18 wd42 wd43) wd44 rfl nm_yX3_init ⟨rfl, rfl⟩ ⟨by decide, by decide⟩ rfl hl.1 rfl (Nat.le_of_ble_eq_true rfl) dX10_init_72 ⟨Nat.le_of_ble_eq_true rfl, Nat.le_of_ble_eq_true rfl⟩ (fun E18 H locs hE18 hw => ?_)
  have hw : PE G.1 b E18 (o + 53) s H locs := hw
  have hF : ∀ j, j < o → E18 j = E j := fun j hj => (hE18.1 j (by omega)).trans (hF j hj)
  have tO : E18 (o) = .inr (9, [.ref (b + (o + 1)), .ref (b + (o + 3)), .ref (b + (o + 15)), .ref (b + (o + 40)), .null, .null, .null, .null, .null]) := (hE18.1 _ (by omega)).trans tO
  have t15 : E18 (o + 15) = .inl (G.2.1.2.2.1, 2, .inr (.inr (.inr (.inr (va_up (va_up (fun _ => none) 0 (some (b + (o + 16)))) 1 (some (b + (o + 28)))))))) := (hE18.1 _ (by omega)).trans t15
  have t40 : E18 (o + 40) = .inl (G.2.1.2.1, 2, .inl z0) := (hE18.1 _ (by omega)).trans t40
  have g1 : atX4 G b E18 (o + 1) := atX4_cong g1 (fun j h1 h2 => hE18.1 j (by omega))
  have g3 : atX3 G b E18 (o + 3) := atX3_cong g3 (fun j h1 h2 => hE18.1 j (by omega))
  have g16 : atX3 G b E18 (o + 16) := atX3_cong g16 (fun j h1 h2 => hE18.1 j (by omega))
  have g28 : atX3 G b E18 (o + 28) := atX3_cong g28 (fun j h1 h2 => hE18.1 j (by omega))
  have g41 := hE18.2
  refine tn_putF (i := o) (ci := 9) (k := 4) hx hb hts hown hk.1 hw tyX10 hin rfl (by omega) tO rfl inlX10 tyX10_ok nmX10 (by decide) wd23 rfl rfl rfl (Nat.le_of_ble_eq_true rfl) dX10_init_75 (fun H locs hw => ?_)
  obtain ⟨E19, eE19⟩ : ∃ zz, zz = upE E18 (o) (.inr (9, [.ref (b + (o + 1)), .ref (b + (o + 3)), .ref (b + (o + 15)), .ref (b + (o + 40)), .ref (b + (o + 41)), .null, .null, .null, .null])) := ⟨_, rfl⟩
  have hw : PE G.1 b E19 (o + 53) s H locs := by rw [eE19]; exact hw
  have hF : ∀ j, j < o → E19 j = E j := fun j hj => (show E19 j = E18 j by rw [eE19, upE_ne (by omega)]).trans (hF j hj)
  have t15 : E19 (o + 15) = .inl (G.2.1.2.2.1, 2, .inr (.inr (.inr (.inr (va_up (va_up (fun _ => none) 0 (some (b + (o + 16)))) 1 (some (b + (o + 28)))))))) := by rw [eE19, upE_ne (by omega)]; exact t15
  have t40 : E19 (o + 40) = .inl (G.2.1.2.1, 2, .inl z0) := by rw [eE19, upE_ne (by omega)]; exact t40
  have g1 : atX4 G b E19 (o + 1) := atX4_cong g1 (fun j h1 h2 => by rw [eE19, upE_ne (by omega)])
  have g3 : atX3 G b E19 (o + 3) := atX3_cong g3 (fun j h1 h2 => by rw [eE19, upE_ne (by omega)])
  have g16 : atX3 G b E19 (o + 16) := atX3_cong g16 (fun j h1 h2 => by rw [eE19, upE_ne (by omega)])
  have g28 : atX3 G b E19 (o + 28) := atX3_cong g28 (fun j h1 h2 => by rw [eE19, upE_ne (by omega)])
  have g41 : atX3 G b E19 (o + 41) := atX3_cong g41 (fun j h1 h2 => by rw [eE19, upE_ne (by omega)])
  have tO : E19 (o) = .inr (9, [.ref (b + (o + 1)), .ref (b + (o + 3)), .ref (b + (o + 15)), .ref (b + (o + 40)), .ref (b + (o + 41)), .null, .null, .null, .null]) := by rw [eE19]; exact upE_at
  refine lv_aload_n hx hb dX10_init_78 rfl (lv_at hl 1 rfl) ?_
  refine tn_new (ci := 3) (fs := [.null, .null, .null]) hx hb hts hown hk.1 hw tyX3 rfl inlX3 tyX3_ok (m3_in wd16 wd17 wd18) (bl3_fs) (Nat.le_of_ble_eq_true rfl) (Nat.le_of_ble_eq_true rfl) dX10_init_79 (fun H hw => ?_)
  obtain ⟨E20, eE20⟩ : ∃ zz, zz = upE E19 (o + 53) (.inr (3, [.null, .null, .null])) := ⟨_, rfl⟩
  have hw : PE G.1 b E20 (o + 54) s H locs := by rw [eE20]; exact hw
  have hF : ∀ j, j < o → E20 j = E j := fun j hj => (show E20 j = E19 j by rw [eE20, upE_ne (by omega)]).trans (hF j hj)
  have tO : E20 (o) = .inr (9, [.ref (b + (o + 1)), .ref (b + (o + 3)), .ref (b + (o + 15)), .ref (b + (o + 40)), .ref (b + (o + 41)), .null, .null, .null, .null]) := by rw [eE20, upE_ne (by omega)]; exact tO
  have t15 : E20 (o + 15) = .inl (G.2.1.2.2.1, 2, .inr (.inr (.inr (.inr (va_up (va_up (fun _ => none) 0 (some (b + (o + 16)))) 1 (some (b + (o + 28)))))))) := by rw [eE20, upE_ne (by omega)]; exact t15
  have t40 : E20 (o + 40) = .inl (G.2.1.2.1, 2, .inl z0) := by rw [eE20, upE_ne (by omega)]; exact t40
  have g1 : atX4 G b E20 (o + 1) := atX4_cong g1 (fun j h1 h2 => by rw [eE20, upE_ne (by omega)])
  have g3 : atX3 G b E20 (o + 3) := atX3_cong g3 (fun j h1 h2 => by rw [eE20, upE_ne (by omega)])
  have g16 : atX3 G b E20 (o + 16) := atX3_cong g16 (fun j h1 h2 => by rw [eE20, upE_ne (by omega)])
  have g28 : atX3 G b E20 (o + 28) := atX3_cong g28 (fun j h1 h2 => by rw [eE20, upE_ne (by omega)])
  have g41 : atX3 G b E20 (o + 41) := atX3_cong g41 (fun j h1 h2 => by rw [eE20, upE_ne (by omega)])
  have t53 : E20 (o + 53) = .inr (3, [.null, .null, .null]) := by rw [eE20]; exact upE_at
  refine lv_dup hx hb dX10_init_82 rfl ?_
  refine tn_I (As := []) (rest := [.ref (b + (o + 53)), .ref (b + (o))]) (o := o + 53) hx hb hml hts hown hk hw (c_X3_init l G b E20 (o + 53) t53) (m3_in wd18 wd42 wd43) wd44 rfl nm_yX3_init ⟨rfl, rfl⟩ ⟨by decide, by decide⟩ rfl hl.1 rfl (Nat.le_of_ble_eq_true rfl) dX10_init_83 ⟨Nat.le_of_ble_eq_true rfl, Nat.le_of_ble_eq_true rfl⟩ (fun E21 H locs hE21 hw => ?_)
  have hw : PE G.1 b E21 (o + 65) s H locs := hw
  have hF : ∀ j, j < o → E21 j = E j := fun j hj => (hE21.1 j (by omega)).trans (hF j hj)
  have tO : E21 (o) = .inr (9, [.ref (b + (o + 1)), .ref (b + (o + 3)), .ref (b + (o + 15)), .ref (b + (o + 40)), .ref (b + (o + 41)), .null, .null, .null, .null]) := (hE21.1 _ (by omega)).trans tO
  have t15 : E21 (o + 15) = .inl (G.2.1.2.2.1, 2, .inr (.inr (.inr (.inr (va_up (va_up (fun _ => none) 0 (some (b + (o + 16)))) 1 (some (b + (o + 28)))))))) := (hE21.1 _ (by omega)).trans t15
  have t40 : E21 (o + 40) = .inl (G.2.1.2.1, 2, .inl z0) := (hE21.1 _ (by omega)).trans t40
  have g1 : atX4 G b E21 (o + 1) := atX4_cong g1 (fun j h1 h2 => hE21.1 j (by omega))
  have g3 : atX3 G b E21 (o + 3) := atX3_cong g3 (fun j h1 h2 => hE21.1 j (by omega))
  have g16 : atX3 G b E21 (o + 16) := atX3_cong g16 (fun j h1 h2 => hE21.1 j (by omega))
  have g28 : atX3 G b E21 (o + 28) := atX3_cong g28 (fun j h1 h2 => hE21.1 j (by omega))
  have g41 : atX3 G b E21 (o + 41) := atX3_cong g41 (fun j h1 h2 => hE21.1 j (by omega))
  have g53 := hE21.2
  refine tn_putF (i := o) (ci := 9) (k := 5) hx hb hts hown hk.1 hw tyX10 hin rfl (by omega) tO rfl inlX10 tyX10_ok nmX10 (by decide) wd24 rfl rfl rfl (Nat.le_of_ble_eq_true rfl) dX10_init_86 (fun H locs hw => ?_)
  obtain ⟨E22, eE22⟩ : ∃ zz, zz = upE E21 (o) (.inr (9, [.ref (b + (o + 1)), .ref (b + (o + 3)), .ref (b + (o + 15)), .ref (b + (o + 40)), .ref (b + (o + 41)), .ref (b + (o + 53)), .null, .null, .null])) := ⟨_, rfl⟩
  have hw : PE G.1 b E22 (o + 65) s H locs := by rw [eE22]; exact hw
  have hF : ∀ j, j < o → E22 j = E j := fun j hj => (show E22 j = E21 j by rw [eE22, upE_ne (by omega)]).trans (hF j hj)
  have t15 : E22 (o + 15) = .inl (G.2.1.2.2.1, 2, .inr (.inr (.inr (.inr (va_up (va_up (fun _ => none) 0 (some (b + (o + 16)))) 1 (some (b + (o + 28)))))))) := by rw [eE22, upE_ne (by omega)]; exact t15
  have t40 : E22 (o + 40) = .inl (G.2.1.2.1, 2, .inl z0) := by rw [eE22, upE_ne (by omega)]; exact t40
  have g1 : atX4 G b E22 (o + 1) := atX4_cong g1 (fun j h1 h2 => by rw [eE22, upE_ne (by omega)])
  have g3 : atX3 G b E22 (o + 3) := atX3_cong g3 (fun j h1 h2 => by rw [eE22, upE_ne (by omega)])
  have g16 : atX3 G b E22 (o + 16) := atX3_cong g16 (fun j h1 h2 => by rw [eE22, upE_ne (by omega)])
  have g28 : atX3 G b E22 (o + 28) := atX3_cong g28 (fun j h1 h2 => by rw [eE22, upE_ne (by omega)])
  have g41 : atX3 G b E22 (o + 41) := atX3_cong g41 (fun j h1 h2 => by rw [eE22, upE_ne (by omega)])
  have g53 : atX3 G b E22 (o + 53) := atX3_cong g53 (fun j h1 h2 => by rw [eE22, upE_ne (by omega)])
  have tO : E22 (o) = .inr (9, [.ref (b + (o + 1)), .ref (b + (o + 3)), .ref (b + (o + 15)), .ref (b + (o + 40)), .ref (b + (o + 41)), .ref (b + (o + 53)), .null, .null, .null]) := by rw [eE22]; exact upE_at
  refine lv_aload_n hx hb dX10_init_89 rfl (lv_at hl 1 rfl) ?_
  refine tn_new (ci := 0) (fs := [.null, .null, .int 0, .int 0, .int 0]) hx hb hts hown hk.1 hw tyX0 rfl inlX0 tyX0_ok (m3_in wd25 wd26 wd27) (bl0_fs) (Nat.le_of_ble_eq_true rfl) (Nat.le_of_ble_eq_true rfl) dX10_init_90 (fun H hw => ?_)
  obtain ⟨E23, eE23⟩ : ∃ zz, zz = upE E22 (o + 65) (.inr (0, [.null, .null, .int 0, .int 0, .int 0])) := ⟨_, rfl⟩
  have hw : PE G.1 b E23 (o + 66) s H locs := by rw [eE23]; exact hw
  have hF : ∀ j, j < o → E23 j = E j := fun j hj => (show E23 j = E22 j by rw [eE23, upE_ne (by omega)]).trans (hF j hj)
  have tO : E23 (o) = .inr (9, [.ref (b + (o + 1)), .ref (b + (o + 3)), .ref (b + (o + 15)), .ref (b + (o + 40)), .ref (b + (o + 41)), .ref (b + (o + 53)), .null, .null, .null]) := by rw [eE23, upE_ne (by omega)]; exact tO
  have t15 : E23 (o + 15) = .inl (G.2.1.2.2.1, 2, .inr (.inr (.inr (.inr (va_up (va_up (fun _ => none) 0 (some (b + (o + 16)))) 1 (some (b + (o + 28)))))))) := by rw [eE23, upE_ne (by omega)]; exact t15
  have t40 : E23 (o + 40) = .inl (G.2.1.2.1, 2, .inl z0) := by rw [eE23, upE_ne (by omega)]; exact t40
  have g1 : atX4 G b E23 (o + 1) := atX4_cong g1 (fun j h1 h2 => by rw [eE23, upE_ne (by omega)])
  have g3 : atX3 G b E23 (o + 3) := atX3_cong g3 (fun j h1 h2 => by rw [eE23, upE_ne (by omega)])
  have g16 : atX3 G b E23 (o + 16) := atX3_cong g16 (fun j h1 h2 => by rw [eE23, upE_ne (by omega)])
  have g28 : atX3 G b E23 (o + 28) := atX3_cong g28 (fun j h1 h2 => by rw [eE23, upE_ne (by omega)])
  have g41 : atX3 G b E23 (o + 41) := atX3_cong g41 (fun j h1 h2 => by rw [eE23, upE_ne (by omega)])
  have g53 : atX3 G b E23 (o + 53) := atX3_cong g53 (fun j h1 h2 => by rw [eE23, upE_ne (by omega)])
  have t65 : E23 (o + 65) = .inr (0, [.null, .null, .int 0, .int 0, .int 0]) := by rw [eE23]; exact upE_at
  refine lv_dup hx hb dX10_init_93 rfl ?_
  refine tn_IN (As := []) (rest := [.ref (b + (o + 65)), .ref (b + (o))]) (o := o + 65) hx hb hml hts hown hk hw (c_X0_init l G b E23 (o + 65) t65) (m2_in wd27 wd81) (by decide +kernel) wd82 rfl nm_yX0_init ⟨rfl, rfl⟩ ⟨by decide, by decide⟩ rfl hl.1 rfl (Nat.le_of_ble_eq_true rfl) dX10_init_94 ⟨Nat.le_of_ble_eq_true rfl, Nat.le_of_ble_eq_true rfl⟩ (fun E24 H locs hE24 hw => ?_)
  have hw : PE G.1 b E24 (o + 74) s H locs := hw
  have hF : ∀ j, j < o → E24 j = E j := fun j hj => (hE24.1 j (by omega)).trans (hF j hj)
  have tO : E24 (o) = .inr (9, [.ref (b + (o + 1)), .ref (b + (o + 3)), .ref (b + (o + 15)), .ref (b + (o + 40)), .ref (b + (o + 41)), .ref (b + (o + 53)), .null, .null, .null]) := (hE24.1 _ (by omega)).trans tO
  have t15 : E24 (o + 15) = .inl (G.2.1.2.2.1, 2, .inr (.inr (.inr (.inr (va_up (va_up (fun _ => none) 0 (some (b + (o + 16)))) 1 (some (b + (o + 28)))))))) := (hE24.1 _ (by omega)).trans t15
  have t40 : E24 (o + 40) = .inl (G.2.1.2.1, 2, .inl z0) := (hE24.1 _ (by omega)).trans t40
  have g1 : atX4 G b E24 (o + 1) := atX4_cong g1 (fun j h1 h2 => hE24.1 j (by omega))
  have g3 : atX3 G b E24 (o + 3) := atX3_cong g3 (fun j h1 h2 => hE24.1 j (by omega))
  have g16 : atX3 G b E24 (o + 16) := atX3_cong g16 (fun j h1 h2 => hE24.1 j (by omega))
  have g28 : atX3 G b E24 (o + 28) := atX3_cong g28 (fun j h1 h2 => hE24.1 j (by omega))
  have g41 : atX3 G b E24 (o + 41) := atX3_cong g41 (fun j h1 h2 => hE24.1 j (by omega))
  have g53 : atX3 G b E24 (o + 53) := atX3_cong g53 (fun j h1 h2 => hE24.1 j (by omega))
  have g65 := hE24.2
  refine tn_putF (i := o) (ci := 9) (k := 6) hx hb hts hown hk.1 hw tyX10 hin rfl (by omega) tO rfl inlX10 tyX10_ok nmX10 (by decide) wd28 rfl rfl rfl (Nat.le_of_ble_eq_true rfl) dX10_init_97 (fun H locs hw => ?_)
  obtain ⟨E25, eE25⟩ : ∃ zz, zz = upE E24 (o) (.inr (9, [.ref (b + (o + 1)), .ref (b + (o + 3)), .ref (b + (o + 15)), .ref (b + (o + 40)), .ref (b + (o + 41)), .ref (b + (o + 53)), .ref (b + (o + 65)), .null, .null])) := ⟨_, rfl⟩
  have hw : PE G.1 b E25 (o + 74) s H locs := by rw [eE25]; exact hw
  have hF : ∀ j, j < o → E25 j = E j := fun j hj => (show E25 j = E24 j by rw [eE25, upE_ne (by omega)]).trans (hF j hj)
  have t15 : E25 (o + 15) = .inl (G.2.1.2.2.1, 2, .inr (.inr (.inr (.inr (va_up (va_up (fun _ => none) 0 (some (b + (o + 16)))) 1 (some (b + (o + 28)))))))) := by rw [eE25, upE_ne (by omega)]; exact t15
  have t40 : E25 (o + 40) = .inl (G.2.1.2.1, 2, .inl z0) := by rw [eE25, upE_ne (by omega)]; exact t40
  have g1 : atX4 G b E25 (o + 1) := atX4_cong g1 (fun j h1 h2 => by rw [eE25, upE_ne (by omega)])
  have g3 : atX3 G b E25 (o + 3) := atX3_cong g3 (fun j h1 h2 => by rw [eE25, upE_ne (by omega)])
  have g16 : atX3 G b E25 (o + 16) := atX3_cong g16 (fun j h1 h2 => by rw [eE25, upE_ne (by omega)])
  have g28 : atX3 G b E25 (o + 28) := atX3_cong g28 (fun j h1 h2 => by rw [eE25, upE_ne (by omega)])
  have g41 : atX3 G b E25 (o + 41) := atX3_cong g41 (fun j h1 h2 => by rw [eE25, upE_ne (by omega)])
  have g53 : atX3 G b E25 (o + 53) := atX3_cong g53 (fun j h1 h2 => by rw [eE25, upE_ne (by omega)])
  have g65 : atX0 G b E25 (o + 65) := atX0_cong g65 (fun j h1 h2 => by rw [eE25, upE_ne (by omega)])
  have tO : E25 (o) = .inr (9, [.ref (b + (o + 1)), .ref (b + (o + 3)), .ref (b + (o + 15)), .ref (b + (o + 40)), .ref (b + (o + 41)), .ref (b + (o + 53)), .ref (b + (o + 65)), .null, .null]) := by rw [eE25]; exact upE_at
  refine lv_aload_n hx hb dX10_init_100 rfl (lv_at hl 1 rfl) ?_
  refine tn_new (ci := 7) (fs := [.int 0, .int 0, .int 0]) hx hb hts hown hk.1 hw tyX8 rfl inlX8 tyX8_ok (m3_in wd29 wd30 wd31) (bl7_fs) (Nat.le_of_ble_eq_true rfl) (Nat.le_of_ble_eq_true rfl) dX10_init_101 (fun H hw => ?_)
  obtain ⟨E26, eE26⟩ : ∃ zz, zz = upE E25 (o + 74) (.inr (7, [.int 0, .int 0, .int 0])) := ⟨_, rfl⟩
  have hw : PE G.1 b E26 (o + 75) s H locs := by rw [eE26]; exact hw
  have hF : ∀ j, j < o → E26 j = E j := fun j hj => (show E26 j = E25 j by rw [eE26, upE_ne (by omega)]).trans (hF j hj)
  have tO : E26 (o) = .inr (9, [.ref (b + (o + 1)), .ref (b + (o + 3)), .ref (b + (o + 15)), .ref (b + (o + 40)), .ref (b + (o + 41)), .ref (b + (o + 53)), .ref (b + (o + 65)), .null, .null]) := by rw [eE26, upE_ne (by omega)]; exact tO
  have t15 : E26 (o + 15) = .inl (G.2.1.2.2.1, 2, .inr (.inr (.inr (.inr (va_up (va_up (fun _ => none) 0 (some (b + (o + 16)))) 1 (some (b + (o + 28)))))))) := by rw [eE26, upE_ne (by omega)]; exact t15
  have t40 : E26 (o + 40) = .inl (G.2.1.2.1, 2, .inl z0) := by rw [eE26, upE_ne (by omega)]; exact t40
  have g1 : atX4 G b E26 (o + 1) := atX4_cong g1 (fun j h1 h2 => by rw [eE26, upE_ne (by omega)])
  have g3 : atX3 G b E26 (o + 3) := atX3_cong g3 (fun j h1 h2 => by rw [eE26, upE_ne (by omega)])
  have g16 : atX3 G b E26 (o + 16) := atX3_cong g16 (fun j h1 h2 => by rw [eE26, upE_ne (by omega)])
  have g28 : atX3 G b E26 (o + 28) := atX3_cong g28 (fun j h1 h2 => by rw [eE26, upE_ne (by omega)])
  have g41 : atX3 G b E26 (o + 41) := atX3_cong g41 (fun j h1 h2 => by rw [eE26, upE_ne (by omega)])
  have g53 : atX3 G b E26 (o + 53) := atX3_cong g53 (fun j h1 h2 => by rw [eE26, upE_ne (by omega)])
  have g65 : atX0 G b E26 (o + 65) := atX0_cong g65 (fun j h1 h2 => by rw [eE26, upE_ne (by omega)])
  have t74 : E26 (o + 74) = .inr (7, [.int 0, .int 0, .int 0]) := by rw [eE26]; exact upE_at
  refine lv_dup hx hb dX10_init_104 rfl ?_
  refine tn_IN (As := []) (rest := [.ref (b + (o + 74)), .ref (b + (o))]) (o := o + 74) hx hb hml hts hown hk hw (c_X8_init l G b E26 (o + 74) t74) (m2_in wd31 wd93) (by decide +kernel) wd94 rfl nm_yX8_init ⟨rfl, rfl⟩ ⟨by decide, by decide⟩ rfl hl.1 rfl (Nat.le_of_ble_eq_true rfl) dX10_init_105 ⟨Nat.le_of_ble_eq_true rfl, Nat.le_of_ble_eq_true rfl⟩ (fun E27 H locs hE27 hw => ?_)
  have hw : PE G.1 b E27 (o + 75) s H locs := hw
  have hF : ∀ j, j < o → E27 j = E j := fun j hj => (hE27.1 j (by omega)).trans (hF j hj)
  have tO : E27 (o) = .inr (9, [.ref (b + (o + 1)), .ref (b + (o + 3)), .ref (b + (o + 15)), .ref (b + (o + 40)), .ref (b + (o + 41)), .ref (b + (o + 53)), .ref (b + (o + 65)), .null, .null]) := (hE27.1 _ (by omega)).trans tO
  have t15 : E27 (o + 15) = .inl (G.2.1.2.2.1, 2, .inr (.inr (.inr (.inr (va_up (va_up (fun _ => none) 0 (some (b + (o + 16)))) 1 (some (b + (o + 28)))))))) := (hE27.1 _ (by omega)).trans t15
  have t40 : E27 (o + 40) = .inl (G.2.1.2.1, 2, .inl z0) := (hE27.1 _ (by omega)).trans t40
  have g1 : atX4 G b E27 (o + 1) := atX4_cong g1 (fun j h1 h2 => hE27.1 j (by omega))
  have g3 : atX3 G b E27 (o + 3) := atX3_cong g3 (fun j h1 h2 => hE27.1 j (by omega))
  have g16 : atX3 G b E27 (o + 16) := atX3_cong g16 (fun j h1 h2 => hE27.1 j (by omega))
  have g28 : atX3 G b E27 (o + 28) := atX3_cong g28 (fun j h1 h2 => hE27.1 j (by omega))
  have g41 : atX3 G b E27 (o + 41) := atX3_cong g41 (fun j h1 h2 => hE27.1 j (by omega))
  have g53 : atX3 G b E27 (o + 53) := atX3_cong g53 (fun j h1 h2 => hE27.1 j (by omega))
  have g65 : atX0 G b E27 (o + 65) := atX0_cong g65 (fun j h1 h2 => hE27.1 j (by omega))
  have g74 := hE27.2
  refine tn_putF (i := o) (ci := 9) (k := 7) hx hb hts hown hk.1 hw tyX10 hin rfl (by omega) tO rfl inlX10 tyX10_ok nmX10 (by decide) wd32 rfl rfl rfl (Nat.le_of_ble_eq_true rfl) dX10_init_108 (fun H locs hw => ?_)
  obtain ⟨E28, eE28⟩ : ∃ zz, zz = upE E27 (o) (.inr (9, [.ref (b + (o + 1)), .ref (b + (o + 3)), .ref (b + (o + 15)), .ref (b + (o + 40)), .ref (b + (o + 41)), .ref (b + (o + 53)), .ref (b + (o + 65)), .ref (b + (o + 74)), .null])) := ⟨_, rfl⟩
  have hw : PE G.1 b E28 (o + 75) s H locs := by rw [eE28]; exact hw
  have hF : ∀ j, j < o → E28 j = E j := fun j hj => (show E28 j = E27 j by rw [eE28, upE_ne (by omega)]).trans (hF j hj)
  have t15 : E28 (o + 15) = .inl (G.2.1.2.2.1, 2, .inr (.inr (.inr (.inr (va_up (va_up (fun _ => none) 0 (some (b + (o + 16)))) 1 (some (b + (o + 28)))))))) := by rw [eE28, upE_ne (by omega)]; exact t15
  have t40 : E28 (o + 40) = .inl (G.2.1.2.1, 2, .inl z0) := by rw [eE28, upE_ne (by omega)]; exact t40
  have g1 : atX4 G b E28 (o + 1) := atX4_cong g1 (fun j h1 h2 => by rw [eE28, upE_ne (by omega)])
  have g3 : atX3 G b E28 (o + 3) := atX3_cong g3 (fun j h1 h2 => by rw [eE28, upE_ne (by omega)])
  have g16 : atX3 G b E28 (o + 16) := atX3_cong g16 (fun j h1 h2 => by rw [eE28, upE_ne (by omega)])
  have g28 : atX3 G b E28 (o + 28) := atX3_cong g28 (fun j h1 h2 => by rw [eE28, upE_ne (by omega)])
  have g41 : atX3 G b E28 (o + 41) := atX3_cong g41 (fun j h1 h2 => by rw [eE28, upE_ne (by omega)])
  have g53 : atX3 G b E28 (o + 53) := atX3_cong g53 (fun j h1 h2 => by rw [eE28, upE_ne (by omega)])
  have g65 : atX0 G b E28 (o + 65) := atX0_cong g65 (fun j h1 h2 => by rw [eE28, upE_ne (by omega)])
  have g74 : atX8 G b E28 (o + 74) := atX8_cong g74 (fun j h1 h2 => by rw [eE28, upE_ne (by omega)])
  have tO : E28 (o) = .inr (9, [.ref (b + (o + 1)), .ref (b + (o + 3)), .ref (b + (o + 15)), .ref (b + (o + 40)), .ref (b + (o + 41)), .ref (b + (o + 53)), .ref (b + (o + 65)), .ref (b + (o + 74)), .null]) := by rw [eE28]; exact upE_at
  refine lv_aload_n hx hb dX10_init_111 rfl (lv_at hl 1 rfl) ?_
  refine tn_new (ci := 8) (fs := [.null, .null, .int 0]) hx hb hts hown hk.1 hw tyX9 rfl inlX9 tyX9_ok (m3_in wd33 wd34 wd35) (bl8_fs) (Nat.le_of_ble_eq_true rfl) (Nat.le_of_ble_eq_true rfl) dX10_init_112 (fun H hw => ?_)
  obtain ⟨E29, eE29⟩ : ∃ zz, zz = upE E28 (o + 75) (.inr (8, [.null, .null, .int 0])) := ⟨_, rfl⟩
  have hw : PE G.1 b E29 (o + 76) s H locs := by rw [eE29]; exact hw
  have hF : ∀ j, j < o → E29 j = E j := fun j hj => (show E29 j = E28 j by rw [eE29, upE_ne (by omega)]).trans (hF j hj)
  have tO : E29 (o) = .inr (9, [.ref (b + (o + 1)), .ref (b + (o + 3)), .ref (b + (o + 15)), .ref (b + (o + 40)), .ref (b + (o + 41)), .ref (b + (o + 53)), .ref (b + (o + 65)), .ref (b + (o + 74)), .null]) := by rw [eE29, upE_ne (by omega)]; exact tO
  have t15 : E29 (o + 15) = .inl (G.2.1.2.2.1, 2, .inr (.inr (.inr (.inr (va_up (va_up (fun _ => none) 0 (some (b + (o + 16)))) 1 (some (b + (o + 28)))))))) := by rw [eE29, upE_ne (by omega)]; exact t15
  have t40 : E29 (o + 40) = .inl (G.2.1.2.1, 2, .inl z0) := by rw [eE29, upE_ne (by omega)]; exact t40
  have g1 : atX4 G b E29 (o + 1) := atX4_cong g1 (fun j h1 h2 => by rw [eE29, upE_ne (by omega)])
  have g3 : atX3 G b E29 (o + 3) := atX3_cong g3 (fun j h1 h2 => by rw [eE29, upE_ne (by omega)])
  have g16 : atX3 G b E29 (o + 16) := atX3_cong g16 (fun j h1 h2 => by rw [eE29, upE_ne (by omega)])
  have g28 : atX3 G b E29 (o + 28) := atX3_cong g28 (fun j h1 h2 => by rw [eE29, upE_ne (by omega)])
  have g41 : atX3 G b E29 (o + 41) := atX3_cong g41 (fun j h1 h2 => by rw [eE29, upE_ne (by omega)])
  have g53 : atX3 G b E29 (o + 53) := atX3_cong g53 (fun j h1 h2 => by rw [eE29, upE_ne (by omega)])
  have g65 : atX0 G b E29 (o + 65) := atX0_cong g65 (fun j h1 h2 => by rw [eE29, upE_ne (by omega)])
  have g74 : atX8 G b E29 (o + 74) := atX8_cong g74 (fun j h1 h2 => by rw [eE29, upE_ne (by omega)])
  have t75 : E29 (o + 75) = .inr (8, [.null, .null, .int 0]) := by rw [eE29]; exact upE_at
  refine lv_dup hx hb dX10_init_115 rfl ?_
  refine tn_IN (As := []) (rest := [.ref (b + (o + 75)), .ref (b + (o))]) (o := o + 75) hx hb hml hts hown hk hw (c_X9_init l G b E29 (o + 75) t75) (m2_in wd35 wd96) (by decide +kernel) wd97 rfl nm_yX9_init ⟨rfl, rfl⟩ ⟨by decide, by decide⟩ rfl hl.1 rfl (Nat.le_of_ble_eq_true rfl) dX10_init_116 ⟨Nat.le_of_ble_eq_true rfl, Nat.le_of_ble_eq_true rfl⟩ (fun E30 H locs hE30 hw => ?_)
  have hw : PE G.1 b E30 (o + 78) s H locs := hw
  have hF : ∀ j, j < o → E30 j = E j := fun j hj => (hE30.1 j (by omega)).trans (hF j hj)
  have tO : E30 (o) = .inr (9, [.ref (b + (o + 1)), .ref (b + (o + 3)), .ref (b + (o + 15)), .ref (b + (o + 40)), .ref (b + (o + 41)), .ref (b + (o + 53)), .ref (b + (o + 65)), .ref (b + (o + 74)), .null]) := (hE30.1 _ (by omega)).trans tO
  have t15 : E30 (o + 15) = .inl (G.2.1.2.2.1, 2, .inr (.inr (.inr (.inr (va_up (va_up (fun _ => none) 0 (some (b + (o + 16)))) 1 (some (b + (o + 28)))))))) := (hE30.1 _ (by omega)).trans t15
  have t40 : E30 (o + 40) = .inl (G.2.1.2.1, 2, .inl z0) := (hE30.1 _ (by omega)).trans t40
  have g1 : atX4 G b E30 (o + 1) := atX4_cong g1 (fun j h1 h2 => hE30.1 j (by omega))
  have g3 : atX3 G b E30 (o + 3) := atX3_cong g3 (fun j h1 h2 => hE30.1 j (by omega))
  have g16 : atX3 G b E30 (o + 16) := atX3_cong g16 (fun j h1 h2 => hE30.1 j (by omega))
  have g28 : atX3 G b E30 (o + 28) := atX3_cong g28 (fun j h1 h2 => hE30.1 j (by omega))
  have g41 : atX3 G b E30 (o + 41) := atX3_cong g41 (fun j h1 h2 => hE30.1 j (by omega))
  have g53 : atX3 G b E30 (o + 53) := atX3_cong g53 (fun j h1 h2 => hE30.1 j (by omega))
  have g65 : atX0 G b E30 (o + 65) := atX0_cong g65 (fun j h1 h2 => hE30.1 j (by omega))
  have g74 : atX8 G b E30 (o + 74) := atX8_cong g74 (fun j h1 h2 => hE30.1 j (by omega))
  have g75 := hE30.2
  refine tn_putF (i := o) (ci := 9) (k := 8) hx hb hts hown hk.1 hw tyX10 hin rfl (by omega) tO rfl inlX10 tyX10_ok nmX10 (by decide) wd36 rfl rfl rfl (Nat.le_of_ble_eq_true rfl) dX10_init_119 (fun H locs hw => ?_)
  obtain ⟨E31, eE31⟩ : ∃ zz, zz = upE E30 (o) (.inr (9, [.ref (b + (o + 1)), .ref (b + (o + 3)), .ref (b + (o + 15)), .ref (b + (o + 40)), .ref (b + (o + 41)), .ref (b + (o + 53)), .ref (b + (o + 65)), .ref (b + (o + 74)), .ref (b + (o + 75))])) := ⟨_, rfl⟩
  have hw : PE G.1 b E31 (o + 78) s H locs := by rw [eE31]; exact hw
  have hF : ∀ j, j < o → E31 j = E j := fun j hj => (show E31 j = E30 j by rw [eE31, upE_ne (by omega)]).trans (hF j hj)
  have t15 : E31 (o + 15) = .inl (G.2.1.2.2.1, 2, .inr (.inr (.inr (.inr (va_up (va_up (fun _ => none) 0 (some (b + (o + 16)))) 1 (some (b + (o + 28)))))))) := by rw [eE31, upE_ne (by omega)]; exact t15
  have t40 : E31 (o + 40) = .inl (G.2.1.2.1, 2, .inl z0) := by rw [eE31, upE_ne (by omega)]; exact t40
  have g1 : atX4 G b E31 (o + 1) := atX4_cong g1 (fun j h1 h2 => by rw [eE31, upE_ne (by omega)])
  have g3 : atX3 G b E31 (o + 3) := atX3_cong g3 (fun j h1 h2 => by rw [eE31, upE_ne (by omega)])
  have g16 : atX3 G b E31 (o + 16) := atX3_cong g16 (fun j h1 h2 => by rw [eE31, upE_ne (by omega)])
  have g28 : atX3 G b E31 (o + 28) := atX3_cong g28 (fun j h1 h2 => by rw [eE31, upE_ne (by omega)])
  have g41 : atX3 G b E31 (o + 41) := atX3_cong g41 (fun j h1 h2 => by rw [eE31, upE_ne (by omega)])
  have g53 : atX3 G b E31 (o + 53) := atX3_cong g53 (fun j h1 h2 => by rw [eE31, upE_ne (by omega)])
  have g65 : atX0 G b E31 (o + 65) := atX0_cong g65 (fun j h1 h2 => by rw [eE31, upE_ne (by omega)])
  have g74 : atX8 G b E31 (o + 74) := atX8_cong g74 (fun j h1 h2 => by rw [eE31, upE_ne (by omega)])
  have g75 : atX9 G b E31 (o + 75) := atX9_cong g75 (fun j h1 h2 => by rw [eE31, upE_ne (by omega)])
  have tO : E31 (o) = .inr (9, [.ref (b + (o + 1)), .ref (b + (o + 3)), .ref (b + (o + 15)), .ref (b + (o + 40)), .ref (b + (o + 41)), .ref (b + (o + 53)), .ref (b + (o + 65)), .ref (b + (o + 74)), .ref (b + (o + 75))]) := by rw [eE31]; exact upE_at
  exact ret E31 _ _ 122 _ ⟨hF, ⟨tO, g1, g3, t15, g16, g28, t40, g41, g53, g65, g74, g75⟩⟩ hw dX10_init_122
def atX11 (G : Gg) (b : Nat) (E : Nat → va_E) (o : Nat) : Prop := E (o) = .inr (10, [.ref (b + (o + 1)), .ref (b + (o + 2)), .ref (b + (o + 3)), .int 0, .ref (b + (o + 4)), .ref (b + (o + 5)), .ref (b + (o + 6)), .int 0, .ref (b + (o + 7)), .ref (b + (o + 8)), .ref (b + (o + 9)), .int 0, .ref (b + (o + 10)), .int 0, .int 0, .int 0, .int 0, .int 0, .int 0, .int 0, .ref (b + (o + 11)), .ref (b + (o + 12)), .ref (b + (o + 13)), .int 0, .int 0]) ∧ E (o + 1) = .inl (G.2.1.1, 32, .inl (upd (upd (upd (upd (upd (upd (upd (upd (upd (upd (upd (upd (upd (upd (upd (upd z0 2 (0 : Int32)) 3 (20 : Int32)) 4 (2 : Int32)) 5 (3 : Int32)) 10 (1 : Int32)) 11 (20 : Int32)) 12 (2 : Int32)) 13 (3 : Int32)) 18 (2 : Int32)) 19 (20 : Int32)) 20 (2 : Int32)) 21 (3 : Int32)) 26 (3 : Int32)) 27 (20 : Int32)) 28 (2 : Int32)) 29 (3 : Int32))) ∧ E (o + 2) = .inl (G.2.1.1, 256, .inl z0) ∧ E (o + 3) = .inl (G.2.1.1, 4, .inl z0) ∧ E (o + 4) = .inl (G.2.1.1, 64, .inl (fillF (-6 : Int32) 64)) ∧ E (o + 5) = .inl (G.2.1.1, 4, .inl (upd (upd (upd (upd z0 0 (5 : Int32)) 1 (5 : Int32)) 2 (5 : Int32)) 3 (5 : Int32))) ∧ E (o + 6) = .inl (G.2.1.1, 40, .inl z0) ∧ E (o + 7) = .inl (G.2.1.1, 32, .inl z0) ∧ E (o + 8) = .inl (G.2.1.1, 256, .inl z0) ∧ E (o + 9) = .inl (G.2.1.1, 4, .inl z0) ∧ E (o + 10) = .inl (G.2.1.1, 74, .inl z0) ∧ E (o + 11) = .inl (G.2.1.1, 256, .inl z0) ∧ E (o + 12) = .inl (G.2.1.1, 800, .inl z0) ∧ E (o + 13) = .inl (G.2.1.2.1, 2, .inl z0)
theorem atX11_cong {G : Gg} {b : Nat} {E E' : Nat → va_E} {o : Nat} (q : atX11 G b E o) (h : ∀ j, o ≤ j → j < o + 14 → E' j = E j) : atX11 G b E' o := by
  obtain ⟨q0, q1, q2, q3, q4, q5, q6, q7, q8, q9, q10, q11, q12, q13⟩ := q
  exact ⟨(h _ (by omega) (by omega)).trans q0, (h _ (by omega) (by omega)).trans q1, (h _ (by omega) (by omega)).trans q2, (h _ (by omega) (by omega)).trans q3, (h _ (by omega) (by omega)).trans q4, (h _ (by omega) (by omega)).trans q5, (h _ (by omega) (by omega)).trans q6, (h _ (by omega) (by omega)).trans q7, (h _ (by omega) (by omega)).trans q8, (h _ (by omega) (by omega)).trans q9, (h _ (by omega) (by omega)).trans q10, (h _ (by omega) (by omega)).trans q11, (h _ (by omega) (by omega)).trans q12, (h _ (by omega) (by omega)).trans q13⟩
set_option maxHeartbeats 4000000 in
set_option maxRecDepth 100000 in
theorem c_X11_init (l : Launch) (G : Gg) (b : Nat) (E : Nat → va_E) (o : Nat) (tO : E o = .inr (10, [.null, .null, .null, .int 0, .null, .null, .null, .int 0, .null, .null, .null, .int 0, .null, .int 0, .int 0, .int 0, .int 0, .int 0, .int 0, .int 0, .null, .null, .null, .int 0, .int 0])) : MC l G yX11_init cX11_init 2 (rmC 1 20 13 1824) 13 1824 b E o [.ref (b + (o))] (fun E' => (∀ j, j < o → E' j = E j) ∧ atX11 G b E' o) := by
  refine MC.of (by decide +kernel) rfl (Nat.le_of_ble_eq_true rfl) ?_
  intro p e s m a below meth c ls Q hx hb hml hts hown hin hk hw ret hl
  have hown : s.vm.findClass RX11 = some m.cls := hown
  have hl : lv_has ls 2 [(0, .ref (b + (o)))] := hl
  have hF : ∀ j, j < o → E j = E j := fun _ _ => rfl
  generalize hHe : s.heap = H at hw ⊢
  generalize hLe : ([] : List Loc) = locs at hw ⊢
  refine lv_aload_n hx hb dX11_init_0 rfl (lv_at hl 0 rfl) ?_
  refine tn_obj hx hb hown (hts _ wd104) (hts _ wd10) (hts _ wd11) (hl.1.trans hml.symm) dX11_init_1 (Nat.le_of_ble_eq_true rfl) (Nat.le_of_ble_eq_true rfl) ?_
  refine lv_aload_n hx hb dX11_init_4 rfl (lv_at hl 0 rfl) ?_
  refine lv_bipush (v := 32) hx hb dX11_init_5 (by decide) ?_
  refine tn_newa (t0 := 0) (ty := .int) hx hb hts hk.1 hw rfl rfl rfl (fun z => z) wd40 (N := 32) (by decide) (by decide) (by decide) (Nat.le_of_ble_eq_true rfl) (Nat.le_of_ble_eq_true rfl) dX11_init_7 (fun H hw => ?_)
  obtain ⟨E1, eE1⟩ : ∃ zz, zz = upE E (o + 1) (.inl (G.2.1.1, 32, .inl z0)) := ⟨_, rfl⟩
  have hw : PE G.1 b E1 (o + 2) s H locs := by rw [eE1]; exact hw
  have hF : ∀ j, j < o → E1 j = E j := fun j hj => (show E1 j = E j by rw [eE1, upE_ne (by omega)]).trans (hF j hj)
  have tO : E1 (o) = .inr (10, [.null, .null, .null, .int 0, .null, .null, .null, .int 0, .null, .null, .null, .int 0, .null, .int 0, .int 0, .int 0, .int 0, .int 0, .int 0, .int 0, .null, .null, .null, .int 0, .int 0]) := by rw [eE1, upE_ne (by omega)]; exact tO
  have t1 : E1 (o + 1) = .inl (G.2.1.1, 32, .inl z0) := by rw [eE1]; exact upE_at
  refine tn_putF (i := o) (ci := 10) (k := 0) hx hb hts hown hk.1 hw tyX11 hin rfl (by omega) tO rfl inlX11 tyX11_ok nmX11 (by decide) wd105 rfl rfl rfl (Nat.le_of_ble_eq_true rfl) dX11_init_9 (fun H locs hw => ?_)
  obtain ⟨E2, eE2⟩ : ∃ zz, zz = upE E1 (o) (.inr (10, [.ref (b + (o + 1)), .null, .null, .int 0, .null, .null, .null, .int 0, .null, .null, .null, .int 0, .null, .int 0, .int 0, .int 0, .int 0, .int 0, .int 0, .int 0, .null, .null, .null, .int 0, .int 0])) := ⟨_, rfl⟩
  have hw : PE G.1 b E2 (o + 2) s H locs := by rw [eE2]; exact hw
  have hF : ∀ j, j < o → E2 j = E j := fun j hj => (show E2 j = E1 j by rw [eE2, upE_ne (by omega)]).trans (hF j hj)
  have t1 : E2 (o + 1) = .inl (G.2.1.1, 32, .inl z0) := by rw [eE2, upE_ne (by omega)]; exact t1
  have tO : E2 (o) = .inr (10, [.ref (b + (o + 1)), .null, .null, .int 0, .null, .null, .null, .int 0, .null, .null, .null, .int 0, .null, .int 0, .int 0, .int 0, .int 0, .int 0, .int 0, .int 0, .null, .null, .null, .int 0, .int 0]) := by rw [eE2]; exact upE_at
  refine lv_aload_n hx hb dX11_init_12 rfl (lv_at hl 0 rfl) ?_
  refine lv_sipush (v := 256) hx hb dX11_init_13 (by decide) ?_
  refine tn_newa (t0 := 0) (ty := .int) hx hb hts hk.1 hw rfl rfl rfl (fun z => z) wd40 (N := 256) (by decide) (by decide) (by decide) (Nat.le_of_ble_eq_true rfl) (Nat.le_of_ble_eq_true rfl) dX11_init_16 (fun H hw => ?_)
  obtain ⟨E3, eE3⟩ : ∃ zz, zz = upE E2 (o + 2) (.inl (G.2.1.1, 256, .inl z0)) := ⟨_, rfl⟩
  have hw : PE G.1 b E3 (o + 3) s H locs := by rw [eE3]; exact hw
  have hF : ∀ j, j < o → E3 j = E j := fun j hj => (show E3 j = E2 j by rw [eE3, upE_ne (by omega)]).trans (hF j hj)
  have tO : E3 (o) = .inr (10, [.ref (b + (o + 1)), .null, .null, .int 0, .null, .null, .null, .int 0, .null, .null, .null, .int 0, .null, .int 0, .int 0, .int 0, .int 0, .int 0, .int 0, .int 0, .null, .null, .null, .int 0, .int 0]) := by rw [eE3, upE_ne (by omega)]; exact tO
  have t1 : E3 (o + 1) = .inl (G.2.1.1, 32, .inl z0) := by rw [eE3, upE_ne (by omega)]; exact t1
  have t2 : E3 (o + 2) = .inl (G.2.1.1, 256, .inl z0) := by rw [eE3]; exact upE_at
  refine tn_putF (i := o) (ci := 10) (k := 1) hx hb hts hown hk.1 hw tyX11 hin rfl (by omega) tO rfl inlX11 tyX11_ok nmX11 (by decide) wd106 rfl rfl rfl (Nat.le_of_ble_eq_true rfl) dX11_init_18 (fun H locs hw => ?_)
  obtain ⟨E4, eE4⟩ : ∃ zz, zz = upE E3 (o) (.inr (10, [.ref (b + (o + 1)), .ref (b + (o + 2)), .null, .int 0, .null, .null, .null, .int 0, .null, .null, .null, .int 0, .null, .int 0, .int 0, .int 0, .int 0, .int 0, .int 0, .int 0, .null, .null, .null, .int 0, .int 0])) := ⟨_, rfl⟩
  have hw : PE G.1 b E4 (o + 3) s H locs := by rw [eE4]; exact hw
  have hF : ∀ j, j < o → E4 j = E j := fun j hj => (show E4 j = E3 j by rw [eE4, upE_ne (by omega)]).trans (hF j hj)
  have t1 : E4 (o + 1) = .inl (G.2.1.1, 32, .inl z0) := by rw [eE4, upE_ne (by omega)]; exact t1
  have t2 : E4 (o + 2) = .inl (G.2.1.1, 256, .inl z0) := by rw [eE4, upE_ne (by omega)]; exact t2
  have tO : E4 (o) = .inr (10, [.ref (b + (o + 1)), .ref (b + (o + 2)), .null, .int 0, .null, .null, .null, .int 0, .null, .null, .null, .int 0, .null, .int 0, .int 0, .int 0, .int 0, .int 0, .int 0, .int 0, .null, .null, .null, .int 0, .int 0]) := by rw [eE4]; exact upE_at
  refine lv_aload_n hx hb dX11_init_21 rfl (lv_at hl 0 rfl) ?_
  refine lv_iconst (v := 4) hx hb dX11_init_22 (by decide) ?_
  refine tn_newa (t0 := 0) (ty := .int) hx hb hts hk.1 hw rfl rfl rfl (fun z => z) wd40 (N := 4) (by decide) (by decide) (by decide) (Nat.le_of_ble_eq_true rfl) (Nat.le_of_ble_eq_true rfl) dX11_init_23 (fun H hw => ?_)
  obtain ⟨E5, eE5⟩ : ∃ zz, zz = upE E4 (o + 3) (.inl (G.2.1.1, 4, .inl z0)) := ⟨_, rfl⟩
  have hw : PE G.1 b E5 (o + 4) s H locs := by rw [eE5]; exact hw
  have hF : ∀ j, j < o → E5 j = E j := fun j hj => (show E5 j = E4 j by rw [eE5, upE_ne (by omega)]).trans (hF j hj)
  have tO : E5 (o) = .inr (10, [.ref (b + (o + 1)), .ref (b + (o + 2)), .null, .int 0, .null, .null, .null, .int 0, .null, .null, .null, .int 0, .null, .int 0, .int 0, .int 0, .int 0, .int 0, .int 0, .int 0, .null, .null, .null, .int 0, .int 0]) := by rw [eE5, upE_ne (by omega)]; exact tO
  have t1 : E5 (o + 1) = .inl (G.2.1.1, 32, .inl z0) := by rw [eE5, upE_ne (by omega)]; exact t1
  have t2 : E5 (o + 2) = .inl (G.2.1.1, 256, .inl z0) := by rw [eE5, upE_ne (by omega)]; exact t2
  have t3 : E5 (o + 3) = .inl (G.2.1.1, 4, .inl z0) := by rw [eE5]; exact upE_at
  refine tn_putF (i := o) (ci := 10) (k := 2) hx hb hts hown hk.1 hw tyX11 hin rfl (by omega) tO rfl inlX11 tyX11_ok nmX11 (by decide) wd107 rfl rfl rfl (Nat.le_of_ble_eq_true rfl) dX11_init_25 (fun H locs hw => ?_)
  obtain ⟨E6, eE6⟩ : ∃ zz, zz = upE E5 (o) (.inr (10, [.ref (b + (o + 1)), .ref (b + (o + 2)), .ref (b + (o + 3)), .int 0, .null, .null, .null, .int 0, .null, .null, .null, .int 0, .null, .int 0, .int 0, .int 0, .int 0, .int 0, .int 0, .int 0, .null, .null, .null, .int 0, .int 0])) := ⟨_, rfl⟩
  have hw : PE G.1 b E6 (o + 4) s H locs := by rw [eE6]; exact hw
  have hF : ∀ j, j < o → E6 j = E j := fun j hj => (show E6 j = E5 j by rw [eE6, upE_ne (by omega)]).trans (hF j hj)
  have t1 : E6 (o + 1) = .inl (G.2.1.1, 32, .inl z0) := by rw [eE6, upE_ne (by omega)]; exact t1
  have t2 : E6 (o + 2) = .inl (G.2.1.1, 256, .inl z0) := by rw [eE6, upE_ne (by omega)]; exact t2
  have t3 : E6 (o + 3) = .inl (G.2.1.1, 4, .inl z0) := by rw [eE6, upE_ne (by omega)]; exact t3
  have tO : E6 (o) = .inr (10, [.ref (b + (o + 1)), .ref (b + (o + 2)), .ref (b + (o + 3)), .int 0, .null, .null, .null, .int 0, .null, .null, .null, .int 0, .null, .int 0, .int 0, .int 0, .int 0, .int 0, .int 0, .int 0, .null, .null, .null, .int 0, .int 0]) := by rw [eE6]; exact upE_at
  refine lv_aload_n hx hb dX11_init_28 rfl (lv_at hl 0 rfl) ?_
  refine lv_bipush (v := 64) hx hb dX11_init_29 (by decide) ?_
  refine tn_newa (t0 := 0) (ty := .int) hx hb hts hk.1 hw rfl rfl rfl (fun z => z) wd40 (N := 64) (by decide) (by decide) (by decide) (Nat.le_of_ble_eq_true rfl) (Nat.le_of_ble_eq_true rfl) dX11_init_31 (fun H hw => ?_)
  obtain ⟨E7, eE7⟩ : ∃ zz, zz = upE E6 (o + 4) (.inl (G.2.1.1, 64, .inl z0)) := ⟨_, rfl⟩
  have hw : PE G.1 b E7 (o + 5) s H locs := by rw [eE7]; exact hw
  have hF : ∀ j, j < o → E7 j = E j := fun j hj => (show E7 j = E6 j by rw [eE7, upE_ne (by omega)]).trans (hF j hj)
  have tO : E7 (o) = .inr (10, [.ref (b + (o + 1)), .ref (b + (o + 2)), .ref (b + (o + 3)), .int 0, .null, .null, .null, .int 0, .null, .null, .null, .int 0, .null, .int 0, .int 0, .int 0, .int 0, .int 0, .int 0, .int 0, .null, .null, .null, .int 0, .int 0]) := by rw [eE7, upE_ne (by omega)]; exact tO
  have t1 : E7 (o + 1) = .inl (G.2.1.1, 32, .inl z0) := by rw [eE7, upE_ne (by omega)]; exact t1
  have t2 : E7 (o + 2) = .inl (G.2.1.1, 256, .inl z0) := by rw [eE7, upE_ne (by omega)]; exact t2
  have t3 : E7 (o + 3) = .inl (G.2.1.1, 4, .inl z0) := by rw [eE7, upE_ne (by omega)]; exact t3
  have t4 : E7 (o + 4) = .inl (G.2.1.1, 64, .inl z0) := by rw [eE7]; exact upE_at
  refine tn_putF (i := o) (ci := 10) (k := 4) hx hb hts hown hk.1 hw tyX11 hin rfl (by omega) tO rfl inlX11 tyX11_ok nmX11 (by decide) wd108 rfl rfl rfl (Nat.le_of_ble_eq_true rfl) dX11_init_33 (fun H locs hw => ?_)
  obtain ⟨E8, eE8⟩ : ∃ zz, zz = upE E7 (o) (.inr (10, [.ref (b + (o + 1)), .ref (b + (o + 2)), .ref (b + (o + 3)), .int 0, .ref (b + (o + 4)), .null, .null, .int 0, .null, .null, .null, .int 0, .null, .int 0, .int 0, .int 0, .int 0, .int 0, .int 0, .int 0, .null, .null, .null, .int 0, .int 0])) := ⟨_, rfl⟩
  have hw : PE G.1 b E8 (o + 5) s H locs := by rw [eE8]; exact hw
  have hF : ∀ j, j < o → E8 j = E j := fun j hj => (show E8 j = E7 j by rw [eE8, upE_ne (by omega)]).trans (hF j hj)
  have t1 : E8 (o + 1) = .inl (G.2.1.1, 32, .inl z0) := by rw [eE8, upE_ne (by omega)]; exact t1
  have t2 : E8 (o + 2) = .inl (G.2.1.1, 256, .inl z0) := by rw [eE8, upE_ne (by omega)]; exact t2
  have t3 : E8 (o + 3) = .inl (G.2.1.1, 4, .inl z0) := by rw [eE8, upE_ne (by omega)]; exact t3
  have t4 : E8 (o + 4) = .inl (G.2.1.1, 64, .inl z0) := by rw [eE8, upE_ne (by omega)]; exact t4
  have tO : E8 (o) = .inr (10, [.ref (b + (o + 1)), .ref (b + (o + 2)), .ref (b + (o + 3)), .int 0, .ref (b + (o + 4)), .null, .null, .int 0, .null, .null, .null, .int 0, .null, .int 0, .int 0, .int 0, .int 0, .int 0, .int 0, .int 0, .null, .null, .null, .int 0, .int 0]) := by rw [eE8]; exact upE_at
  refine lv_aload_n hx hb dX11_init_36 rfl (lv_at hl 0 rfl) ?_
  refine lv_iconst (v := 4) hx hb dX11_init_37 (by decide) ?_
  refine tn_newa (t0 := 0) (ty := .int) hx hb hts hk.1 hw rfl rfl rfl (fun z => z) wd40 (N := 4) (by decide) (by decide) (by decide) (Nat.le_of_ble_eq_true rfl) (Nat.le_of_ble_eq_true rfl) dX11_init_38 (fun H hw => ?_)
  obtain ⟨E9, eE9⟩ : ∃ zz, zz = upE E8 (o + 5) (.inl (G.2.1.1, 4, .inl z0)) := ⟨_, rfl⟩
  have hw : PE G.1 b E9 (o + 6) s H locs := by rw [eE9]; exact hw
  have hF : ∀ j, j < o → E9 j = E j := fun j hj => (show E9 j = E8 j by rw [eE9, upE_ne (by omega)]).trans (hF j hj)
  have tO : E9 (o) = .inr (10, [.ref (b + (o + 1)), .ref (b + (o + 2)), .ref (b + (o + 3)), .int 0, .ref (b + (o + 4)), .null, .null, .int 0, .null, .null, .null, .int 0, .null, .int 0, .int 0, .int 0, .int 0, .int 0, .int 0, .int 0, .null, .null, .null, .int 0, .int 0]) := by rw [eE9, upE_ne (by omega)]; exact tO
  have t1 : E9 (o + 1) = .inl (G.2.1.1, 32, .inl z0) := by rw [eE9, upE_ne (by omega)]; exact t1
  have t2 : E9 (o + 2) = .inl (G.2.1.1, 256, .inl z0) := by rw [eE9, upE_ne (by omega)]; exact t2
  have t3 : E9 (o + 3) = .inl (G.2.1.1, 4, .inl z0) := by rw [eE9, upE_ne (by omega)]; exact t3
  have t4 : E9 (o + 4) = .inl (G.2.1.1, 64, .inl z0) := by rw [eE9, upE_ne (by omega)]; exact t4
  have t5 : E9 (o + 5) = .inl (G.2.1.1, 4, .inl z0) := by rw [eE9]; exact upE_at
  refine tn_putF (i := o) (ci := 10) (k := 5) hx hb hts hown hk.1 hw tyX11 hin rfl (by omega) tO rfl inlX11 tyX11_ok nmX11 (by decide) wd109 rfl rfl rfl (Nat.le_of_ble_eq_true rfl) dX11_init_40 (fun H locs hw => ?_)
  obtain ⟨E10, eE10⟩ : ∃ zz, zz = upE E9 (o) (.inr (10, [.ref (b + (o + 1)), .ref (b + (o + 2)), .ref (b + (o + 3)), .int 0, .ref (b + (o + 4)), .ref (b + (o + 5)), .null, .int 0, .null, .null, .null, .int 0, .null, .int 0, .int 0, .int 0, .int 0, .int 0, .int 0, .int 0, .null, .null, .null, .int 0, .int 0])) := ⟨_, rfl⟩
  have hw : PE G.1 b E10 (o + 6) s H locs := by rw [eE10]; exact hw
  have hF : ∀ j, j < o → E10 j = E j := fun j hj => (show E10 j = E9 j by rw [eE10, upE_ne (by omega)]).trans (hF j hj)
  have t1 : E10 (o + 1) = .inl (G.2.1.1, 32, .inl z0) := by rw [eE10, upE_ne (by omega)]; exact t1
  have t2 : E10 (o + 2) = .inl (G.2.1.1, 256, .inl z0) := by rw [eE10, upE_ne (by omega)]; exact t2
  have t3 : E10 (o + 3) = .inl (G.2.1.1, 4, .inl z0) := by rw [eE10, upE_ne (by omega)]; exact t3
  have t4 : E10 (o + 4) = .inl (G.2.1.1, 64, .inl z0) := by rw [eE10, upE_ne (by omega)]; exact t4
  have t5 : E10 (o + 5) = .inl (G.2.1.1, 4, .inl z0) := by rw [eE10, upE_ne (by omega)]; exact t5
  have tO : E10 (o) = .inr (10, [.ref (b + (o + 1)), .ref (b + (o + 2)), .ref (b + (o + 3)), .int 0, .ref (b + (o + 4)), .ref (b + (o + 5)), .null, .int 0, .null, .null, .null, .int 0, .null, .int 0, .int 0, .int 0, .int 0, .int 0, .int 0, .int 0, .null, .null, .null, .int 0, .int 0]) := by rw [eE10]; exact upE_at
  refine lv_aload_n hx hb dX11_init_43 rfl (lv_at hl 0 rfl) ?_
  refine lv_bipush (v := 40) hx hb dX11_init_44 (by decide) ?_
  refine tn_newa (t0 := 0) (ty := .int) hx hb hts hk.1 hw rfl rfl rfl (fun z => z) wd40 (N := 40) (by decide) (by decide) (by decide) (Nat.le_of_ble_eq_true rfl) (Nat.le_of_ble_eq_true rfl) dX11_init_46 (fun H hw => ?_)
  obtain ⟨E11, eE11⟩ : ∃ zz, zz = upE E10 (o + 6) (.inl (G.2.1.1, 40, .inl z0)) := ⟨_, rfl⟩
  have hw : PE G.1 b E11 (o + 7) s H locs := by rw [eE11]; exact hw
  have hF : ∀ j, j < o → E11 j = E j := fun j hj => (show E11 j = E10 j by rw [eE11, upE_ne (by omega)]).trans (hF j hj)
  have tO : E11 (o) = .inr (10, [.ref (b + (o + 1)), .ref (b + (o + 2)), .ref (b + (o + 3)), .int 0, .ref (b + (o + 4)), .ref (b + (o + 5)), .null, .int 0, .null, .null, .null, .int 0, .null, .int 0, .int 0, .int 0, .int 0, .int 0, .int 0, .int 0, .null, .null, .null, .int 0, .int 0]) := by rw [eE11, upE_ne (by omega)]; exact tO
  have t1 : E11 (o + 1) = .inl (G.2.1.1, 32, .inl z0) := by rw [eE11, upE_ne (by omega)]; exact t1
  have t2 : E11 (o + 2) = .inl (G.2.1.1, 256, .inl z0) := by rw [eE11, upE_ne (by omega)]; exact t2
  have t3 : E11 (o + 3) = .inl (G.2.1.1, 4, .inl z0) := by rw [eE11, upE_ne (by omega)]; exact t3
  have t4 : E11 (o + 4) = .inl (G.2.1.1, 64, .inl z0) := by rw [eE11, upE_ne (by omega)]; exact t4
  have t5 : E11 (o + 5) = .inl (G.2.1.1, 4, .inl z0) := by rw [eE11, upE_ne (by omega)]; exact t5
  have t6 : E11 (o + 6) = .inl (G.2.1.1, 40, .inl z0) := by rw [eE11]; exact upE_at
  refine tn_putF (i := o) (ci := 10) (k := 6) hx hb hts hown hk.1 hw tyX11 hin rfl (by omega) tO rfl inlX11 tyX11_ok nmX11 (by decide) wd110 rfl rfl rfl (Nat.le_of_ble_eq_true rfl) dX11_init_48 (fun H locs hw => ?_)
  obtain ⟨E12, eE12⟩ : ∃ zz, zz = upE E11 (o) (.inr (10, [.ref (b + (o + 1)), .ref (b + (o + 2)), .ref (b + (o + 3)), .int 0, .ref (b + (o + 4)), .ref (b + (o + 5)), .ref (b + (o + 6)), .int 0, .null, .null, .null, .int 0, .null, .int 0, .int 0, .int 0, .int 0, .int 0, .int 0, .int 0, .null, .null, .null, .int 0, .int 0])) := ⟨_, rfl⟩
  have hw : PE G.1 b E12 (o + 7) s H locs := by rw [eE12]; exact hw
  have hF : ∀ j, j < o → E12 j = E j := fun j hj => (show E12 j = E11 j by rw [eE12, upE_ne (by omega)]).trans (hF j hj)
  have t1 : E12 (o + 1) = .inl (G.2.1.1, 32, .inl z0) := by rw [eE12, upE_ne (by omega)]; exact t1
  have t2 : E12 (o + 2) = .inl (G.2.1.1, 256, .inl z0) := by rw [eE12, upE_ne (by omega)]; exact t2
  have t3 : E12 (o + 3) = .inl (G.2.1.1, 4, .inl z0) := by rw [eE12, upE_ne (by omega)]; exact t3
  have t4 : E12 (o + 4) = .inl (G.2.1.1, 64, .inl z0) := by rw [eE12, upE_ne (by omega)]; exact t4
  have t5 : E12 (o + 5) = .inl (G.2.1.1, 4, .inl z0) := by rw [eE12, upE_ne (by omega)]; exact t5
  have t6 : E12 (o + 6) = .inl (G.2.1.1, 40, .inl z0) := by rw [eE12, upE_ne (by omega)]; exact t6
  have tO : E12 (o) = .inr (10, [.ref (b + (o + 1)), .ref (b + (o + 2)), .ref (b + (o + 3)), .int 0, .ref (b + (o + 4)), .ref (b + (o + 5)), .ref (b + (o + 6)), .int 0, .null, .null, .null, .int 0, .null, .int 0, .int 0, .int 0, .int 0, .int 0, .int 0, .int 0, .null, .null, .null, .int 0, .int 0]) := by rw [eE12]; exact upE_at
  refine lv_aload_n hx hb dX11_init_51 rfl (lv_at hl 0 rfl) ?_
  refine lv_bipush (v := 32) hx hb dX11_init_52 (by decide) ?_
  refine tn_newa (t0 := 0) (ty := .int) hx hb hts hk.1 hw rfl rfl rfl (fun z => z) wd40 (N := 32) (by decide) (by decide) (by decide) (Nat.le_of_ble_eq_true rfl) (Nat.le_of_ble_eq_true rfl) dX11_init_54 (fun H hw => ?_)
  obtain ⟨E13, eE13⟩ : ∃ zz, zz = upE E12 (o + 7) (.inl (G.2.1.1, 32, .inl z0)) := ⟨_, rfl⟩
  have hw : PE G.1 b E13 (o + 8) s H locs := by rw [eE13]; exact hw
  have hF : ∀ j, j < o → E13 j = E j := fun j hj => (show E13 j = E12 j by rw [eE13, upE_ne (by omega)]).trans (hF j hj)
  have tO : E13 (o) = .inr (10, [.ref (b + (o + 1)), .ref (b + (o + 2)), .ref (b + (o + 3)), .int 0, .ref (b + (o + 4)), .ref (b + (o + 5)), .ref (b + (o + 6)), .int 0, .null, .null, .null, .int 0, .null, .int 0, .int 0, .int 0, .int 0, .int 0, .int 0, .int 0, .null, .null, .null, .int 0, .int 0]) := by rw [eE13, upE_ne (by omega)]; exact tO
  have t1 : E13 (o + 1) = .inl (G.2.1.1, 32, .inl z0) := by rw [eE13, upE_ne (by omega)]; exact t1
  have t2 : E13 (o + 2) = .inl (G.2.1.1, 256, .inl z0) := by rw [eE13, upE_ne (by omega)]; exact t2
  have t3 : E13 (o + 3) = .inl (G.2.1.1, 4, .inl z0) := by rw [eE13, upE_ne (by omega)]; exact t3
  have t4 : E13 (o + 4) = .inl (G.2.1.1, 64, .inl z0) := by rw [eE13, upE_ne (by omega)]; exact t4
  have t5 : E13 (o + 5) = .inl (G.2.1.1, 4, .inl z0) := by rw [eE13, upE_ne (by omega)]; exact t5
  have t6 : E13 (o + 6) = .inl (G.2.1.1, 40, .inl z0) := by rw [eE13, upE_ne (by omega)]; exact t6
  have t7 : E13 (o + 7) = .inl (G.2.1.1, 32, .inl z0) := by rw [eE13]; exact upE_at
  refine tn_putF (i := o) (ci := 10) (k := 8) hx hb hts hown hk.1 hw tyX11 hin rfl (by omega) tO rfl inlX11 tyX11_ok nmX11 (by decide) wd111 rfl rfl rfl (Nat.le_of_ble_eq_true rfl) dX11_init_56 (fun H locs hw => ?_)
  obtain ⟨E14, eE14⟩ : ∃ zz, zz = upE E13 (o) (.inr (10, [.ref (b + (o + 1)), .ref (b + (o + 2)), .ref (b + (o + 3)), .int 0, .ref (b + (o + 4)), .ref (b + (o + 5)), .ref (b + (o + 6)), .int 0, .ref (b + (o + 7)), .null, .null, .int 0, .null, .int 0, .int 0, .int 0, .int 0, .int 0, .int 0, .int 0, .null, .null, .null, .int 0, .int 0])) := ⟨_, rfl⟩
  have hw : PE G.1 b E14 (o + 8) s H locs := by rw [eE14]; exact hw
  have hF : ∀ j, j < o → E14 j = E j := fun j hj => (show E14 j = E13 j by rw [eE14, upE_ne (by omega)]).trans (hF j hj)
  have t1 : E14 (o + 1) = .inl (G.2.1.1, 32, .inl z0) := by rw [eE14, upE_ne (by omega)]; exact t1
  have t2 : E14 (o + 2) = .inl (G.2.1.1, 256, .inl z0) := by rw [eE14, upE_ne (by omega)]; exact t2
  have t3 : E14 (o + 3) = .inl (G.2.1.1, 4, .inl z0) := by rw [eE14, upE_ne (by omega)]; exact t3
  have t4 : E14 (o + 4) = .inl (G.2.1.1, 64, .inl z0) := by rw [eE14, upE_ne (by omega)]; exact t4
  have t5 : E14 (o + 5) = .inl (G.2.1.1, 4, .inl z0) := by rw [eE14, upE_ne (by omega)]; exact t5
  have t6 : E14 (o + 6) = .inl (G.2.1.1, 40, .inl z0) := by rw [eE14, upE_ne (by omega)]; exact t6
  have t7 : E14 (o + 7) = .inl (G.2.1.1, 32, .inl z0) := by rw [eE14, upE_ne (by omega)]; exact t7
  have tO : E14 (o) = .inr (10, [.ref (b + (o + 1)), .ref (b + (o + 2)), .ref (b + (o + 3)), .int 0, .ref (b + (o + 4)), .ref (b + (o + 5)), .ref (b + (o + 6)), .int 0, .ref (b + (o + 7)), .null, .null, .int 0, .null, .int 0, .int 0, .int 0, .int 0, .int 0, .int 0, .int 0, .null, .null, .null, .int 0, .int 0]) := by rw [eE14]; exact upE_at
  refine lv_aload_n hx hb dX11_init_59 rfl (lv_at hl 0 rfl) ?_
  refine lv_sipush (v := 256) hx hb dX11_init_60 (by decide) ?_
  refine tn_newa (t0 := 0) (ty := .int) hx hb hts hk.1 hw rfl rfl rfl (fun z => z) wd40 (N := 256) (by decide) (by decide) (by decide) (Nat.le_of_ble_eq_true rfl) (Nat.le_of_ble_eq_true rfl) dX11_init_63 (fun H hw => ?_)
  obtain ⟨E15, eE15⟩ : ∃ zz, zz = upE E14 (o + 8) (.inl (G.2.1.1, 256, .inl z0)) := ⟨_, rfl⟩
  have hw : PE G.1 b E15 (o + 9) s H locs := by rw [eE15]; exact hw
  have hF : ∀ j, j < o → E15 j = E j := fun j hj => (show E15 j = E14 j by rw [eE15, upE_ne (by omega)]).trans (hF j hj)
  have tO : E15 (o) = .inr (10, [.ref (b + (o + 1)), .ref (b + (o + 2)), .ref (b + (o + 3)), .int 0, .ref (b + (o + 4)), .ref (b + (o + 5)), .ref (b + (o + 6)), .int 0, .ref (b + (o + 7)), .null, .null, .int 0, .null, .int 0, .int 0, .int 0, .int 0, .int 0, .int 0, .int 0, .null, .null, .null, .int 0, .int 0]) := by rw [eE15, upE_ne (by omega)]; exact tO
  have t1 : E15 (o + 1) = .inl (G.2.1.1, 32, .inl z0) := by rw [eE15, upE_ne (by omega)]; exact t1
  have t2 : E15 (o + 2) = .inl (G.2.1.1, 256, .inl z0) := by rw [eE15, upE_ne (by omega)]; exact t2
  have t3 : E15 (o + 3) = .inl (G.2.1.1, 4, .inl z0) := by rw [eE15, upE_ne (by omega)]; exact t3
  have t4 : E15 (o + 4) = .inl (G.2.1.1, 64, .inl z0) := by rw [eE15, upE_ne (by omega)]; exact t4
  have t5 : E15 (o + 5) = .inl (G.2.1.1, 4, .inl z0) := by rw [eE15, upE_ne (by omega)]; exact t5
  have t6 : E15 (o + 6) = .inl (G.2.1.1, 40, .inl z0) := by rw [eE15, upE_ne (by omega)]; exact t6
  have t7 : E15 (o + 7) = .inl (G.2.1.1, 32, .inl z0) := by rw [eE15, upE_ne (by omega)]; exact t7
  have t8 : E15 (o + 8) = .inl (G.2.1.1, 256, .inl z0) := by rw [eE15]; exact upE_at
  refine tn_putF (i := o) (ci := 10) (k := 9) hx hb hts hown hk.1 hw tyX11 hin rfl (by omega) tO rfl inlX11 tyX11_ok nmX11 (by decide) wd112 rfl rfl rfl (Nat.le_of_ble_eq_true rfl) dX11_init_65 (fun H locs hw => ?_)
  obtain ⟨E16, eE16⟩ : ∃ zz, zz = upE E15 (o) (.inr (10, [.ref (b + (o + 1)), .ref (b + (o + 2)), .ref (b + (o + 3)), .int 0, .ref (b + (o + 4)), .ref (b + (o + 5)), .ref (b + (o + 6)), .int 0, .ref (b + (o + 7)), .ref (b + (o + 8)), .null, .int 0, .null, .int 0, .int 0, .int 0, .int 0, .int 0, .int 0, .int 0, .null, .null, .null, .int 0, .int 0])) := ⟨_, rfl⟩
  have hw : PE G.1 b E16 (o + 9) s H locs := by rw [eE16]; exact hw
  have hF : ∀ j, j < o → E16 j = E j := fun j hj => (show E16 j = E15 j by rw [eE16, upE_ne (by omega)]).trans (hF j hj)
  have t1 : E16 (o + 1) = .inl (G.2.1.1, 32, .inl z0) := by rw [eE16, upE_ne (by omega)]; exact t1
  have t2 : E16 (o + 2) = .inl (G.2.1.1, 256, .inl z0) := by rw [eE16, upE_ne (by omega)]; exact t2
  have t3 : E16 (o + 3) = .inl (G.2.1.1, 4, .inl z0) := by rw [eE16, upE_ne (by omega)]; exact t3
  have t4 : E16 (o + 4) = .inl (G.2.1.1, 64, .inl z0) := by rw [eE16, upE_ne (by omega)]; exact t4
  have t5 : E16 (o + 5) = .inl (G.2.1.1, 4, .inl z0) := by rw [eE16, upE_ne (by omega)]; exact t5
  have t6 : E16 (o + 6) = .inl (G.2.1.1, 40, .inl z0) := by rw [eE16, upE_ne (by omega)]; exact t6
  have t7 : E16 (o + 7) = .inl (G.2.1.1, 32, .inl z0) := by rw [eE16, upE_ne (by omega)]; exact t7
  have t8 : E16 (o + 8) = .inl (G.2.1.1, 256, .inl z0) := by rw [eE16, upE_ne (by omega)]; exact t8
  have tO : E16 (o) = .inr (10, [.ref (b + (o + 1)), .ref (b + (o + 2)), .ref (b + (o + 3)), .int 0, .ref (b + (o + 4)), .ref (b + (o + 5)), .ref (b + (o + 6)), .int 0, .ref (b + (o + 7)), .ref (b + (o + 8)), .null, .int 0, .null, .int 0, .int 0, .int 0, .int 0, .int 0, .int 0, .int 0, .null, .null, .null, .int 0, .int 0]) := by rw [eE16]; exact upE_at
  refine lv_aload_n hx hb dX11_init_68 rfl (lv_at hl 0 rfl) ?_
  refine lv_iconst (v := 4) hx hb dX11_init_69 (by decide) ?_
  refine tn_newa (t0 := 0) (ty := .int) hx hb hts hk.1 hw rfl rfl rfl (fun z => z) wd40 (N := 4) (by decide) (by decide) (by decide) (Nat.le_of_ble_eq_true rfl) (Nat.le_of_ble_eq_true rfl) dX11_init_70 (fun H hw => ?_)
  obtain ⟨E17, eE17⟩ : ∃ zz, zz = upE E16 (o + 9) (.inl (G.2.1.1, 4, .inl z0)) := ⟨_, rfl⟩
  have hw : PE G.1 b E17 (o + 10) s H locs := by rw [eE17]; exact hw
  have hF : ∀ j, j < o → E17 j = E j := fun j hj => (show E17 j = E16 j by rw [eE17, upE_ne (by omega)]).trans (hF j hj)
  have tO : E17 (o) = .inr (10, [.ref (b + (o + 1)), .ref (b + (o + 2)), .ref (b + (o + 3)), .int 0, .ref (b + (o + 4)), .ref (b + (o + 5)), .ref (b + (o + 6)), .int 0, .ref (b + (o + 7)), .ref (b + (o + 8)), .null, .int 0, .null, .int 0, .int 0, .int 0, .int 0, .int 0, .int 0, .int 0, .null, .null, .null, .int 0, .int 0]) := by rw [eE17, upE_ne (by omega)]; exact tO
  have t1 : E17 (o + 1) = .inl (G.2.1.1, 32, .inl z0) := by rw [eE17, upE_ne (by omega)]; exact t1
  have t2 : E17 (o + 2) = .inl (G.2.1.1, 256, .inl z0) := by rw [eE17, upE_ne (by omega)]; exact t2
  have t3 : E17 (o + 3) = .inl (G.2.1.1, 4, .inl z0) := by rw [eE17, upE_ne (by omega)]; exact t3
  have t4 : E17 (o + 4) = .inl (G.2.1.1, 64, .inl z0) := by rw [eE17, upE_ne (by omega)]; exact t4
  have t5 : E17 (o + 5) = .inl (G.2.1.1, 4, .inl z0) := by rw [eE17, upE_ne (by omega)]; exact t5
  have t6 : E17 (o + 6) = .inl (G.2.1.1, 40, .inl z0) := by rw [eE17, upE_ne (by omega)]; exact t6
  have t7 : E17 (o + 7) = .inl (G.2.1.1, 32, .inl z0) := by rw [eE17, upE_ne (by omega)]; exact t7
  have t8 : E17 (o + 8) = .inl (G.2.1.1, 256, .inl z0) := by rw [eE17, upE_ne (by omega)]; exact t8
  have t9 : E17 (o + 9) = .inl (G.2.1.1, 4, .inl z0) := by rw [eE17]; exact upE_at
  refine tn_putF (i := o) (ci := 10) (k := 10) hx hb hts hown hk.1 hw tyX11 hin rfl (by omega) tO rfl inlX11 tyX11_ok nmX11 (by decide) wd113 rfl rfl rfl (Nat.le_of_ble_eq_true rfl) dX11_init_72 (fun H locs hw => ?_)
  obtain ⟨E18, eE18⟩ : ∃ zz, zz = upE E17 (o) (.inr (10, [.ref (b + (o + 1)), .ref (b + (o + 2)), .ref (b + (o + 3)), .int 0, .ref (b + (o + 4)), .ref (b + (o + 5)), .ref (b + (o + 6)), .int 0, .ref (b + (o + 7)), .ref (b + (o + 8)), .ref (b + (o + 9)), .int 0, .null, .int 0, .int 0, .int 0, .int 0, .int 0, .int 0, .int 0, .null, .null, .null, .int 0, .int 0])) := ⟨_, rfl⟩
  have hw : PE G.1 b E18 (o + 10) s H locs := by rw [eE18]; exact hw
  have hF : ∀ j, j < o → E18 j = E j := fun j hj => (show E18 j = E17 j by rw [eE18, upE_ne (by omega)]).trans (hF j hj)
  have t1 : E18 (o + 1) = .inl (G.2.1.1, 32, .inl z0) := by rw [eE18, upE_ne (by omega)]; exact t1
  have t2 : E18 (o + 2) = .inl (G.2.1.1, 256, .inl z0) := by rw [eE18, upE_ne (by omega)]; exact t2
  have t3 : E18 (o + 3) = .inl (G.2.1.1, 4, .inl z0) := by rw [eE18, upE_ne (by omega)]; exact t3
  have t4 : E18 (o + 4) = .inl (G.2.1.1, 64, .inl z0) := by rw [eE18, upE_ne (by omega)]; exact t4
  have t5 : E18 (o + 5) = .inl (G.2.1.1, 4, .inl z0) := by rw [eE18, upE_ne (by omega)]; exact t5
  have t6 : E18 (o + 6) = .inl (G.2.1.1, 40, .inl z0) := by rw [eE18, upE_ne (by omega)]; exact t6
  have t7 : E18 (o + 7) = .inl (G.2.1.1, 32, .inl z0) := by rw [eE18, upE_ne (by omega)]; exact t7
  have t8 : E18 (o + 8) = .inl (G.2.1.1, 256, .inl z0) := by rw [eE18, upE_ne (by omega)]; exact t8
  have t9 : E18 (o + 9) = .inl (G.2.1.1, 4, .inl z0) := by rw [eE18, upE_ne (by omega)]; exact t9
  have tO : E18 (o) = .inr (10, [.ref (b + (o + 1)), .ref (b + (o + 2)), .ref (b + (o + 3)), .int 0, .ref (b + (o + 4)), .ref (b + (o + 5)), .ref (b + (o + 6)), .int 0, .ref (b + (o + 7)), .ref (b + (o + 8)), .ref (b + (o + 9)), .int 0, .null, .int 0, .int 0, .int 0, .int 0, .int 0, .int 0, .int 0, .null, .null, .null, .int 0, .int 0]) := by rw [eE18]; exact upE_at
  refine lv_aload_n hx hb dX11_init_75 rfl (lv_at hl 0 rfl) ?_
  refine lv_bipush (v := 74) hx hb dX11_init_76 (by decide) ?_
  refine tn_newa (t0 := 0) (ty := .int) hx hb hts hk.1 hw rfl rfl rfl (fun z => z) wd40 (N := 74) (by decide) (by decide) (by decide) (Nat.le_of_ble_eq_true rfl) (Nat.le_of_ble_eq_true rfl) dX11_init_78 (fun H hw => ?_)
  obtain ⟨E19, eE19⟩ : ∃ zz, zz = upE E18 (o + 10) (.inl (G.2.1.1, 74, .inl z0)) := ⟨_, rfl⟩
  have hw : PE G.1 b E19 (o + 11) s H locs := by rw [eE19]; exact hw
  have hF : ∀ j, j < o → E19 j = E j := fun j hj => (show E19 j = E18 j by rw [eE19, upE_ne (by omega)]).trans (hF j hj)
  have tO : E19 (o) = .inr (10, [.ref (b + (o + 1)), .ref (b + (o + 2)), .ref (b + (o + 3)), .int 0, .ref (b + (o + 4)), .ref (b + (o + 5)), .ref (b + (o + 6)), .int 0, .ref (b + (o + 7)), .ref (b + (o + 8)), .ref (b + (o + 9)), .int 0, .null, .int 0, .int 0, .int 0, .int 0, .int 0, .int 0, .int 0, .null, .null, .null, .int 0, .int 0]) := by rw [eE19, upE_ne (by omega)]; exact tO
  have t1 : E19 (o + 1) = .inl (G.2.1.1, 32, .inl z0) := by rw [eE19, upE_ne (by omega)]; exact t1
  have t2 : E19 (o + 2) = .inl (G.2.1.1, 256, .inl z0) := by rw [eE19, upE_ne (by omega)]; exact t2
  have t3 : E19 (o + 3) = .inl (G.2.1.1, 4, .inl z0) := by rw [eE19, upE_ne (by omega)]; exact t3
  have t4 : E19 (o + 4) = .inl (G.2.1.1, 64, .inl z0) := by rw [eE19, upE_ne (by omega)]; exact t4
  have t5 : E19 (o + 5) = .inl (G.2.1.1, 4, .inl z0) := by rw [eE19, upE_ne (by omega)]; exact t5
  have t6 : E19 (o + 6) = .inl (G.2.1.1, 40, .inl z0) := by rw [eE19, upE_ne (by omega)]; exact t6
  have t7 : E19 (o + 7) = .inl (G.2.1.1, 32, .inl z0) := by rw [eE19, upE_ne (by omega)]; exact t7
  have t8 : E19 (o + 8) = .inl (G.2.1.1, 256, .inl z0) := by rw [eE19, upE_ne (by omega)]; exact t8
  have t9 : E19 (o + 9) = .inl (G.2.1.1, 4, .inl z0) := by rw [eE19, upE_ne (by omega)]; exact t9
  have t10 : E19 (o + 10) = .inl (G.2.1.1, 74, .inl z0) := by rw [eE19]; exact upE_at
  refine tn_putF (i := o) (ci := 10) (k := 12) hx hb hts hown hk.1 hw tyX11 hin rfl (by omega) tO rfl inlX11 tyX11_ok nmX11 (by decide) wd114 rfl rfl rfl (Nat.le_of_ble_eq_true rfl) dX11_init_80 (fun H locs hw => ?_)
  obtain ⟨E20, eE20⟩ : ∃ zz, zz = upE E19 (o) (.inr (10, [.ref (b + (o + 1)), .ref (b + (o + 2)), .ref (b + (o + 3)), .int 0, .ref (b + (o + 4)), .ref (b + (o + 5)), .ref (b + (o + 6)), .int 0, .ref (b + (o + 7)), .ref (b + (o + 8)), .ref (b + (o + 9)), .int 0, .ref (b + (o + 10)), .int 0, .int 0, .int 0, .int 0, .int 0, .int 0, .int 0, .null, .null, .null, .int 0, .int 0])) := ⟨_, rfl⟩
  have hw : PE G.1 b E20 (o + 11) s H locs := by rw [eE20]; exact hw
  have hF : ∀ j, j < o → E20 j = E j := fun j hj => (show E20 j = E19 j by rw [eE20, upE_ne (by omega)]).trans (hF j hj)
  have t1 : E20 (o + 1) = .inl (G.2.1.1, 32, .inl z0) := by rw [eE20, upE_ne (by omega)]; exact t1
  have t2 : E20 (o + 2) = .inl (G.2.1.1, 256, .inl z0) := by rw [eE20, upE_ne (by omega)]; exact t2
  have t3 : E20 (o + 3) = .inl (G.2.1.1, 4, .inl z0) := by rw [eE20, upE_ne (by omega)]; exact t3
  have t4 : E20 (o + 4) = .inl (G.2.1.1, 64, .inl z0) := by rw [eE20, upE_ne (by omega)]; exact t4
  have t5 : E20 (o + 5) = .inl (G.2.1.1, 4, .inl z0) := by rw [eE20, upE_ne (by omega)]; exact t5
  have t6 : E20 (o + 6) = .inl (G.2.1.1, 40, .inl z0) := by rw [eE20, upE_ne (by omega)]; exact t6
  have t7 : E20 (o + 7) = .inl (G.2.1.1, 32, .inl z0) := by rw [eE20, upE_ne (by omega)]; exact t7
  have t8 : E20 (o + 8) = .inl (G.2.1.1, 256, .inl z0) := by rw [eE20, upE_ne (by omega)]; exact t8
  have t9 : E20 (o + 9) = .inl (G.2.1.1, 4, .inl z0) := by rw [eE20, upE_ne (by omega)]; exact t9
  have t10 : E20 (o + 10) = .inl (G.2.1.1, 74, .inl z0) := by rw [eE20, upE_ne (by omega)]; exact t10
  have tO : E20 (o) = .inr (10, [.ref (b + (o + 1)), .ref (b + (o + 2)), .ref (b + (o + 3)), .int 0, .ref (b + (o + 4)), .ref (b + (o + 5)), .ref (b + (o + 6)), .int 0, .ref (b + (o + 7)), .ref (b + (o + 8)), .ref (b + (o + 9)), .int 0, .ref (b + (o + 10)), .int 0, .int 0, .int 0, .int 0, .int 0, .int 0, .int 0, .null, .null, .null, .int 0, .int 0]) := by rw [eE20]; exact upE_at
  refine lv_aload_n hx hb dX11_init_83 rfl (lv_at hl 0 rfl) ?_
  refine lv_sipush (v := 256) hx hb dX11_init_84 (by decide) ?_
  refine tn_newa (t0 := 0) (ty := .int) hx hb hts hk.1 hw rfl rfl rfl (fun z => z) wd40 (N := 256) (by decide) (by decide) (by decide) (Nat.le_of_ble_eq_true rfl) (Nat.le_of_ble_eq_true rfl) dX11_init_87 (fun H hw => ?_)
  obtain ⟨E21, eE21⟩ : ∃ zz, zz = upE E20 (o + 11) (.inl (G.2.1.1, 256, .inl z0)) := ⟨_, rfl⟩
  have hw : PE G.1 b E21 (o + 12) s H locs := by rw [eE21]; exact hw
  have hF : ∀ j, j < o → E21 j = E j := fun j hj => (show E21 j = E20 j by rw [eE21, upE_ne (by omega)]).trans (hF j hj)
  have tO : E21 (o) = .inr (10, [.ref (b + (o + 1)), .ref (b + (o + 2)), .ref (b + (o + 3)), .int 0, .ref (b + (o + 4)), .ref (b + (o + 5)), .ref (b + (o + 6)), .int 0, .ref (b + (o + 7)), .ref (b + (o + 8)), .ref (b + (o + 9)), .int 0, .ref (b + (o + 10)), .int 0, .int 0, .int 0, .int 0, .int 0, .int 0, .int 0, .null, .null, .null, .int 0, .int 0]) := by rw [eE21, upE_ne (by omega)]; exact tO
  have t1 : E21 (o + 1) = .inl (G.2.1.1, 32, .inl z0) := by rw [eE21, upE_ne (by omega)]; exact t1
  have t2 : E21 (o + 2) = .inl (G.2.1.1, 256, .inl z0) := by rw [eE21, upE_ne (by omega)]; exact t2
  have t3 : E21 (o + 3) = .inl (G.2.1.1, 4, .inl z0) := by rw [eE21, upE_ne (by omega)]; exact t3
  have t4 : E21 (o + 4) = .inl (G.2.1.1, 64, .inl z0) := by rw [eE21, upE_ne (by omega)]; exact t4
  have t5 : E21 (o + 5) = .inl (G.2.1.1, 4, .inl z0) := by rw [eE21, upE_ne (by omega)]; exact t5
  have t6 : E21 (o + 6) = .inl (G.2.1.1, 40, .inl z0) := by rw [eE21, upE_ne (by omega)]; exact t6
  have t7 : E21 (o + 7) = .inl (G.2.1.1, 32, .inl z0) := by rw [eE21, upE_ne (by omega)]; exact t7
  have t8 : E21 (o + 8) = .inl (G.2.1.1, 256, .inl z0) := by rw [eE21, upE_ne (by omega)]; exact t8
  have t9 : E21 (o + 9) = .inl (G.2.1.1, 4, .inl z0) := by rw [eE21, upE_ne (by omega)]; exact t9
  have t10 : E21 (o + 10) = .inl (G.2.1.1, 74, .inl z0) := by rw [eE21, upE_ne (by omega)]; exact t10
  have t11 : E21 (o + 11) = .inl (G.2.1.1, 256, .inl z0) := by rw [eE21]; exact upE_at
  refine tn_putF (i := o) (ci := 10) (k := 20) hx hb hts hown hk.1 hw tyX11 hin rfl (by omega) tO rfl inlX11 tyX11_ok nmX11 (by decide) wd115 rfl rfl rfl (Nat.le_of_ble_eq_true rfl) dX11_init_89 (fun H locs hw => ?_)
  obtain ⟨E22, eE22⟩ : ∃ zz, zz = upE E21 (o) (.inr (10, [.ref (b + (o + 1)), .ref (b + (o + 2)), .ref (b + (o + 3)), .int 0, .ref (b + (o + 4)), .ref (b + (o + 5)), .ref (b + (o + 6)), .int 0, .ref (b + (o + 7)), .ref (b + (o + 8)), .ref (b + (o + 9)), .int 0, .ref (b + (o + 10)), .int 0, .int 0, .int 0, .int 0, .int 0, .int 0, .int 0, .ref (b + (o + 11)), .null, .null, .int 0, .int 0])) := ⟨_, rfl⟩
  have hw : PE G.1 b E22 (o + 12) s H locs := by rw [eE22]; exact hw
  have hF : ∀ j, j < o → E22 j = E j := fun j hj => (show E22 j = E21 j by rw [eE22, upE_ne (by omega)]).trans (hF j hj)
  have t1 : E22 (o + 1) = .inl (G.2.1.1, 32, .inl z0) := by rw [eE22, upE_ne (by omega)]; exact t1
  have t2 : E22 (o + 2) = .inl (G.2.1.1, 256, .inl z0) := by rw [eE22, upE_ne (by omega)]; exact t2
  have t3 : E22 (o + 3) = .inl (G.2.1.1, 4, .inl z0) := by rw [eE22, upE_ne (by omega)]; exact t3
  have t4 : E22 (o + 4) = .inl (G.2.1.1, 64, .inl z0) := by rw [eE22, upE_ne (by omega)]; exact t4
  have t5 : E22 (o + 5) = .inl (G.2.1.1, 4, .inl z0) := by rw [eE22, upE_ne (by omega)]; exact t5
  have t6 : E22 (o + 6) = .inl (G.2.1.1, 40, .inl z0) := by rw [eE22, upE_ne (by omega)]; exact t6
  have t7 : E22 (o + 7) = .inl (G.2.1.1, 32, .inl z0) := by rw [eE22, upE_ne (by omega)]; exact t7
  have t8 : E22 (o + 8) = .inl (G.2.1.1, 256, .inl z0) := by rw [eE22, upE_ne (by omega)]; exact t8
  have t9 : E22 (o + 9) = .inl (G.2.1.1, 4, .inl z0) := by rw [eE22, upE_ne (by omega)]; exact t9
  have t10 : E22 (o + 10) = .inl (G.2.1.1, 74, .inl z0) := by rw [eE22, upE_ne (by omega)]; exact t10
  have t11 : E22 (o + 11) = .inl (G.2.1.1, 256, .inl z0) := by rw [eE22, upE_ne (by omega)]; exact t11
  have tO : E22 (o) = .inr (10, [.ref (b + (o + 1)), .ref (b + (o + 2)), .ref (b + (o + 3)), .int 0, .ref (b + (o + 4)), .ref (b + (o + 5)), .ref (b + (o + 6)), .int 0, .ref (b + (o + 7)), .ref (b + (o + 8)), .ref (b + (o + 9)), .int 0, .ref (b + (o + 10)), .int 0, .int 0, .int 0, .int 0, .int 0, .int 0, .int 0, .ref (b + (o + 11)), .null, .null, .int 0, .int 0]) := by rw [eE22]; exact upE_at
  refine lv_aload_n hx hb dX11_init_92 rfl (lv_at hl 0 rfl) ?_
  refine lv_sipush (v := 800) hx hb dX11_init_93 (by decide) ?_
  refine tn_newa (t0 := 0) (ty := .int) hx hb hts hk.1 hw rfl rfl rfl (fun z => z) wd40 (N := 800) (by decide) (by decide) (by decide) (Nat.le_of_ble_eq_true rfl) (Nat.le_of_ble_eq_true rfl) dX11_init_96 (fun H hw => ?_)
  obtain ⟨E23, eE23⟩ : ∃ zz, zz = upE E22 (o + 12) (.inl (G.2.1.1, 800, .inl z0)) := ⟨_, rfl⟩
  have hw : PE G.1 b E23 (o + 13) s H locs := by rw [eE23]; exact hw
  have hF : ∀ j, j < o → E23 j = E j := fun j hj => (show E23 j = E22 j by rw [eE23, upE_ne (by omega)]).trans (hF j hj)
  have tO : E23 (o) = .inr (10, [.ref (b + (o + 1)), .ref (b + (o + 2)), .ref (b + (o + 3)), .int 0, .ref (b + (o + 4)), .ref (b + (o + 5)), .ref (b + (o + 6)), .int 0, .ref (b + (o + 7)), .ref (b + (o + 8)), .ref (b + (o + 9)), .int 0, .ref (b + (o + 10)), .int 0, .int 0, .int 0, .int 0, .int 0, .int 0, .int 0, .ref (b + (o + 11)), .null, .null, .int 0, .int 0]) := by rw [eE23, upE_ne (by omega)]; exact tO
  have t1 : E23 (o + 1) = .inl (G.2.1.1, 32, .inl z0) := by rw [eE23, upE_ne (by omega)]; exact t1
  have t2 : E23 (o + 2) = .inl (G.2.1.1, 256, .inl z0) := by rw [eE23, upE_ne (by omega)]; exact t2
  have t3 : E23 (o + 3) = .inl (G.2.1.1, 4, .inl z0) := by rw [eE23, upE_ne (by omega)]; exact t3
  have t4 : E23 (o + 4) = .inl (G.2.1.1, 64, .inl z0) := by rw [eE23, upE_ne (by omega)]; exact t4
  have t5 : E23 (o + 5) = .inl (G.2.1.1, 4, .inl z0) := by rw [eE23, upE_ne (by omega)]; exact t5
  have t6 : E23 (o + 6) = .inl (G.2.1.1, 40, .inl z0) := by rw [eE23, upE_ne (by omega)]; exact t6
  have t7 : E23 (o + 7) = .inl (G.2.1.1, 32, .inl z0) := by rw [eE23, upE_ne (by omega)]; exact t7
  have t8 : E23 (o + 8) = .inl (G.2.1.1, 256, .inl z0) := by rw [eE23, upE_ne (by omega)]; exact t8
  have t9 : E23 (o + 9) = .inl (G.2.1.1, 4, .inl z0) := by rw [eE23, upE_ne (by omega)]; exact t9
  have t10 : E23 (o + 10) = .inl (G.2.1.1, 74, .inl z0) := by rw [eE23, upE_ne (by omega)]; exact t10
  have t11 : E23 (o + 11) = .inl (G.2.1.1, 256, .inl z0) := by rw [eE23, upE_ne (by omega)]; exact t11
  have t12 : E23 (o + 12) = .inl (G.2.1.1, 800, .inl z0) := by rw [eE23]; exact upE_at
  refine tn_putF (i := o) (ci := 10) (k := 21) hx hb hts hown hk.1 hw tyX11 hin rfl (by omega) tO rfl inlX11 tyX11_ok nmX11 (by decide) wd116 rfl rfl rfl (Nat.le_of_ble_eq_true rfl) dX11_init_98 (fun H locs hw => ?_)
  obtain ⟨E24, eE24⟩ : ∃ zz, zz = upE E23 (o) (.inr (10, [.ref (b + (o + 1)), .ref (b + (o + 2)), .ref (b + (o + 3)), .int 0, .ref (b + (o + 4)), .ref (b + (o + 5)), .ref (b + (o + 6)), .int 0, .ref (b + (o + 7)), .ref (b + (o + 8)), .ref (b + (o + 9)), .int 0, .ref (b + (o + 10)), .int 0, .int 0, .int 0, .int 0, .int 0, .int 0, .int 0, .ref (b + (o + 11)), .ref (b + (o + 12)), .null, .int 0, .int 0])) := ⟨_, rfl⟩
  have hw : PE G.1 b E24 (o + 13) s H locs := by rw [eE24]; exact hw
  have hF : ∀ j, j < o → E24 j = E j := fun j hj => (show E24 j = E23 j by rw [eE24, upE_ne (by omega)]).trans (hF j hj)
  have t1 : E24 (o + 1) = .inl (G.2.1.1, 32, .inl z0) := by rw [eE24, upE_ne (by omega)]; exact t1
  have t2 : E24 (o + 2) = .inl (G.2.1.1, 256, .inl z0) := by rw [eE24, upE_ne (by omega)]; exact t2
  have t3 : E24 (o + 3) = .inl (G.2.1.1, 4, .inl z0) := by rw [eE24, upE_ne (by omega)]; exact t3
  have t4 : E24 (o + 4) = .inl (G.2.1.1, 64, .inl z0) := by rw [eE24, upE_ne (by omega)]; exact t4
  have t5 : E24 (o + 5) = .inl (G.2.1.1, 4, .inl z0) := by rw [eE24, upE_ne (by omega)]; exact t5
  have t6 : E24 (o + 6) = .inl (G.2.1.1, 40, .inl z0) := by rw [eE24, upE_ne (by omega)]; exact t6
  have t7 : E24 (o + 7) = .inl (G.2.1.1, 32, .inl z0) := by rw [eE24, upE_ne (by omega)]; exact t7
  have t8 : E24 (o + 8) = .inl (G.2.1.1, 256, .inl z0) := by rw [eE24, upE_ne (by omega)]; exact t8
  have t9 : E24 (o + 9) = .inl (G.2.1.1, 4, .inl z0) := by rw [eE24, upE_ne (by omega)]; exact t9
  have t10 : E24 (o + 10) = .inl (G.2.1.1, 74, .inl z0) := by rw [eE24, upE_ne (by omega)]; exact t10
  have t11 : E24 (o + 11) = .inl (G.2.1.1, 256, .inl z0) := by rw [eE24, upE_ne (by omega)]; exact t11
  have t12 : E24 (o + 12) = .inl (G.2.1.1, 800, .inl z0) := by rw [eE24, upE_ne (by omega)]; exact t12
  have tO : E24 (o) = .inr (10, [.ref (b + (o + 1)), .ref (b + (o + 2)), .ref (b + (o + 3)), .int 0, .ref (b + (o + 4)), .ref (b + (o + 5)), .ref (b + (o + 6)), .int 0, .ref (b + (o + 7)), .ref (b + (o + 8)), .ref (b + (o + 9)), .int 0, .ref (b + (o + 10)), .int 0, .int 0, .int 0, .int 0, .int 0, .int 0, .int 0, .ref (b + (o + 11)), .ref (b + (o + 12)), .null, .int 0, .int 0]) := by rw [eE24]; exact upE_at
  refine lv_aload_n hx hb dX11_init_101 rfl (lv_at hl 0 rfl) ?_
  refine lv_iconst (v := 2) hx hb dX11_init_102 (by decide) ?_
  refine tn_newa (t0 := 1) (ty := .boolean) hx hb hts hk.1 hw rfl rfl rfl (fun z => z) wd21 (N := 2) (by decide) (by decide) (by decide) (Nat.le_of_ble_eq_true rfl) (Nat.le_of_ble_eq_true rfl) dX11_init_103 (fun H hw => ?_)
  obtain ⟨E25, eE25⟩ : ∃ zz, zz = upE E24 (o + 13) (.inl (G.2.1.2.1, 2, .inl z0)) := ⟨_, rfl⟩
  have hw : PE G.1 b E25 (o + 14) s H locs := by rw [eE25]; exact hw
  have hF : ∀ j, j < o → E25 j = E j := fun j hj => (show E25 j = E24 j by rw [eE25, upE_ne (by omega)]).trans (hF j hj)
  have tO : E25 (o) = .inr (10, [.ref (b + (o + 1)), .ref (b + (o + 2)), .ref (b + (o + 3)), .int 0, .ref (b + (o + 4)), .ref (b + (o + 5)), .ref (b + (o + 6)), .int 0, .ref (b + (o + 7)), .ref (b + (o + 8)), .ref (b + (o + 9)), .int 0, .ref (b + (o + 10)), .int 0, .int 0, .int 0, .int 0, .int 0, .int 0, .int 0, .ref (b + (o + 11)), .ref (b + (o + 12)), .null, .int 0, .int 0]) := by rw [eE25, upE_ne (by omega)]; exact tO
  have t1 : E25 (o + 1) = .inl (G.2.1.1, 32, .inl z0) := by rw [eE25, upE_ne (by omega)]; exact t1
  have t2 : E25 (o + 2) = .inl (G.2.1.1, 256, .inl z0) := by rw [eE25, upE_ne (by omega)]; exact t2
  have t3 : E25 (o + 3) = .inl (G.2.1.1, 4, .inl z0) := by rw [eE25, upE_ne (by omega)]; exact t3
  have t4 : E25 (o + 4) = .inl (G.2.1.1, 64, .inl z0) := by rw [eE25, upE_ne (by omega)]; exact t4
  have t5 : E25 (o + 5) = .inl (G.2.1.1, 4, .inl z0) := by rw [eE25, upE_ne (by omega)]; exact t5
  have t6 : E25 (o + 6) = .inl (G.2.1.1, 40, .inl z0) := by rw [eE25, upE_ne (by omega)]; exact t6
  have t7 : E25 (o + 7) = .inl (G.2.1.1, 32, .inl z0) := by rw [eE25, upE_ne (by omega)]; exact t7
  have t8 : E25 (o + 8) = .inl (G.2.1.1, 256, .inl z0) := by rw [eE25, upE_ne (by omega)]; exact t8
  have t9 : E25 (o + 9) = .inl (G.2.1.1, 4, .inl z0) := by rw [eE25, upE_ne (by omega)]; exact t9
  have t10 : E25 (o + 10) = .inl (G.2.1.1, 74, .inl z0) := by rw [eE25, upE_ne (by omega)]; exact t10
  have t11 : E25 (o + 11) = .inl (G.2.1.1, 256, .inl z0) := by rw [eE25, upE_ne (by omega)]; exact t11
  have t12 : E25 (o + 12) = .inl (G.2.1.1, 800, .inl z0) := by rw [eE25, upE_ne (by omega)]; exact t12
  have t13 : E25 (o + 13) = .inl (G.2.1.2.1, 2, .inl z0) := by rw [eE25]; exact upE_at
  refine tn_putF (i := o) (ci := 10) (k := 22) hx hb hts hown hk.1 hw tyX11 hin rfl (by omega) tO rfl inlX11 tyX11_ok nmX11 (by decide) wd117 rfl rfl rfl (Nat.le_of_ble_eq_true rfl) dX11_init_105 (fun H locs hw => ?_)
  obtain ⟨E26, eE26⟩ : ∃ zz, zz = upE E25 (o) (.inr (10, [.ref (b + (o + 1)), .ref (b + (o + 2)), .ref (b + (o + 3)), .int 0, .ref (b + (o + 4)), .ref (b + (o + 5)), .ref (b + (o + 6)), .int 0, .ref (b + (o + 7)), .ref (b + (o + 8)), .ref (b + (o + 9)), .int 0, .ref (b + (o + 10)), .int 0, .int 0, .int 0, .int 0, .int 0, .int 0, .int 0, .ref (b + (o + 11)), .ref (b + (o + 12)), .ref (b + (o + 13)), .int 0, .int 0])) := ⟨_, rfl⟩
  have hw : PE G.1 b E26 (o + 14) s H locs := by rw [eE26]; exact hw
  have hF : ∀ j, j < o → E26 j = E j := fun j hj => (show E26 j = E25 j by rw [eE26, upE_ne (by omega)]).trans (hF j hj)
  have t1 : E26 (o + 1) = .inl (G.2.1.1, 32, .inl z0) := by rw [eE26, upE_ne (by omega)]; exact t1
  have t2 : E26 (o + 2) = .inl (G.2.1.1, 256, .inl z0) := by rw [eE26, upE_ne (by omega)]; exact t2
  have t3 : E26 (o + 3) = .inl (G.2.1.1, 4, .inl z0) := by rw [eE26, upE_ne (by omega)]; exact t3
  have t4 : E26 (o + 4) = .inl (G.2.1.1, 64, .inl z0) := by rw [eE26, upE_ne (by omega)]; exact t4
  have t5 : E26 (o + 5) = .inl (G.2.1.1, 4, .inl z0) := by rw [eE26, upE_ne (by omega)]; exact t5
  have t6 : E26 (o + 6) = .inl (G.2.1.1, 40, .inl z0) := by rw [eE26, upE_ne (by omega)]; exact t6
  have t7 : E26 (o + 7) = .inl (G.2.1.1, 32, .inl z0) := by rw [eE26, upE_ne (by omega)]; exact t7
  have t8 : E26 (o + 8) = .inl (G.2.1.1, 256, .inl z0) := by rw [eE26, upE_ne (by omega)]; exact t8
  have t9 : E26 (o + 9) = .inl (G.2.1.1, 4, .inl z0) := by rw [eE26, upE_ne (by omega)]; exact t9
  have t10 : E26 (o + 10) = .inl (G.2.1.1, 74, .inl z0) := by rw [eE26, upE_ne (by omega)]; exact t10
  have t11 : E26 (o + 11) = .inl (G.2.1.1, 256, .inl z0) := by rw [eE26, upE_ne (by omega)]; exact t11
  have t12 : E26 (o + 12) = .inl (G.2.1.1, 800, .inl z0) := by rw [eE26, upE_ne (by omega)]; exact t12
  have t13 : E26 (o + 13) = .inl (G.2.1.2.1, 2, .inl z0) := by rw [eE26, upE_ne (by omega)]; exact t13
  have tO : E26 (o) = .inr (10, [.ref (b + (o + 1)), .ref (b + (o + 2)), .ref (b + (o + 3)), .int 0, .ref (b + (o + 4)), .ref (b + (o + 5)), .ref (b + (o + 6)), .int 0, .ref (b + (o + 7)), .ref (b + (o + 8)), .ref (b + (o + 9)), .int 0, .ref (b + (o + 10)), .int 0, .int 0, .int 0, .int 0, .int 0, .int 0, .int 0, .ref (b + (o + 11)), .ref (b + (o + 12)), .ref (b + (o + 13)), .int 0, .int 0]) := by rw [eE26]; exact upE_at
  refine lv_iconst (v := 0) hx hb dX11_init_108 (by decide) ?_
  refine lv_istore_n (lv' := [(1, .int (0 : Int32)), (0, .ref (b + (o)))]) hx hb dX11_init_109 rfl hl (by decide) rfl (fun ls hl => ?_)
  refine lv_iload_n hx hb dX11_init_110 rfl (lv_at hl 0 rfl) ?_
  refine lv_iconst (v := 4) hx hb dX11_init_111 (by decide) ?_
  refine lv_icmp_ge (tgt := 170) hx hb dX11_init_112 (by decide) (fun c112 => ?_) (fun c112 => ?_)
  · exact absurd c112 (by decide)
  refine lv_aload_n hx hb dX11_init_115 rfl (lv_at hl 1 rfl) ?_
  refine tn_get (i := o) (ci := 10) (k := 0) (v := .ref (b + (o + 1))) hx hb hts hown hk.1 hw (by omega) tO rfl inlX11 (by decide) wd105 rfl dX11_init_116 ?_
  refine lv_bipush (v := 8) hx hb dX11_init_119 (by decide) ?_
  refine lv_iload_n hx hb dX11_init_121 rfl (lv_at hl 0 rfl) ?_
  refine lv_imul hx hb dX11_init_122 ?_
  refine lv_topi (fun x27 ex27 => ?_)
  have ex27 : x27 = 0 := by rw [ex27]; decide
  subst ex27
  refine lv_iconst (v := 2) hx hb dX11_init_123 (by decide) ?_
  refine lv_iadd hx hb dX11_init_124 ?_
  refine lv_topi (fun x28 ex28 => ?_)
  have ex28 : x28 = 2 := by rw [ex28]; decide
  subst ex28
  refine lv_iload_n hx hb dX11_init_125 rfl (lv_at hl 0 rfl) ?_
  refine tn_iast (i := o + 1) hx hb hk.1 hw (by omega) t1 (vin ⟨by decide, by decide⟩) dX11_init_126 (fun H locs hw => ?_)
  obtain ⟨E29, eE29⟩ : ∃ zz, zz = upE E26 (o + 1) (.inl (G.2.1.1, 32, .inl (upd z0 2 (0 : Int32)))) := ⟨_, rfl⟩
  have hw : PE G.1 b E29 (o + 14) s H locs := by rw [eE29]; exact hw
  have hF : ∀ j, j < o → E29 j = E j := fun j hj => (show E29 j = E26 j by rw [eE29, upE_ne (by omega)]).trans (hF j hj)
  have tO : E29 (o) = .inr (10, [.ref (b + (o + 1)), .ref (b + (o + 2)), .ref (b + (o + 3)), .int 0, .ref (b + (o + 4)), .ref (b + (o + 5)), .ref (b + (o + 6)), .int 0, .ref (b + (o + 7)), .ref (b + (o + 8)), .ref (b + (o + 9)), .int 0, .ref (b + (o + 10)), .int 0, .int 0, .int 0, .int 0, .int 0, .int 0, .int 0, .ref (b + (o + 11)), .ref (b + (o + 12)), .ref (b + (o + 13)), .int 0, .int 0]) := by rw [eE29, upE_ne (by omega)]; exact tO
  have t2 : E29 (o + 2) = .inl (G.2.1.1, 256, .inl z0) := by rw [eE29, upE_ne (by omega)]; exact t2
  have t3 : E29 (o + 3) = .inl (G.2.1.1, 4, .inl z0) := by rw [eE29, upE_ne (by omega)]; exact t3
  have t4 : E29 (o + 4) = .inl (G.2.1.1, 64, .inl z0) := by rw [eE29, upE_ne (by omega)]; exact t4
  have t5 : E29 (o + 5) = .inl (G.2.1.1, 4, .inl z0) := by rw [eE29, upE_ne (by omega)]; exact t5
  have t6 : E29 (o + 6) = .inl (G.2.1.1, 40, .inl z0) := by rw [eE29, upE_ne (by omega)]; exact t6
  have t7 : E29 (o + 7) = .inl (G.2.1.1, 32, .inl z0) := by rw [eE29, upE_ne (by omega)]; exact t7
  have t8 : E29 (o + 8) = .inl (G.2.1.1, 256, .inl z0) := by rw [eE29, upE_ne (by omega)]; exact t8
  have t9 : E29 (o + 9) = .inl (G.2.1.1, 4, .inl z0) := by rw [eE29, upE_ne (by omega)]; exact t9
  have t10 : E29 (o + 10) = .inl (G.2.1.1, 74, .inl z0) := by rw [eE29, upE_ne (by omega)]; exact t10
  have t11 : E29 (o + 11) = .inl (G.2.1.1, 256, .inl z0) := by rw [eE29, upE_ne (by omega)]; exact t11
  have t12 : E29 (o + 12) = .inl (G.2.1.1, 800, .inl z0) := by rw [eE29, upE_ne (by omega)]; exact t12
  have t13 : E29 (o + 13) = .inl (G.2.1.2.1, 2, .inl z0) := by rw [eE29, upE_ne (by omega)]; exact t13
  have t1 : E29 (o + 1) = .inl (G.2.1.1, 32, .inl (upd z0 2 (0 : Int32))) := by rw [eE29]; exact upE_at
  refine lv_aload_n hx hb dX11_init_127 rfl (lv_at hl 1 rfl) ?_
  refine tn_get (i := o) (ci := 10) (k := 0) (v := .ref (b + (o + 1))) hx hb hts hown hk.1 hw (by omega) tO rfl inlX11 (by decide) wd105 rfl dX11_init_128 ?_
  refine lv_bipush (v := 8) hx hb dX11_init_131 (by decide) ?_
  refine lv_iload_n hx hb dX11_init_133 rfl (lv_at hl 0 rfl) ?_
  refine lv_imul hx hb dX11_init_134 ?_
  refine lv_topi (fun x30 ex30 => ?_)
  have ex30 : x30 = 0 := by rw [ex30]; decide
  subst ex30
  refine lv_iconst (v := 3) hx hb dX11_init_135 (by decide) ?_
  refine lv_iadd hx hb dX11_init_136 ?_
  refine lv_topi (fun x31 ex31 => ?_)
  have ex31 : x31 = 3 := by rw [ex31]; decide
  subst ex31
  refine lv_bipush (v := 20) hx hb dX11_init_137 (by decide) ?_
  refine tn_iast (i := o + 1) hx hb hk.1 hw (by omega) t1 (vin ⟨by decide, by decide⟩) dX11_init_139 (fun H locs hw => ?_)
  obtain ⟨E32, eE32⟩ : ∃ zz, zz = upE E29 (o + 1) (.inl (G.2.1.1, 32, .inl (upd (upd z0 2 (0 : Int32)) 3 (20 : Int32)))) := ⟨_, rfl⟩
  have hw : PE G.1 b E32 (o + 14) s H locs := by rw [eE32]; exact hw
  have hF : ∀ j, j < o → E32 j = E j := fun j hj => (show E32 j = E29 j by rw [eE32, upE_ne (by omega)]).trans (hF j hj)
  have tO : E32 (o) = .inr (10, [.ref (b + (o + 1)), .ref (b + (o + 2)), .ref (b + (o + 3)), .int 0, .ref (b + (o + 4)), .ref (b + (o + 5)), .ref (b + (o + 6)), .int 0, .ref (b + (o + 7)), .ref (b + (o + 8)), .ref (b + (o + 9)), .int 0, .ref (b + (o + 10)), .int 0, .int 0, .int 0, .int 0, .int 0, .int 0, .int 0, .ref (b + (o + 11)), .ref (b + (o + 12)), .ref (b + (o + 13)), .int 0, .int 0]) := by rw [eE32, upE_ne (by omega)]; exact tO
  have t2 : E32 (o + 2) = .inl (G.2.1.1, 256, .inl z0) := by rw [eE32, upE_ne (by omega)]; exact t2
  have t3 : E32 (o + 3) = .inl (G.2.1.1, 4, .inl z0) := by rw [eE32, upE_ne (by omega)]; exact t3
  have t4 : E32 (o + 4) = .inl (G.2.1.1, 64, .inl z0) := by rw [eE32, upE_ne (by omega)]; exact t4
  have t5 : E32 (o + 5) = .inl (G.2.1.1, 4, .inl z0) := by rw [eE32, upE_ne (by omega)]; exact t5
  have t6 : E32 (o + 6) = .inl (G.2.1.1, 40, .inl z0) := by rw [eE32, upE_ne (by omega)]; exact t6
  have t7 : E32 (o + 7) = .inl (G.2.1.1, 32, .inl z0) := by rw [eE32, upE_ne (by omega)]; exact t7
  have t8 : E32 (o + 8) = .inl (G.2.1.1, 256, .inl z0) := by rw [eE32, upE_ne (by omega)]; exact t8
  have t9 : E32 (o + 9) = .inl (G.2.1.1, 4, .inl z0) := by rw [eE32, upE_ne (by omega)]; exact t9
  have t10 : E32 (o + 10) = .inl (G.2.1.1, 74, .inl z0) := by rw [eE32, upE_ne (by omega)]; exact t10
  have t11 : E32 (o + 11) = .inl (G.2.1.1, 256, .inl z0) := by rw [eE32, upE_ne (by omega)]; exact t11
  have t12 : E32 (o + 12) = .inl (G.2.1.1, 800, .inl z0) := by rw [eE32, upE_ne (by omega)]; exact t12
  have t13 : E32 (o + 13) = .inl (G.2.1.2.1, 2, .inl z0) := by rw [eE32, upE_ne (by omega)]; exact t13
  have t1 : E32 (o + 1) = .inl (G.2.1.1, 32, .inl (upd (upd z0 2 (0 : Int32)) 3 (20 : Int32))) := by rw [eE32]; exact upE_at
  refine lv_aload_n hx hb dX11_init_140 rfl (lv_at hl 1 rfl) ?_
  refine tn_get (i := o) (ci := 10) (k := 0) (v := .ref (b + (o + 1))) hx hb hts hown hk.1 hw (by omega) tO rfl inlX11 (by decide) wd105 rfl dX11_init_141 ?_
  refine lv_bipush (v := 8) hx hb dX11_init_144 (by decide) ?_
  refine lv_iload_n hx hb dX11_init_146 rfl (lv_at hl 0 rfl) ?_
  refine lv_imul hx hb dX11_init_147 ?_
  refine lv_topi (fun x33 ex33 => ?_)
  have ex33 : x33 = 0 := by rw [ex33]; decide
  subst ex33
  refine lv_iconst (v := 4) hx hb dX11_init_148 (by decide) ?_
  refine lv_iadd hx hb dX11_init_149 ?_
  refine lv_topi (fun x34 ex34 => ?_)
  have ex34 : x34 = 4 := by rw [ex34]; decide
  subst ex34
  refine lv_iconst (v := 2) hx hb dX11_init_150 (by decide) ?_
  refine tn_iast (i := o + 1) hx hb hk.1 hw (by omega) t1 (vin ⟨by decide, by decide⟩) dX11_init_151 (fun H locs hw => ?_)
  obtain ⟨E35, eE35⟩ : ∃ zz, zz = upE E32 (o + 1) (.inl (G.2.1.1, 32, .inl (upd (upd (upd z0 2 (0 : Int32)) 3 (20 : Int32)) 4 (2 : Int32)))) := ⟨_, rfl⟩
  have hw : PE G.1 b E35 (o + 14) s H locs := by rw [eE35]; exact hw
  have hF : ∀ j, j < o → E35 j = E j := fun j hj => (show E35 j = E32 j by rw [eE35, upE_ne (by omega)]).trans (hF j hj)
  have tO : E35 (o) = .inr (10, [.ref (b + (o + 1)), .ref (b + (o + 2)), .ref (b + (o + 3)), .int 0, .ref (b + (o + 4)), .ref (b + (o + 5)), .ref (b + (o + 6)), .int 0, .ref (b + (o + 7)), .ref (b + (o + 8)), .ref (b + (o + 9)), .int 0, .ref (b + (o + 10)), .int 0, .int 0, .int 0, .int 0, .int 0, .int 0, .int 0, .ref (b + (o + 11)), .ref (b + (o + 12)), .ref (b + (o + 13)), .int 0, .int 0]) := by rw [eE35, upE_ne (by omega)]; exact tO
  have t2 : E35 (o + 2) = .inl (G.2.1.1, 256, .inl z0) := by rw [eE35, upE_ne (by omega)]; exact t2
  have t3 : E35 (o + 3) = .inl (G.2.1.1, 4, .inl z0) := by rw [eE35, upE_ne (by omega)]; exact t3
  have t4 : E35 (o + 4) = .inl (G.2.1.1, 64, .inl z0) := by rw [eE35, upE_ne (by omega)]; exact t4
  have t5 : E35 (o + 5) = .inl (G.2.1.1, 4, .inl z0) := by rw [eE35, upE_ne (by omega)]; exact t5
  have t6 : E35 (o + 6) = .inl (G.2.1.1, 40, .inl z0) := by rw [eE35, upE_ne (by omega)]; exact t6
  have t7 : E35 (o + 7) = .inl (G.2.1.1, 32, .inl z0) := by rw [eE35, upE_ne (by omega)]; exact t7
  have t8 : E35 (o + 8) = .inl (G.2.1.1, 256, .inl z0) := by rw [eE35, upE_ne (by omega)]; exact t8
  have t9 : E35 (o + 9) = .inl (G.2.1.1, 4, .inl z0) := by rw [eE35, upE_ne (by omega)]; exact t9
  have t10 : E35 (o + 10) = .inl (G.2.1.1, 74, .inl z0) := by rw [eE35, upE_ne (by omega)]; exact t10
  have t11 : E35 (o + 11) = .inl (G.2.1.1, 256, .inl z0) := by rw [eE35, upE_ne (by omega)]; exact t11
  have t12 : E35 (o + 12) = .inl (G.2.1.1, 800, .inl z0) := by rw [eE35, upE_ne (by omega)]; exact t12
  have t13 : E35 (o + 13) = .inl (G.2.1.2.1, 2, .inl z0) := by rw [eE35, upE_ne (by omega)]; exact t13
  have t1 : E35 (o + 1) = .inl (G.2.1.1, 32, .inl (upd (upd (upd z0 2 (0 : Int32)) 3 (20 : Int32)) 4 (2 : Int32))) := by rw [eE35]; exact upE_at
  refine lv_aload_n hx hb dX11_init_152 rfl (lv_at hl 1 rfl) ?_
  refine tn_get (i := o) (ci := 10) (k := 0) (v := .ref (b + (o + 1))) hx hb hts hown hk.1 hw (by omega) tO rfl inlX11 (by decide) wd105 rfl dX11_init_153 ?_
  refine lv_bipush (v := 8) hx hb dX11_init_156 (by decide) ?_
  refine lv_iload_n hx hb dX11_init_158 rfl (lv_at hl 0 rfl) ?_
  refine lv_imul hx hb dX11_init_159 ?_
  refine lv_topi (fun x36 ex36 => ?_)
  have ex36 : x36 = 0 := by rw [ex36]; decide
  subst ex36
  refine lv_iconst (v := 5) hx hb dX11_init_160 (by decide) ?_
  refine lv_iadd hx hb dX11_init_161 ?_
  refine lv_topi (fun x37 ex37 => ?_)
  have ex37 : x37 = 5 := by rw [ex37]; decide
  subst ex37
  refine lv_iconst (v := 3) hx hb dX11_init_162 (by decide) ?_
  refine tn_iast (i := o + 1) hx hb hk.1 hw (by omega) t1 (vin ⟨by decide, by decide⟩) dX11_init_163 (fun H locs hw => ?_)
  obtain ⟨E38, eE38⟩ : ∃ zz, zz = upE E35 (o + 1) (.inl (G.2.1.1, 32, .inl (upd (upd (upd (upd z0 2 (0 : Int32)) 3 (20 : Int32)) 4 (2 : Int32)) 5 (3 : Int32)))) := ⟨_, rfl⟩
  have hw : PE G.1 b E38 (o + 14) s H locs := by rw [eE38]; exact hw
  have hF : ∀ j, j < o → E38 j = E j := fun j hj => (show E38 j = E35 j by rw [eE38, upE_ne (by omega)]).trans (hF j hj)
  have tO : E38 (o) = .inr (10, [.ref (b + (o + 1)), .ref (b + (o + 2)), .ref (b + (o + 3)), .int 0, .ref (b + (o + 4)), .ref (b + (o + 5)), .ref (b + (o + 6)), .int 0, .ref (b + (o + 7)), .ref (b + (o + 8)), .ref (b + (o + 9)), .int 0, .ref (b + (o + 10)), .int 0, .int 0, .int 0, .int 0, .int 0, .int 0, .int 0, .ref (b + (o + 11)), .ref (b + (o + 12)), .ref (b + (o + 13)), .int 0, .int 0]) := by rw [eE38, upE_ne (by omega)]; exact tO
  have t2 : E38 (o + 2) = .inl (G.2.1.1, 256, .inl z0) := by rw [eE38, upE_ne (by omega)]; exact t2
  have t3 : E38 (o + 3) = .inl (G.2.1.1, 4, .inl z0) := by rw [eE38, upE_ne (by omega)]; exact t3
  have t4 : E38 (o + 4) = .inl (G.2.1.1, 64, .inl z0) := by rw [eE38, upE_ne (by omega)]; exact t4
  have t5 : E38 (o + 5) = .inl (G.2.1.1, 4, .inl z0) := by rw [eE38, upE_ne (by omega)]; exact t5
  have t6 : E38 (o + 6) = .inl (G.2.1.1, 40, .inl z0) := by rw [eE38, upE_ne (by omega)]; exact t6
  have t7 : E38 (o + 7) = .inl (G.2.1.1, 32, .inl z0) := by rw [eE38, upE_ne (by omega)]; exact t7
  have t8 : E38 (o + 8) = .inl (G.2.1.1, 256, .inl z0) := by rw [eE38, upE_ne (by omega)]; exact t8
  have t9 : E38 (o + 9) = .inl (G.2.1.1, 4, .inl z0) := by rw [eE38, upE_ne (by omega)]; exact t9
  have t10 : E38 (o + 10) = .inl (G.2.1.1, 74, .inl z0) := by rw [eE38, upE_ne (by omega)]; exact t10
  have t11 : E38 (o + 11) = .inl (G.2.1.1, 256, .inl z0) := by rw [eE38, upE_ne (by omega)]; exact t11
  have t12 : E38 (o + 12) = .inl (G.2.1.1, 800, .inl z0) := by rw [eE38, upE_ne (by omega)]; exact t12
  have t13 : E38 (o + 13) = .inl (G.2.1.2.1, 2, .inl z0) := by rw [eE38, upE_ne (by omega)]; exact t13
  have t1 : E38 (o + 1) = .inl (G.2.1.1, 32, .inl (upd (upd (upd (upd z0 2 (0 : Int32)) 3 (20 : Int32)) 4 (2 : Int32)) 5 (3 : Int32))) := by rw [eE38]; exact upE_at
  refine lv_iinc (v := 1) (lv' := [(1, .int (1 : Int32)), (0, .ref (b + (o)))]) hx hb dX11_init_164 hl (k := 0) rfl (by decide) (by decide) rfl (fun ls hl => ?_)
  refine lv_goto (tgt := 110) hx hb dX11_init_167 (by decide) ?_
  refine lv_iload_n hx hb dX11_init_110 rfl (lv_at hl 0 rfl) ?_
  refine lv_iconst (v := 4) hx hb dX11_init_111 (by decide) ?_
  refine lv_icmp_ge (tgt := 170) hx hb dX11_init_112 (by decide) (fun c112 => ?_) (fun c112 => ?_)
  · exact absurd c112 (by decide)
  refine lv_aload_n hx hb dX11_init_115 rfl (lv_at hl 1 rfl) ?_
  refine tn_get (i := o) (ci := 10) (k := 0) (v := .ref (b + (o + 1))) hx hb hts hown hk.1 hw (by omega) tO rfl inlX11 (by decide) wd105 rfl dX11_init_116 ?_
  refine lv_bipush (v := 8) hx hb dX11_init_119 (by decide) ?_
  refine lv_iload_n hx hb dX11_init_121 rfl (lv_at hl 0 rfl) ?_
  refine lv_imul hx hb dX11_init_122 ?_
  refine lv_topi (fun x39 ex39 => ?_)
  have ex39 : x39 = 8 := by rw [ex39]; decide
  subst ex39
  refine lv_iconst (v := 2) hx hb dX11_init_123 (by decide) ?_
  refine lv_iadd hx hb dX11_init_124 ?_
  refine lv_topi (fun x40 ex40 => ?_)
  have ex40 : x40 = 10 := by rw [ex40]; decide
  subst ex40
  refine lv_iload_n hx hb dX11_init_125 rfl (lv_at hl 0 rfl) ?_
  refine tn_iast (i := o + 1) hx hb hk.1 hw (by omega) t1 (vin ⟨by decide, by decide⟩) dX11_init_126 (fun H locs hw => ?_)
  obtain ⟨E41, eE41⟩ : ∃ zz, zz = upE E38 (o + 1) (.inl (G.2.1.1, 32, .inl (upd (upd (upd (upd (upd z0 2 (0 : Int32)) 3 (20 : Int32)) 4 (2 : Int32)) 5 (3 : Int32)) 10 (1 : Int32)))) := ⟨_, rfl⟩
  have hw : PE G.1 b E41 (o + 14) s H locs := by rw [eE41]; exact hw
  have hF : ∀ j, j < o → E41 j = E j := fun j hj => (show E41 j = E38 j by rw [eE41, upE_ne (by omega)]).trans (hF j hj)
  have tO : E41 (o) = .inr (10, [.ref (b + (o + 1)), .ref (b + (o + 2)), .ref (b + (o + 3)), .int 0, .ref (b + (o + 4)), .ref (b + (o + 5)), .ref (b + (o + 6)), .int 0, .ref (b + (o + 7)), .ref (b + (o + 8)), .ref (b + (o + 9)), .int 0, .ref (b + (o + 10)), .int 0, .int 0, .int 0, .int 0, .int 0, .int 0, .int 0, .ref (b + (o + 11)), .ref (b + (o + 12)), .ref (b + (o + 13)), .int 0, .int 0]) := by rw [eE41, upE_ne (by omega)]; exact tO
  have t2 : E41 (o + 2) = .inl (G.2.1.1, 256, .inl z0) := by rw [eE41, upE_ne (by omega)]; exact t2
  have t3 : E41 (o + 3) = .inl (G.2.1.1, 4, .inl z0) := by rw [eE41, upE_ne (by omega)]; exact t3
  have t4 : E41 (o + 4) = .inl (G.2.1.1, 64, .inl z0) := by rw [eE41, upE_ne (by omega)]; exact t4
  have t5 : E41 (o + 5) = .inl (G.2.1.1, 4, .inl z0) := by rw [eE41, upE_ne (by omega)]; exact t5
  have t6 : E41 (o + 6) = .inl (G.2.1.1, 40, .inl z0) := by rw [eE41, upE_ne (by omega)]; exact t6
  have t7 : E41 (o + 7) = .inl (G.2.1.1, 32, .inl z0) := by rw [eE41, upE_ne (by omega)]; exact t7
  have t8 : E41 (o + 8) = .inl (G.2.1.1, 256, .inl z0) := by rw [eE41, upE_ne (by omega)]; exact t8
  have t9 : E41 (o + 9) = .inl (G.2.1.1, 4, .inl z0) := by rw [eE41, upE_ne (by omega)]; exact t9
  have t10 : E41 (o + 10) = .inl (G.2.1.1, 74, .inl z0) := by rw [eE41, upE_ne (by omega)]; exact t10
  have t11 : E41 (o + 11) = .inl (G.2.1.1, 256, .inl z0) := by rw [eE41, upE_ne (by omega)]; exact t11
  have t12 : E41 (o + 12) = .inl (G.2.1.1, 800, .inl z0) := by rw [eE41, upE_ne (by omega)]; exact t12
  have t13 : E41 (o + 13) = .inl (G.2.1.2.1, 2, .inl z0) := by rw [eE41, upE_ne (by omega)]; exact t13
  have t1 : E41 (o + 1) = .inl (G.2.1.1, 32, .inl (upd (upd (upd (upd (upd z0 2 (0 : Int32)) 3 (20 : Int32)) 4 (2 : Int32)) 5 (3 : Int32)) 10 (1 : Int32))) := by rw [eE41]; exact upE_at
  refine lv_aload_n hx hb dX11_init_127 rfl (lv_at hl 1 rfl) ?_
  refine tn_get (i := o) (ci := 10) (k := 0) (v := .ref (b + (o + 1))) hx hb hts hown hk.1 hw (by omega) tO rfl inlX11 (by decide) wd105 rfl dX11_init_128 ?_
  refine lv_bipush (v := 8) hx hb dX11_init_131 (by decide) ?_
  refine lv_iload_n hx hb dX11_init_133 rfl (lv_at hl 0 rfl) ?_
  refine lv_imul hx hb dX11_init_134 ?_
  refine lv_topi (fun x42 ex42 => ?_)
  have ex42 : x42 = 8 := by rw [ex42]; decide
  subst ex42
  refine lv_iconst (v := 3) hx hb dX11_init_135 (by decide) ?_
  refine lv_iadd hx hb dX11_init_136 ?_
  refine lv_topi (fun x43 ex43 => ?_)
  have ex43 : x43 = 11 := by rw [ex43]; decide
  subst ex43
  refine lv_bipush (v := 20) hx hb dX11_init_137 (by decide) ?_
  refine tn_iast (i := o + 1) hx hb hk.1 hw (by omega) t1 (vin ⟨by decide, by decide⟩) dX11_init_139 (fun H locs hw => ?_)
  obtain ⟨E44, eE44⟩ : ∃ zz, zz = upE E41 (o + 1) (.inl (G.2.1.1, 32, .inl (upd (upd (upd (upd (upd (upd z0 2 (0 : Int32)) 3 (20 : Int32)) 4 (2 : Int32)) 5 (3 : Int32)) 10 (1 : Int32)) 11 (20 : Int32)))) := ⟨_, rfl⟩
  have hw : PE G.1 b E44 (o + 14) s H locs := by rw [eE44]; exact hw
  have hF : ∀ j, j < o → E44 j = E j := fun j hj => (show E44 j = E41 j by rw [eE44, upE_ne (by omega)]).trans (hF j hj)
  have tO : E44 (o) = .inr (10, [.ref (b + (o + 1)), .ref (b + (o + 2)), .ref (b + (o + 3)), .int 0, .ref (b + (o + 4)), .ref (b + (o + 5)), .ref (b + (o + 6)), .int 0, .ref (b + (o + 7)), .ref (b + (o + 8)), .ref (b + (o + 9)), .int 0, .ref (b + (o + 10)), .int 0, .int 0, .int 0, .int 0, .int 0, .int 0, .int 0, .ref (b + (o + 11)), .ref (b + (o + 12)), .ref (b + (o + 13)), .int 0, .int 0]) := by rw [eE44, upE_ne (by omega)]; exact tO
  have t2 : E44 (o + 2) = .inl (G.2.1.1, 256, .inl z0) := by rw [eE44, upE_ne (by omega)]; exact t2
  have t3 : E44 (o + 3) = .inl (G.2.1.1, 4, .inl z0) := by rw [eE44, upE_ne (by omega)]; exact t3
  have t4 : E44 (o + 4) = .inl (G.2.1.1, 64, .inl z0) := by rw [eE44, upE_ne (by omega)]; exact t4
  have t5 : E44 (o + 5) = .inl (G.2.1.1, 4, .inl z0) := by rw [eE44, upE_ne (by omega)]; exact t5
  have t6 : E44 (o + 6) = .inl (G.2.1.1, 40, .inl z0) := by rw [eE44, upE_ne (by omega)]; exact t6
  have t7 : E44 (o + 7) = .inl (G.2.1.1, 32, .inl z0) := by rw [eE44, upE_ne (by omega)]; exact t7
  have t8 : E44 (o + 8) = .inl (G.2.1.1, 256, .inl z0) := by rw [eE44, upE_ne (by omega)]; exact t8
  have t9 : E44 (o + 9) = .inl (G.2.1.1, 4, .inl z0) := by rw [eE44, upE_ne (by omega)]; exact t9
  have t10 : E44 (o + 10) = .inl (G.2.1.1, 74, .inl z0) := by rw [eE44, upE_ne (by omega)]; exact t10
  have t11 : E44 (o + 11) = .inl (G.2.1.1, 256, .inl z0) := by rw [eE44, upE_ne (by omega)]; exact t11
  have t12 : E44 (o + 12) = .inl (G.2.1.1, 800, .inl z0) := by rw [eE44, upE_ne (by omega)]; exact t12
  have t13 : E44 (o + 13) = .inl (G.2.1.2.1, 2, .inl z0) := by rw [eE44, upE_ne (by omega)]; exact t13
  have t1 : E44 (o + 1) = .inl (G.2.1.1, 32, .inl (upd (upd (upd (upd (upd (upd z0 2 (0 : Int32)) 3 (20 : Int32)) 4 (2 : Int32)) 5 (3 : Int32)) 10 (1 : Int32)) 11 (20 : Int32))) := by rw [eE44]; exact upE_at
  refine lv_aload_n hx hb dX11_init_140 rfl (lv_at hl 1 rfl) ?_
  refine tn_get (i := o) (ci := 10) (k := 0) (v := .ref (b + (o + 1))) hx hb hts hown hk.1 hw (by omega) tO rfl inlX11 (by decide) wd105 rfl dX11_init_141 ?_
  refine lv_bipush (v := 8) hx hb dX11_init_144 (by decide) ?_
  refine lv_iload_n hx hb dX11_init_146 rfl (lv_at hl 0 rfl) ?_
  refine lv_imul hx hb dX11_init_147 ?_
  refine lv_topi (fun x45 ex45 => ?_)
  have ex45 : x45 = 8 := by rw [ex45]; decide
  subst ex45
  refine lv_iconst (v := 4) hx hb dX11_init_148 (by decide) ?_
  refine lv_iadd hx hb dX11_init_149 ?_
  refine lv_topi (fun x46 ex46 => ?_)
  have ex46 : x46 = 12 := by rw [ex46]; decide
  subst ex46
  refine lv_iconst (v := 2) hx hb dX11_init_150 (by decide) ?_
  refine tn_iast (i := o + 1) hx hb hk.1 hw (by omega) t1 (vin ⟨by decide, by decide⟩) dX11_init_151 (fun H locs hw => ?_)
  obtain ⟨E47, eE47⟩ : ∃ zz, zz = upE E44 (o + 1) (.inl (G.2.1.1, 32, .inl (upd (upd (upd (upd (upd (upd (upd z0 2 (0 : Int32)) 3 (20 : Int32)) 4 (2 : Int32)) 5 (3 : Int32)) 10 (1 : Int32)) 11 (20 : Int32)) 12 (2 : Int32)))) := ⟨_, rfl⟩
  have hw : PE G.1 b E47 (o + 14) s H locs := by rw [eE47]; exact hw
  have hF : ∀ j, j < o → E47 j = E j := fun j hj => (show E47 j = E44 j by rw [eE47, upE_ne (by omega)]).trans (hF j hj)
  have tO : E47 (o) = .inr (10, [.ref (b + (o + 1)), .ref (b + (o + 2)), .ref (b + (o + 3)), .int 0, .ref (b + (o + 4)), .ref (b + (o + 5)), .ref (b + (o + 6)), .int 0, .ref (b + (o + 7)), .ref (b + (o + 8)), .ref (b + (o + 9)), .int 0, .ref (b + (o + 10)), .int 0, .int 0, .int 0, .int 0, .int 0, .int 0, .int 0, .ref (b + (o + 11)), .ref (b + (o + 12)), .ref (b + (o + 13)), .int 0, .int 0]) := by rw [eE47, upE_ne (by omega)]; exact tO
  have t2 : E47 (o + 2) = .inl (G.2.1.1, 256, .inl z0) := by rw [eE47, upE_ne (by omega)]; exact t2
  have t3 : E47 (o + 3) = .inl (G.2.1.1, 4, .inl z0) := by rw [eE47, upE_ne (by omega)]; exact t3
  have t4 : E47 (o + 4) = .inl (G.2.1.1, 64, .inl z0) := by rw [eE47, upE_ne (by omega)]; exact t4
  have t5 : E47 (o + 5) = .inl (G.2.1.1, 4, .inl z0) := by rw [eE47, upE_ne (by omega)]; exact t5
  have t6 : E47 (o + 6) = .inl (G.2.1.1, 40, .inl z0) := by rw [eE47, upE_ne (by omega)]; exact t6
  have t7 : E47 (o + 7) = .inl (G.2.1.1, 32, .inl z0) := by rw [eE47, upE_ne (by omega)]; exact t7
  have t8 : E47 (o + 8) = .inl (G.2.1.1, 256, .inl z0) := by rw [eE47, upE_ne (by omega)]; exact t8
  have t9 : E47 (o + 9) = .inl (G.2.1.1, 4, .inl z0) := by rw [eE47, upE_ne (by omega)]; exact t9
  have t10 : E47 (o + 10) = .inl (G.2.1.1, 74, .inl z0) := by rw [eE47, upE_ne (by omega)]; exact t10
  have t11 : E47 (o + 11) = .inl (G.2.1.1, 256, .inl z0) := by rw [eE47, upE_ne (by omega)]; exact t11
  have t12 : E47 (o + 12) = .inl (G.2.1.1, 800, .inl z0) := by rw [eE47, upE_ne (by omega)]; exact t12
  have t13 : E47 (o + 13) = .inl (G.2.1.2.1, 2, .inl z0) := by rw [eE47, upE_ne (by omega)]; exact t13
  have t1 : E47 (o + 1) = .inl (G.2.1.1, 32, .inl (upd (upd (upd (upd (upd (upd (upd z0 2 (0 : Int32)) 3 (20 : Int32)) 4 (2 : Int32)) 5 (3 : Int32)) 10 (1 : Int32)) 11 (20 : Int32)) 12 (2 : Int32))) := by rw [eE47]; exact upE_at
  refine lv_aload_n hx hb dX11_init_152 rfl (lv_at hl 1 rfl) ?_
  refine tn_get (i := o) (ci := 10) (k := 0) (v := .ref (b + (o + 1))) hx hb hts hown hk.1 hw (by omega) tO rfl inlX11 (by decide) wd105 rfl dX11_init_153 ?_
  refine lv_bipush (v := 8) hx hb dX11_init_156 (by decide) ?_
  refine lv_iload_n hx hb dX11_init_158 rfl (lv_at hl 0 rfl) ?_
  refine lv_imul hx hb dX11_init_159 ?_
  refine lv_topi (fun x48 ex48 => ?_)
  have ex48 : x48 = 8 := by rw [ex48]; decide
  subst ex48
  refine lv_iconst (v := 5) hx hb dX11_init_160 (by decide) ?_
  refine lv_iadd hx hb dX11_init_161 ?_
  refine lv_topi (fun x49 ex49 => ?_)
  have ex49 : x49 = 13 := by rw [ex49]; decide
  subst ex49
  refine lv_iconst (v := 3) hx hb dX11_init_162 (by decide) ?_
  refine tn_iast (i := o + 1) hx hb hk.1 hw (by omega) t1 (vin ⟨by decide, by decide⟩) dX11_init_163 (fun H locs hw => ?_)
  obtain ⟨E50, eE50⟩ : ∃ zz, zz = upE E47 (o + 1) (.inl (G.2.1.1, 32, .inl (upd (upd (upd (upd (upd (upd (upd (upd z0 2 (0 : Int32)) 3 (20 : Int32)) 4 (2 : Int32)) 5 (3 : Int32)) 10 (1 : Int32)) 11 (20 : Int32)) 12 (2 : Int32)) 13 (3 : Int32)))) := ⟨_, rfl⟩
  have hw : PE G.1 b E50 (o + 14) s H locs := by rw [eE50]; exact hw
  have hF : ∀ j, j < o → E50 j = E j := fun j hj => (show E50 j = E47 j by rw [eE50, upE_ne (by omega)]).trans (hF j hj)
  have tO : E50 (o) = .inr (10, [.ref (b + (o + 1)), .ref (b + (o + 2)), .ref (b + (o + 3)), .int 0, .ref (b + (o + 4)), .ref (b + (o + 5)), .ref (b + (o + 6)), .int 0, .ref (b + (o + 7)), .ref (b + (o + 8)), .ref (b + (o + 9)), .int 0, .ref (b + (o + 10)), .int 0, .int 0, .int 0, .int 0, .int 0, .int 0, .int 0, .ref (b + (o + 11)), .ref (b + (o + 12)), .ref (b + (o + 13)), .int 0, .int 0]) := by rw [eE50, upE_ne (by omega)]; exact tO
  have t2 : E50 (o + 2) = .inl (G.2.1.1, 256, .inl z0) := by rw [eE50, upE_ne (by omega)]; exact t2
  have t3 : E50 (o + 3) = .inl (G.2.1.1, 4, .inl z0) := by rw [eE50, upE_ne (by omega)]; exact t3
  have t4 : E50 (o + 4) = .inl (G.2.1.1, 64, .inl z0) := by rw [eE50, upE_ne (by omega)]; exact t4
  have t5 : E50 (o + 5) = .inl (G.2.1.1, 4, .inl z0) := by rw [eE50, upE_ne (by omega)]; exact t5
  have t6 : E50 (o + 6) = .inl (G.2.1.1, 40, .inl z0) := by rw [eE50, upE_ne (by omega)]; exact t6
  have t7 : E50 (o + 7) = .inl (G.2.1.1, 32, .inl z0) := by rw [eE50, upE_ne (by omega)]; exact t7
  have t8 : E50 (o + 8) = .inl (G.2.1.1, 256, .inl z0) := by rw [eE50, upE_ne (by omega)]; exact t8
  have t9 : E50 (o + 9) = .inl (G.2.1.1, 4, .inl z0) := by rw [eE50, upE_ne (by omega)]; exact t9
  have t10 : E50 (o + 10) = .inl (G.2.1.1, 74, .inl z0) := by rw [eE50, upE_ne (by omega)]; exact t10
  have t11 : E50 (o + 11) = .inl (G.2.1.1, 256, .inl z0) := by rw [eE50, upE_ne (by omega)]; exact t11
  have t12 : E50 (o + 12) = .inl (G.2.1.1, 800, .inl z0) := by rw [eE50, upE_ne (by omega)]; exact t12
  have t13 : E50 (o + 13) = .inl (G.2.1.2.1, 2, .inl z0) := by rw [eE50, upE_ne (by omega)]; exact t13
  have t1 : E50 (o + 1) = .inl (G.2.1.1, 32, .inl (upd (upd (upd (upd (upd (upd (upd (upd z0 2 (0 : Int32)) 3 (20 : Int32)) 4 (2 : Int32)) 5 (3 : Int32)) 10 (1 : Int32)) 11 (20 : Int32)) 12 (2 : Int32)) 13 (3 : Int32))) := by rw [eE50]; exact upE_at
  refine lv_iinc (v := 2) (lv' := [(1, .int (2 : Int32)), (0, .ref (b + (o)))]) hx hb dX11_init_164 hl (k := 0) rfl (by decide) (by decide) rfl (fun ls hl => ?_)
  refine lv_goto (tgt := 110) hx hb dX11_init_167 (by decide) ?_
  refine lv_iload_n hx hb dX11_init_110 rfl (lv_at hl 0 rfl) ?_
  refine lv_iconst (v := 4) hx hb dX11_init_111 (by decide) ?_
  refine lv_icmp_ge (tgt := 170) hx hb dX11_init_112 (by decide) (fun c112 => ?_) (fun c112 => ?_)
  · exact absurd c112 (by decide)
  refine lv_aload_n hx hb dX11_init_115 rfl (lv_at hl 1 rfl) ?_
  refine tn_get (i := o) (ci := 10) (k := 0) (v := .ref (b + (o + 1))) hx hb hts hown hk.1 hw (by omega) tO rfl inlX11 (by decide) wd105 rfl dX11_init_116 ?_
  refine lv_bipush (v := 8) hx hb dX11_init_119 (by decide) ?_
  refine lv_iload_n hx hb dX11_init_121 rfl (lv_at hl 0 rfl) ?_
  refine lv_imul hx hb dX11_init_122 ?_
  refine lv_topi (fun x51 ex51 => ?_)
  have ex51 : x51 = 16 := by rw [ex51]; decide
  subst ex51
  refine lv_iconst (v := 2) hx hb dX11_init_123 (by decide) ?_
  refine lv_iadd hx hb dX11_init_124 ?_
  refine lv_topi (fun x52 ex52 => ?_)
  have ex52 : x52 = 18 := by rw [ex52]; decide
  subst ex52
  refine lv_iload_n hx hb dX11_init_125 rfl (lv_at hl 0 rfl) ?_
  refine tn_iast (i := o + 1) hx hb hk.1 hw (by omega) t1 (vin ⟨by decide, by decide⟩) dX11_init_126 (fun H locs hw => ?_)
  obtain ⟨E53, eE53⟩ : ∃ zz, zz = upE E50 (o + 1) (.inl (G.2.1.1, 32, .inl (upd (upd (upd (upd (upd (upd (upd (upd (upd z0 2 (0 : Int32)) 3 (20 : Int32)) 4 (2 : Int32)) 5 (3 : Int32)) 10 (1 : Int32)) 11 (20 : Int32)) 12 (2 : Int32)) 13 (3 : Int32)) 18 (2 : Int32)))) := ⟨_, rfl⟩
  have hw : PE G.1 b E53 (o + 14) s H locs := by rw [eE53]; exact hw
  have hF : ∀ j, j < o → E53 j = E j := fun j hj => (show E53 j = E50 j by rw [eE53, upE_ne (by omega)]).trans (hF j hj)
  have tO : E53 (o) = .inr (10, [.ref (b + (o + 1)), .ref (b + (o + 2)), .ref (b + (o + 3)), .int 0, .ref (b + (o + 4)), .ref (b + (o + 5)), .ref (b + (o + 6)), .int 0, .ref (b + (o + 7)), .ref (b + (o + 8)), .ref (b + (o + 9)), .int 0, .ref (b + (o + 10)), .int 0, .int 0, .int 0, .int 0, .int 0, .int 0, .int 0, .ref (b + (o + 11)), .ref (b + (o + 12)), .ref (b + (o + 13)), .int 0, .int 0]) := by rw [eE53, upE_ne (by omega)]; exact tO
  have t2 : E53 (o + 2) = .inl (G.2.1.1, 256, .inl z0) := by rw [eE53, upE_ne (by omega)]; exact t2
  have t3 : E53 (o + 3) = .inl (G.2.1.1, 4, .inl z0) := by rw [eE53, upE_ne (by omega)]; exact t3
  have t4 : E53 (o + 4) = .inl (G.2.1.1, 64, .inl z0) := by rw [eE53, upE_ne (by omega)]; exact t4
  have t5 : E53 (o + 5) = .inl (G.2.1.1, 4, .inl z0) := by rw [eE53, upE_ne (by omega)]; exact t5
  have t6 : E53 (o + 6) = .inl (G.2.1.1, 40, .inl z0) := by rw [eE53, upE_ne (by omega)]; exact t6
  have t7 : E53 (o + 7) = .inl (G.2.1.1, 32, .inl z0) := by rw [eE53, upE_ne (by omega)]; exact t7
  have t8 : E53 (o + 8) = .inl (G.2.1.1, 256, .inl z0) := by rw [eE53, upE_ne (by omega)]; exact t8
  have t9 : E53 (o + 9) = .inl (G.2.1.1, 4, .inl z0) := by rw [eE53, upE_ne (by omega)]; exact t9
  have t10 : E53 (o + 10) = .inl (G.2.1.1, 74, .inl z0) := by rw [eE53, upE_ne (by omega)]; exact t10
  have t11 : E53 (o + 11) = .inl (G.2.1.1, 256, .inl z0) := by rw [eE53, upE_ne (by omega)]; exact t11
  have t12 : E53 (o + 12) = .inl (G.2.1.1, 800, .inl z0) := by rw [eE53, upE_ne (by omega)]; exact t12
  have t13 : E53 (o + 13) = .inl (G.2.1.2.1, 2, .inl z0) := by rw [eE53, upE_ne (by omega)]; exact t13
  have t1 : E53 (o + 1) = .inl (G.2.1.1, 32, .inl (upd (upd (upd (upd (upd (upd (upd (upd (upd z0 2 (0 : Int32)) 3 (20 : Int32)) 4 (2 : Int32)) 5 (3 : Int32)) 10 (1 : Int32)) 11 (20 : Int32)) 12 (2 : Int32)) 13 (3 : Int32)) 18 (2 : Int32))) := by rw [eE53]; exact upE_at
  refine lv_aload_n hx hb dX11_init_127 rfl (lv_at hl 1 rfl) ?_
  refine tn_get (i := o) (ci := 10) (k := 0) (v := .ref (b + (o + 1))) hx hb hts hown hk.1 hw (by omega) tO rfl inlX11 (by decide) wd105 rfl dX11_init_128 ?_
  refine lv_bipush (v := 8) hx hb dX11_init_131 (by decide) ?_
  refine lv_iload_n hx hb dX11_init_133 rfl (lv_at hl 0 rfl) ?_
  refine lv_imul hx hb dX11_init_134 ?_
  refine lv_topi (fun x54 ex54 => ?_)
  have ex54 : x54 = 16 := by rw [ex54]; decide
  subst ex54
  refine lv_iconst (v := 3) hx hb dX11_init_135 (by decide) ?_
  refine lv_iadd hx hb dX11_init_136 ?_
  refine lv_topi (fun x55 ex55 => ?_)
  have ex55 : x55 = 19 := by rw [ex55]; decide
  subst ex55
  refine lv_bipush (v := 20) hx hb dX11_init_137 (by decide) ?_
  refine tn_iast (i := o + 1) hx hb hk.1 hw (by omega) t1 (vin ⟨by decide, by decide⟩) dX11_init_139 (fun H locs hw => ?_)
  obtain ⟨E56, eE56⟩ : ∃ zz, zz = upE E53 (o + 1) (.inl (G.2.1.1, 32, .inl (upd (upd (upd (upd (upd (upd (upd (upd (upd (upd z0 2 (0 : Int32)) 3 (20 : Int32)) 4 (2 : Int32)) 5 (3 : Int32)) 10 (1 : Int32)) 11 (20 : Int32)) 12 (2 : Int32)) 13 (3 : Int32)) 18 (2 : Int32)) 19 (20 : Int32)))) := ⟨_, rfl⟩
  have hw : PE G.1 b E56 (o + 14) s H locs := by rw [eE56]; exact hw
  have hF : ∀ j, j < o → E56 j = E j := fun j hj => (show E56 j = E53 j by rw [eE56, upE_ne (by omega)]).trans (hF j hj)
  have tO : E56 (o) = .inr (10, [.ref (b + (o + 1)), .ref (b + (o + 2)), .ref (b + (o + 3)), .int 0, .ref (b + (o + 4)), .ref (b + (o + 5)), .ref (b + (o + 6)), .int 0, .ref (b + (o + 7)), .ref (b + (o + 8)), .ref (b + (o + 9)), .int 0, .ref (b + (o + 10)), .int 0, .int 0, .int 0, .int 0, .int 0, .int 0, .int 0, .ref (b + (o + 11)), .ref (b + (o + 12)), .ref (b + (o + 13)), .int 0, .int 0]) := by rw [eE56, upE_ne (by omega)]; exact tO
  have t2 : E56 (o + 2) = .inl (G.2.1.1, 256, .inl z0) := by rw [eE56, upE_ne (by omega)]; exact t2
  have t3 : E56 (o + 3) = .inl (G.2.1.1, 4, .inl z0) := by rw [eE56, upE_ne (by omega)]; exact t3
  have t4 : E56 (o + 4) = .inl (G.2.1.1, 64, .inl z0) := by rw [eE56, upE_ne (by omega)]; exact t4
  have t5 : E56 (o + 5) = .inl (G.2.1.1, 4, .inl z0) := by rw [eE56, upE_ne (by omega)]; exact t5
  have t6 : E56 (o + 6) = .inl (G.2.1.1, 40, .inl z0) := by rw [eE56, upE_ne (by omega)]; exact t6
  have t7 : E56 (o + 7) = .inl (G.2.1.1, 32, .inl z0) := by rw [eE56, upE_ne (by omega)]; exact t7
  have t8 : E56 (o + 8) = .inl (G.2.1.1, 256, .inl z0) := by rw [eE56, upE_ne (by omega)]; exact t8
  have t9 : E56 (o + 9) = .inl (G.2.1.1, 4, .inl z0) := by rw [eE56, upE_ne (by omega)]; exact t9
  have t10 : E56 (o + 10) = .inl (G.2.1.1, 74, .inl z0) := by rw [eE56, upE_ne (by omega)]; exact t10
  have t11 : E56 (o + 11) = .inl (G.2.1.1, 256, .inl z0) := by rw [eE56, upE_ne (by omega)]; exact t11
  have t12 : E56 (o + 12) = .inl (G.2.1.1, 800, .inl z0) := by rw [eE56, upE_ne (by omega)]; exact t12
  have t13 : E56 (o + 13) = .inl (G.2.1.2.1, 2, .inl z0) := by rw [eE56, upE_ne (by omega)]; exact t13
  have t1 : E56 (o + 1) = .inl (G.2.1.1, 32, .inl (upd (upd (upd (upd (upd (upd (upd (upd (upd (upd z0 2 (0 : Int32)) 3 (20 : Int32)) 4 (2 : Int32)) 5 (3 : Int32)) 10 (1 : Int32)) 11 (20 : Int32)) 12 (2 : Int32)) 13 (3 : Int32)) 18 (2 : Int32)) 19 (20 : Int32))) := by rw [eE56]; exact upE_at
  refine lv_aload_n hx hb dX11_init_140 rfl (lv_at hl 1 rfl) ?_
  refine tn_get (i := o) (ci := 10) (k := 0) (v := .ref (b + (o + 1))) hx hb hts hown hk.1 hw (by omega) tO rfl inlX11 (by decide) wd105 rfl dX11_init_141 ?_
  refine lv_bipush (v := 8) hx hb dX11_init_144 (by decide) ?_
  refine lv_iload_n hx hb dX11_init_146 rfl (lv_at hl 0 rfl) ?_
  refine lv_imul hx hb dX11_init_147 ?_
  refine lv_topi (fun x57 ex57 => ?_)
  have ex57 : x57 = 16 := by rw [ex57]; decide
  subst ex57
  refine lv_iconst (v := 4) hx hb dX11_init_148 (by decide) ?_
  refine lv_iadd hx hb dX11_init_149 ?_
  refine lv_topi (fun x58 ex58 => ?_)
  have ex58 : x58 = 20 := by rw [ex58]; decide
  subst ex58
  refine lv_iconst (v := 2) hx hb dX11_init_150 (by decide) ?_
  refine tn_iast (i := o + 1) hx hb hk.1 hw (by omega) t1 (vin ⟨by decide, by decide⟩) dX11_init_151 (fun H locs hw => ?_)
  obtain ⟨E59, eE59⟩ : ∃ zz, zz = upE E56 (o + 1) (.inl (G.2.1.1, 32, .inl (upd (upd (upd (upd (upd (upd (upd (upd (upd (upd (upd z0 2 (0 : Int32)) 3 (20 : Int32)) 4 (2 : Int32)) 5 (3 : Int32)) 10 (1 : Int32)) 11 (20 : Int32)) 12 (2 : Int32)) 13 (3 : Int32)) 18 (2 : Int32)) 19 (20 : Int32)) 20 (2 : Int32)))) := ⟨_, rfl⟩
  have hw : PE G.1 b E59 (o + 14) s H locs := by rw [eE59]; exact hw
  have hF : ∀ j, j < o → E59 j = E j := fun j hj => (show E59 j = E56 j by rw [eE59, upE_ne (by omega)]).trans (hF j hj)
  have tO : E59 (o) = .inr (10, [.ref (b + (o + 1)), .ref (b + (o + 2)), .ref (b + (o + 3)), .int 0, .ref (b + (o + 4)), .ref (b + (o + 5)), .ref (b + (o + 6)), .int 0, .ref (b + (o + 7)), .ref (b + (o + 8)), .ref (b + (o + 9)), .int 0, .ref (b + (o + 10)), .int 0, .int 0, .int 0, .int 0, .int 0, .int 0, .int 0, .ref (b + (o + 11)), .ref (b + (o + 12)), .ref (b + (o + 13)), .int 0, .int 0]) := by rw [eE59, upE_ne (by omega)]; exact tO
  have t2 : E59 (o + 2) = .inl (G.2.1.1, 256, .inl z0) := by rw [eE59, upE_ne (by omega)]; exact t2
  have t3 : E59 (o + 3) = .inl (G.2.1.1, 4, .inl z0) := by rw [eE59, upE_ne (by omega)]; exact t3
  have t4 : E59 (o + 4) = .inl (G.2.1.1, 64, .inl z0) := by rw [eE59, upE_ne (by omega)]; exact t4
  have t5 : E59 (o + 5) = .inl (G.2.1.1, 4, .inl z0) := by rw [eE59, upE_ne (by omega)]; exact t5
  have t6 : E59 (o + 6) = .inl (G.2.1.1, 40, .inl z0) := by rw [eE59, upE_ne (by omega)]; exact t6
  have t7 : E59 (o + 7) = .inl (G.2.1.1, 32, .inl z0) := by rw [eE59, upE_ne (by omega)]; exact t7
  have t8 : E59 (o + 8) = .inl (G.2.1.1, 256, .inl z0) := by rw [eE59, upE_ne (by omega)]; exact t8
  have t9 : E59 (o + 9) = .inl (G.2.1.1, 4, .inl z0) := by rw [eE59, upE_ne (by omega)]; exact t9
  have t10 : E59 (o + 10) = .inl (G.2.1.1, 74, .inl z0) := by rw [eE59, upE_ne (by omega)]; exact t10
  have t11 : E59 (o + 11) = .inl (G.2.1.1, 256, .inl z0) := by rw [eE59, upE_ne (by omega)]; exact t11
  have t12 : E59 (o + 12) = .inl (G.2.1.1, 800, .inl z0) := by rw [eE59, upE_ne (by omega)]; exact t12
  have t13 : E59 (o + 13) = .inl (G.2.1.2.1, 2, .inl z0) := by rw [eE59, upE_ne (by omega)]; exact t13
  have t1 : E59 (o + 1) = .inl (G.2.1.1, 32, .inl (upd (upd (upd (upd (upd (upd (upd (upd (upd (upd (upd z0 2 (0 : Int32)) 3 (20 : Int32)) 4 (2 : Int32)) 5 (3 : Int32)) 10 (1 : Int32)) 11 (20 : Int32)) 12 (2 : Int32)) 13 (3 : Int32)) 18 (2 : Int32)) 19 (20 : Int32)) 20 (2 : Int32))) := by rw [eE59]; exact upE_at
  refine lv_aload_n hx hb dX11_init_152 rfl (lv_at hl 1 rfl) ?_
  refine tn_get (i := o) (ci := 10) (k := 0) (v := .ref (b + (o + 1))) hx hb hts hown hk.1 hw (by omega) tO rfl inlX11 (by decide) wd105 rfl dX11_init_153 ?_
  refine lv_bipush (v := 8) hx hb dX11_init_156 (by decide) ?_
  refine lv_iload_n hx hb dX11_init_158 rfl (lv_at hl 0 rfl) ?_
  refine lv_imul hx hb dX11_init_159 ?_
  refine lv_topi (fun x60 ex60 => ?_)
  have ex60 : x60 = 16 := by rw [ex60]; decide
  subst ex60
  refine lv_iconst (v := 5) hx hb dX11_init_160 (by decide) ?_
  refine lv_iadd hx hb dX11_init_161 ?_
  refine lv_topi (fun x61 ex61 => ?_)
  have ex61 : x61 = 21 := by rw [ex61]; decide
  subst ex61
  refine lv_iconst (v := 3) hx hb dX11_init_162 (by decide) ?_
  refine tn_iast (i := o + 1) hx hb hk.1 hw (by omega) t1 (vin ⟨by decide, by decide⟩) dX11_init_163 (fun H locs hw => ?_)
  obtain ⟨E62, eE62⟩ : ∃ zz, zz = upE E59 (o + 1) (.inl (G.2.1.1, 32, .inl (upd (upd (upd (upd (upd (upd (upd (upd (upd (upd (upd (upd z0 2 (0 : Int32)) 3 (20 : Int32)) 4 (2 : Int32)) 5 (3 : Int32)) 10 (1 : Int32)) 11 (20 : Int32)) 12 (2 : Int32)) 13 (3 : Int32)) 18 (2 : Int32)) 19 (20 : Int32)) 20 (2 : Int32)) 21 (3 : Int32)))) := ⟨_, rfl⟩
  have hw : PE G.1 b E62 (o + 14) s H locs := by rw [eE62]; exact hw
  have hF : ∀ j, j < o → E62 j = E j := fun j hj => (show E62 j = E59 j by rw [eE62, upE_ne (by omega)]).trans (hF j hj)
  have tO : E62 (o) = .inr (10, [.ref (b + (o + 1)), .ref (b + (o + 2)), .ref (b + (o + 3)), .int 0, .ref (b + (o + 4)), .ref (b + (o + 5)), .ref (b + (o + 6)), .int 0, .ref (b + (o + 7)), .ref (b + (o + 8)), .ref (b + (o + 9)), .int 0, .ref (b + (o + 10)), .int 0, .int 0, .int 0, .int 0, .int 0, .int 0, .int 0, .ref (b + (o + 11)), .ref (b + (o + 12)), .ref (b + (o + 13)), .int 0, .int 0]) := by rw [eE62, upE_ne (by omega)]; exact tO
  have t2 : E62 (o + 2) = .inl (G.2.1.1, 256, .inl z0) := by rw [eE62, upE_ne (by omega)]; exact t2
  have t3 : E62 (o + 3) = .inl (G.2.1.1, 4, .inl z0) := by rw [eE62, upE_ne (by omega)]; exact t3
  have t4 : E62 (o + 4) = .inl (G.2.1.1, 64, .inl z0) := by rw [eE62, upE_ne (by omega)]; exact t4
  have t5 : E62 (o + 5) = .inl (G.2.1.1, 4, .inl z0) := by rw [eE62, upE_ne (by omega)]; exact t5
  have t6 : E62 (o + 6) = .inl (G.2.1.1, 40, .inl z0) := by rw [eE62, upE_ne (by omega)]; exact t6
  have t7 : E62 (o + 7) = .inl (G.2.1.1, 32, .inl z0) := by rw [eE62, upE_ne (by omega)]; exact t7
  have t8 : E62 (o + 8) = .inl (G.2.1.1, 256, .inl z0) := by rw [eE62, upE_ne (by omega)]; exact t8
  have t9 : E62 (o + 9) = .inl (G.2.1.1, 4, .inl z0) := by rw [eE62, upE_ne (by omega)]; exact t9
  have t10 : E62 (o + 10) = .inl (G.2.1.1, 74, .inl z0) := by rw [eE62, upE_ne (by omega)]; exact t10
  have t11 : E62 (o + 11) = .inl (G.2.1.1, 256, .inl z0) := by rw [eE62, upE_ne (by omega)]; exact t11
  have t12 : E62 (o + 12) = .inl (G.2.1.1, 800, .inl z0) := by rw [eE62, upE_ne (by omega)]; exact t12
  have t13 : E62 (o + 13) = .inl (G.2.1.2.1, 2, .inl z0) := by rw [eE62, upE_ne (by omega)]; exact t13
  have t1 : E62 (o + 1) = .inl (G.2.1.1, 32, .inl (upd (upd (upd (upd (upd (upd (upd (upd (upd (upd (upd (upd z0 2 (0 : Int32)) 3 (20 : Int32)) 4 (2 : Int32)) 5 (3 : Int32)) 10 (1 : Int32)) 11 (20 : Int32)) 12 (2 : Int32)) 13 (3 : Int32)) 18 (2 : Int32)) 19 (20 : Int32)) 20 (2 : Int32)) 21 (3 : Int32))) := by rw [eE62]; exact upE_at
  refine lv_iinc (v := 3) (lv' := [(1, .int (3 : Int32)), (0, .ref (b + (o)))]) hx hb dX11_init_164 hl (k := 0) rfl (by decide) (by decide) rfl (fun ls hl => ?_)
  refine lv_goto (tgt := 110) hx hb dX11_init_167 (by decide) ?_
  refine lv_iload_n hx hb dX11_init_110 rfl (lv_at hl 0 rfl) ?_
  refine lv_iconst (v := 4) hx hb dX11_init_111 (by decide) ?_
  refine lv_icmp_ge (tgt := 170) hx hb dX11_init_112 (by decide) (fun c112 => ?_) (fun c112 => ?_)
  · exact absurd c112 (by decide)
  refine lv_aload_n hx hb dX11_init_115 rfl (lv_at hl 1 rfl) ?_
  refine tn_get (i := o) (ci := 10) (k := 0) (v := .ref (b + (o + 1))) hx hb hts hown hk.1 hw (by omega) tO rfl inlX11 (by decide) wd105 rfl dX11_init_116 ?_
  refine lv_bipush (v := 8) hx hb dX11_init_119 (by decide) ?_
  refine lv_iload_n hx hb dX11_init_121 rfl (lv_at hl 0 rfl) ?_
  refine lv_imul hx hb dX11_init_122 ?_
  refine lv_topi (fun x63 ex63 => ?_)
  have ex63 : x63 = 24 := by rw [ex63]; decide
  subst ex63
  refine lv_iconst (v := 2) hx hb dX11_init_123 (by decide) ?_
  refine lv_iadd hx hb dX11_init_124 ?_
  refine lv_topi (fun x64 ex64 => ?_)
  have ex64 : x64 = 26 := by rw [ex64]; decide
  subst ex64
  refine lv_iload_n hx hb dX11_init_125 rfl (lv_at hl 0 rfl) ?_
  refine tn_iast (i := o + 1) hx hb hk.1 hw (by omega) t1 (vin ⟨by decide, by decide⟩) dX11_init_126 (fun H locs hw => ?_)
  obtain ⟨E65, eE65⟩ : ∃ zz, zz = upE E62 (o + 1) (.inl (G.2.1.1, 32, .inl (upd (upd (upd (upd (upd (upd (upd (upd (upd (upd (upd (upd (upd z0 2 (0 : Int32)) 3 (20 : Int32)) 4 (2 : Int32)) 5 (3 : Int32)) 10 (1 : Int32)) 11 (20 : Int32)) 12 (2 : Int32)) 13 (3 : Int32)) 18 (2 : Int32)) 19 (20 : Int32)) 20 (2 : Int32)) 21 (3 : Int32)) 26 (3 : Int32)))) := ⟨_, rfl⟩
  have hw : PE G.1 b E65 (o + 14) s H locs := by rw [eE65]; exact hw
  have hF : ∀ j, j < o → E65 j = E j := fun j hj => (show E65 j = E62 j by rw [eE65, upE_ne (by omega)]).trans (hF j hj)
  have tO : E65 (o) = .inr (10, [.ref (b + (o + 1)), .ref (b + (o + 2)), .ref (b + (o + 3)), .int 0, .ref (b + (o + 4)), .ref (b + (o + 5)), .ref (b + (o + 6)), .int 0, .ref (b + (o + 7)), .ref (b + (o + 8)), .ref (b + (o + 9)), .int 0, .ref (b + (o + 10)), .int 0, .int 0, .int 0, .int 0, .int 0, .int 0, .int 0, .ref (b + (o + 11)), .ref (b + (o + 12)), .ref (b + (o + 13)), .int 0, .int 0]) := by rw [eE65, upE_ne (by omega)]; exact tO
  have t2 : E65 (o + 2) = .inl (G.2.1.1, 256, .inl z0) := by rw [eE65, upE_ne (by omega)]; exact t2
  have t3 : E65 (o + 3) = .inl (G.2.1.1, 4, .inl z0) := by rw [eE65, upE_ne (by omega)]; exact t3
  have t4 : E65 (o + 4) = .inl (G.2.1.1, 64, .inl z0) := by rw [eE65, upE_ne (by omega)]; exact t4
  have t5 : E65 (o + 5) = .inl (G.2.1.1, 4, .inl z0) := by rw [eE65, upE_ne (by omega)]; exact t5
  have t6 : E65 (o + 6) = .inl (G.2.1.1, 40, .inl z0) := by rw [eE65, upE_ne (by omega)]; exact t6
  have t7 : E65 (o + 7) = .inl (G.2.1.1, 32, .inl z0) := by rw [eE65, upE_ne (by omega)]; exact t7
  have t8 : E65 (o + 8) = .inl (G.2.1.1, 256, .inl z0) := by rw [eE65, upE_ne (by omega)]; exact t8
  have t9 : E65 (o + 9) = .inl (G.2.1.1, 4, .inl z0) := by rw [eE65, upE_ne (by omega)]; exact t9
  have t10 : E65 (o + 10) = .inl (G.2.1.1, 74, .inl z0) := by rw [eE65, upE_ne (by omega)]; exact t10
  have t11 : E65 (o + 11) = .inl (G.2.1.1, 256, .inl z0) := by rw [eE65, upE_ne (by omega)]; exact t11
  have t12 : E65 (o + 12) = .inl (G.2.1.1, 800, .inl z0) := by rw [eE65, upE_ne (by omega)]; exact t12
  have t13 : E65 (o + 13) = .inl (G.2.1.2.1, 2, .inl z0) := by rw [eE65, upE_ne (by omega)]; exact t13
  have t1 : E65 (o + 1) = .inl (G.2.1.1, 32, .inl (upd (upd (upd (upd (upd (upd (upd (upd (upd (upd (upd (upd (upd z0 2 (0 : Int32)) 3 (20 : Int32)) 4 (2 : Int32)) 5 (3 : Int32)) 10 (1 : Int32)) 11 (20 : Int32)) 12 (2 : Int32)) 13 (3 : Int32)) 18 (2 : Int32)) 19 (20 : Int32)) 20 (2 : Int32)) 21 (3 : Int32)) 26 (3 : Int32))) := by rw [eE65]; exact upE_at
  refine lv_aload_n hx hb dX11_init_127 rfl (lv_at hl 1 rfl) ?_
  refine tn_get (i := o) (ci := 10) (k := 0) (v := .ref (b + (o + 1))) hx hb hts hown hk.1 hw (by omega) tO rfl inlX11 (by decide) wd105 rfl dX11_init_128 ?_
  refine lv_bipush (v := 8) hx hb dX11_init_131 (by decide) ?_
  refine lv_iload_n hx hb dX11_init_133 rfl (lv_at hl 0 rfl) ?_
  refine lv_imul hx hb dX11_init_134 ?_
  refine lv_topi (fun x66 ex66 => ?_)
  have ex66 : x66 = 24 := by rw [ex66]; decide
  subst ex66
  refine lv_iconst (v := 3) hx hb dX11_init_135 (by decide) ?_
  refine lv_iadd hx hb dX11_init_136 ?_
  refine lv_topi (fun x67 ex67 => ?_)
  have ex67 : x67 = 27 := by rw [ex67]; decide
  subst ex67
  refine lv_bipush (v := 20) hx hb dX11_init_137 (by decide) ?_
  refine tn_iast (i := o + 1) hx hb hk.1 hw (by omega) t1 (vin ⟨by decide, by decide⟩) dX11_init_139 (fun H locs hw => ?_)
  obtain ⟨E68, eE68⟩ : ∃ zz, zz = upE E65 (o + 1) (.inl (G.2.1.1, 32, .inl (upd (upd (upd (upd (upd (upd (upd (upd (upd (upd (upd (upd (upd (upd z0 2 (0 : Int32)) 3 (20 : Int32)) 4 (2 : Int32)) 5 (3 : Int32)) 10 (1 : Int32)) 11 (20 : Int32)) 12 (2 : Int32)) 13 (3 : Int32)) 18 (2 : Int32)) 19 (20 : Int32)) 20 (2 : Int32)) 21 (3 : Int32)) 26 (3 : Int32)) 27 (20 : Int32)))) := ⟨_, rfl⟩
  have hw : PE G.1 b E68 (o + 14) s H locs := by rw [eE68]; exact hw
  have hF : ∀ j, j < o → E68 j = E j := fun j hj => (show E68 j = E65 j by rw [eE68, upE_ne (by omega)]).trans (hF j hj)
  have tO : E68 (o) = .inr (10, [.ref (b + (o + 1)), .ref (b + (o + 2)), .ref (b + (o + 3)), .int 0, .ref (b + (o + 4)), .ref (b + (o + 5)), .ref (b + (o + 6)), .int 0, .ref (b + (o + 7)), .ref (b + (o + 8)), .ref (b + (o + 9)), .int 0, .ref (b + (o + 10)), .int 0, .int 0, .int 0, .int 0, .int 0, .int 0, .int 0, .ref (b + (o + 11)), .ref (b + (o + 12)), .ref (b + (o + 13)), .int 0, .int 0]) := by rw [eE68, upE_ne (by omega)]; exact tO
  have t2 : E68 (o + 2) = .inl (G.2.1.1, 256, .inl z0) := by rw [eE68, upE_ne (by omega)]; exact t2
  have t3 : E68 (o + 3) = .inl (G.2.1.1, 4, .inl z0) := by rw [eE68, upE_ne (by omega)]; exact t3
  have t4 : E68 (o + 4) = .inl (G.2.1.1, 64, .inl z0) := by rw [eE68, upE_ne (by omega)]; exact t4
  have t5 : E68 (o + 5) = .inl (G.2.1.1, 4, .inl z0) := by rw [eE68, upE_ne (by omega)]; exact t5
  have t6 : E68 (o + 6) = .inl (G.2.1.1, 40, .inl z0) := by rw [eE68, upE_ne (by omega)]; exact t6
  have t7 : E68 (o + 7) = .inl (G.2.1.1, 32, .inl z0) := by rw [eE68, upE_ne (by omega)]; exact t7
  have t8 : E68 (o + 8) = .inl (G.2.1.1, 256, .inl z0) := by rw [eE68, upE_ne (by omega)]; exact t8
  have t9 : E68 (o + 9) = .inl (G.2.1.1, 4, .inl z0) := by rw [eE68, upE_ne (by omega)]; exact t9
  have t10 : E68 (o + 10) = .inl (G.2.1.1, 74, .inl z0) := by rw [eE68, upE_ne (by omega)]; exact t10
  have t11 : E68 (o + 11) = .inl (G.2.1.1, 256, .inl z0) := by rw [eE68, upE_ne (by omega)]; exact t11
  have t12 : E68 (o + 12) = .inl (G.2.1.1, 800, .inl z0) := by rw [eE68, upE_ne (by omega)]; exact t12
  have t13 : E68 (o + 13) = .inl (G.2.1.2.1, 2, .inl z0) := by rw [eE68, upE_ne (by omega)]; exact t13
  have t1 : E68 (o + 1) = .inl (G.2.1.1, 32, .inl (upd (upd (upd (upd (upd (upd (upd (upd (upd (upd (upd (upd (upd (upd z0 2 (0 : Int32)) 3 (20 : Int32)) 4 (2 : Int32)) 5 (3 : Int32)) 10 (1 : Int32)) 11 (20 : Int32)) 12 (2 : Int32)) 13 (3 : Int32)) 18 (2 : Int32)) 19 (20 : Int32)) 20 (2 : Int32)) 21 (3 : Int32)) 26 (3 : Int32)) 27 (20 : Int32))) := by rw [eE68]; exact upE_at
  refine lv_aload_n hx hb dX11_init_140 rfl (lv_at hl 1 rfl) ?_
  refine tn_get (i := o) (ci := 10) (k := 0) (v := .ref (b + (o + 1))) hx hb hts hown hk.1 hw (by omega) tO rfl inlX11 (by decide) wd105 rfl dX11_init_141 ?_
  refine lv_bipush (v := 8) hx hb dX11_init_144 (by decide) ?_
  refine lv_iload_n hx hb dX11_init_146 rfl (lv_at hl 0 rfl) ?_
  refine lv_imul hx hb dX11_init_147 ?_
  refine lv_topi (fun x69 ex69 => ?_)
  have ex69 : x69 = 24 := by rw [ex69]; decide
  subst ex69
  refine lv_iconst (v := 4) hx hb dX11_init_148 (by decide) ?_
  refine lv_iadd hx hb dX11_init_149 ?_
  refine lv_topi (fun x70 ex70 => ?_)
  have ex70 : x70 = 28 := by rw [ex70]; decide
  subst ex70
  refine lv_iconst (v := 2) hx hb dX11_init_150 (by decide) ?_
  refine tn_iast (i := o + 1) hx hb hk.1 hw (by omega) t1 (vin ⟨by decide, by decide⟩) dX11_init_151 (fun H locs hw => ?_)
  obtain ⟨E71, eE71⟩ : ∃ zz, zz = upE E68 (o + 1) (.inl (G.2.1.1, 32, .inl (upd (upd (upd (upd (upd (upd (upd (upd (upd (upd (upd (upd (upd (upd (upd z0 2 (0 : Int32)) 3 (20 : Int32)) 4 (2 : Int32)) 5 (3 : Int32)) 10 (1 : Int32)) 11 (20 : Int32)) 12 (2 : Int32)) 13 (3 : Int32)) 18 (2 : Int32)) 19 (20 : Int32)) 20 (2 : Int32)) 21 (3 : Int32)) 26 (3 : Int32)) 27 (20 : Int32)) 28 (2 : Int32)))) := ⟨_, rfl⟩
  have hw : PE G.1 b E71 (o + 14) s H locs := by rw [eE71]; exact hw
  have hF : ∀ j, j < o → E71 j = E j := fun j hj => (show E71 j = E68 j by rw [eE71, upE_ne (by omega)]).trans (hF j hj)
  have tO : E71 (o) = .inr (10, [.ref (b + (o + 1)), .ref (b + (o + 2)), .ref (b + (o + 3)), .int 0, .ref (b + (o + 4)), .ref (b + (o + 5)), .ref (b + (o + 6)), .int 0, .ref (b + (o + 7)), .ref (b + (o + 8)), .ref (b + (o + 9)), .int 0, .ref (b + (o + 10)), .int 0, .int 0, .int 0, .int 0, .int 0, .int 0, .int 0, .ref (b + (o + 11)), .ref (b + (o + 12)), .ref (b + (o + 13)), .int 0, .int 0]) := by rw [eE71, upE_ne (by omega)]; exact tO
  have t2 : E71 (o + 2) = .inl (G.2.1.1, 256, .inl z0) := by rw [eE71, upE_ne (by omega)]; exact t2
  have t3 : E71 (o + 3) = .inl (G.2.1.1, 4, .inl z0) := by rw [eE71, upE_ne (by omega)]; exact t3
  have t4 : E71 (o + 4) = .inl (G.2.1.1, 64, .inl z0) := by rw [eE71, upE_ne (by omega)]; exact t4
  have t5 : E71 (o + 5) = .inl (G.2.1.1, 4, .inl z0) := by rw [eE71, upE_ne (by omega)]; exact t5
  have t6 : E71 (o + 6) = .inl (G.2.1.1, 40, .inl z0) := by rw [eE71, upE_ne (by omega)]; exact t6
  have t7 : E71 (o + 7) = .inl (G.2.1.1, 32, .inl z0) := by rw [eE71, upE_ne (by omega)]; exact t7
  have t8 : E71 (o + 8) = .inl (G.2.1.1, 256, .inl z0) := by rw [eE71, upE_ne (by omega)]; exact t8
  have t9 : E71 (o + 9) = .inl (G.2.1.1, 4, .inl z0) := by rw [eE71, upE_ne (by omega)]; exact t9
  have t10 : E71 (o + 10) = .inl (G.2.1.1, 74, .inl z0) := by rw [eE71, upE_ne (by omega)]; exact t10
  have t11 : E71 (o + 11) = .inl (G.2.1.1, 256, .inl z0) := by rw [eE71, upE_ne (by omega)]; exact t11
  have t12 : E71 (o + 12) = .inl (G.2.1.1, 800, .inl z0) := by rw [eE71, upE_ne (by omega)]; exact t12
  have t13 : E71 (o + 13) = .inl (G.2.1.2.1, 2, .inl z0) := by rw [eE71, upE_ne (by omega)]; exact t13
  have t1 : E71 (o + 1) = .inl (G.2.1.1, 32, .inl (upd (upd (upd (upd (upd (upd (upd (upd (upd (upd (upd (upd (upd (upd (upd z0 2 (0 : Int32)) 3 (20 : Int32)) 4 (2 : Int32)) 5 (3 : Int32)) 10 (1 : Int32)) 11 (20 : Int32)) 12 (2 : Int32)) 13 (3 : Int32)) 18 (2 : Int32)) 19 (20 : Int32)) 20 (2 : Int32)) 21 (3 : Int32)) 26 (3 : Int32)) 27 (20 : Int32)) 28 (2 : Int32))) := by rw [eE71]; exact upE_at
  refine lv_aload_n hx hb dX11_init_152 rfl (lv_at hl 1 rfl) ?_
  refine tn_get (i := o) (ci := 10) (k := 0) (v := .ref (b + (o + 1))) hx hb hts hown hk.1 hw (by omega) tO rfl inlX11 (by decide) wd105 rfl dX11_init_153 ?_
  refine lv_bipush (v := 8) hx hb dX11_init_156 (by decide) ?_
  refine lv_iload_n hx hb dX11_init_158 rfl (lv_at hl 0 rfl) ?_
  refine lv_imul hx hb dX11_init_159 ?_
  refine lv_topi (fun x72 ex72 => ?_)
  have ex72 : x72 = 24 := by rw [ex72]; decide
  subst ex72
  refine lv_iconst (v := 5) hx hb dX11_init_160 (by decide) ?_
  refine lv_iadd hx hb dX11_init_161 ?_
  refine lv_topi (fun x73 ex73 => ?_)
  have ex73 : x73 = 29 := by rw [ex73]; decide
  subst ex73
  refine lv_iconst (v := 3) hx hb dX11_init_162 (by decide) ?_
  refine tn_iast (i := o + 1) hx hb hk.1 hw (by omega) t1 (vin ⟨by decide, by decide⟩) dX11_init_163 (fun H locs hw => ?_)
  obtain ⟨E74, eE74⟩ : ∃ zz, zz = upE E71 (o + 1) (.inl (G.2.1.1, 32, .inl (upd (upd (upd (upd (upd (upd (upd (upd (upd (upd (upd (upd (upd (upd (upd (upd z0 2 (0 : Int32)) 3 (20 : Int32)) 4 (2 : Int32)) 5 (3 : Int32)) 10 (1 : Int32)) 11 (20 : Int32)) 12 (2 : Int32)) 13 (3 : Int32)) 18 (2 : Int32)) 19 (20 : Int32)) 20 (2 : Int32)) 21 (3 : Int32)) 26 (3 : Int32)) 27 (20 : Int32)) 28 (2 : Int32)) 29 (3 : Int32)))) := ⟨_, rfl⟩
  have hw : PE G.1 b E74 (o + 14) s H locs := by rw [eE74]; exact hw
  have hF : ∀ j, j < o → E74 j = E j := fun j hj => (show E74 j = E71 j by rw [eE74, upE_ne (by omega)]).trans (hF j hj)
  have tO : E74 (o) = .inr (10, [.ref (b + (o + 1)), .ref (b + (o + 2)), .ref (b + (o + 3)), .int 0, .ref (b + (o + 4)), .ref (b + (o + 5)), .ref (b + (o + 6)), .int 0, .ref (b + (o + 7)), .ref (b + (o + 8)), .ref (b + (o + 9)), .int 0, .ref (b + (o + 10)), .int 0, .int 0, .int 0, .int 0, .int 0, .int 0, .int 0, .ref (b + (o + 11)), .ref (b + (o + 12)), .ref (b + (o + 13)), .int 0, .int 0]) := by rw [eE74, upE_ne (by omega)]; exact tO
  have t2 : E74 (o + 2) = .inl (G.2.1.1, 256, .inl z0) := by rw [eE74, upE_ne (by omega)]; exact t2
  have t3 : E74 (o + 3) = .inl (G.2.1.1, 4, .inl z0) := by rw [eE74, upE_ne (by omega)]; exact t3
  have t4 : E74 (o + 4) = .inl (G.2.1.1, 64, .inl z0) := by rw [eE74, upE_ne (by omega)]; exact t4
  have t5 : E74 (o + 5) = .inl (G.2.1.1, 4, .inl z0) := by rw [eE74, upE_ne (by omega)]; exact t5
  have t6 : E74 (o + 6) = .inl (G.2.1.1, 40, .inl z0) := by rw [eE74, upE_ne (by omega)]; exact t6
  have t7 : E74 (o + 7) = .inl (G.2.1.1, 32, .inl z0) := by rw [eE74, upE_ne (by omega)]; exact t7
  have t8 : E74 (o + 8) = .inl (G.2.1.1, 256, .inl z0) := by rw [eE74, upE_ne (by omega)]; exact t8
  have t9 : E74 (o + 9) = .inl (G.2.1.1, 4, .inl z0) := by rw [eE74, upE_ne (by omega)]; exact t9
  have t10 : E74 (o + 10) = .inl (G.2.1.1, 74, .inl z0) := by rw [eE74, upE_ne (by omega)]; exact t10
  have t11 : E74 (o + 11) = .inl (G.2.1.1, 256, .inl z0) := by rw [eE74, upE_ne (by omega)]; exact t11
  have t12 : E74 (o + 12) = .inl (G.2.1.1, 800, .inl z0) := by rw [eE74, upE_ne (by omega)]; exact t12
  have t13 : E74 (o + 13) = .inl (G.2.1.2.1, 2, .inl z0) := by rw [eE74, upE_ne (by omega)]; exact t13
  have t1 : E74 (o + 1) = .inl (G.2.1.1, 32, .inl (upd (upd (upd (upd (upd (upd (upd (upd (upd (upd (upd (upd (upd (upd (upd (upd z0 2 (0 : Int32)) 3 (20 : Int32)) 4 (2 : Int32)) 5 (3 : Int32)) 10 (1 : Int32)) 11 (20 : Int32)) 12 (2 : Int32)) 13 (3 : Int32)) 18 (2 : Int32)) 19 (20 : Int32)) 20 (2 : Int32)) 21 (3 : Int32)) 26 (3 : Int32)) 27 (20 : Int32)) 28 (2 : Int32)) 29 (3 : Int32))) := by rw [eE74]; exact upE_at
  refine lv_iinc (v := 4) (lv' := [(1, .int (4 : Int32)), (0, .ref (b + (o)))]) hx hb dX11_init_164 hl (k := 0) rfl (by decide) (by decide) rfl (fun ls hl => ?_)
  refine lv_goto (tgt := 110) hx hb dX11_init_167 (by decide) ?_
  refine lv_iload_n hx hb dX11_init_110 rfl (lv_at hl 0 rfl) ?_
  refine lv_iconst (v := 4) hx hb dX11_init_111 (by decide) ?_
  refine lv_icmp_ge (tgt := 170) hx hb dX11_init_112 (by decide) (fun c112 => ?_) (fun c112 => ?_)
  rotate_left
  · exact absurd (by decide) c112
  refine lv_iconst (v := 0) hx hb dX11_init_170 (by decide) ?_
  refine lv_istore_n (lv' := [(1, .int (0 : Int32)), (0, .ref (b + (o)))]) hx hb dX11_init_171 rfl hl (by decide) rfl (fun ls hl => ?_)
  have cut172 : ∀ (n172 : Nat) (z : Int32) (H : Heap) (locs : List Loc) (ls : Array Slot), (0 ≤ z.toInt ∧ z.toInt ≤ 64) → ((64 - z.toInt).toNat : Int) < (n172 : Int) → PE G.1 b (upE E74 (o + 4) (.inl (G.2.1.1, 64, .inl (fillF (-6 : Int32) z.toNatClampNeg)))) (o + 14) s H locs → lv_has ls 2 [(0, .ref (b + (o))), (1, .int z)] → W p l e (rmC 1 20 13 1824) s m a below meth c H locs 13 1824 Q (F0 m 172 ls []) := by
    intro n172
    induction n172 with
    | zero => intro z H locs ls f hm; exfalso; omega
    | succ n172 ih172 =>
      intro z H locs ls f hm hw hl
      have LV : (64 : Int32).toInt = 64 := by decide
      obtain ⟨E75, eE75⟩ : ∃ zz, zz = upE E74 (o + 4) (.inl (G.2.1.1, 64, .inl (fillF (-6 : Int32) z.toNatClampNeg))) := ⟨_, rfl⟩
      have hw : PE G.1 b E75 (o + 14) s H locs := by rw [eE75]; exact hw
      have hF : ∀ j, j < o → E75 j = E j := fun j hj => (show E75 j = E74 j by rw [eE75, upE_ne (by omega)]).trans (hF j hj)
      have tO : E75 (o) = .inr (10, [.ref (b + (o + 1)), .ref (b + (o + 2)), .ref (b + (o + 3)), .int 0, .ref (b + (o + 4)), .ref (b + (o + 5)), .ref (b + (o + 6)), .int 0, .ref (b + (o + 7)), .ref (b + (o + 8)), .ref (b + (o + 9)), .int 0, .ref (b + (o + 10)), .int 0, .int 0, .int 0, .int 0, .int 0, .int 0, .int 0, .ref (b + (o + 11)), .ref (b + (o + 12)), .ref (b + (o + 13)), .int 0, .int 0]) := by rw [eE75, upE_ne (by omega)]; exact tO
      have t1 : E75 (o + 1) = .inl (G.2.1.1, 32, .inl (upd (upd (upd (upd (upd (upd (upd (upd (upd (upd (upd (upd (upd (upd (upd (upd z0 2 (0 : Int32)) 3 (20 : Int32)) 4 (2 : Int32)) 5 (3 : Int32)) 10 (1 : Int32)) 11 (20 : Int32)) 12 (2 : Int32)) 13 (3 : Int32)) 18 (2 : Int32)) 19 (20 : Int32)) 20 (2 : Int32)) 21 (3 : Int32)) 26 (3 : Int32)) 27 (20 : Int32)) 28 (2 : Int32)) 29 (3 : Int32))) := by rw [eE75, upE_ne (by omega)]; exact t1
      have t2 : E75 (o + 2) = .inl (G.2.1.1, 256, .inl z0) := by rw [eE75, upE_ne (by omega)]; exact t2
      have t3 : E75 (o + 3) = .inl (G.2.1.1, 4, .inl z0) := by rw [eE75, upE_ne (by omega)]; exact t3
      have t5 : E75 (o + 5) = .inl (G.2.1.1, 4, .inl z0) := by rw [eE75, upE_ne (by omega)]; exact t5
      have t6 : E75 (o + 6) = .inl (G.2.1.1, 40, .inl z0) := by rw [eE75, upE_ne (by omega)]; exact t6
      have t7 : E75 (o + 7) = .inl (G.2.1.1, 32, .inl z0) := by rw [eE75, upE_ne (by omega)]; exact t7
      have t8 : E75 (o + 8) = .inl (G.2.1.1, 256, .inl z0) := by rw [eE75, upE_ne (by omega)]; exact t8
      have t9 : E75 (o + 9) = .inl (G.2.1.1, 4, .inl z0) := by rw [eE75, upE_ne (by omega)]; exact t9
      have t10 : E75 (o + 10) = .inl (G.2.1.1, 74, .inl z0) := by rw [eE75, upE_ne (by omega)]; exact t10
      have t11 : E75 (o + 11) = .inl (G.2.1.1, 256, .inl z0) := by rw [eE75, upE_ne (by omega)]; exact t11
      have t12 : E75 (o + 12) = .inl (G.2.1.1, 800, .inl z0) := by rw [eE75, upE_ne (by omega)]; exact t12
      have t13 : E75 (o + 13) = .inl (G.2.1.2.1, 2, .inl z0) := by rw [eE75, upE_ne (by omega)]; exact t13
      have t4 : E75 (o + 4) = .inl (G.2.1.1, 64, .inl (fillF (-6 : Int32) z.toNatClampNeg)) := by rw [eE75]; exact upE_at
      refine lv_iload_n hx hb dX11_init_172 rfl (lv_at hl 1 rfl) ?_
      refine lv_bipush (v := 64) hx hb dX11_init_173 (by decide) ?_
      refine lv_icmp_ge (tgt := 192) hx hb dX11_init_175 (by decide) (fun cc1 => ?_) (fun cc1 => ?_)
      · have cc2 := Int32.le_iff_toInt_le.mp cc1
        have t4 : E75 (o + 4) = .inl (G.2.1.1, 64, .inl (fillF (-6 : Int32) 64)) := by rw [t4, show z.toNatClampNeg = 64 from by have q := clI z (by omega); omega]
        refine lv_iconst (v := 0) hx hb dX11_init_192 (by decide) ?_
        refine lv_istore_n (lv' := [(1, .int (0 : Int32)), (0, .ref (b + (o)))]) hx hb dX11_init_193 rfl hl (by decide) rfl (fun ls hl => ?_)
        refine lv_iload_n hx hb dX11_init_194 rfl (lv_at hl 0 rfl) ?_
        refine lv_iconst (v := 4) hx hb dX11_init_195 (by decide) ?_
        refine lv_icmp_ge (tgt := 212) hx hb dX11_init_196 (by decide) (fun c196 => ?_) (fun c196 => ?_)
        · exact absurd c196 (by decide)
        refine lv_aload_n hx hb dX11_init_199 rfl (lv_at hl 1 rfl) ?_
        refine tn_get (i := o) (ci := 10) (k := 5) (v := .ref (b + (o + 5))) hx hb hts hown hk.1 hw (by omega) tO rfl inlX11 (by decide) wd109 rfl dX11_init_200 ?_
        refine lv_iload_n hx hb dX11_init_203 rfl (lv_at hl 0 rfl) ?_
        refine lv_iconst (v := 5) hx hb dX11_init_204 (by decide) ?_
        refine tn_iast (i := o + 5) hx hb hk.1 hw (by omega) t5 (vin ⟨by decide, by decide⟩) dX11_init_205 (fun H locs hw => ?_)
        obtain ⟨E76, eE76⟩ : ∃ zz, zz = upE E75 (o + 5) (.inl (G.2.1.1, 4, .inl (upd z0 0 (5 : Int32)))) := ⟨_, rfl⟩
        have hw : PE G.1 b E76 (o + 14) s H locs := by rw [eE76]; exact hw
        have hF : ∀ j, j < o → E76 j = E j := fun j hj => (show E76 j = E75 j by rw [eE76, upE_ne (by omega)]).trans (hF j hj)
        have tO : E76 (o) = .inr (10, [.ref (b + (o + 1)), .ref (b + (o + 2)), .ref (b + (o + 3)), .int 0, .ref (b + (o + 4)), .ref (b + (o + 5)), .ref (b + (o + 6)), .int 0, .ref (b + (o + 7)), .ref (b + (o + 8)), .ref (b + (o + 9)), .int 0, .ref (b + (o + 10)), .int 0, .int 0, .int 0, .int 0, .int 0, .int 0, .int 0, .ref (b + (o + 11)), .ref (b + (o + 12)), .ref (b + (o + 13)), .int 0, .int 0]) := by rw [eE76, upE_ne (by omega)]; exact tO
        have t1 : E76 (o + 1) = .inl (G.2.1.1, 32, .inl (upd (upd (upd (upd (upd (upd (upd (upd (upd (upd (upd (upd (upd (upd (upd (upd z0 2 (0 : Int32)) 3 (20 : Int32)) 4 (2 : Int32)) 5 (3 : Int32)) 10 (1 : Int32)) 11 (20 : Int32)) 12 (2 : Int32)) 13 (3 : Int32)) 18 (2 : Int32)) 19 (20 : Int32)) 20 (2 : Int32)) 21 (3 : Int32)) 26 (3 : Int32)) 27 (20 : Int32)) 28 (2 : Int32)) 29 (3 : Int32))) := by rw [eE76, upE_ne (by omega)]; exact t1
        have t2 : E76 (o + 2) = .inl (G.2.1.1, 256, .inl z0) := by rw [eE76, upE_ne (by omega)]; exact t2
        have t3 : E76 (o + 3) = .inl (G.2.1.1, 4, .inl z0) := by rw [eE76, upE_ne (by omega)]; exact t3
        have t4 : E76 (o + 4) = .inl (G.2.1.1, 64, .inl (fillF (-6 : Int32) 64)) := by rw [eE76, upE_ne (by omega)]; exact t4
        have t6 : E76 (o + 6) = .inl (G.2.1.1, 40, .inl z0) := by rw [eE76, upE_ne (by omega)]; exact t6
        have t7 : E76 (o + 7) = .inl (G.2.1.1, 32, .inl z0) := by rw [eE76, upE_ne (by omega)]; exact t7
        have t8 : E76 (o + 8) = .inl (G.2.1.1, 256, .inl z0) := by rw [eE76, upE_ne (by omega)]; exact t8
        have t9 : E76 (o + 9) = .inl (G.2.1.1, 4, .inl z0) := by rw [eE76, upE_ne (by omega)]; exact t9
        have t10 : E76 (o + 10) = .inl (G.2.1.1, 74, .inl z0) := by rw [eE76, upE_ne (by omega)]; exact t10
        have t11 : E76 (o + 11) = .inl (G.2.1.1, 256, .inl z0) := by rw [eE76, upE_ne (by omega)]; exact t11
        have t12 : E76 (o + 12) = .inl (G.2.1.1, 800, .inl z0) := by rw [eE76, upE_ne (by omega)]; exact t12
        have t13 : E76 (o + 13) = .inl (G.2.1.2.1, 2, .inl z0) := by rw [eE76, upE_ne (by omega)]; exact t13
        have t5 : E76 (o + 5) = .inl (G.2.1.1, 4, .inl (upd z0 0 (5 : Int32))) := by rw [eE76]; exact upE_at
        refine lv_iinc (v := 1) (lv' := [(1, .int (1 : Int32)), (0, .ref (b + (o)))]) hx hb dX11_init_206 hl (k := 0) rfl (by decide) (by decide) rfl (fun ls hl => ?_)
        refine lv_goto (tgt := 194) hx hb dX11_init_209 (by decide) ?_
        refine lv_iload_n hx hb dX11_init_194 rfl (lv_at hl 0 rfl) ?_
        refine lv_iconst (v := 4) hx hb dX11_init_195 (by decide) ?_
        refine lv_icmp_ge (tgt := 212) hx hb dX11_init_196 (by decide) (fun c196 => ?_) (fun c196 => ?_)
        · exact absurd c196 (by decide)
        refine lv_aload_n hx hb dX11_init_199 rfl (lv_at hl 1 rfl) ?_
        refine tn_get (i := o) (ci := 10) (k := 5) (v := .ref (b + (o + 5))) hx hb hts hown hk.1 hw (by omega) tO rfl inlX11 (by decide) wd109 rfl dX11_init_200 ?_
        refine lv_iload_n hx hb dX11_init_203 rfl (lv_at hl 0 rfl) ?_
        refine lv_iconst (v := 5) hx hb dX11_init_204 (by decide) ?_
        refine tn_iast (i := o + 5) hx hb hk.1 hw (by omega) t5 (vin ⟨by decide, by decide⟩) dX11_init_205 (fun H locs hw => ?_)
        obtain ⟨E77, eE77⟩ : ∃ zz, zz = upE E76 (o + 5) (.inl (G.2.1.1, 4, .inl (upd (upd z0 0 (5 : Int32)) 1 (5 : Int32)))) := ⟨_, rfl⟩
        have hw : PE G.1 b E77 (o + 14) s H locs := by rw [eE77]; exact hw
        have hF : ∀ j, j < o → E77 j = E j := fun j hj => (show E77 j = E76 j by rw [eE77, upE_ne (by omega)]).trans (hF j hj)
        have tO : E77 (o) = .inr (10, [.ref (b + (o + 1)), .ref (b + (o + 2)), .ref (b + (o + 3)), .int 0, .ref (b + (o + 4)), .ref (b + (o + 5)), .ref (b + (o + 6)), .int 0, .ref (b + (o + 7)), .ref (b + (o + 8)), .ref (b + (o + 9)), .int 0, .ref (b + (o + 10)), .int 0, .int 0, .int 0, .int 0, .int 0, .int 0, .int 0, .ref (b + (o + 11)), .ref (b + (o + 12)), .ref (b + (o + 13)), .int 0, .int 0]) := by rw [eE77, upE_ne (by omega)]; exact tO
        have t1 : E77 (o + 1) = .inl (G.2.1.1, 32, .inl (upd (upd (upd (upd (upd (upd (upd (upd (upd (upd (upd (upd (upd (upd (upd (upd z0 2 (0 : Int32)) 3 (20 : Int32)) 4 (2 : Int32)) 5 (3 : Int32)) 10 (1 : Int32)) 11 (20 : Int32)) 12 (2 : Int32)) 13 (3 : Int32)) 18 (2 : Int32)) 19 (20 : Int32)) 20 (2 : Int32)) 21 (3 : Int32)) 26 (3 : Int32)) 27 (20 : Int32)) 28 (2 : Int32)) 29 (3 : Int32))) := by rw [eE77, upE_ne (by omega)]; exact t1
        have t2 : E77 (o + 2) = .inl (G.2.1.1, 256, .inl z0) := by rw [eE77, upE_ne (by omega)]; exact t2
        have t3 : E77 (o + 3) = .inl (G.2.1.1, 4, .inl z0) := by rw [eE77, upE_ne (by omega)]; exact t3
        have t4 : E77 (o + 4) = .inl (G.2.1.1, 64, .inl (fillF (-6 : Int32) 64)) := by rw [eE77, upE_ne (by omega)]; exact t4
        have t6 : E77 (o + 6) = .inl (G.2.1.1, 40, .inl z0) := by rw [eE77, upE_ne (by omega)]; exact t6
        have t7 : E77 (o + 7) = .inl (G.2.1.1, 32, .inl z0) := by rw [eE77, upE_ne (by omega)]; exact t7
        have t8 : E77 (o + 8) = .inl (G.2.1.1, 256, .inl z0) := by rw [eE77, upE_ne (by omega)]; exact t8
        have t9 : E77 (o + 9) = .inl (G.2.1.1, 4, .inl z0) := by rw [eE77, upE_ne (by omega)]; exact t9
        have t10 : E77 (o + 10) = .inl (G.2.1.1, 74, .inl z0) := by rw [eE77, upE_ne (by omega)]; exact t10
        have t11 : E77 (o + 11) = .inl (G.2.1.1, 256, .inl z0) := by rw [eE77, upE_ne (by omega)]; exact t11
        have t12 : E77 (o + 12) = .inl (G.2.1.1, 800, .inl z0) := by rw [eE77, upE_ne (by omega)]; exact t12
        have t13 : E77 (o + 13) = .inl (G.2.1.2.1, 2, .inl z0) := by rw [eE77, upE_ne (by omega)]; exact t13
        have t5 : E77 (o + 5) = .inl (G.2.1.1, 4, .inl (upd (upd z0 0 (5 : Int32)) 1 (5 : Int32))) := by rw [eE77]; exact upE_at
        refine lv_iinc (v := 2) (lv' := [(1, .int (2 : Int32)), (0, .ref (b + (o)))]) hx hb dX11_init_206 hl (k := 0) rfl (by decide) (by decide) rfl (fun ls hl => ?_)
        refine lv_goto (tgt := 194) hx hb dX11_init_209 (by decide) ?_
        refine lv_iload_n hx hb dX11_init_194 rfl (lv_at hl 0 rfl) ?_
        refine lv_iconst (v := 4) hx hb dX11_init_195 (by decide) ?_
        refine lv_icmp_ge (tgt := 212) hx hb dX11_init_196 (by decide) (fun c196 => ?_) (fun c196 => ?_)
        · exact absurd c196 (by decide)
        refine lv_aload_n hx hb dX11_init_199 rfl (lv_at hl 1 rfl) ?_
        refine tn_get (i := o) (ci := 10) (k := 5) (v := .ref (b + (o + 5))) hx hb hts hown hk.1 hw (by omega) tO rfl inlX11 (by decide) wd109 rfl dX11_init_200 ?_
        refine lv_iload_n hx hb dX11_init_203 rfl (lv_at hl 0 rfl) ?_
        refine lv_iconst (v := 5) hx hb dX11_init_204 (by decide) ?_
        refine tn_iast (i := o + 5) hx hb hk.1 hw (by omega) t5 (vin ⟨by decide, by decide⟩) dX11_init_205 (fun H locs hw => ?_)
        obtain ⟨E78, eE78⟩ : ∃ zz, zz = upE E77 (o + 5) (.inl (G.2.1.1, 4, .inl (upd (upd (upd z0 0 (5 : Int32)) 1 (5 : Int32)) 2 (5 : Int32)))) := ⟨_, rfl⟩
        have hw : PE G.1 b E78 (o + 14) s H locs := by rw [eE78]; exact hw
        have hF : ∀ j, j < o → E78 j = E j := fun j hj => (show E78 j = E77 j by rw [eE78, upE_ne (by omega)]).trans (hF j hj)
        have tO : E78 (o) = .inr (10, [.ref (b + (o + 1)), .ref (b + (o + 2)), .ref (b + (o + 3)), .int 0, .ref (b + (o + 4)), .ref (b + (o + 5)), .ref (b + (o + 6)), .int 0, .ref (b + (o + 7)), .ref (b + (o + 8)), .ref (b + (o + 9)), .int 0, .ref (b + (o + 10)), .int 0, .int 0, .int 0, .int 0, .int 0, .int 0, .int 0, .ref (b + (o + 11)), .ref (b + (o + 12)), .ref (b + (o + 13)), .int 0, .int 0]) := by rw [eE78, upE_ne (by omega)]; exact tO
        have t1 : E78 (o + 1) = .inl (G.2.1.1, 32, .inl (upd (upd (upd (upd (upd (upd (upd (upd (upd (upd (upd (upd (upd (upd (upd (upd z0 2 (0 : Int32)) 3 (20 : Int32)) 4 (2 : Int32)) 5 (3 : Int32)) 10 (1 : Int32)) 11 (20 : Int32)) 12 (2 : Int32)) 13 (3 : Int32)) 18 (2 : Int32)) 19 (20 : Int32)) 20 (2 : Int32)) 21 (3 : Int32)) 26 (3 : Int32)) 27 (20 : Int32)) 28 (2 : Int32)) 29 (3 : Int32))) := by rw [eE78, upE_ne (by omega)]; exact t1
        have t2 : E78 (o + 2) = .inl (G.2.1.1, 256, .inl z0) := by rw [eE78, upE_ne (by omega)]; exact t2
        have t3 : E78 (o + 3) = .inl (G.2.1.1, 4, .inl z0) := by rw [eE78, upE_ne (by omega)]; exact t3
        have t4 : E78 (o + 4) = .inl (G.2.1.1, 64, .inl (fillF (-6 : Int32) 64)) := by rw [eE78, upE_ne (by omega)]; exact t4
        have t6 : E78 (o + 6) = .inl (G.2.1.1, 40, .inl z0) := by rw [eE78, upE_ne (by omega)]; exact t6
        have t7 : E78 (o + 7) = .inl (G.2.1.1, 32, .inl z0) := by rw [eE78, upE_ne (by omega)]; exact t7
        have t8 : E78 (o + 8) = .inl (G.2.1.1, 256, .inl z0) := by rw [eE78, upE_ne (by omega)]; exact t8
        have t9 : E78 (o + 9) = .inl (G.2.1.1, 4, .inl z0) := by rw [eE78, upE_ne (by omega)]; exact t9
        have t10 : E78 (o + 10) = .inl (G.2.1.1, 74, .inl z0) := by rw [eE78, upE_ne (by omega)]; exact t10
        have t11 : E78 (o + 11) = .inl (G.2.1.1, 256, .inl z0) := by rw [eE78, upE_ne (by omega)]; exact t11
        have t12 : E78 (o + 12) = .inl (G.2.1.1, 800, .inl z0) := by rw [eE78, upE_ne (by omega)]; exact t12
        have t13 : E78 (o + 13) = .inl (G.2.1.2.1, 2, .inl z0) := by rw [eE78, upE_ne (by omega)]; exact t13
        have t5 : E78 (o + 5) = .inl (G.2.1.1, 4, .inl (upd (upd (upd z0 0 (5 : Int32)) 1 (5 : Int32)) 2 (5 : Int32))) := by rw [eE78]; exact upE_at
        refine lv_iinc (v := 3) (lv' := [(1, .int (3 : Int32)), (0, .ref (b + (o)))]) hx hb dX11_init_206 hl (k := 0) rfl (by decide) (by decide) rfl (fun ls hl => ?_)
        refine lv_goto (tgt := 194) hx hb dX11_init_209 (by decide) ?_
        refine lv_iload_n hx hb dX11_init_194 rfl (lv_at hl 0 rfl) ?_
        refine lv_iconst (v := 4) hx hb dX11_init_195 (by decide) ?_
        refine lv_icmp_ge (tgt := 212) hx hb dX11_init_196 (by decide) (fun c196 => ?_) (fun c196 => ?_)
        · exact absurd c196 (by decide)
        refine lv_aload_n hx hb dX11_init_199 rfl (lv_at hl 1 rfl) ?_
        refine tn_get (i := o) (ci := 10) (k := 5) (v := .ref (b + (o + 5))) hx hb hts hown hk.1 hw (by omega) tO rfl inlX11 (by decide) wd109 rfl dX11_init_200 ?_
        refine lv_iload_n hx hb dX11_init_203 rfl (lv_at hl 0 rfl) ?_
        refine lv_iconst (v := 5) hx hb dX11_init_204 (by decide) ?_
        refine tn_iast (i := o + 5) hx hb hk.1 hw (by omega) t5 (vin ⟨by decide, by decide⟩) dX11_init_205 (fun H locs hw => ?_)
        obtain ⟨E79, eE79⟩ : ∃ zz, zz = upE E78 (o + 5) (.inl (G.2.1.1, 4, .inl (upd (upd (upd (upd z0 0 (5 : Int32)) 1 (5 : Int32)) 2 (5 : Int32)) 3 (5 : Int32)))) := ⟨_, rfl⟩
        have hw : PE G.1 b E79 (o + 14) s H locs := by rw [eE79]; exact hw
        have hF : ∀ j, j < o → E79 j = E j := fun j hj => (show E79 j = E78 j by rw [eE79, upE_ne (by omega)]).trans (hF j hj)
        have tO : E79 (o) = .inr (10, [.ref (b + (o + 1)), .ref (b + (o + 2)), .ref (b + (o + 3)), .int 0, .ref (b + (o + 4)), .ref (b + (o + 5)), .ref (b + (o + 6)), .int 0, .ref (b + (o + 7)), .ref (b + (o + 8)), .ref (b + (o + 9)), .int 0, .ref (b + (o + 10)), .int 0, .int 0, .int 0, .int 0, .int 0, .int 0, .int 0, .ref (b + (o + 11)), .ref (b + (o + 12)), .ref (b + (o + 13)), .int 0, .int 0]) := by rw [eE79, upE_ne (by omega)]; exact tO
        have t1 : E79 (o + 1) = .inl (G.2.1.1, 32, .inl (upd (upd (upd (upd (upd (upd (upd (upd (upd (upd (upd (upd (upd (upd (upd (upd z0 2 (0 : Int32)) 3 (20 : Int32)) 4 (2 : Int32)) 5 (3 : Int32)) 10 (1 : Int32)) 11 (20 : Int32)) 12 (2 : Int32)) 13 (3 : Int32)) 18 (2 : Int32)) 19 (20 : Int32)) 20 (2 : Int32)) 21 (3 : Int32)) 26 (3 : Int32)) 27 (20 : Int32)) 28 (2 : Int32)) 29 (3 : Int32))) := by rw [eE79, upE_ne (by omega)]; exact t1
        have t2 : E79 (o + 2) = .inl (G.2.1.1, 256, .inl z0) := by rw [eE79, upE_ne (by omega)]; exact t2
        have t3 : E79 (o + 3) = .inl (G.2.1.1, 4, .inl z0) := by rw [eE79, upE_ne (by omega)]; exact t3
        have t4 : E79 (o + 4) = .inl (G.2.1.1, 64, .inl (fillF (-6 : Int32) 64)) := by rw [eE79, upE_ne (by omega)]; exact t4
        have t6 : E79 (o + 6) = .inl (G.2.1.1, 40, .inl z0) := by rw [eE79, upE_ne (by omega)]; exact t6
        have t7 : E79 (o + 7) = .inl (G.2.1.1, 32, .inl z0) := by rw [eE79, upE_ne (by omega)]; exact t7
        have t8 : E79 (o + 8) = .inl (G.2.1.1, 256, .inl z0) := by rw [eE79, upE_ne (by omega)]; exact t8
        have t9 : E79 (o + 9) = .inl (G.2.1.1, 4, .inl z0) := by rw [eE79, upE_ne (by omega)]; exact t9
        have t10 : E79 (o + 10) = .inl (G.2.1.1, 74, .inl z0) := by rw [eE79, upE_ne (by omega)]; exact t10
        have t11 : E79 (o + 11) = .inl (G.2.1.1, 256, .inl z0) := by rw [eE79, upE_ne (by omega)]; exact t11
        have t12 : E79 (o + 12) = .inl (G.2.1.1, 800, .inl z0) := by rw [eE79, upE_ne (by omega)]; exact t12
        have t13 : E79 (o + 13) = .inl (G.2.1.2.1, 2, .inl z0) := by rw [eE79, upE_ne (by omega)]; exact t13
        have t5 : E79 (o + 5) = .inl (G.2.1.1, 4, .inl (upd (upd (upd (upd z0 0 (5 : Int32)) 1 (5 : Int32)) 2 (5 : Int32)) 3 (5 : Int32))) := by rw [eE79]; exact upE_at
        refine lv_iinc (v := 4) (lv' := [(1, .int (4 : Int32)), (0, .ref (b + (o)))]) hx hb dX11_init_206 hl (k := 0) rfl (by decide) (by decide) rfl (fun ls hl => ?_)
        refine lv_goto (tgt := 194) hx hb dX11_init_209 (by decide) ?_
        refine lv_iload_n hx hb dX11_init_194 rfl (lv_at hl 0 rfl) ?_
        refine lv_iconst (v := 4) hx hb dX11_init_195 (by decide) ?_
        refine lv_icmp_ge (tgt := 212) hx hb dX11_init_196 (by decide) (fun c196 => ?_) (fun c196 => ?_)
        rotate_left
        · exact absurd (by decide) c196
        exact ret E79 _ _ 212 _ ⟨hF, ⟨tO, t1, t2, t3, t4, t5, t6, t7, t8, t9, t10, t11, t12, t13⟩⟩ hw dX11_init_212
      · have cc2 := mt Int32.le_iff_toInt_le.mpr cc1
        have cc3 := clI z (by omega)
        refine lv_aload_n hx hb dX11_init_178 rfl (lv_at hl 0 rfl) ?_
        refine tn_get (i := o) (ci := 10) (k := 4) (v := .ref (b + (o + 4))) hx hb hts hown hk.1 hw (by omega) tO rfl inlX11 (by decide) wd108 rfl dX11_init_179 ?_
        refine lv_iload_n hx hb dX11_init_182 rfl (lv_at hl 1 rfl) ?_
        refine lv_bipush (v := -6) hx hb dX11_init_183 (by decide) ?_
        refine tn_iast (i := o + 4) hx hb hk.1 hw (by omega) t4 (vin ⟨by omega, by omega⟩) dX11_init_185 (fun H locs hw => ?_)
        obtain ⟨y, ey⟩ : ∃ q : Int32, q = z + 1 := ⟨_, rfl⟩
        have L1 : (1 : Int32).toInt = 1 := by decide
        have ty : y.toInt = z.toInt + 1 := by rw [ey, Jvm.Kit.i32_add (by omega) (by omega)]; omega
        have cy := clI y (by omega)
        refine lv_iinc (v := y) (lv' := [(1, .int y), (0, .ref (b + (o)))]) hx hb dX11_init_186 hl (k := 1) rfl (by rw [ey]; rfl) (by decide) rfl (fun ls hl => ?_)
        refine lv_goto (tgt := 172) hx hb dX11_init_189 (by decide) ?_
        exact ih172 y _ _ _ (by omega) (by omega) (by rw [show y.toNatClampNeg = z.toNatClampNeg + 1 from by omega, ← fillF_s, ← upE_up (e := .inl (G.2.1.1, 64, .inl (fillF (-6 : Int32) z.toNatClampNeg))), ← eE75]; exact hw) (lv_sub hl [1, 0] rfl)
  exact cut172 65 (0 : Int32) _ _ _ (by decide) (by decide) (by rw [show (0 : Int32).toNatClampNeg = 0 from rfl, fillF_0, upE_id t4]; exact hw) (lv_sub hl [1, 0] rfl)
