theorem en0 {G : Gg} {σ : Sg} {i : Nat} (h : nk i = 0) : i < 92 ∧ ent G σ i = .inr (0, [.ref (ad G (i + 1)), .ref (ad G (i + 8)), .int (σ i 2), .int (σ i 3), .int (σ i 4)]) := ⟨nk_lt h (by decide), by unfold ent; rw [h]; rfl⟩
theorem pu0_2 {G : Gg} {σ : Sg} {i : Nat} {v : Int32} (h : nk i = 0) : ent G (up2 σ i 2 v) i = .inr (0, ([.ref (ad G (i + 1)), .ref (ad G (i + 8)), .int (σ i 2), .int (σ i 3), .int (σ i 4)] : List Value).set 2 (.int v)) := by unfold ent; rw [h]; simp [up2_at, upd]
theorem pu0_3 {G : Gg} {σ : Sg} {i : Nat} {v : Int32} (h : nk i = 0) : ent G (up2 σ i 3 v) i = .inr (0, ([.ref (ad G (i + 1)), .ref (ad G (i + 8)), .int (σ i 2), .int (σ i 3), .int (σ i 4)] : List Value).set 3 (.int v)) := by unfold ent; rw [h]; simp [up2_at, upd]
theorem pu0_4 {G : Gg} {σ : Sg} {i : Nat} {v : Int32} (h : nk i = 0) : ent G (up2 σ i 4 v) i = .inr (0, ([.ref (ad G (i + 1)), .ref (ad G (i + 8)), .int (σ i 2), .int (σ i 3), .int (σ i 4)] : List Value).set 4 (.int v)) := by unfold ent; rw [h]; simp [up2_at, upd]
theorem en1 {G : Gg} {σ : Sg} {i : Nat} (h : nk i = 1) : i < 92 ∧ ent G σ i = .inr (1, [.ref (ad G (i + 1)), .ref (ad G (i + 2)), .int (σ i 2), .int (σ i 3)]) := ⟨nk_lt h (by decide), by unfold ent; rw [h]; rfl⟩
theorem pu1_2 {G : Gg} {σ : Sg} {i : Nat} {v : Int32} (h : nk i = 1) : ent G (up2 σ i 2 v) i = .inr (1, ([.ref (ad G (i + 1)), .ref (ad G (i + 2)), .int (σ i 2), .int (σ i 3)] : List Value).set 2 (.int v)) := by unfold ent; rw [h]; simp [up2_at, upd]
theorem pu1_3 {G : Gg} {σ : Sg} {i : Nat} {v : Int32} (h : nk i = 1) : ent G (up2 σ i 3 v) i = .inr (1, ([.ref (ad G (i + 1)), .ref (ad G (i + 2)), .int (σ i 2), .int (σ i 3)] : List Value).set 3 (.int v)) := by unfold ent; rw [h]; simp [up2_at, upd]
theorem en2 {G : Gg} {σ : Sg} {i : Nat} (h : nk i = 2) : i < 92 ∧ ent G σ i = .inr (2, [.ref (ad G (i + 1)), .ref (ad G (i + 2))]) := ⟨nk_lt h (by decide), by unfold ent; rw [h]; rfl⟩
theorem en3 {G : Gg} {σ : Sg} {i : Nat} (h : nk i = 3) : i < 92 ∧ ent G σ i = .inr (3, [.ref (ad G (i + 1)), .ref (ad G (i + 4)), .ref (ad G (i + 11))]) := ⟨nk_lt h (by decide), by unfold ent; rw [h]; rfl⟩
theorem en4 {G : Gg} {σ : Sg} {i : Nat} (h : nk i = 4) : i < 92 ∧ ent G σ i = .inr (4, [.ref (ad G (i + 1)), .int (σ i 1)]) := ⟨nk_lt h (by decide), by unfold ent; rw [h]; rfl⟩
theorem pu4_1 {G : Gg} {σ : Sg} {i : Nat} {v : Int32} (h : nk i = 4) : ent G (up2 σ i 1 v) i = .inr (4, ([.ref (ad G (i + 1)), .int (σ i 1)] : List Value).set 1 (.int v)) := by unfold ent; rw [h]; simp [up2_at, upd]
theorem en5 {G : Gg} {σ : Sg} {i : Nat} (h : nk i = 5) : i < 92 ∧ ent G σ i = .inr (5, [.int (σ i 0), .int (σ i 1), .int (σ i 2), .int (σ i 3), .int (σ i 4), .int (σ i 5), .int (σ i 6), .int (σ i 7)]) := ⟨nk_lt h (by decide), by unfold ent; rw [h]; rfl⟩
theorem pu5_0 {G : Gg} {σ : Sg} {i : Nat} {v : Int32} (h : nk i = 5) : ent G (up2 σ i 0 v) i = .inr (5, ([.int (σ i 0), .int (σ i 1), .int (σ i 2), .int (σ i 3), .int (σ i 4), .int (σ i 5), .int (σ i 6), .int (σ i 7)] : List Value).set 0 (.int v)) := by unfold ent; rw [h]; simp [up2_at, upd]
theorem pu5_1 {G : Gg} {σ : Sg} {i : Nat} {v : Int32} (h : nk i = 5) : ent G (up2 σ i 1 v) i = .inr (5, ([.int (σ i 0), .int (σ i 1), .int (σ i 2), .int (σ i 3), .int (σ i 4), .int (σ i 5), .int (σ i 6), .int (σ i 7)] : List Value).set 1 (.int v)) := by unfold ent; rw [h]; simp [up2_at, upd]
theorem pu5_2 {G : Gg} {σ : Sg} {i : Nat} {v : Int32} (h : nk i = 5) : ent G (up2 σ i 2 v) i = .inr (5, ([.int (σ i 0), .int (σ i 1), .int (σ i 2), .int (σ i 3), .int (σ i 4), .int (σ i 5), .int (σ i 6), .int (σ i 7)] : List Value).set 2 (.int v)) := by unfold ent; rw [h]; simp [up2_at, upd]
theorem pu5_3 {G : Gg} {σ : Sg} {i : Nat} {v : Int32} (h : nk i = 5) : ent G (up2 σ i 3 v) i = .inr (5, ([.int (σ i 0), .int (σ i 1), .int (σ i 2), .int (σ i 3), .int (σ i 4), .int (σ i 5), .int (σ i 6), .int (σ i 7)] : List Value).set 3 (.int v)) := by unfold ent; rw [h]; simp [up2_at, upd]
theorem pu5_4 {G : Gg} {σ : Sg} {i : Nat} {v : Int32} (h : nk i = 5) : ent G (up2 σ i 4 v) i = .inr (5, ([.int (σ i 0), .int (σ i 1), .int (σ i 2), .int (σ i 3), .int (σ i 4), .int (σ i 5), .int (σ i 6), .int (σ i 7)] : List Value).set 4 (.int v)) := by unfold ent; rw [h]; simp [up2_at, upd]
theorem pu5_5 {G : Gg} {σ : Sg} {i : Nat} {v : Int32} (h : nk i = 5) : ent G (up2 σ i 5 v) i = .inr (5, ([.int (σ i 0), .int (σ i 1), .int (σ i 2), .int (σ i 3), .int (σ i 4), .int (σ i 5), .int (σ i 6), .int (σ i 7)] : List Value).set 5 (.int v)) := by unfold ent; rw [h]; simp [up2_at, upd]
theorem pu5_6 {G : Gg} {σ : Sg} {i : Nat} {v : Int32} (h : nk i = 5) : ent G (up2 σ i 6 v) i = .inr (5, ([.int (σ i 0), .int (σ i 1), .int (σ i 2), .int (σ i 3), .int (σ i 4), .int (σ i 5), .int (σ i 6), .int (σ i 7)] : List Value).set 6 (.int v)) := by unfold ent; rw [h]; simp [up2_at, upd]
theorem pu5_7 {G : Gg} {σ : Sg} {i : Nat} {v : Int32} (h : nk i = 5) : ent G (up2 σ i 7 v) i = .inr (5, ([.int (σ i 0), .int (σ i 1), .int (σ i 2), .int (σ i 3), .int (σ i 4), .int (σ i 5), .int (σ i 6), .int (σ i 7)] : List Value).set 7 (.int v)) := by unfold ent; rw [h]; simp [up2_at, upd]
theorem en6 {G : Gg} {σ : Sg} {i : Nat} (h : nk i = 6) : i < 92 ∧ ent G σ i = .inr (6, [if σ i 0 = 0 then .null else .ref (ad G 4), .int (σ i 1)]) := ⟨nk_lt h (by decide), by unfold ent; rw [h]; rfl⟩
theorem pu6p {G : Gg} {σ : Sg} {i : Nat} (h : nk i = 6) : ent G (up2 σ i 0 1) i = .inr (6, ([if σ i 0 = 0 then .null else .ref (ad G 4), .int (σ i 1)] : List Value).set 0 (.ref (ad G 4))) := by unfold ent; rw [h]; simp [up2_at, upd]
theorem pu6_1 {G : Gg} {σ : Sg} {i : Nat} {v : Int32} (h : nk i = 6) : ent G (up2 σ i 1 v) i = .inr (6, ([if σ i 0 = 0 then .null else .ref (ad G 4), .int (σ i 1)] : List Value).set 1 (.int v)) := by unfold ent; rw [h]; simp [up2_at, upd]
theorem en7 {G : Gg} {σ : Sg} {i : Nat} (h : nk i = 7) : i < 92 ∧ ent G σ i = .inr (7, [.int (σ i 0), .int (σ i 1), .int (σ i 2)]) := ⟨nk_lt h (by decide), by unfold ent; rw [h]; rfl⟩
theorem pu7_0 {G : Gg} {σ : Sg} {i : Nat} {v : Int32} (h : nk i = 7) : ent G (up2 σ i 0 v) i = .inr (7, ([.int (σ i 0), .int (σ i 1), .int (σ i 2)] : List Value).set 0 (.int v)) := by unfold ent; rw [h]; simp [up2_at, upd]
theorem pu7_1 {G : Gg} {σ : Sg} {i : Nat} {v : Int32} (h : nk i = 7) : ent G (up2 σ i 1 v) i = .inr (7, ([.int (σ i 0), .int (σ i 1), .int (σ i 2)] : List Value).set 1 (.int v)) := by unfold ent; rw [h]; simp [up2_at, upd]
theorem pu7_2 {G : Gg} {σ : Sg} {i : Nat} {v : Int32} (h : nk i = 7) : ent G (up2 σ i 2 v) i = .inr (7, ([.int (σ i 0), .int (σ i 1), .int (σ i 2)] : List Value).set 2 (.int v)) := by unfold ent; rw [h]; simp [up2_at, upd]
theorem en8 {G : Gg} {σ : Sg} {i : Nat} (h : nk i = 8) : i < 92 ∧ ent G σ i = .inr (8, [.ref (ad G (i + 1)), .ref (ad G (i + 2)), .int (σ i 2)]) := ⟨nk_lt h (by decide), by unfold ent; rw [h]; rfl⟩
theorem pu8_2 {G : Gg} {σ : Sg} {i : Nat} {v : Int32} (h : nk i = 8) : ent G (up2 σ i 2 v) i = .inr (8, ([.ref (ad G (i + 1)), .ref (ad G (i + 2)), .int (σ i 2)] : List Value).set 2 (.int v)) := by unfold ent; rw [h]; simp [up2_at, upd]
theorem en9 {G : Gg} {σ : Sg} {i : Nat} (h : nk i = 9) : i < 92 ∧ ent G σ i = .inr (9, [.ref (ad G 1), .ref (ad G 3), .ref (ad G 15), .ref (ad G 40), .ref (ad G 41), .ref (ad G 53), .ref (ad G 65), .ref (ad G 74), .ref (ad G 75)]) := ⟨nk_lt h (by decide), by unfold ent; rw [h]; rfl⟩
theorem en10 {G : Gg} {σ : Sg} {i : Nat} (h : nk i = 10) : i < 92 ∧ ent G σ i = .inr (10, [.ref (ad G 79), .ref (ad G 80), .ref (ad G 81), .int (σ i 3), .ref (ad G 82), .ref (ad G 83), .ref (ad G 84), .int (σ i 7), .ref (ad G 85), .ref (ad G 86), .ref (ad G 87), .int (σ i 11), .ref (ad G 88), .int (σ i 13), .int (σ i 14), .int (σ i 15), .int (σ i 16), .int (σ i 17), .int (σ i 18), .int (σ i 19), .ref (ad G 89), .ref (ad G 90), .ref (ad G 91), .int (σ i 23), .int (σ i 24)]) := ⟨nk_lt h (by decide), by unfold ent; rw [h]; rfl⟩
theorem pu10_3 {G : Gg} {σ : Sg} {i : Nat} {v : Int32} (h : nk i = 10) : ent G (up2 σ i 3 v) i = .inr (10, ([.ref (ad G 79), .ref (ad G 80), .ref (ad G 81), .int (σ i 3), .ref (ad G 82), .ref (ad G 83), .ref (ad G 84), .int (σ i 7), .ref (ad G 85), .ref (ad G 86), .ref (ad G 87), .int (σ i 11), .ref (ad G 88), .int (σ i 13), .int (σ i 14), .int (σ i 15), .int (σ i 16), .int (σ i 17), .int (σ i 18), .int (σ i 19), .ref (ad G 89), .ref (ad G 90), .ref (ad G 91), .int (σ i 23), .int (σ i 24)] : List Value).set 3 (.int v)) := by unfold ent; rw [h]; simp [up2_at, upd]
theorem pu10_7 {G : Gg} {σ : Sg} {i : Nat} {v : Int32} (h : nk i = 10) : ent G (up2 σ i 7 v) i = .inr (10, ([.ref (ad G 79), .ref (ad G 80), .ref (ad G 81), .int (σ i 3), .ref (ad G 82), .ref (ad G 83), .ref (ad G 84), .int (σ i 7), .ref (ad G 85), .ref (ad G 86), .ref (ad G 87), .int (σ i 11), .ref (ad G 88), .int (σ i 13), .int (σ i 14), .int (σ i 15), .int (σ i 16), .int (σ i 17), .int (σ i 18), .int (σ i 19), .ref (ad G 89), .ref (ad G 90), .ref (ad G 91), .int (σ i 23), .int (σ i 24)] : List Value).set 7 (.int v)) := by unfold ent; rw [h]; simp [up2_at, upd]
theorem pu10_11 {G : Gg} {σ : Sg} {i : Nat} {v : Int32} (h : nk i = 10) : ent G (up2 σ i 11 v) i = .inr (10, ([.ref (ad G 79), .ref (ad G 80), .ref (ad G 81), .int (σ i 3), .ref (ad G 82), .ref (ad G 83), .ref (ad G 84), .int (σ i 7), .ref (ad G 85), .ref (ad G 86), .ref (ad G 87), .int (σ i 11), .ref (ad G 88), .int (σ i 13), .int (σ i 14), .int (σ i 15), .int (σ i 16), .int (σ i 17), .int (σ i 18), .int (σ i 19), .ref (ad G 89), .ref (ad G 90), .ref (ad G 91), .int (σ i 23), .int (σ i 24)] : List Value).set 11 (.int v)) := by unfold ent; rw [h]; simp [up2_at, upd]
theorem pu10_13 {G : Gg} {σ : Sg} {i : Nat} {v : Int32} (h : nk i = 10) : ent G (up2 σ i 13 v) i = .inr (10, ([.ref (ad G 79), .ref (ad G 80), .ref (ad G 81), .int (σ i 3), .ref (ad G 82), .ref (ad G 83), .ref (ad G 84), .int (σ i 7), .ref (ad G 85), .ref (ad G 86), .ref (ad G 87), .int (σ i 11), .ref (ad G 88), .int (σ i 13), .int (σ i 14), .int (σ i 15), .int (σ i 16), .int (σ i 17), .int (σ i 18), .int (σ i 19), .ref (ad G 89), .ref (ad G 90), .ref (ad G 91), .int (σ i 23), .int (σ i 24)] : List Value).set 13 (.int v)) := by unfold ent; rw [h]; simp [up2_at, upd]
theorem pu10_14 {G : Gg} {σ : Sg} {i : Nat} {v : Int32} (h : nk i = 10) : ent G (up2 σ i 14 v) i = .inr (10, ([.ref (ad G 79), .ref (ad G 80), .ref (ad G 81), .int (σ i 3), .ref (ad G 82), .ref (ad G 83), .ref (ad G 84), .int (σ i 7), .ref (ad G 85), .ref (ad G 86), .ref (ad G 87), .int (σ i 11), .ref (ad G 88), .int (σ i 13), .int (σ i 14), .int (σ i 15), .int (σ i 16), .int (σ i 17), .int (σ i 18), .int (σ i 19), .ref (ad G 89), .ref (ad G 90), .ref (ad G 91), .int (σ i 23), .int (σ i 24)] : List Value).set 14 (.int v)) := by unfold ent; rw [h]; simp [up2_at, upd]
theorem pu10_15 {G : Gg} {σ : Sg} {i : Nat} {v : Int32} (h : nk i = 10) : ent G (up2 σ i 15 v) i = .inr (10, ([.ref (ad G 79), .ref (ad G 80), .ref (ad G 81), .int (σ i 3), .ref (ad G 82), .ref (ad G 83), .ref (ad G 84), .int (σ i 7), .ref (ad G 85), .ref (ad G 86), .ref (ad G 87), .int (σ i 11), .ref (ad G 88), .int (σ i 13), .int (σ i 14), .int (σ i 15), .int (σ i 16), .int (σ i 17), .int (σ i 18), .int (σ i 19), .ref (ad G 89), .ref (ad G 90), .ref (ad G 91), .int (σ i 23), .int (σ i 24)] : List Value).set 15 (.int v)) := by unfold ent; rw [h]; simp [up2_at, upd]
theorem pu10_16 {G : Gg} {σ : Sg} {i : Nat} {v : Int32} (h : nk i = 10) : ent G (up2 σ i 16 v) i = .inr (10, ([.ref (ad G 79), .ref (ad G 80), .ref (ad G 81), .int (σ i 3), .ref (ad G 82), .ref (ad G 83), .ref (ad G 84), .int (σ i 7), .ref (ad G 85), .ref (ad G 86), .ref (ad G 87), .int (σ i 11), .ref (ad G 88), .int (σ i 13), .int (σ i 14), .int (σ i 15), .int (σ i 16), .int (σ i 17), .int (σ i 18), .int (σ i 19), .ref (ad G 89), .ref (ad G 90), .ref (ad G 91), .int (σ i 23), .int (σ i 24)] : List Value).set 16 (.int v)) := by unfold ent; rw [h]; simp [up2_at, upd]
theorem pu10_17 {G : Gg} {σ : Sg} {i : Nat} {v : Int32} (h : nk i = 10) : ent G (up2 σ i 17 v) i = .inr (10, ([.ref (ad G 79), .ref (ad G 80), .ref (ad G 81), .int (σ i 3), .ref (ad G 82), .ref (ad G 83), .ref (ad G 84), .int (σ i 7), .ref (ad G 85), .ref (ad G 86), .ref (ad G 87), .int (σ i 11), .ref (ad G 88), .int (σ i 13), .int (σ i 14), .int (σ i 15), .int (σ i 16), .int (σ i 17), .int (σ i 18), .int (σ i 19), .ref (ad G 89), .ref (ad G 90), .ref (ad G 91), .int (σ i 23), .int (σ i 24)] : List Value).set 17 (.int v)) := by unfold ent; rw [h]; simp [up2_at, upd]
theorem pu10_18 {G : Gg} {σ : Sg} {i : Nat} {v : Int32} (h : nk i = 10) : ent G (up2 σ i 18 v) i = .inr (10, ([.ref (ad G 79), .ref (ad G 80), .ref (ad G 81), .int (σ i 3), .ref (ad G 82), .ref (ad G 83), .ref (ad G 84), .int (σ i 7), .ref (ad G 85), .ref (ad G 86), .ref (ad G 87), .int (σ i 11), .ref (ad G 88), .int (σ i 13), .int (σ i 14), .int (σ i 15), .int (σ i 16), .int (σ i 17), .int (σ i 18), .int (σ i 19), .ref (ad G 89), .ref (ad G 90), .ref (ad G 91), .int (σ i 23), .int (σ i 24)] : List Value).set 18 (.int v)) := by unfold ent; rw [h]; simp [up2_at, upd]
theorem pu10_19 {G : Gg} {σ : Sg} {i : Nat} {v : Int32} (h : nk i = 10) : ent G (up2 σ i 19 v) i = .inr (10, ([.ref (ad G 79), .ref (ad G 80), .ref (ad G 81), .int (σ i 3), .ref (ad G 82), .ref (ad G 83), .ref (ad G 84), .int (σ i 7), .ref (ad G 85), .ref (ad G 86), .ref (ad G 87), .int (σ i 11), .ref (ad G 88), .int (σ i 13), .int (σ i 14), .int (σ i 15), .int (σ i 16), .int (σ i 17), .int (σ i 18), .int (σ i 19), .ref (ad G 89), .ref (ad G 90), .ref (ad G 91), .int (σ i 23), .int (σ i 24)] : List Value).set 19 (.int v)) := by unfold ent; rw [h]; simp [up2_at, upd]
theorem pu10_23 {G : Gg} {σ : Sg} {i : Nat} {v : Int32} (h : nk i = 10) : ent G (up2 σ i 23 v) i = .inr (10, ([.ref (ad G 79), .ref (ad G 80), .ref (ad G 81), .int (σ i 3), .ref (ad G 82), .ref (ad G 83), .ref (ad G 84), .int (σ i 7), .ref (ad G 85), .ref (ad G 86), .ref (ad G 87), .int (σ i 11), .ref (ad G 88), .int (σ i 13), .int (σ i 14), .int (σ i 15), .int (σ i 16), .int (σ i 17), .int (σ i 18), .int (σ i 19), .ref (ad G 89), .ref (ad G 90), .ref (ad G 91), .int (σ i 23), .int (σ i 24)] : List Value).set 23 (.int v)) := by unfold ent; rw [h]; simp [up2_at, upd]
theorem pu10_24 {G : Gg} {σ : Sg} {i : Nat} {v : Int32} (h : nk i = 10) : ent G (up2 σ i 24 v) i = .inr (10, ([.ref (ad G 79), .ref (ad G 80), .ref (ad G 81), .int (σ i 3), .ref (ad G 82), .ref (ad G 83), .ref (ad G 84), .int (σ i 7), .ref (ad G 85), .ref (ad G 86), .ref (ad G 87), .int (σ i 11), .ref (ad G 88), .int (σ i 13), .int (σ i 14), .int (σ i 15), .int (σ i 16), .int (σ i 17), .int (σ i 18), .int (σ i 19), .ref (ad G 89), .ref (ad G 90), .ref (ad G 91), .int (σ i 23), .int (σ i 24)] : List Value).set 24 (.int v)) := by unfold ent; rw [h]; simp [up2_at, upd]
theorem en12 {G : Gg} {σ : Sg} {i : Nat} (h : nk i = 12) : i < 92 ∧ ent G σ i = .inl (G.2.1.2.1, 2, .inl (σ i)) := ⟨nk_lt h (by decide), by unfold ent; rw [h]; rfl⟩
theorem ea12 {G : Gg} {i : Nat} (h : nk i = 12) : i < 92 ∧ ∀ σ : Sg, ent G σ i = .inl (G.2.1.2.1, 2, .inl (σ i)) := ⟨nk_lt h (by decide), fun _ => (en12 h).2⟩
theorem en13 {G : Gg} {σ : Sg} {i : Nat} (h : nk i = 13) : i < 92 ∧ ent G σ i = .inl (G.2.1.2.2.1, 2, .inr (.inr (.inr (.inr fun k => some (ad G (i + 1 + 12 * k)))))) := ⟨nk_lt h (by decide), by unfold ent; rw [h]; rfl⟩
theorem en14 {G : Gg} {σ : Sg} {i : Nat} (h : nk i = 14) : i < 92 ∧ ent G σ i = .inl (G.2.1.2.2.2, 4, .inr (.inr (.inr (.inr fun k => some (ad G (i + 2 + k)))))) := ⟨nk_lt h (by decide), by unfold ent; rw [h]; rfl⟩
theorem en140 {G : Gg} {σ : Sg} {i : Nat} (h : nk i = 140) : i < 92 ∧ ent G σ i = .inl (G.2.1.1, 40, .inl (σ i)) := ⟨nk_lt h (by decide), by unfold ent; rw [h]; rfl⟩
theorem ea140 {G : Gg} {i : Nat} (h : nk i = 140) : i < 92 ∧ ∀ σ : Sg, ent G σ i = .inl (G.2.1.1, 40, .inl (σ i)) := ⟨nk_lt h (by decide), fun _ => (en140 h).2⟩
theorem en356 {G : Gg} {σ : Sg} {i : Nat} (h : nk i = 356) : i < 92 ∧ ent G σ i = .inl (G.2.1.1, 256, .inl (σ i)) := ⟨nk_lt h (by decide), by unfold ent; rw [h]; rfl⟩
theorem ea356 {G : Gg} {i : Nat} (h : nk i = 356) : i < 92 ∧ ∀ σ : Sg, ent G σ i = .inl (G.2.1.1, 256, .inl (σ i)) := ⟨nk_lt h (by decide), fun _ => (en356 h).2⟩
theorem en164 {G : Gg} {σ : Sg} {i : Nat} (h : nk i = 164) : i < 92 ∧ ent G σ i = .inl (G.2.1.1, 64, .inl (σ i)) := ⟨nk_lt h (by decide), by unfold ent; rw [h]; rfl⟩
theorem ea164 {G : Gg} {i : Nat} (h : nk i = 164) : i < 92 ∧ ∀ σ : Sg, ent G σ i = .inl (G.2.1.1, 64, .inl (σ i)) := ⟨nk_lt h (by decide), fun _ => (en164 h).2⟩
theorem en104 {G : Gg} {σ : Sg} {i : Nat} (h : nk i = 104) : i < 92 ∧ ent G σ i = .inl (G.2.1.1, 4, .inl (σ i)) := ⟨nk_lt h (by decide), by unfold ent; rw [h]; rfl⟩
theorem ea104 {G : Gg} {i : Nat} (h : nk i = 104) : i < 92 ∧ ∀ σ : Sg, ent G σ i = .inl (G.2.1.1, 4, .inl (σ i)) := ⟨nk_lt h (by decide), fun _ => (en104 h).2⟩
theorem en172 {G : Gg} {σ : Sg} {i : Nat} (h : nk i = 172) : i < 92 ∧ ent G σ i = .inl (G.2.1.1, 72, .inl (σ i)) := ⟨nk_lt h (by decide), by unfold ent; rw [h]; rfl⟩
theorem ea172 {G : Gg} {i : Nat} (h : nk i = 172) : i < 92 ∧ ∀ σ : Sg, ent G σ i = .inl (G.2.1.1, 72, .inl (σ i)) := ⟨nk_lt h (by decide), fun _ => (en172 h).2⟩
theorem en132 {G : Gg} {σ : Sg} {i : Nat} (h : nk i = 132) : i < 92 ∧ ent G σ i = .inl (G.2.1.1, 32, .inl (σ i)) := ⟨nk_lt h (by decide), by unfold ent; rw [h]; rfl⟩
theorem ea132 {G : Gg} {i : Nat} (h : nk i = 132) : i < 92 ∧ ∀ σ : Sg, ent G σ i = .inl (G.2.1.1, 32, .inl (σ i)) := ⟨nk_lt h (by decide), fun _ => (en132 h).2⟩
theorem en174 {G : Gg} {σ : Sg} {i : Nat} (h : nk i = 174) : i < 92 ∧ ent G σ i = .inl (G.2.1.1, 74, .inl (σ i)) := ⟨nk_lt h (by decide), by unfold ent; rw [h]; rfl⟩
theorem ea174 {G : Gg} {i : Nat} (h : nk i = 174) : i < 92 ∧ ∀ σ : Sg, ent G σ i = .inl (G.2.1.1, 74, .inl (σ i)) := ⟨nk_lt h (by decide), fun _ => (en174 h).2⟩
theorem en900 {G : Gg} {σ : Sg} {i : Nat} (h : nk i = 900) : i < 92 ∧ ent G σ i = .inl (G.2.1.1, 800, .inl (σ i)) := ⟨nk_lt h (by decide), by unfold ent; rw [h]; rfl⟩
theorem ea900 {G : Gg} {i : Nat} (h : nk i = 900) : i < 92 ∧ ∀ σ : Sg, ent G σ i = .inl (G.2.1.1, 800, .inl (σ i)) := ⟨nk_lt h (by decide), fun _ => (en900 h).2⟩
theorem kd0_1 {i : Nat} (h : nk i = 0) : nk (i + 1) = 1 := (by decide +kernel : ∀ i, i < 92 → nk i = 0 → nk (i + 1) = 1) i (nk_lt h (by decide)) h
theorem kd0_8 {i : Nat} (h : nk i = 0) : nk (i + 8) = 6 := (by decide +kernel : ∀ i, i < 92 → nk i = 0 → nk (i + 8) = 6) i (nk_lt h (by decide)) h
theorem kd1_1 {i : Nat} (h : nk i = 1) : nk (i + 1) = 14 := (by decide +kernel : ∀ i, i < 92 → nk i = 1 → nk (i + 1) = 14) i (nk_lt h (by decide)) h
theorem kd1_2 {i : Nat} (h : nk i = 1) : nk (i + 2) = 104 := (by decide +kernel : ∀ i, i < 92 → nk i = 1 → nk (i + 2) = 104) i (nk_lt h (by decide)) h
theorem kd2_1 {i : Nat} (h : nk i = 2) : nk (i + 1) = 356 := (by decide +kernel : ∀ i, i < 92 → nk i = 2 → nk (i + 1) = 356) i (nk_lt h (by decide)) h
theorem kd2_2 {i : Nat} (h : nk i = 2) : nk (i + 2) = 164 := (by decide +kernel : ∀ i, i < 92 → nk i = 2 → nk (i + 2) = 164) i (nk_lt h (by decide)) h
theorem kd3_1 {i : Nat} (h : nk i = 3) : nk (i + 1) = 2 := (by decide +kernel : ∀ i, i < 92 → nk i = 3 → nk (i + 1) = 2) i (nk_lt h (by decide)) h
theorem kd3_4 {i : Nat} (h : nk i = 3) : nk (i + 4) = 1 := (by decide +kernel : ∀ i, i < 92 → nk i = 3 → nk (i + 4) = 1) i (nk_lt h (by decide)) h
theorem kd3_11 {i : Nat} (h : nk i = 3) : nk (i + 11) = 104 := (by decide +kernel : ∀ i, i < 92 → nk i = 3 → nk (i + 11) = 104) i (nk_lt h (by decide)) h
theorem kd4_1 {i : Nat} (h : nk i = 4) : nk (i + 1) = 140 := (by decide +kernel : ∀ i, i < 92 → nk i = 4 → nk (i + 1) = 140) i (nk_lt h (by decide)) h
theorem kd8_1 {i : Nat} (h : nk i = 8) : nk (i + 1) = 172 := (by decide +kernel : ∀ i, i < 92 → nk i = 8 → nk (i + 1) = 172) i (nk_lt h (by decide)) h
theorem kd8_2 {i : Nat} (h : nk i = 8) : nk (i + 2) = 172 := (by decide +kernel : ∀ i, i < 92 → nk i = 8 → nk (i + 2) = 172) i (nk_lt h (by decide)) h
theorem ke14 {i j : Nat} (h : nk i = 14) (hj : j < 4) : nk (i + 2 + j) = 5 := (by decide +kernel : ∀ i, i < 92 → nk i = 14 → ∀ j, j < 4 → nk (i + 2 + j) = 5) i (nk_lt h (by decide)) h j hj
theorem ke13 {i j : Nat} (h : nk i = 13) (hj : j < 2) : nk (i + 1 + 12 * j) = 3 := (by decide +kernel : ∀ i, i < 92 → nk i = 13 → ∀ j, j < 2 → nk (i + 1 + 12 * j) = 3) i (nk_lt h (by decide)) h j hj
theorem tr_of {i k : Nat} (h : trq i = false) : trk i k = false := by unfold trq at h; simp only [Bool.or_eq_false_iff] at h; simp [trk, trn, h]
theorem tr0 {i k : Nat} (h : nk i = 0) : trk i k = false := tr_of ((by decide +kernel : ∀ i, i < 92 → nk i = 0 → trq i = false) i (nk_lt h (by decide)) h)
theorem tr2 {i k : Nat} (h : nk i = 2) : trk i k = false := tr_of ((by decide +kernel : ∀ i, i < 92 → nk i = 2 → trq i = false) i (nk_lt h (by decide)) h)
theorem tr3 {i k : Nat} (h : nk i = 3) : trk i k = false := tr_of ((by decide +kernel : ∀ i, i < 92 → nk i = 3 → trq i = false) i (nk_lt h (by decide)) h)
theorem tr4 {i k : Nat} (h : nk i = 4) : trk i k = false := tr_of ((by decide +kernel : ∀ i, i < 92 → nk i = 4 → trq i = false) i (nk_lt h (by decide)) h)
theorem tr5 {i k : Nat} (h : nk i = 5) : trk i k = false := tr_of ((by decide +kernel : ∀ i, i < 92 → nk i = 5 → trq i = false) i (nk_lt h (by decide)) h)
theorem tr6 {i k : Nat} (h : nk i = 6) : trk i k = false := tr_of ((by decide +kernel : ∀ i, i < 92 → nk i = 6 → trq i = false) i (nk_lt h (by decide)) h)
theorem tr7 {i k : Nat} (h : nk i = 7) : trk i k = false := tr_of ((by decide +kernel : ∀ i, i < 92 → nk i = 7 → trq i = false) i (nk_lt h (by decide)) h)
theorem tr8 {i k : Nat} (h : nk i = 8) : trk i k = false := tr_of ((by decide +kernel : ∀ i, i < 92 → nk i = 8 → trq i = false) i (nk_lt h (by decide)) h)
theorem tr9 {i k : Nat} (h : nk i = 9) : trk i k = false := tr_of ((by decide +kernel : ∀ i, i < 92 → nk i = 9 → trq i = false) i (nk_lt h (by decide)) h)
theorem tr13 {i k : Nat} (h : nk i = 13) : trk i k = false := tr_of ((by decide +kernel : ∀ i, i < 92 → nk i = 13 → trq i = false) i (nk_lt h (by decide)) h)
theorem tr14 {i k : Nat} (h : nk i = 14) : trk i k = false := tr_of ((by decide +kernel : ∀ i, i < 92 → nk i = 14 → trq i = false) i (nk_lt h (by decide)) h)
theorem tr132 {i k : Nat} (h : nk i = 132) : trk i k = false := tr_of ((by decide +kernel : ∀ i, i < 92 → nk i = 132 → trq i = false) i (nk_lt h (by decide)) h)
theorem tr172 {i k : Nat} (h : nk i = 172) : trk i k = false := tr_of ((by decide +kernel : ∀ i, i < 92 → nk i = 172 → trq i = false) i (nk_lt h (by decide)) h)
theorem tr174 {i k : Nat} (h : nk i = 174) : trk i k = false := tr_of ((by decide +kernel : ∀ i, i < 92 → nk i = 174 → trq i = false) i (nk_lt h (by decide)) h)
theorem tr356 {i k : Nat} (h : nk i = 356) : trk i k = false := tr_of ((by decide +kernel : ∀ i, i < 92 → nk i = 356 → trq i = false) i (nk_lt h (by decide)) h)
theorem mostF_bd (k : Nat) : 0 ≤ (mostF k).toInt ∧ (mostF k).toInt ≤ 99 := by
  by_cases h : k < 6
  · exact (by decide +kernel : ∀ k, k < 6 → 0 ≤ (mostF k).toInt ∧ (mostF k).toInt ≤ 99) k h
  · unfold mostF; rw [List.getD_eq_getElem?_getD, List.getElem?_eq_none (by simp; omega)]; decide
theorem stepXF_bd (k : Nat) : -1 ≤ (stepXF k).toInt ∧ (stepXF k).toInt ≤ 1 := by
  by_cases h : k < 8
  · exact (by decide +kernel : ∀ k, k < 8 → -1 ≤ (stepXF k).toInt ∧ (stepXF k).toInt ≤ 1) k h
  · unfold stepXF; rw [List.getD_eq_getElem?_getD, List.getElem?_eq_none (by simp; omega)]; decide
theorem stepYF_bd (k : Nat) : -1 ≤ (stepYF k).toInt ∧ (stepYF k).toInt ≤ 1 := by
  by_cases h : k < 8
  · exact (by decide +kernel : ∀ k, k < 8 → -1 ≤ (stepYF k).toInt ∧ (stepYF k).toInt ≤ 1) k h
  · unfold stepYF; rw [List.getD_eq_getElem?_getD, List.getElem?_eq_none (by simp; omega)]; decide
theorem abs_bd {x : Int32} {n : Int} (h1 : -n ≤ x.toInt) (h2 : x.toInt ≤ n) (h3 : n < 2147483648) : 0 ≤ (if 0 ≤ x then x else 0 - x).toInt ∧ (if 0 ≤ x then x else 0 - x).toInt ≤ n := by
  split
  · rename_i h; have h := Jvm.Kit.i32_nonneg.mp h; omega
  · rename_i h; have h : ¬ 0 ≤ x.toInt := fun z => h (Jvm.Kit.i32_nonneg.mpr z); rw [Jvm.Kit.i32_sub (by rw [Int32.toInt_zero]; omega) (by rw [Int32.toInt_zero]; omega), Int32.toInt_zero]; omega
theorem and7 (x : Int32) : 0 ≤ (x &&& 7).toInt ∧ (x &&& 7).toInt ≤ 7 := by
  have h := vp_in_iff.mp (pk_andIn x (m := 7) 3 (by decide) (by decide)); omega
theorem xor8 (x : Int32) : 0 ≤ (x ^^^ 8).toInt ↔ 0 ≤ x.toInt := by
  have e1 : (x ^^^ 8).toInt = (x.toBitVec ^^^ 8#32).toInt := rfl
  have e2 : x.toInt = x.toBitVec.toInt := rfl
  have g : ∀ b : BitVec 32, 0 ≤ b.toInt ↔ b.msb = false := fun b => by rw [BitVec.msb_eq_toInt]; simp
  rw [e1, e2, g, g, BitVec.msb_xor]; simp; rw [show (8#32).msb = false from by decide]
theorem lk_out {ps : List (Int × Int)} {d x : Int} (h : ∀ q ∈ ps, q.1 ≠ x) : Op.lookupswitch.offset ps d x = d := by
  induction ps with
  | nil => rfl
  | cons q r ih => obtain ⟨u, o⟩ := q; rw [Op.lookupswitch.offset_cons, if_neg (h (u, o) List.mem_cons_self)]; exact ih (fun z hz => h z (List.mem_cons_of_mem _ hz))
theorem rg132 {i k : Nat} {v : Int32} (hk : nk i = 132) (h : k % 8 = 2 → 0 ≤ v.toInt ∧ v.toInt ≤ 3) : ∀ lo hi, rg (nk i) k = some (lo, hi) → lo ≤ v.toInt ∧ v.toInt ≤ hi := by
  intro lo hi q; rw [hk] at q; simp [rg] at q; obtain ⟨q1, q2, q3⟩ := q; subst q2; subst q3; exact h q1
theorem rd132 {σ : Sg} {i k : Nat} (h : Inv σ) (hk : nk i = 132) (hq : k % 8 = 2) : 0 ≤ (σ i k).toInt ∧ (σ i k).toInt ≤ 3 := h i k 0 3 (by rw [hk]; simp [rg, hq])
theorem rg900a {k : Nat} (h1 : k % 400 < 32) (h2 : k % 8 = 2) : rg 900 k = some (0, 3) := by simp [rg, h1, h2]
theorem rg900b {k : Nat} (h1 : k % 400 = 292) : rg 900 k = some (0, 4) := by simp [rg, h1]
theorem rg900 {k : Nat} {v : Int32} (h1 : k % 400 < 32 → k % 8 = 2 → 0 ≤ v.toInt ∧ v.toInt ≤ 3) (h2 : k % 400 = 292 → 0 ≤ v.toInt ∧ v.toInt ≤ 4) : ∀ lo hi, rg 900 k = some (lo, hi) → lo ≤ v.toInt ∧ v.toInt ≤ hi := by
  intro lo hi q
  by_cases c1 : k % 400 < 32 ∧ k % 8 = 2
  · rw [rg900a c1.1 c1.2] at q; cases q; exact h1 c1.1 c1.2
  · by_cases c2 : k % 400 = 292
    · rw [rg900b c2] at q; cases q; exact h2 c2
    · exfalso; simp [rg, c1, c2] at q
theorem i32b (x : Int32) : -2147483648 ≤ x.toInt ∧ x.toInt ≤ 2147483647 := by have h1 := x.toInt_lt; have h2 := x.le_toInt; omega
def wkF (σ : Sg) : Nat → Int32
  | 0 => 0
  | n + 1 => wkF σ n + σ 79 (8 * n + 6)
