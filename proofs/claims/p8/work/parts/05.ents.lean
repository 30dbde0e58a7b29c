theorem en0 {G : Gg} {σ : Sg} {i : Nat} (h : nk i = 0) : i < 92 ∧ ent G σ i = .inr (0, [.ref (ad G (i + 1)), .ref (ad G (i + 8)), .int (σ i 2), .int (σ i 3), .int (σ i 4)]) := ⟨nk_lt h (by decide), by unfold ent; rw [h]; rfl⟩
theorem pu0_2 {G : Gg} {σ : Sg} {i : Nat} {v : Int32} (h : nk i = 0) : ent G (up2 σ i 2 v) i = .inr (0, ([.ref (ad G (i + 1)), .ref (ad G (i + 8)), .int (σ i 2), .int (σ i 3), .int (σ i 4)] : List Value).set 2 (.int v)) := by unfold ent; rw [h]; simp [up2_at, upd]
theorem pu0_3 {G : Gg} {σ : Sg} {i : Nat} {v : Int32} (h : nk i = 0) : ent G (up2 σ i 3 v) i = .inr (0, ([.ref (ad G (i + 1)), .ref (ad G (i + 8)), .int (σ i 2), .int (σ i 3), .int (σ i 4)] : List Value).set 3 (.int v)) := by unfold ent; rw [h]; simp [up2_at, upd]
theorem pu0_4 {G : Gg} {σ : Sg} {i : Nat} {v : Int32} (h : nk i = 0) : ent G (up2 σ i 4 v) i = .inr (0, ([.ref (ad G (i + 1)), .ref (ad G (i + 8)), .int (σ i 2), .int (σ i 3), .int (σ i 4)] : List Value).set 4 (.int v)) := by unfold ent; rw [h]; simp [up2_at, upd]
theorem en1 {G : Gg} {σ : Sg} {i : Nat} (h : nk i = 1) : i < 92 ∧ ent G σ i = .inr (1, [.ref (ad G (i + 1)), .ref (ad G (i + 2)), .int (σ i 2), .int (σ i 3)]) := ⟨nk_lt h (by decide), by unfold ent; rw [h]; rfl⟩
theorem pu1_2 {G : Gg} {σ : Sg} {i : Nat} {v : Int32} (h : nk i = 1) : ent G (up2 σ i 2 v) i = .inr (1, ([.ref (ad G (i + 1)), .ref (ad G (i + 2)), .int (σ i 2), .int (σ i 3)] : List Value).set 2 (.int v)) := by unfold ent; rw [h]; simp [up2_at, upd]
theorem pu1_3 {G : Gg} {σ : Sg} {i : Nat} {v : Int32} (h : nk i = 1) : ent G (up2 σ i 3 v) i = .inr (1, ([.ref (ad G (i + 1)), .ref (ad G (i + 2)), .int (σ i 2), .int (σ i 3)] : List Value).set 3 (.int v)) := by unfold ent; rw [h]; simp [up2_at, upd]
theorem en2 {G : Gg} {σ : Sg} {i : Nat} (h : nk i = 2) : i < 92 ∧ ent G σ i = .inr (2, [.ref (ad G (i + 1)), .ref (ad G (i + 2))]) := ⟨nk_lt h (by decide), by unfold ent; rw [h]; rfl⟩
theorem en3 {G : Gg} {σ : Sg} {i : Nat} (h : nk i = 3) : i < 92 ∧ ent G σ i = .inr (3, [.ref (ad G (i + 1)), .ref (ad G (i + 4)), .ref (ad G (i + 11))]) := ⟨nk_lt h (by decide), by unfold ent; rw [h]; rfl⟩
theorem en4 {G : Gg} {σ : Sg} {i : Nat} (h : nk i = 4) : i < 92 ∧ ent G σ i = .inr (4, [.ref (ad G (i + 1)), .int (σ i 1)]) := ⟨nk_lt h (by decide), by unfold ent; rw [h]; rfl⟩
theorem pu4_1 {G : Gg} {σ : Sg} {i : Nat} {v : Int32} (h : nk i = 4) : ent G (up2 σ i 1 v) i = .inr (4, ([.ref (ad G (i + 1)), .int (σ i 1)] : List Value).set 1 (.int v)) := by unfold ent; rw [h]; simp [up2_at, upd]
theorem en5 {G : Gg} {σ : Sg} {i : Nat} (h : nk i = 5) : i < 92 ∧ ent G σ i = .inr (5, [.int (σ i 0), .int (σ i 1), .int (σ i 2), .int (σ i 3), .int (σ i 4), .int (σ i 5), .int (σ i 6), .int (σ i 7)]) := ⟨nk_lt h (by decide), by unfold ent; rw [h]; rfl⟩
theorem pu5_0 {G : Gg} {σ : Sg} {i : Nat} {v : Int32} (h : nk i = 5) : ent G (up2 σ i 0 v) i = .inr (5, ([.int (σ i 0), .int (σ i 1), .int (σ i 2), .int (σ i 3), .int (σ i 4), .int (σ i 5), .int (σ i 6), .int (σ i 7)] : List Value).set 0 (.int v)) := by unfold ent; rw [h]; simp [up2_at, upd]
theorem pu5_1 {G : Gg} {σ : Sg} {i : Nat} {v : Int32} (h : nk i = 5) : ent G (up2 σ i 1 v) i = .inr (5, ([.int (σ i 0), .int (σ i 1), .int (σ i 2), .int (σ i 3), .int (σ i 4), .int (σ i 5), .int (σ i 6), .int (σ i 7)] : List Value).set 1 (.int v)) := by unfold ent; rw [h]; simp [up2_at, upd]
theorem pu5_2 {G : Gg} {σ : Sg} {i : Nat} {v : Int32} (h : nk i = 5) : ent G (up2 σ i 2 v) i = .inr (5, ([.int (σ i 0), .int (σ i 1), .int (σ i 2), .int (σ i 3), .int (σ i 4), .int (σ i 5), .int (σ i 6), .int (σ i 7)] : List Value).set 2 (.int v)) := by unfold ent; rw [h]; simp [up2_at, upd]
theorem pu5_3 {G : Gg} {σ : Sg} {i : Nat} {v : Int32} (h : nk i = 5) : ent G (up2 σ i 3 v) i = .inr (5, ([.int (σ i 0), .int (σ i 1), .int (σ i 2), .int (σ i 3), .int (σ i 4), .int (σ i 5), .int (σ i 6), .int (σ i 7)] : List Value).set 3 (.int v)) := by unfold ent; rw [h]; simp [up2_at, upd]
theorem pu5_4 {G : Gg} {σ : Sg} {i : Nat} {v : Int32} (h : nk i = 5) : ent G (up2 σ i 4 v) i = .inr (5, ([.int (σ i 0), .int (σ i 1), .int (σ i 2), .int (σ i 3), .int (σ i 4), .int (σ i 5), .int (σ i 6), .int (σ i 7)] : List Value).set 4 (.int v)) := by unfold ent; rw [h]; simp [up2_at, upd]
theorem pu5_5 {G : Gg} {σ : Sg} {i : Nat} {v : Int32} (h : nk i = 5) : ent G (up2 σ i 5 v) i = .inr (5, ([.int (σ i 0), .int (σ i 1), .int (σ i 2), .int (σ i 3), .int (σ i 4), .int (σ i 5), .int (σ i 6), .int (σ i 7)] : List Value).set 5 (.int v)) := by unfold ent; rw [h]; simp [up2_at, upd]
theorem pu5_6 {G : Gg} {σ : Sg} {i : Nat} {v : Int32} (h : nk i = 5) : ent G (up2 σ i 6 v) i = .inr (5, ([.int (σ i 0), .int (σ i 1), .int (σ i 2), .int (σ i 3), .int (σ i 4), .int (σ i 5), .int (σ i 6), .int (σ i 7)] : List Value).set 6 (.int v)) := by unfold ent; rw [h]; simp [up2_at, upd]
theorem pu5_7 {G : Gg} {σ : Sg} {i : Nat} {v : Int32} (h : nk i = 5) : ent G (up2 σ i 7 v) i = .inr (5, ([.int (σ i 0), .int (σ i 1), .int (σ i 2), .int (σ i 3), .int (σ i 4), .int (σ i 5), .int (σ i 6), .int (σ i 7)] : List Value).set 7 (.int v)) := by unfold ent; rw [h]; simp [up2_at, upd]
theorem en6 {G : Gg} {σ : Sg} {i : Nat} (h : nk i = 6) : i < 92 ∧ ent G σ i = .inr (6, [if σ i 0 = 0 then .null else .ref (ad G 4), .int (σ i 1)]) := ⟨nk_lt h (by decide), by unfold ent; rw [h]; rfl⟩
theorem pu6p {G : Gg} {σ : Sg} {i : Nat} (h : nk i = 6) : ent G (up2 σ i 0 1) i = .inr (6, ([if σ i 0 = 0 then .null else .ref (ad G 4), .int (σ i 1)] : List Value).set 0 (.ref (ad G 4))) := by unfold ent; rw [h]; simp [up2_at, upd]
theorem pu6_1 {G : Gg} {σ : Sg} {i : Nat} {v : Int32} (h : nk i = 6) : ent G (up2 σ i 1 v) i = .inr (6, ([if σ i 0 = 0 then .null else .ref (ad G 4), .int (σ i 1)] : List Value).set 1 (.int v)) := by unfold ent; rw [h]; simp [up2_at, upd]
theorem en7 {G : Gg} {σ : Sg} {i : Nat} (h : nk i = 7) : i < 92 ∧ ent G σ i = .inr (7, [.int (σ i 0), .int (σ i 1), .int (σ i 2)]) := ⟨nk_lt h (by decide), by unfold ent; rw [h]; rfl⟩
theorem pu7_0 {G : Gg} {σ : Sg} {i : Nat} {v : Int32} (h : nk i = 7) : ent G (up2 σ i 0 v) i = .inr (7, ([.int (σ i 0), .int (σ i 1), .int (σ i 2)] : List Value).set 0 (.int v)) := by unfold ent; rw [h]; simp [up2_at, upd]
theorem pu7_1 {G : Gg} {σ : Sg} {i : Nat} {v : Int32} (h : nk i = 7) : ent G (up2 σ i 1 v) i = .inr (7, ([.int (σ i 0), .int (σ i 1), .int (σ i 2)] : List Value).set 1 (.int v)) := by unfold ent; rw [h]; simp [up2_at, upd]
theorem pu7_2 {G : Gg} {σ : Sg} {i : Nat} {v : Int32} (h : nk i = 7) : ent G (up2 σ i 2 v) i = .inr (7, ([.int (σ i 0), .int (σ i 1), .int (σ i 2)] : List Value).set 2 (.int v)) := by unfold ent; rw [h]; simp [up2_at, upd]
theorem en8 {G : Gg} {σ : Sg} {i : Nat} (h : nk i = 8) : i < 92 ∧ ent G σ i = .inr (8, [.ref (ad G (i + 1)), .ref (ad G (i + 2)), .int (σ i 2)]) := ⟨nk_lt h (by decide), by unfold ent; rw [h]; rfl⟩
theorem pu8_2 {G : Gg} {σ : Sg} {i : Nat} {v : Int32} (h : nk i = 8) : ent G (up2 σ i 2 v) i = .inr (8, ([.ref (ad G (i + 1)), .ref (ad G (i + 2)), .int (σ i 2)] : List Value).set 2 (.int v)) := by unfold ent; rw [h]; simp [up2_at, upd]
theorem en9 {G : Gg} {σ : Sg} {i : Nat} (h : nk i = 9) : i < 92 ∧ ent G σ i = .inr (9, [.ref (ad G 1), .ref (ad G 3), .ref (ad G 15), .ref (ad G 40), .ref (ad G 41), .ref (ad G 53), .ref (ad G 65), .ref (ad G 74), .ref (ad G 75)]) := ⟨nk_lt h (by decide), by unfold ent; rw [h]; rfl⟩
theorem en10 {G : Gg} {σ : Sg} {i : Nat} (h : nk i = 10) : i < 92 ∧ ent G σ i = .inr (10, [.ref (ad G 79), .ref (ad G 80), .ref (ad G 81), .int (σ i 3), .ref (ad G 82), .ref (ad G 83), .ref (ad G 84), .int (σ i 7), .ref (ad G 85), .ref (ad G 86), .ref (ad G 87), .int (σ i 11), .ref (ad G 88), .int (σ i 13), .int (σ i 14), .int (σ i 15), .int (σ i 16), .int (σ i 17), .int (σ i 18), .int (σ i 19), .ref (ad G 89), .ref (ad G 90), .ref (ad G 91), .int (σ i 23), .int (σ i 24)]) := ⟨nk_lt h (by decide), by unfold ent; rw [h]; rfl⟩
theorem pu10_3 {G : Gg} {σ : Sg} {i : Nat} {v : Int32} (h : nk i = 10) : ent G (up2 σ i 3 v) i = .inr (10, ([.ref (ad G 79), .ref (ad G 80), .ref (ad G 81), .int (σ i 3), .ref (ad G 82), .ref (ad G 83), .ref (ad G 84), .int (σ i 7), .ref (ad G 85), .ref (ad G 86), .ref (ad G 87), .int (σ i 11), .ref (ad G 88), .int (σ i 13), .int (σ i 14), .int (σ i 15), .int (σ i 16), .int (σ i 17), .int (σ i 18), .int (σ i 19), .ref (ad G 89), .ref (ad G 90), .ref (ad G 91), .int (σ i 23), .int (σ i 24)] : List Value).set 3 (.int v)) := by unfold ent; rw [h]; simp [up2_at, upd]
theorem pu10_7 {G : Gg} {σ : Sg} {i : Nat} {v : Int32} (h : nk i = 10) : ent G (up2 σ i 7 v) i = .inr (10, ([.ref (ad G 79), .ref (ad G 80), .ref (ad G 81), .int (σ i 3), .ref (ad G 82), .ref (ad G 83), .ref (ad G 84), .int (σ i 7), .ref (ad G 85), .ref (ad G 86), .ref (ad G 87), .int (σ i 11), .ref (ad G 88), .int (σ i 13), .int (σ i 14), .int (σ i 15), .int (σ i 16), .int (σ i 17), .int (σ i 18), .int (σ i 19), .ref (ad G 89), .ref (ad G 90), .ref (ad G 91), .int (σ i 23), .int (σ i 24)] : List Value).set 7 (.int v)) := by unfold ent; rw [h]; simp [up2_at, upd]
theorem pu10_11 {G : Gg} {σ : Sg} {i : Nat} {v : Int32} (h : nk i = 10) : ent G (up2 σ i 11 v) i = .inr (10, ([.ref (ad G 79), .ref (ad G 80), .ref (ad G 81), .int (σ i 3), .ref (ad G 82), .ref (ad G 83), .ref (ad G 84), .int (σ i 7), .ref (ad G 85), .ref (ad G 86), .ref (ad G 87), .int (σ i 11), .ref (ad G 88), .int (σ i 13), .int (σ i 14), .int (σ i 15), .int (σ i 16), .int (σ i 17), .int (σ i 18), .int (σ i 19), .ref (ad G 89), .ref (ad G 90), .ref (ad G 91), .int (σ i 23), .int (σ i 24)] : List Value).set 11 (.int v)) := by unfold ent; rw [h]; simp [up2_at, upd]
theorem pu10_13 {G : Gg} {σ : Sg} {i : Nat} {v : Int32} (h : nk i = 10) : ent G (up2 σ i 13 v) i = .inr (10, ([.ref (ad G 79), .ref (ad G 80), .ref (ad G 81), .int (σ i 3), .ref (ad G 82), .ref (ad G 83), .ref (ad G 84), .int (σ i 7), .ref (ad G 85), .ref (ad G 86), .ref (ad G 87), .int (σ i 11), .ref (ad G 88), .int (σ i 13), .int (σ i 14), .int (σ i 15), .int (σ i 16), .int (σ i 17), .int (σ i 18), .int (σ i 19), .ref (ad G 89), .ref (ad G 90), .ref (ad G 91), .int (σ i 23), .int (σ i 24)] : List Value).set 13 (.int v)) := by unfold ent; rw [h]; simp [up2_at, upd]
theorem pu10_14 {G : Gg} {σ : Sg} {i : Nat} {v : Int32} (h : nk i = 10) : ent G (up2 σ i 14 v) i = .inr (10, ([.ref (ad G 79), .ref (ad G 80), .ref (ad G 81), .int (σ i 3), .ref (ad G 82), .ref (ad G 83), .ref (ad G 84), .int (σ i 7), .ref (ad G 85), .ref (ad G 86), .ref (ad G 87), .int (σ i 11), .ref (ad G 88), .int (σ i 13), .int (σ i 14), .int (σ i 15), .int (σ i 16), .int (σ i 17), .int (σ i 18), .int (σ i 19), .ref (ad G 89), .ref (ad G 90), .ref (ad G 91), .int (σ i 23), .int (σ i 24)] : List Value).set 14 (.int v)) := by unfold ent; rw [h]; simp [up2_at, upd]
theorem pu10_15 {G : Gg} {σ : Sg} {i : Nat} {v : Int32} (h : nk i = 10) : ent G (up2 σ i 15 v) i = .inr (10, ([.ref (ad G 79), .ref (ad G 80), .ref (ad G 81), .int (σ i 3), .ref (ad G 82), .ref (ad G 83), .ref (ad G 84), .int (σ i 7), .ref (ad G 85), .ref (ad G 86), .ref (ad G 87), .int (σ i 11), .ref (ad G 88), .int (σ i 13), .int (σ i 14), .int (σ i 15), .int (σ i 16), .int (σ i 17), .int (σ i 18), .int (σ i 19), .ref (ad G 89), .ref (ad G 90), .ref (ad G 91), .int (σ i 23), .int (σ i 24)] : List Value).set 15 (.int v)) := by unfold ent; rw [h]; simp [up2_at, upd]
theorem pu10_16 {G : Gg} {σ : Sg} {i : Nat} {v : Int32} (h : nk i = 10) : ent G (up2 σ i 16 v) i = .inr (10, ([.ref (ad G 79), .ref (ad G 80), .ref (ad G 81), .int (σ i 3), .ref (ad G 82), .ref (ad G 83), .ref (ad G 84), .int (σ i 7), .ref (ad G 85), .ref (ad G 86), .ref (ad G 87), .int (σ i 11), .ref (ad G 88), .int (σ i 13), .int (σ i 14), .int (σ i 15), .int (σ i 16), .int (σ i 17), .int (σ i 18), .int (σ i 19), .ref (ad G 89), .ref (ad G 90), .ref (ad G 91), .int (σ i 23), .int (σ i 24)] : List Value).set 16 (.int v)) := by unfold ent; rw [h]; simp [up2_at, upd]
theorem pu10_17 {G : Gg} {σ : Sg} {i : Nat} {v : Int32} (h : nk i = 10) : ent G (up2 σ i 17 v) i = .inr (10, ([.ref (ad G 79), .ref (ad G 80), .ref (ad G 81), .int (σ i 3), .ref (ad G 82), .ref (ad G 83), .ref (ad G 84), .int (σ i 7), .ref (ad G 85), .ref (ad G 86), .ref (ad G 87), .int (σ i 11), .ref (ad G 88), .int (σ i 13), .int (σ i 14), .int (σ i 15), .int (σ i 16), .int (σ i 17), .int (σ i 18), .int (σ i 19), .ref (ad G 89), .ref (ad G 90), .ref (ad G 91), .int (σ i 23), .int (σ i 24)] : List Value).set 17 (.int v)) := by unfold ent; rw [h]; simp [up2_at, upd]
theorem pu10_18 {G : Gg} {σ : Sg} {i : Nat} {v : Int32} (h : nk i = 10) : ent G (up2 σ i 18 v) i = .inr (10, ([.ref (ad G 79), .ref (ad G 80), .ref (ad G 81), .int (σ i 3), .ref (ad G 82), .ref (ad G 83), .ref (ad G 84), .int (σ i 7), .ref (ad G 85), .ref (ad G 86), .ref (ad G 87), .int (σ i 11), .ref (ad G 88), .int (σ i 13), .int (σ i 14), .int (σ i 15), .int (σ i 16), .int (σ i 17), .int (σ i 18), .int (σ i 19), .ref (ad G 89), .ref (ad G 90), .ref (ad G 91), .int (σ i 23), .int (σ i 24)] : List Value).set 18 (.int v)) := by unfold ent; rw [h]; simp [up2_at, upd]
theorem pu10_19 {G : Gg} {σ : Sg} {i : Nat} {v : Int32} (h : nk i = 10) : ent G (up2 σ i 19 v) i = .inr (10, ([.ref (ad G 79), .ref (ad G 80), .ref (ad G 81), .int (σ i 3), .ref (ad G 82), .ref (ad G 83), .ref (ad G 84), .int (σ i 7), .ref (ad G 85), .ref (ad G 86), .ref (ad G 87), .int (σ i 11), .ref (ad G 88), .int (σ i 13), .int (σ i 14), .int (σ i 15), .int (σ i 16), .int (σ i 17), .int (σ i 18), .int (σ i 19), .ref (ad G 89), .ref (ad G 90), .ref (ad G 91), .int (σ i 23), .int (σ i 24)] : List Value).set 19 (.int v)) := by unfold ent; rw [h]; simp [up2_at, upd]
theorem pu10_23 {G : Gg} {σ : Sg} {i : Nat} {v : Int32} (h : nk i = 10) : ent G (up2 σ i 23 v) i = .inr (10, ([.ref (ad G 79), .ref (ad G 80), .ref (ad G 81), .int (σ i 3), .ref (ad G 82), .ref (ad G 83), .ref (ad G 84), .int (σ i 7), .ref (ad G 85), .ref (ad G 86), .ref (ad G 87), .int (σ i 11), .ref (ad G 88), .int (σ i 13), .int (σ i 14), .int (σ i 15), .int (σ i 16), .int (σ i 17), .int (σ i 18), .int (σ i 19), .ref (ad G 89), .ref (ad G 90), .ref (ad G 91), .int (σ i 23), .int (σ i 24)] : List Value).set 23 (.int v)) := by unfold ent; rw [h]; simp [up2_at, upd]
theorem pu10_24 {G : Gg} {σ : Sg} {i : Nat} {v : Int32} (h : nk i = 10) : ent G (up2 σ i 24 v) i = .inr (10, ([.ref (ad G 79), .ref (ad G 80), .ref (ad G 81), .int (σ i 3), .ref (ad G 82), .ref (ad G 83), .ref (ad G 84), .int (σ i 7), .ref (ad G 85), .ref (ad G 86), .ref (ad G 87), .int (σ i 11), .ref (ad G 88), .int (σ i 13), .int (σ i 14), .int (σ i 15), .int (σ i 16), .int (σ i 17), .int (σ i 18), .int (σ i 19), .ref (ad G 89), .ref (ad G 90), .ref (ad G 91), .int (σ i 23), .int (σ i 24)] : List Value).set 24 (.int v)) := by unfold ent; rw [h]; simp [up2_at, upd]
theorem en12 {G : Gg} {σ : Sg} {i : Nat} (h : nk i = 12) : i < 92 ∧ ent G σ i = .inl (G.2.1.2.1, 2, .inl (σ i)) := ⟨nk_lt h (by decide), by unfold ent; rw [h]; rfl⟩
theorem ea12 {G : Gg} {i : Nat} (h : nk i = 12) : i < 92 ∧ ∀ σ : Sg, ent G σ i = .inl (G.2.1.2.1, 2, .inl (σ i)) := ⟨nk_lt h (by decide), fun _ => (en12 h).2⟩
theorem en13 {G : Gg} {σ : Sg} {i : Nat} (h : nk i = 13) : i < 92 ∧ ent G σ i = .inl (G.2.1.2.2.1, 2, .inr (.inr (.inr (.inr fun k => some (ad G (i + 1 + 12 * k)))))) := ⟨nk_lt h (by decide), by unfold ent; rw [h]; rfl⟩
theorem en14 {G : Gg} {σ : Sg} {i : Nat} (h : nk i = 14) : i < 92 ∧ ent G σ i = .inl (G.2.1.2.2.2, 4, .inr (.inr (.inr (.inr fun k => some (ad G (i + 2 + k)))))) := ⟨nk_lt h (by decide), by unfold ent; rw [h]; rfl⟩
theorem en140 {G : Gg} {σ : Sg} {i : Nat} (h : nk i = 140) : i < 92 ∧ ent G σ i = .inl (G.2.1.1, 40, .inl (σ i)) := ⟨nk_lt h (by decide), by unfold ent; rw [h]; rfl⟩
theorem ea140 {G : Gg} {i : Nat} (h : nk i = 140) : i < 92 ∧ ∀ σ : Sg, ent G σ i = .inl (G.2.1.1, 40, .inl (σ i)) := ⟨nk_lt h (by decide), fun _ => (en140 h).2⟩
theorem en356 {G : Gg} {σ : Sg} {i : Nat} (h : nk i = 356) : i < 92 ∧ ent G σ i = .inl (G.2.1.1, 256, .inl (σ i)) := ⟨nk_lt h (by decide), by unfold ent; rw [h]; rfl⟩
theorem ea356 {G : Gg} {i : Nat} (h : nk i = 356) : i < 92 ∧ ∀ σ : Sg, ent G σ i = .inl (G.2.1.1, 256, .inl (σ i)) := ⟨nk_lt h (by decide), fun _ => (en356 h).2⟩
theorem en164 {G : Gg} {σ : Sg} {i : Nat} (h : nk i = 164) : i < 92 ∧ ent G σ i = .inl (G.2.1.1, 64, .inl (σ i)) := ⟨nk_lt h (by decide), by unfold ent; rw [h]; rfl⟩
theorem ea164 {G : Gg} {i : Nat} (h : nk i = 164) : i < 92 ∧ ∀ σ : Sg, ent G σ i = .inl (G.2.1.1, 64, .inl (σ i)) := ⟨nk_lt h (by decide), fun _ => (en164 h).2⟩
theorem en104 {G : Gg} {σ : Sg} {i : Nat} (h : nk i = 104) : i < 92 ∧ ent G σ i = .inl (G.2.1.1, 4, .inl (σ i)) := ⟨nk_lt h (by decide), by unfold ent; rw [h]; rfl⟩
theorem ea104 {G : Gg} {i : Nat} (h : nk i = 104) : i < 92 ∧ ∀ σ : Sg, ent G σ i = .inl (G.2.1.1, 4, .inl (σ i)) := ⟨nk_lt h (by decide), fun _ => (en104 h).2⟩
theorem en172 {G : Gg} {σ : Sg} {i : Nat} (h : nk i = 172) : i < 92 ∧ ent G σ i = .inl (G.2.1.1, 72, .inl (σ i)) := ⟨nk_lt h (by decide), by unfold ent; rw [h]; rfl⟩
theorem ea172 {G : Gg} {i : Nat} (h : nk i = 172) : i < 92 ∧ ∀ σ : Sg, ent G σ i = .inl (G.2.1.1, 72, .inl (σ i)) := ⟨nk_lt h (by decide), fun _ => (en172 h).2⟩
theorem en132 {G : Gg} {σ : Sg} {i : Nat} (h : nk i = 132) : i < 92 ∧ ent G σ i = .inl (G.2.1.1, 32, .inl (σ i)) := ⟨nk_lt h (by decide), by unfold ent; rw [h]; rfl⟩
theorem ea132 {G : Gg} {i : Nat} (h : nk i = 132) : i < 92 ∧ ∀ σ : Sg, ent G σ i = .inl (G.2.1.1, 32, .inl (σ i)) := ⟨nk_lt h (by decide), fun _ => (en132 h).2⟩
theorem en174 {G : Gg} {σ : Sg} {i : Nat} (h : nk i = 174) : i < 92 ∧ ent G σ i = .inl (G.2.1.1, 74, .inl (σ i)) := ⟨nk_lt h (by decide), by unfold ent; rw [h]; rfl⟩
theorem ea174 {G : Gg} {i : Nat} (h : nk i = 174) : i < 92 ∧ ∀ σ : Sg, ent G σ i = .inl (G.2.1.1, 74, .inl (σ i)) := ⟨nk_lt h (by decide), fun _ => (en174 h).2⟩
theorem en900 {G : Gg} {σ : Sg} {i : Nat} (h : nk i = 900) : i < 92 ∧ ent G σ i = .inl (G.2.1.1, 800, .inl (σ i)) := ⟨nk_lt h (by decide), by unfold ent; rw [h]; rfl⟩
theorem ea900 {G : Gg} {i : Nat} (h : nk i = 900) : i < 92 ∧ ∀ σ : Sg, ent G σ i = .inl (G.2.1.1, 800, .inl (σ i)) := ⟨nk_lt h (by decide), fun _ => (en900 h).2⟩
theorem kd0_1 {i : Nat} (h : nk i = 0) : nk (i + 1) = 1 := (by decide +kernel : ∀ i, i < 92 → nk i = 0 → nk (i + 1) = 1) i (nk_lt h (by decide)) h
theorem kd0_8 {i : Nat} (h : nk i = 0) : nk (i + 8) = 6 := (by decide +kernel : ∀ i, i < 92 → nk i = 0 → nk (i + 8) = 6) i (nk_lt h (by decide)) h
theorem kd1_1 {i : Nat} (h : nk i = 1) : nk (i + 1) = 14 := (by decide +kernel : ∀ i, i < 92 → nk i = 1 → nk (i + 1) = 14) i (nk_lt h (by decide)) h
theorem kd1_2 {i : Nat} (h : nk i = 1) : nk (i + 2) = 104 := (by decide +kernel : ∀ i, i < 92 → nk i = 1 → nk (i + 2) = 104) i (nk_lt h (by decide)) h
theorem kd2_1 {i : Nat} (h : nk i = 2) : nk (i + 1) = 356 := (by decide +kernel : ∀ i, i < 92 → nk i = 2 → nk (i + 1) = 356) i (nk_lt h (by decide)) h
theorem kd2_2 {i : Nat} (h : nk i = 2) : nk (i + 2) = 164 := (by decide +kernel : ∀ i, i < 92 → nk i = 2 → nk (i + 2) = 164) i (nk_lt h (by decide)) h
theorem kd3_1 {i : Nat} (h : nk i = 3) : nk (i + 1) = 2 := (by decide +kernel : ∀ i, i < 92 → nk i = 3 → nk (i + 1) = 2) i (nk_lt h (by decide)) h
theorem kd3_4 {i : Nat} (h : nk i = 3) : nk (i + 4) = 1 := (by decide +kernel : ∀ i, i < 92 → nk i = 3 → nk (i + 4) = 1) i (nk_lt h (by decide)) h
theorem kd3_11 {i : Nat} (h : nk i = 3) : nk (i + 11) = 104 := (by decide +kernel : ∀ i, i < 92 → nk i = 3 → nk (i + 11) = 104) i (nk_lt h (by decide)) h
theorem kd4_1 {i : Nat} (h : nk i = 4) : nk (i + 1) = 140 := (by decide +kernel : ∀ i, i < 92 → nk i = 4 → nk (i + 1) = 140) i (nk_lt h (by decide)) h
theorem kd8_1 {i : Nat} (h : nk i = 8) : nk (i + 1) = 172 := (by decide +kernel : ∀ i, i < 92 → nk i = 8 → nk (i + 1) = 172) i (nk_lt h (by decide)) h
theorem kd8_2 {i : Nat} (h : nk i = 8) : nk (i + 2) = 172 := (by decide +kernel : ∀ i, i < 92 → nk i = 8 → nk (i + 2) = 172) i (nk_lt h (by decide)) h
theorem ke14 {i j : Nat} (h : nk i = 14) (hj : j < 4) : nk (i + 2 + j) = 5 := (by decide +kernel : ∀ i, i < 92 → nk i = 14 → ∀ j, j < 4 → nk (i + 2 + j) = 5) i (nk_lt h (by decide)) h j hj
theorem ke13 {i j : Nat} (h : nk i = 13) (hj : j < 2) : nk (i + 1 + 12 * j) = 3 := (by decide +kernel : ∀ i, i < 92 → nk i = 13 → ∀ j, j < 2 → nk (i + 1 + 12 * j) = 3) i (nk_lt h (by decide)) h j hj
theorem tr_of {i k : Nat} (h : trq i = false) : trk i k = false := by unfold trq at h; simp only [Bool.or_eq_false_iff] at h; simp [trk, trn, h]
theorem tr0 {i k : Nat} (h : nk i = 0) : trk i k = false := tr_of ((by decide +kernel : ∀ i, i < 92 → nk i = 0 → trq i = false) i (nk_lt h (by decide)) h)
theorem tr1 {i k : Nat} (h : nk i = 1) : trk i k = false := tr_of ((by decide +kernel : ∀ i, i < 92 → nk i = 1 → trq i = false) i (nk_lt h (by decide)) h)
theorem tr2 {i k : Nat} (h : nk i = 2) : trk i k = false := tr_of ((by decide +kernel : ∀ i, i < 92 → nk i = 2 → trq i = false) i (nk_lt h (by decide)) h)
theorem tr3 {i k : Nat} (h : nk i = 3) : trk i k = false := tr_of ((by decide +kernel : ∀ i, i < 92 → nk i = 3 → trq i = false) i (nk_lt h (by decide)) h)
theorem tr5 {i k : Nat} (h : nk i = 5) : trk i k = false := tr_of ((by decide +kernel : ∀ i, i < 92 → nk i = 5 → trq i = false) i (nk_lt h (by decide)) h)
theorem tr6 {i k : Nat} (h : nk i = 6) : trk i k = false := tr_of ((by decide +kernel : ∀ i, i < 92 → nk i = 6 → trq i = false) i (nk_lt h (by decide)) h)
theorem tr7 {i k : Nat} (h : nk i = 7) : trk i k = false := tr_of ((by decide +kernel : ∀ i, i < 92 → nk i = 7 → trq i = false) i (nk_lt h (by decide)) h)
theorem tr8 {i k : Nat} (h : nk i = 8) : trk i k = false := tr_of ((by decide +kernel : ∀ i, i < 92 → nk i = 8 → trq i = false) i (nk_lt h (by decide)) h)
theorem tr9 {i k : Nat} (h : nk i = 9) : trk i k = false := tr_of ((by decide +kernel : ∀ i, i < 92 → nk i = 9 → trq i = false) i (nk_lt h (by decide)) h)
theorem tr12 {i k : Nat} (h : nk i = 12) : trk i k = false := tr_of ((by decide +kernel : ∀ i, i < 92 → nk i = 12 → trq i = false) i (nk_lt h (by decide)) h)
theorem tr13 {i k : Nat} (h : nk i = 13) : trk i k = false := tr_of ((by decide +kernel : ∀ i, i < 92 → nk i = 13 → trq i = false) i (nk_lt h (by decide)) h)
theorem tr14 {i k : Nat} (h : nk i = 14) : trk i k = false := tr_of ((by decide +kernel : ∀ i, i < 92 → nk i = 14 → trq i = false) i (nk_lt h (by decide)) h)
theorem tr104 {i k : Nat} (h : nk i = 104) : trk i k = false := tr_of ((by decide +kernel : ∀ i, i < 92 → nk i = 104 → trq i = false) i (nk_lt h (by decide)) h)
theorem tr132 {i k : Nat} (h : nk i = 132) : trk i k = false := tr_of ((by decide +kernel : ∀ i, i < 92 → nk i = 132 → trq i = false) i (nk_lt h (by decide)) h)
theorem tr164 {i k : Nat} (h : nk i = 164) : trk i k = false := tr_of ((by decide +kernel : ∀ i, i < 92 → nk i = 164 → trq i = false) i (nk_lt h (by decide)) h)
theorem tr172 {i k : Nat} (h : nk i = 172) : trk i k = false := tr_of ((by decide +kernel : ∀ i, i < 92 → nk i = 172 → trq i = false) i (nk_lt h (by decide)) h)
theorem tr174 {i k : Nat} (h : nk i = 174) : trk i k = false := tr_of ((by decide +kernel : ∀ i, i < 92 → nk i = 174 → trq i = false) i (nk_lt h (by decide)) h)
theorem tr356 {i k : Nat} (h : nk i = 356) : trk i k = false := tr_of ((by decide +kernel : ∀ i, i < 92 → nk i = 356 → trq i = false) i (nk_lt h (by decide)) h)
theorem tr900 {i k : Nat} (h : nk i = 900) : trk i k = false := tr_of ((by decide +kernel : ∀ i, i < 92 → nk i = 900 → trq i = false) i (nk_lt h (by decide)) h)
theorem mostF_bd (k : Nat) : 0 ≤ (mostF k).toInt ∧ (mostF k).toInt ≤ 99 := by
  by_cases h : k < 6
  · exact (by decide +kernel : ∀ k, k < 6 → 0 ≤ (mostF k).toInt ∧ (mostF k).toInt ≤ 99) k h
  · unfold mostF; rw [List.getD_eq_getElem?_getD, List.getElem?_eq_none (by simp; omega)]; decide
theorem stepXF_bd (k : Nat) : -1 ≤ (stepXF k).toInt ∧ (stepXF k).toInt ≤ 1 := by
  by_cases h : k < 8
  · exact (by decide +kernel : ∀ k, k < 8 → -1 ≤ (stepXF k).toInt ∧ (stepXF k).toInt ≤ 1) k h
  · unfold stepXF; rw [List.getD_eq_getElem?_getD, List.getElem?_eq_none (by simp; omega)]; decide
theorem stepYF_bd (k : Nat) : -1 ≤ (stepYF k).toInt ∧ (stepYF k).toInt ≤ 1 := by
  by_cases h : k < 8
  · exact (by decide +kernel : ∀ k, k < 8 → -1 ≤ (stepYF k).toInt ∧ (stepYF k).toInt ≤ 1) k h
  · unfold stepYF; rw [List.getD_eq_getElem?_getD, List.getElem?_eq_none (by simp; omega)]; decide
theorem abs_bd {x : Int32} {n : Int} (h1 : -n ≤ x.toInt) (h2 : x.toInt ≤ n) (h3 : n < 2147483648) : 0 ≤ (if 0 ≤ x then x else 0 - x).toInt ∧ (if 0 ≤ x then x else 0 - x).toInt ≤ n := by
  split
  · rename_i h; have h := Jvm.Kit.i32_nonneg.mp h; omega
  · rename_i h; have h : ¬ 0 ≤ x.toInt := fun z => h (Jvm.Kit.i32_nonneg.mpr z); rw [Jvm.Kit.i32_sub (by rw [Int32.toInt_zero]; omega) (by rw [Int32.toInt_zero]; omega), Int32.toInt_zero]; omega
theorem and7 (x : Int32) : 0 ≤ (x &&& 7).toInt ∧ (x &&& 7).toInt ≤ 7 := by
  have h := vp_in_iff.mp (pk_andIn x (m := 7) 3 (by decide) (by decide)); omega
theorem xor8 (x : Int32) : 0 ≤ (x ^^^ 8).toInt ↔ 0 ≤ x.toInt := by
  have e1 : (x ^^^ 8).toInt = (x.toBitVec ^^^ 8#32).toInt := rfl
  have e2 : x.toInt = x.toBitVec.toInt := rfl
  have g : ∀ b : BitVec 32, 0 ≤ b.toInt ↔ b.msb = false := fun b => by rw [BitVec.msb_eq_toInt]; simp
  rw [e1, e2, g, g, BitVec.msb_xor]; simp; rw [show (8#32).msb = false from by decide]
theorem lk_out {ps : List (Int × Int)} {d x : Int} (h : ∀ q ∈ ps, q.1 ≠ x) : Op.lookupswitch.offset ps d x = d := by
  induction ps with
  | nil => rfl
  | cons q r ih => obtain ⟨u, o⟩ := q; rw [Op.lookupswitch.offset_cons, if_neg (h (u, o) List.mem_cons_self)]; exact ih (fun z hz => h z (List.mem_cons_of_mem _ hz))
theorem rg132 {i k : Nat} {v : Int32} (hk : nk i = 132) (h : k % 8 = 2 → 0 ≤ v.toInt ∧ v.toInt ≤ 3) : ∀ lo hi, rg (nk i) k = some (lo, hi) → lo ≤ v.toInt ∧ v.toInt ≤ hi := by
  intro lo hi q; rw [hk] at q; simp [rg] at q; obtain ⟨q1, q2, q3⟩ := q; subst q2; subst q3; exact h q1
theorem rd132 {σ : Sg} {i k : Nat} (h : Inv σ) (hk : nk i = 132) (hq : k % 8 = 2) : 0 ≤ (σ i k).toInt ∧ (σ i k).toInt ≤ 3 := h i k 0 3 (by rw [hk]; simp [rg, hq])
theorem rg900a {k : Nat} (h1 : k % 400 < 32) (h2 : k % 8 = 2) : rg 900 k = some (0, 3) := by simp [rg, h1, h2]
theorem rg900b {k : Nat} (h1 : k % 400 = 292) : rg 900 k = some (0, 4) := by simp [rg, h1]
theorem rg900 {k : Nat} {v : Int32} (h1 : k % 400 < 32 → k % 8 = 2 → 0 ≤ v.toInt ∧ v.toInt ≤ 3) (h2 : k % 400 = 292 → 0 ≤ v.toInt ∧ v.toInt ≤ 4) : ∀ lo hi, rg 900 k = some (lo, hi) → lo ≤ v.toInt ∧ v.toInt ≤ hi := by
  intro lo hi q
  by_cases c1 : k % 400 < 32 ∧ k % 8 = 2
  · rw [rg900a c1.1 c1.2] at q; cases q; exact h1 c1.1 c1.2
  · by_cases c2 : k % 400 = 292
    · rw [rg900b c2] at q; cases q; exact h2 c2
    · exfalso; simp [rg, c1, c2] at q
theorem i32b (x : Int32) : -2147483648 ≤ x.toInt ∧ x.toInt ≤ 2147483647 := by have h1 := x.toInt_lt; have h2 := x.le_toInt; omega
def bb (x : Int32) : Bool := decide (¬ x.toInt = 0)
def stp (c : Int32) (s : Bool × Bool) : Option (Bool × Bool) :=
  if s.2 = true then (if 49 ≤ c.toInt ∧ c.toInt ≤ 57 then some (s.1, false) else none)
  else if 65 ≤ c.toInt ∧ c.toInt ≤ 68 then some (true, false)
  else if s.1 = true ∧ (c.toInt = 102 ∨ c.toInt = 119 ∨ c.toInt = 114 ∨ c.toInt = 108 ∨ c.toInt = 98) then some (s.1, decide (c.toInt = 102 ∨ c.toInt = 119)) else none
def scn (f : Nat → Int32) : Nat → Option (Bool × Bool)
  | 0 => some (false, false)
  | n + 1 => (scn f n).bind (stp (f n))
theorem scn_step {f : Nat → Int32} {n : Nat} {s s' : Bool × Bool} (h : scn f n = some s) (h2 : stp (f n) s = some s') : scn f (n + 1) = some s' := by
  show (scn f n).bind (stp (f n)) = some s'
  rw [h]; exact h2
theorem bb_t {x : Int32} (h : ¬ x.toInt = 0) : bb x = true := by simp [bb, h]
theorem bb_f {x : Int32} (h : x.toInt = 0) : bb x = false := by simp [bb, h]
theorem stp_m {c a d a' d' : Int32} (h : (¬ d.toInt = 0 ∧ 49 ≤ c.toInt ∧ c.toInt ≤ 57) ∨ (d.toInt = 0 ∧ ((65 ≤ c.toInt ∧ c.toInt ≤ 68) ∨ (¬ a.toInt = 0 ∧ (c.toInt = 102 ∨ c.toInt = 119 ∨ c.toInt = 114 ∨ c.toInt = 108 ∨ c.toInt = 98)))))
    (ha : a'.toInt = 0 ↔ (a.toInt = 0 ∧ ¬ (65 ≤ c.toInt ∧ c.toInt ≤ 68))) (hd : d'.toInt = 0 ↔ ¬ (d.toInt = 0 ∧ (c.toInt = 102 ∨ c.toInt = 119))) : stp c (bb a, bb d) = some (bb a', bb d') := by
  unfold stp
  rcases h with ⟨h1, h2⟩ | ⟨h1, h2 | ⟨h2, h3⟩⟩
  · rw [if_pos (bb_t h1), if_pos h2, bb_f (x := d') (by omega)]
    have : bb a' = bb a := by
      by_cases q : a.toInt = 0
      · rw [bb_f q, bb_f (by omega)]
      · rw [bb_t q, bb_t (by omega)]
    rw [this]
  · rw [if_neg (by rw [bb_f h1]; exact Bool.false_ne_true), if_pos h2, bb_t (x := a') (by omega), bb_f (x := d') (by omega)]
  · by_cases q : 65 ≤ c.toInt ∧ c.toInt ≤ 68
    · exfalso; omega
    · rw [if_neg (by rw [bb_f h1]; exact Bool.false_ne_true), if_neg q, if_pos ⟨bb_t h2, h3⟩, bb_t h2, bb_t (x := a') (by omega)]
      congr 2
      by_cases g : c.toInt = 102 ∨ c.toInt = 119
      · rw [bb_t (by omega)]; simp [g]
      · rw [bb_f (by omega)]; simp [g]
theorem stp_n {c a d : Int32} (h1 : ¬ d.toInt = 0 → ¬ (49 ≤ c.toInt ∧ c.toInt ≤ 57)) (h2 : d.toInt = 0 → ¬ (65 ≤ c.toInt ∧ c.toInt ≤ 68) ∧ (a.toInt = 0 ∨ ¬ (c.toInt = 102 ∨ c.toInt = 119 ∨ c.toInt = 114 ∨ c.toInt = 108 ∨ c.toInt = 98))) : stp c (bb a, bb d) = none := by
  unfold stp
  by_cases q : d.toInt = 0
  · obtain ⟨g1, g2⟩ := h2 q
    rw [if_neg (by rw [bb_f q]; exact Bool.false_ne_true), if_neg g1, if_neg]
    intro ⟨z1, z2⟩
    rcases g2 with g2 | g2
    · rw [bb_f g2] at z1; cases z1
    · exact g2 z2
  · rw [if_pos (bb_t q), if_neg (h1 q)]
def FR (f : Nat → Int32) (n : Int) (r : Int32) : Prop := (∃ i : Nat, (i : Int) < n ∧ (∃ s, scn f i = some s ∧ stp (f i) s = none) ∧ r.toInt = i) ∨ (0 ≤ n ∧ (∃ a, scn f n.toNat = some (a, true)) ∧ r.toInt = n) ∨ (0 ≤ n ∧ (∃ a, scn f n.toNat = some (a, false)) ∧ r.toInt = -6)
theorem FR_at {f : Nat → Int32} {n : Int} {r : Int32} {i : Nat} {s : Bool × Bool} (h1 : scn f i = some s) (h2 : stp (f i) s = none) (h3 : (i : Int) < n) (h4 : r.toInt = i) : FR f n r := Or.inl ⟨i, h3, ⟨s, h1, h2⟩, h4⟩
theorem FR_due {f : Nat → Int32} {n : Int} {r a d : Int32} (h : scn f n.toNat = some (bb a, bb d)) (hd : ¬ d.toInt = 0 ∧ 0 ≤ n) (hr : r.toInt = n) : FR f n r := Or.inr (Or.inl ⟨hd.2, ⟨bb a, by rw [h, bb_t hd.1]⟩, hr⟩)
theorem FR_no {f : Nat → Int32} {n : Int} {r a d : Int32} (h : scn f n.toNat = some (bb a, bb d)) (hd : d.toInt = 0 ∧ 0 ≤ n) (hr : r.toInt = -6) : FR f n r := Or.inr (Or.inr ⟨hd.2, ⟨bb a, by rw [h, bb_f hd.1]⟩, hr⟩)
theorem scn_none {f : Nat → Int32} {i : Nat} (h : scn f i = none) : ∀ k, scn f (i + k) = none := by
  intro k
  induction k with
  | zero => exact h
  | succ k ih => show (scn f (i + k)).bind _ = none; rw [ih]; rfl
theorem scn_bad {f : Nat → Int32} {i : Nat} (h : ∃ s, scn f i = some s ∧ stp (f i) s = none) {j : Nat} (hj : i < j) : scn f j = none := by
  obtain ⟨s, h1, h2⟩ := h
  have e : scn f (i + 1) = none := by show (scn f i).bind _ = none; rw [h1]; exact h2
  have := scn_none e (j - (i + 1))
  rwa [show i + 1 + (j - (i + 1)) = j by omega] at this
theorem FR_i {f : Nat → Int32} {n : Int} {r r' : Int32} (h : FR f n r) (h' : FR f n r') : r.toInt = r'.toInt := by
  rcases h with ⟨i, a1, a2, a3⟩ | ⟨a0, ⟨a, a1⟩, a3⟩ | ⟨a0, ⟨a, a1⟩, a3⟩ <;> rcases h' with ⟨j, b1, b2, b3⟩ | ⟨b0, ⟨b, b1⟩, b3⟩ | ⟨b0, ⟨b, b1⟩, b3⟩
  · rcases Nat.lt_trichotomy i j with q | q | q
    · obtain ⟨s, g1, g2⟩ := b2; rw [scn_bad a2 q] at g1; cases g1
    · omega
    · obtain ⟨s, g1, g2⟩ := a2; rw [scn_bad b2 q] at g1; cases g1
  · rw [scn_bad a2 (by omega)] at b1; cases b1
  · rw [scn_bad a2 (by omega)] at b1; cases b1
  · rw [scn_bad b2 (by omega)] at a1; cases a1
  · omega
  · rw [a1] at b1; cases b1
  · rw [scn_bad b2 (by omega)] at a1; cases a1
  · rw [a1] at b1; cases b1
  · omega
theorem FR_eq {f : Nat → Int32} {n : Int} {r r' : Int32} (h : FR f n r) (h' : FR f n r') : r = r' := Int32.toInt_inj.mp (FR_i h h')
theorem FR_ge {f : Nat → Int32} {n : Int} {r : Int32} (h : FR f n r) (h0 : 0 ≤ r.toInt) : ¬ r = -6 := by
  intro q; rw [q] at h0; exact absurd h0 (by decide)
theorem FR_lt {f : Nat → Int32} {n : Int} {r : Int32} (h : FR f n r) (h0 : r.toInt < 0) : r = -6 := by
  apply Int32.toInt_inj.mp
  rcases h with ⟨i, a1, a2, a3⟩ | ⟨a0, a1, a3⟩ | ⟨a0, a1, a3⟩
  · exfalso; omega
  · exfalso; omega
  · rw [a3]; decide
def sayP (cn ck sn : Nat) (σ σ' : Sg) (v r : Int32) : Prop := (¬ (33 ≤ v.toInt ∧ v.toInt ≤ 126) ∧ K0 σ σ' ∧ r = -2) ∨ ((33 ≤ v.toInt ∧ v.toInt ≤ 126) ∧ 40 ≤ (σ cn ck).toInt ∧ K0 σ σ' ∧ r = -4) ∨ ((33 ≤ v.toInt ∧ v.toInt ≤ 126) ∧ (σ cn ck).toInt < 40 ∧ K0 (up2 (up2 σ sn (σ cn ck).toNatClampNeg v) cn ck (σ cn ck + 1)) σ' ∧ r = σ cn ck + 1)
theorem say_inv {cn ck sn : Nat} {σ σ' : Sg} {v r : Int32} (h : sayP cn ck sn σ σ' v r) : Inv σ' := by rcases h with ⟨_, h, _⟩ | ⟨_, _, h, _⟩ | ⟨_, _, h, _⟩ <;> exact h.1
def RelP (σ : Sg) : Prop := (∀ k, σ 2 k = σ 84 k) ∧ σ 1 1 = σ 78 7
theorem RelP.row {σ : Sg} (h : RelP σ) : σ 2 = σ 84 := funext h.1
theorem RelP.go {σ σ' : Sg} (h : RelP σ) (k : K0 σ σ') : RelP σ' := ⟨fun j => by rw [k.2 2 j rfl, k.2 84 j rfl]; exact h.1 j, by rw [k.2 1 1 rfl, k.2 78 7 rfl]; exact h.2⟩
theorem rel_say {σ a b : Sg} {v r r' : Int32} (h : RelP σ) (h1 : sayP 1 1 2 σ a v r) (h2 : sayP 78 7 84 a b v r') : Inv b ∧ RelP b := by
  refine ⟨say_inv h2, ?_⟩
  rcases h1 with ⟨p1, k1, _⟩ | ⟨p1, p2, k1, _⟩ | ⟨p1, p2, k1, _⟩
  · rcases h2 with ⟨q1, k2, _⟩ | ⟨q1, q2, k2, _⟩ | ⟨q1, q2, k2, _⟩
    · exact (h.go k1).go k2
    · exact absurd q1 p1
    · exact absurd q1 p1
  · have e : a 78 7 = σ 1 1 := by rw [k1.2 78 7 rfl]; exact h.2.symm
    rcases h2 with ⟨q1, k2, _⟩ | ⟨q1, q2, k2, _⟩ | ⟨q1, q2, k2, _⟩
    · exact absurd p1 q1
    · exact (h.go k1).go k2
    · rw [e] at q2; exfalso; omega
  · have e : a 78 7 = σ 1 1 := by rw [k1.2 78 7 rfl, up2_ne (by decide), up2_ne (by decide)]; exact h.2.symm
    rcases h2 with ⟨q1, k2, _⟩ | ⟨q1, q2, k2, _⟩ | ⟨q1, q2, k2, _⟩
    · exact absurd p1 q1
    · rw [e] at q2; exfalso; omega
    · rw [e] at k2
      refine ⟨fun j => ?_, ?_⟩
      · rw [k2.2 2 j rfl, k2.2 84 j rfl, up2_ne (by decide), up2_ne (by decide), up2_ne (i := 78) (by decide), k1.2 2 j rfl, up2_ne (by decide)]
        by_cases hj : j = (σ 1 1).toNatClampNeg
        · subst hj; rw [up2_self, up2_self]
        · rw [up2_nk hj, up2_nk hj, k1.2 84 j rfl, up2_ne (by decide), up2_ne (by decide)]; exact h.1 j
      · rw [k2.2 1 1 rfl, k2.2 78 7 rfl, up2_self, up2_ne (by decide), up2_ne (by decide), k1.2 1 1 rfl, up2_self]
theorem say_eq {σ a b : Sg} {v r r' : Int32} (h : RelP σ) (h1 : sayP 1 1 2 σ a v r) (h2 : sayP 78 7 84 a b v r') : r = r' := by
  rcases h1 with ⟨p1, k1, e1⟩ | ⟨p1, p2, k1, e1⟩ | ⟨p1, p2, k1, e1⟩
  · rcases h2 with ⟨q1, k2, e2⟩ | ⟨q1, q2, k2, e2⟩ | ⟨q1, q2, k2, e2⟩
    · rw [e1, e2]
    · exact absurd q1 p1
    · exact absurd q1 p1
  · have e : a 78 7 = σ 1 1 := by rw [k1.2 78 7 rfl]; exact h.2.symm
    rcases h2 with ⟨q1, k2, e2⟩ | ⟨q1, q2, k2, e2⟩ | ⟨q1, q2, k2, e2⟩
    · exact absurd p1 q1
    · rw [e1, e2]
    · rw [e] at q2; exfalso; omega
  · have e : a 78 7 = σ 1 1 := by rw [k1.2 78 7 rfl, up2_ne (by decide), up2_ne (by decide)]; exact h.2.symm
    rcases h2 with ⟨q1, k2, e2⟩ | ⟨q1, q2, k2, e2⟩ | ⟨q1, q2, k2, e2⟩
    · exact absurd p1 q1
    · rw [e] at q2; exfalso; omega
    · rw [e1, e2, e]
theorem rel_wipe {σ a b : Sg} (h : RelP σ) (k1 : K0 (up2 σ 1 1 0) a) (k2 : K0 (up2 a 78 7 0) b) : Inv b ∧ RelP b := by
  refine ⟨k2.1, fun j => ?_, ?_⟩
  · rw [k2.2 2 j rfl, k2.2 84 j rfl, up2_ne (by decide), up2_ne (by decide), k1.2 2 j rfl, k1.2 84 j rfl, up2_ne (by decide), up2_ne (by decide)]; exact h.1 j
  · rw [k2.2 1 1 rfl, k2.2 78 7 rfl, up2_self, up2_ne (by decide), k1.2 1 1 rfl, up2_self]
theorem wipe_eq {σ a b : Sg} {r r' : Int32} (h : RelP σ) (h1 : K0 (up2 σ 1 1 0) a ∧ r = σ 1 1) (h2 : K0 (up2 a 78 7 0) b ∧ r' = a 78 7) : r = r' := by
  rw [h1.2, h2.2, h1.1.2 78 7 rfl, up2_ne (by decide)]; exact h.2
def ctA (f : Nat → Int32) : Nat → Int32
  | 0 => 0
  | n + 1 => ctA f n + (if 48 ≤ (f n).toInt ∧ (f n).toInt ≤ 57 then 0 else 1)
def ctB (f : Nat → Int32) : Nat → Int32
  | 0 => 0
  | n + 1 => ctB f n + (if 49 ≤ (f n).toInt ∧ (f n).toInt ≤ 57 then 0 else 1)
theorem ctA_0 {f : Nat → Int32} {n : Nat} {m r : Int32} (h : m = ctA f n) (hS : (r = 1 ∧ ¬ (48 ≤ (f n).toInt ∧ (f n).toInt ≤ 57)) ∨ (r = 0 ∧ (48 ≤ (f n).toInt ∧ (f n).toInt ≤ 57))) (c : r = 0) : m = ctA f (n + 1) := by
  rcases hS with ⟨q, _⟩ | ⟨_, q⟩
  · rw [q] at c; exact absurd c (by decide)
  · show m = ctA f n + _; rw [if_pos q, ← h]; exact (Int32.add_zero m).symm
theorem ctA_1 {f : Nat → Int32} {n : Nat} {m m' r : Int32} (h : m = ctA f n) (hS : (r = 1 ∧ ¬ (48 ≤ (f n).toInt ∧ (f n).toInt ≤ 57)) ∨ (r = 0 ∧ (48 ≤ (f n).toInt ∧ (f n).toInt ≤ 57))) (c : ¬ r = 0) (e : m' = m + 1) : m' = ctA f (n + 1) := by
  rcases hS with ⟨_, q⟩ | ⟨q, _⟩
  · show m' = ctA f n + _; rw [if_neg q, ← h]; exact e
  · exact absurd q c
theorem ctB_0 {f : Nat → Int32} {n : Nat} {m m' c : Int32} (h : m = ctB f n) (hc : c = f n) (q : 49 ≤ c.toInt ∧ c.toInt ≤ 57) (e : m' = m + 0) : m' = ctB f (n + 1) := by
  rw [hc] at q; show m' = ctB f n + _; rw [if_pos q, ← h]; exact e
theorem ctB_1 {f : Nat → Int32} {n : Nat} {m m' c : Int32} (h : m = ctB f n) (hc : c = f n) (q : ¬ (49 ≤ c.toInt ∧ c.toInt ≤ 57)) (e : m' = m + 1) : m' = ctB f (n + 1) := by
  rw [hc] at q; show m' = ctB f n + _; rw [if_neg q, ← h]; exact e
theorem stp_48 {c : Int32} {s : Bool × Bool} (h : c.toInt = 48) : stp c s = none := by
  unfold stp
  rw [if_neg (show ¬ (49 ≤ c.toInt ∧ c.toInt ≤ 57) by omega), if_neg (show ¬ (65 ≤ c.toInt ∧ c.toInt ≤ 68) by omega), if_neg (show ¬ (s.1 = true ∧ (c.toInt = 102 ∨ c.toInt = 119 ∨ c.toInt = 114 ∨ c.toInt = 108 ∨ c.toInt = 98)) from fun z => by have := z.2; omega)]
  split <;> rfl
theorem ct_eq {f : Nat → Int32} : ∀ {n : Nat} {s : Bool × Bool}, scn f n = some s → ctA f n = ctB f n := by
  intro n
  induction n with
  | zero => intro s _; rfl
  | succ n ih =>
    intro s h
    cases hn : scn f n with
    | none => rw [show scn f (n + 1) = (scn f n).bind (stp (f n)) from rfl, hn] at h; cases h
    | some t =>
      have h2 : stp (f n) t = some s := by rw [show scn f (n + 1) = (scn f n).bind (stp (f n)) from rfl, hn] at h; exact h
      have h3 : ¬ (f n).toInt = 48 := fun z => by rw [stp_48 z] at h2; cases h2
      show ctA f n + _ = ctB f n + _
      rw [ih hn]
      by_cases q : 49 ≤ (f n).toInt ∧ (f n).toInt ≤ 57
      · rw [if_pos q, if_pos (by omega)]
      · rw [if_neg q, if_neg (by omega)]
def nigP (ct : (Nat → Int32) → Nat → Int32) (cn ck sn : Nat) (σ σ' : Sg) (r : Int32) : Prop := (∃ f : Int32, FR (σ sn) (σ cn ck).toInt f ∧ ¬ f = -6 ∧ K0 σ σ' ∧ r = -5) ∨ (∃ f : Int32, FR (σ sn) (σ cn ck).toInt f ∧ f = -6 ∧ K0 (up2 σ cn ck 0) σ' ∧ r = ct (σ sn) (σ cn ck).toInt.toNat)
theorem nig_inv {ct : (Nat → Int32) → Nat → Int32} {cn ck sn : Nat} {σ σ' : Sg} {r : Int32} (h : nigP ct cn ck sn σ σ' r) : Inv σ' := by rcases h with ⟨_, _, _, h, _⟩ | ⟨_, _, _, h, _⟩ <;> exact h.1
theorem nig_both {σ a b : Sg} {r r' : Int32} (h : RelP σ) (h1 : nigP ctA 1 1 2 σ a r) (h2 : nigP ctB 78 7 84 a b r') : (Inv b ∧ RelP b) ∧ r = r' := by
  rcases h1 with ⟨f, f1, f2, k1, r1⟩ | ⟨f, f1, f2, k1, r1⟩
  · have e1 : a 84 = σ 2 := funext fun j => by rw [k1.2 84 j rfl]; exact (h.1 j).symm
    have e2 : a 78 7 = σ 1 1 := by rw [k1.2 78 7 rfl]; exact h.2.symm
    rcases h2 with ⟨g, g1, g2, k2, r2⟩ | ⟨g, g1, g2, k2, r2⟩
    · exact ⟨⟨k2.1, (h.go k1).go k2⟩, by rw [r1, r2]⟩
    · rw [e1, e2] at g1; exact absurd ((FR_eq f1 g1).trans g2) f2
  · have e1 : a 84 = σ 2 := funext fun j => by rw [k1.2 84 j rfl, up2_ne (by decide)]; exact (h.1 j).symm
    have e2 : a 78 7 = σ 1 1 := by rw [k1.2 78 7 rfl, up2_ne (by decide)]; exact h.2.symm
    rcases h2 with ⟨g, g1, g2, k2, r2⟩ | ⟨g, g1, g2, k2, r2⟩
    · rw [e1, e2] at g1; exact absurd ((FR_eq g1 f1).trans f2) g2
    · refine ⟨rel_wipe h k1 k2, ?_⟩
      rw [r1, r2, e1, e2]
      rcases f1 with ⟨i, a1, a2, a3⟩ | ⟨a0, ⟨x, a1⟩, a3⟩ | ⟨a0, ⟨x, a1⟩, a3⟩
      · rw [f2] at a3; exact absurd a3 (by rw [show (-6 : Int32).toInt = -6 from by decide]; omega)
      · exact ct_eq a1
      · exact ct_eq a1
theorem rel_night {σ a b : Sg} {r r' : Int32} (h : RelP σ) (h1 : nigP ctA 1 1 2 σ a r) (h2 : nigP ctB 78 7 84 a b r') : Inv b ∧ RelP b := (nig_both h h1 h2).1
def wkF (σ : Sg) : Nat → Int32
  | 0 => 0
  | n + 1 => wkF σ n + σ 79 (8 * n + 6)
