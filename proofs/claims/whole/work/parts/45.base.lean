-- pure part: facts of mirrors
theorem ogb_some {α β : Type} (a : α) (k : α → Option β) : ogb (some a) k = k a := rfl
theorem ogl_def {α β : Type} (x : α) (k : α → Option β) : ogl x k = k x := rfl
theorem ogi_ok {α : Type} {i : Int32} {n : Nat} {k : Option α} (h : vp_in i n) : ogi i n k = k := if_neg h
theorem ogi_N {α : Type} {j n : Nat} {k : Option α} (h : j < n) (hn : n < 2 ^ 31) : ogi (nI j) n k = k := ogi_ok (vp_in_nI h hn)
theorem ogn_ok {α : Type} {c : Prop} [Decidable c] {k : Option α} (h : ¬ c) : ogn c k = k := if_neg h
theorem ogy_ok {α : Type} {c : Prop} [Decidable c] {k : Option α} (h : c) : ogy c k = k := if_pos h
theorem l0 : (0 : Int32) = nI 0 := rfl
theorem l1 : (1 : Int32) = nI 1 := rfl
theorem l2 : (2 : Int32) = nI 2 := rfl
theorem l3 : (3 : Int32) = nI 3 := rfl
theorem l4 : (4 : Int32) = nI 4 := rfl
theorem l5 : (5 : Int32) = nI 5 := rfl
theorem l6 : (6 : Int32) = nI 6 := rfl
theorem l7 : (7 : Int32) = nI 7 := rfl
theorem l8 : (8 : Int32) = nI 8 := rfl
theorem l9 : (9 : Int32) = nI 9 := rfl
theorem l10 : (10 : Int32) = nI 10 := rfl
theorem l11 : (11 : Int32) = nI 11 := rfl
theorem l12 : (12 : Int32) = nI 12 := rfl
theorem l13 : (13 : Int32) = nI 13 := rfl
theorem l14 : (14 : Int32) = nI 14 := rfl
theorem l15 : (15 : Int32) = nI 15 := rfl
theorem l16 : (16 : Int32) = nI 16 := rfl
theorem l17 : (17 : Int32) = nI 17 := rfl
theorem l18 : (18 : Int32) = nI 18 := rfl
theorem l19 : (19 : Int32) = nI 19 := rfl
theorem l20 : (20 : Int32) = nI 20 := rfl
theorem l21 : (21 : Int32) = nI 21 := rfl
theorem l22 : (22 : Int32) = nI 22 := rfl
theorem l23 : (23 : Int32) = nI 23 := rfl
theorem l24 : (24 : Int32) = nI 24 := rfl
theorem l25 : (25 : Int32) = nI 25 := rfl
theorem l26 : (26 : Int32) = nI 26 := rfl
theorem l27 : (27 : Int32) = nI 27 := rfl
theorem l28 : (28 : Int32) = nI 28 := rfl
theorem l29 : (29 : Int32) = nI 29 := rfl
theorem l30 : (30 : Int32) = nI 30 := rfl
theorem l31 : (31 : Int32) = nI 31 := rfl
theorem l32 : (32 : Int32) = nI 32 := rfl
theorem l33 : (33 : Int32) = nI 33 := rfl
theorem l34 : (34 : Int32) = nI 34 := rfl
theorem l35 : (35 : Int32) = nI 35 := rfl
theorem l36 : (36 : Int32) = nI 36 := rfl
theorem l37 : (37 : Int32) = nI 37 := rfl
theorem l38 : (38 : Int32) = nI 38 := rfl
theorem l39 : (39 : Int32) = nI 39 := rfl
theorem l40 : (40 : Int32) = nI 40 := rfl
theorem l41 : (41 : Int32) = nI 41 := rfl
theorem l42 : (42 : Int32) = nI 42 := rfl
theorem l43 : (43 : Int32) = nI 43 := rfl
theorem l44 : (44 : Int32) = nI 44 := rfl
theorem l45 : (45 : Int32) = nI 45 := rfl
theorem l46 : (46 : Int32) = nI 46 := rfl
theorem l47 : (47 : Int32) = nI 47 := rfl
theorem l48 : (48 : Int32) = nI 48 := rfl
theorem l49 : (49 : Int32) = nI 49 := rfl
theorem l50 : (50 : Int32) = nI 50 := rfl
theorem l51 : (51 : Int32) = nI 51 := rfl
theorem l52 : (52 : Int32) = nI 52 := rfl
theorem l53 : (53 : Int32) = nI 53 := rfl
theorem l54 : (54 : Int32) = nI 54 := rfl
theorem l55 : (55 : Int32) = nI 55 := rfl
theorem l56 : (56 : Int32) = nI 56 := rfl
theorem l57 : (57 : Int32) = nI 57 := rfl
theorem l58 : (58 : Int32) = nI 58 := rfl
theorem l59 : (59 : Int32) = nI 59 := rfl
theorem l60 : (60 : Int32) = nI 60 := rfl
theorem l61 : (61 : Int32) = nI 61 := rfl
theorem l62 : (62 : Int32) = nI 62 := rfl
theorem l63 : (63 : Int32) = nI 63 := rfl
theorem l100 : (100 : Int32) = nI 100 := rfl
theorem l126 : (126 : Int32) = nI 126 := rfl
theorem l129 : (129 : Int32) = nI 129 := rfl
theorem cl_N {n : Nat} (h : n < 2 ^ 31) : (nI n).toNatClampNeg = n := nI_clamp h
theorem ofN (n : Nat) : Int32.ofNat n = nI n := rfl
theorem loop_up (G : Nat → Nat → Prop) (N : Nat) (h0 : ∀ fuel, G (fuel + 1) N) (hs : ∀ fuel i, i < N → G fuel (i + 1) → G (fuel + 1) i) : ∀ i, i ≤ N → ∀ fuel, N - i < fuel → G fuel i := by
  intro i hi
  obtain ⟨d, hd⟩ : ∃ d, d = N - i := ⟨_, rfl⟩
  induction d generalizing i with
  | zero =>
    intro fuel hf
    obtain ⟨k, rfl⟩ : ∃ k, fuel = k + 1 := ⟨fuel - 1, by omega⟩
    have : i = N := by omega
    subst this
    exact h0 k
  | succ d ih =>
    intro fuel hf
    obtain ⟨k, rfl⟩ : ∃ k, fuel = k + 1 := ⟨fuel - 1, by omega⟩
    exact hs k i (by omega) (ih (i + 1) (by omega) (by omega) k (by omega))
theorem rng_of {v : Int32} {n : Nat} (hn : n < 2 ^ 31) (h0 : ¬ v < 0) (h1 : ¬ nI n ≤ v) : ∃ j, j < n ∧ v = nI j := by
  obtain ⟨j, hj, rfl⟩ := nI_of h0
  refine ⟨j, ?_, rfl⟩
  rcases Nat.lt_or_ge j n with h | h
  · exact h
  · exact absurd (nI_le h hj) h1
theorem rng_of2 {v : Int32} {n : Nat} (hn : n < 2 ^ 31) (h0 : ¬ v < 0) (h1 : ¬ nI n < v) : ∃ j, j ≤ n ∧ v = nI j := by
  obtain ⟨j, hj, rfl⟩ := nI_of h0
  refine ⟨j, ?_, rfl⟩
  rcases Nat.lt_or_ge n j with h | h
  · exact absurd (nI_lt h hj) h1
  · exact h
theorem upd_s (f : Nat → Int32) (k : Nat) (x : Int32) : upd f k x k = x := by simp [upd]
theorem upd_n (f : Nat → Int32) {k j : Nat} (x : Int32) (h : j ≠ k) : upd f k x j = f j := by simp [upd, h]
-- helpers of the class
theorem at_N {n j : Nat} (f : Nat → Int32) (h : j < n) (hn : n < 2 ^ 31) : m_X7_at n f (nI j) = some (f j) := by
  unfold m_X7_at
  rw [if_neg (nI_pos (by omega)), if_neg (by rw [ofN, nI_leI (by omega) (by omega)]; omega), ogi_N h hn, cl_N (by omega)]
theorem at_neg {n : Nat} (f : Nat → Int32) {v : Int32} (h : v < 0) : m_X7_at n f v = some 0 := by
  unfold m_X7_at
  rw [if_pos h]
theorem put_N {n j : Nat} (f : Nat → Int32) (v : Int32) (h : j < n) (hn : n < 2 ^ 31) : m_X7_put n f (nI j) v = some (upd f j v) := by
  unfold m_X7_put
  rw [if_neg (nI_pos (by omega)), if_neg (by rw [ofN, nI_leI (by omega) (by omega)]; omega), ogi_N h hn, cl_N (by omega)]
theorem put_neg {n : Nat} (f : Nat → Int32) (v : Int32) {i : Int32} (h : i < 0) : m_X7_put n f i v = some f := by
  unfold m_X7_put
  rw [if_pos h]
theorem swap_N {n j : Nat} (f : Nat → Int32) (v : Int32) (h : j < n) (hn : n < 2 ^ 31) : m_X7_swap n f (nI j) v = some (f j, upd f j v) := by
  unfold m_X7_swap
  rw [at_N f h hn, ogb_some, put_N f v h hn, ogb_some]
theorem isHull_N {j : Nat} (h : j < 6) : m_X7_isHull (nI j) = some 1 := by
  unfold m_X7_isHull
  rw [if_neg (nI_pos (by omega)), if_neg (by rw [l6, nI_leI (by omega) (by omega)]; omega)]
theorem isName_N {j : Nat} (h : j < 5) : m_X7_isName (nI j) = some 1 := by
  unfold m_X7_isName
  rw [if_neg (nI_pos (by omega)), if_neg (by rw [l5, nI_leI (by omega) (by omega)]; omega)]
theorem isHull_cases (v : Int32) : (∃ j, j < 6 ∧ v = nI j ∧ m_X7_isHull v = some 1 ∧ m_X8_isHull v = some 1) ∨ (m_X7_isHull v = some 0 ∧ m_X8_isHull v = some 0 ∧ (v < 0 ∨ nI 6 ≤ v)) := by
  have h8 : m_X8_isHull v = m_X7_isHull v := by
    unfold m_X8_isHull m_X8_in m_X7_isHull
    by_cases h1 : v < 0
    · rw [if_pos h1, if_pos h1, ogb_some, ogy_ok (Or.inl rfl)]
    · rw [if_neg h1, if_neg h1]
      by_cases h2 : (6 : Int32) ≤ v
      · have h3 : (5 : Int32) < v := by rw [Int32.lt_iff_toInt_lt]; rw [Int32.le_iff_toInt_le] at h2; exact Int.lt_of_lt_of_le (by decide) h2
        rw [if_pos h2, if_pos h3, ogb_some, ogy_ok (Or.inl rfl)]
      · have h3 : ¬ (5 : Int32) < v := by
          rw [Int32.lt_iff_toInt_lt]; rw [Int32.le_iff_toInt_le] at h2
          have e5 : (5 : Int32).toInt = 5 := by decide
          have e6 : (6 : Int32).toInt = 6 := by decide
          omega
        rw [if_neg h2, if_neg h3, ogb_some, ogy_ok (Or.inr rfl)]
  by_cases h1 : v < 0
  · exact Or.inr ⟨by unfold m_X7_isHull; rw [if_pos h1], by rw [h8]; unfold m_X7_isHull; rw [if_pos h1], Or.inl h1⟩
  · by_cases h2 : nI 6 ≤ v
    · exact Or.inr ⟨by unfold m_X7_isHull; rw [if_neg h1]; exact if_pos h2, by rw [h8]; unfold m_X7_isHull; rw [if_neg h1]; exact if_pos h2, Or.inr h2⟩
    · obtain ⟨j, hj, rfl⟩ := rng_of (by omega) h1 h2
      exact Or.inl ⟨j, hj, rfl, isHull_N hj, by rw [h8]; exact isHull_N hj⟩
theorem isName_cases (v : Int32) : (∃ j, j < 5 ∧ v = nI j ∧ m_X7_isName v = some 1 ∧ m_X8_isName v = some 1) ∨ (m_X7_isName v = some 0 ∧ m_X8_isName v = some 0 ∧ (v < 0 ∨ nI 5 ≤ v)) := by
  have h8 : m_X8_isName v = m_X7_isName v := by
    unfold m_X8_isName m_X8_in m_X7_isName
    by_cases h1 : v < 0
    · rw [if_pos h1, if_pos h1, ogb_some, ogy_ok (Or.inl rfl)]
    · rw [if_neg h1, if_neg h1]
      have e4 : (4 : Int32).toInt = 4 := by decide
      have e5 : (5 : Int32).toInt = 5 := by decide
      by_cases h2 : (5 : Int32) ≤ v
      · have h3 : (4 : Int32) < v := by rw [Int32.lt_iff_toInt_lt]; rw [Int32.le_iff_toInt_le] at h2; omega
        rw [if_pos h2, if_pos h3, ogb_some, ogy_ok (Or.inl rfl)]
      · have h3 : ¬ (4 : Int32) < v := by rw [Int32.lt_iff_toInt_lt]; rw [Int32.le_iff_toInt_le] at h2; omega
        rw [if_neg h2, if_neg h3, ogb_some, ogy_ok (Or.inr rfl)]
  by_cases h1 : v < 0
  · exact Or.inr ⟨by unfold m_X7_isName; rw [if_pos h1], by rw [h8]; unfold m_X7_isName; rw [if_pos h1], Or.inl h1⟩
  · by_cases h2 : nI 5 ≤ v
    · exact Or.inr ⟨by unfold m_X7_isName; rw [if_neg h1]; exact if_pos h2, by rw [h8]; unfold m_X7_isName; rw [if_neg h1]; exact if_pos h2, Or.inr h2⟩
    · obtain ⟨j, hj, rfl⟩ := rng_of (by omega) h1 h2
      exact Or.inl ⟨j, hj, rfl, isName_N hj, by rw [h8]; exact isName_N hj⟩
/-- within 0 .. n -/
theorem with_cases (v : Int32) (n : Nat) (hn : n < 2 ^ 31) : (∃ j, j ≤ n ∧ v = nI j ∧ m_X7_isWithin v 0 (nI n) = some 1) ∨ (m_X7_isWithin v 0 (nI n) = some 0 ∧ (v < 0 ∨ nI n < v)) := by
  unfold m_X7_isWithin
  by_cases h1 : v < 0
  · exact Or.inr ⟨by rw [if_pos h1], Or.inl h1⟩
  · by_cases h2 : nI n < v
    · exact Or.inr ⟨by rw [if_neg h1, if_pos h2], Or.inr h2⟩
    · obtain ⟨j, hj, rfl⟩ := rng_of2 hn h1 h2
      exact Or.inl ⟨j, hj, rfl, by rw [if_neg h1, if_neg h2]⟩
theorem in_eq (v a b : Int32) : m_X8_in v a b = m_X7_isWithin v a b := rfl
theorem fill_N {n : Nat} (hn : n ≤ 100000) (f : Nat → Int32) (v : Int32) : m_X7_fill n f v = some (fun j => if j < n then v else f j) := by
  have key := loop_up (fun fuel i => m_X7_fill_2 n fuel v (nI i) (fun j => if j < i then v else f j) = some (fun j => if j < n then v else f j)) n
    (fun fuel => by
      show m_X7_fill_2b (m_X7_fill_2 n fuel) n v (nI n) _ = _
      unfold m_X7_fill_2b
      rw [if_pos (by rw [ofN, nI_leI (by omega) (by omega)]; omega)])
    (fun fuel i hi ih => by
      show m_X7_fill_2b (m_X7_fill_2 n fuel) n v (nI i) _ = _
      unfold m_X7_fill_2b
      rw [if_neg (by rw [ofN, nI_leI (by omega) (by omega)]; omega), ogi_N hi (by omega), ogl_def, nI_1, cl_N (by omega)]
      have e : upd (fun j => if j < i then v else f j) i v = (fun j => if j < i + 1 then v else f j) := by
        funext j
        unfold upd
        by_cases h : j = i
        · subst h; simp
        · simp only [h, if_false]
          by_cases h2 : j < i
          · rw [if_pos h2, if_pos (by omega)]
          · rw [if_neg h2, if_neg (by omega)]
      rw [e]
      exact ih)
  have h := key 0 (Nat.zero_le _) 1000000 (by omega)
  have e0 : (fun j => if j < 0 then v else f j) = f := by funext j; simp
  simp only [e0] at h
  exact h
theorem copyRow_N {n : Nat} (hn : n ≤ 100000) (f g : Nat → Int32) : m_X7_copyRow n n f g = some (fun j => if j < n then f j else g j) := by
  have key := loop_up (fun fuel i => m_X7_copyRow_2 n n f fuel (nI i) (fun j => if j < i then f j else g j) = some (fun j => if j < n then f j else g j)) n
    (fun fuel => by
      show m_X7_copyRow_2b (m_X7_copyRow_2 n n f fuel) n n f (nI n) _ = _
      unfold m_X7_copyRow_2b
      rw [if_pos (by rw [ofN, nI_leI (by omega) (by omega)]; omega)])
    (fun fuel i hi ih => by
      show m_X7_copyRow_2b (m_X7_copyRow_2 n n f fuel) n n f (nI i) _ = _
      unfold m_X7_copyRow_2b
      rw [if_neg (by rw [ofN, nI_leI (by omega) (by omega)]; omega), if_neg (by rw [ofN, nI_leI (by omega) (by omega)]; omega), ogi_N hi (by omega), ogi_N hi (by omega), ogl_def, nI_1, cl_N (by omega)]
      have e : upd (fun j => if j < i then f j else g j) i (f i) = (fun j => if j < i + 1 then f j else g j) := by
        funext j
        unfold upd
        by_cases h : j = i
        · subst h; simp
        · simp only [h, if_false]
          by_cases h2 : j < i
          · rw [if_pos h2, if_pos (by omega)]
          · rw [if_neg h2, if_neg (by omega)]
      rw [e]
      exact ih)
  have h := key 0 (Nat.zero_le _) 1000000 (by omega)
  have e0 : (fun j => if j < 0 then f j else g j) = g := by funext j; simp
  simp only [e0] at h
  exact h
