def dig (k p : Nat) : Nat := k / 10 ^ p % 10
theorem dig_lt (k p : Nat) : dig k p < 10 := Nat.mod_lt _ (by omega)
theorem sh1 {d : Nat} (h : d < 6) : ((1 : Int32) <<< ((nI d : Int32) &&& 31)) = nI (2 ^ d) := by
  have : d = 0 ∨ d = 1 ∨ d = 2 ∨ d = 3 ∨ d = 4 ∨ d = 5 := by omega
  rcases this with rfl | rfl | rfl | rfl | rfl | rfl <;> decide
def s6 (a b c d e f : Nat) : Bool := !((a != b && a != c && a != d && a != e && a != f) && (b != c && b != d && b != e && b != f) && (c != d && c != e && c != f) && (d != e && d != f) && (e != f)) || (List.range 6).all (fun i => i == a || i == b || i == c || i == d || i == e || i == f)
set_option maxRecDepth 100000 in
theorem s6_all : ∀ a b c d e f : Fin 6, s6 a.val b.val c.val d.val e.val f.val = true := by decide +kernel
theorem surj6 {a b c d e f : Nat} (la : a < 6) (lb : b < 6) (lc : c < 6) (ld : d < 6) (le : e < 6) (lf : f < 6) (h : (a ≠ b ∧ a ≠ c ∧ a ≠ d ∧ a ≠ e ∧ a ≠ f) ∧ (b ≠ c ∧ b ≠ d ∧ b ≠ e ∧ b ≠ f) ∧ (c ≠ d ∧ c ≠ e ∧ c ≠ f) ∧ (d ≠ e ∧ d ≠ f) ∧ e ≠ f) : ∀ i, i < 6 → i = a ∨ i = b ∨ i = c ∨ i = d ∨ i = e ∨ i = f := by
  intro i hi
  have S := s6_all ⟨a, la⟩ ⟨b, lb⟩ ⟨c, lc⟩ ⟨d, ld⟩ ⟨e, le⟩ ⟨f, lf⟩
  obtain ⟨⟨h1, h2, h3, h4, h5⟩, ⟨h6, h7, h8, h9⟩, ⟨h10, h11, h12⟩, ⟨h13, h14⟩, h15⟩ := h
  simp only [s6, Bool.or_eq_true, Bool.not_eq_true', Bool.and_eq_false_iff, List.all_eq_true, List.mem_range, beq_iff_eq, bne_iff_ne, ne_eq, Bool.and_eq_true, bne_eq_false_iff_eq] at S
  rcases S with S | S
  · omega
  · have := S i hi
    omega
def rowP (k : Nat) : Prop := ∀ h, h < 6 → ∃ p, p < 6 ∧ dig k p = h
theorem row_all {k : Nat} (H : rowP k) : ∀ i, i < 6 → ∃ h, h < 6 ∧ dig k i = h ∧ ∀ j, j < 6 → dig k j = h → j = i := by
  obtain ⟨p0, l0, e0⟩ := H 0 (by omega)
  obtain ⟨p1, l1, e1⟩ := H 1 (by omega)
  obtain ⟨p2, l2, e2⟩ := H 2 (by omega)
  obtain ⟨p3, l3, e3⟩ := H 3 (by omega)
  obtain ⟨p4, l4, e4⟩ := H 4 (by omega)
  obtain ⟨p5, l5, e5⟩ := H 5 (by omega)
  have ne : ∀ {a b x y : Nat}, dig k a = x → dig k b = y → x ≠ y → a ≠ b := by
    intro a b x y ha hb hxy hab
    subst hab
    exact hxy (ha.symm.trans hb)
  have T := surj6 l0 l1 l2 l3 l4 l5 ⟨⟨ne e0 e1 (by omega), ne e0 e2 (by omega), ne e0 e3 (by omega), ne e0 e4 (by omega), ne e0 e5 (by omega)⟩, ⟨ne e1 e2 (by omega), ne e1 e3 (by omega), ne e1 e4 (by omega), ne e1 e5 (by omega)⟩, ⟨ne e2 e3 (by omega), ne e2 e4 (by omega), ne e2 e5 (by omega)⟩, ⟨ne e3 e4 (by omega), ne e3 e5 (by omega)⟩, ne e4 e5 (by omega)⟩
  have U : ∀ i j, i < 6 → j < 6 → dig k i = dig k j → i = j := by
    intro i j hi hj hd
    have a := T i hi
    have b := T j hj
    rcases a with rfl | rfl | rfl | rfl | rfl | rfl <;> rcases b with rfl | rfl | rfl | rfl | rfl | rfl <;> first | rfl | (exfalso; omega)
  intro i hi
  refine ⟨dig k i, ?_, rfl, fun j hj h => U j i hj hi h⟩
  rcases T i hi with rfl | rfl | rfl | rfl | rfl | rfl <;> omega
theorem row_le {k : Nat} (hk : k < 1000000) (H : rowP k) : k ≤ 543210 := by
  obtain ⟨h5, a5, b5, c5⟩ := row_all H 5 (by omega)
  obtain ⟨h4, a4, b4, c4⟩ := row_all H 4 (by omega)
  obtain ⟨h3, a3, b3, c3⟩ := row_all H 3 (by omega)
  obtain ⟨h2, a2, b2, c2⟩ := row_all H 2 (by omega)
  obtain ⟨h1, a1, b1, c1⟩ := row_all H 1 (by omega)
  obtain ⟨h0, a0, b0, c0⟩ := row_all H 0 (by omega)
  have n54 : h4 ≠ h5 := fun e => absurd (c5 4 (by omega) (by rw [b4, e])) (by omega)
  have n53 : h3 ≠ h5 := fun e => absurd (c5 3 (by omega) (by rw [b3, e])) (by omega)
  have n52 : h2 ≠ h5 := fun e => absurd (c5 2 (by omega) (by rw [b2, e])) (by omega)
  have n51 : h1 ≠ h5 := fun e => absurd (c5 1 (by omega) (by rw [b1, e])) (by omega)
  have n43 : h3 ≠ h4 := fun e => absurd (c4 3 (by omega) (by rw [b3, e])) (by omega)
  have n42 : h2 ≠ h4 := fun e => absurd (c4 2 (by omega) (by rw [b2, e])) (by omega)
  have n41 : h1 ≠ h4 := fun e => absurd (c4 1 (by omega) (by rw [b1, e])) (by omega)
  have n32 : h2 ≠ h3 := fun e => absurd (c3 2 (by omega) (by rw [b2, e])) (by omega)
  have n31 : h1 ≠ h3 := fun e => absurd (c3 1 (by omega) (by rw [b1, e])) (by omega)
  have n21 : h1 ≠ h2 := fun e => absurd (c2 1 (by omega) (by rw [b1, e])) (by omega)
  have n50 : h0 ≠ h5 := fun e => absurd (c5 0 (by omega) (by rw [b0, e])) (by omega)
  have n40 : h0 ≠ h4 := fun e => absurd (c4 0 (by omega) (by rw [b0, e])) (by omega)
  have n30 : h0 ≠ h3 := fun e => absurd (c3 0 (by omega) (by rw [b0, e])) (by omega)
  have n20 : h0 ≠ h2 := fun e => absurd (c2 0 (by omega) (by rw [b0, e])) (by omega)
  have n10 : h0 ≠ h1 := fun e => absurd (c1 0 (by omega) (by rw [b0, e])) (by omega)
  have ek : k = h0 + 10 * h1 + 100 * h2 + 1000 * h3 + 10000 * h4 + 100000 * h5 := by
    unfold dig at b0 b1 b2 b3 b4 b5
    simp only [Nat.reducePow] at b0 b1 b2 b3 b4 b5
    omega
  clear b0 b1 b2 b3 b4 b5 c0 c1 c2 c3 c4 c5 H
  have : h5 ≤ 4 ∨ h5 = 5 := by omega
  rcases this with q | q
  · omega
  have : h4 ≤ 3 ∨ h4 = 4 := by omega
  rcases this with q4 | q4
  · omega
  have : h3 ≤ 2 ∨ h3 = 3 := by omega
  rcases this with q3 | q3
  · omega
  have : h2 ≤ 1 ∨ h2 = 2 := by omega
  rcases this with q2 | q2
  · omega
  omega
theorem divp (k p : Nat) : k / 10 ^ p / 10 = k / 10 ^ (p + 1) := by rw [Nat.div_div_eq_div_mul, ← Nat.pow_succ]
theorem step_row (n m k p : Nat) (hk : k < 2 ^ 31) (hp : p < 6) : m_X7_holdsEachHullOnce_18 (n + 1) (nI m) (nI (k / 10 ^ p)) (nI p) = if dig k p < 6 then m_X7_holdsEachHullOnce_18 n (nI (m ||| 2 ^ dig k p)) (nI (k / 10 ^ (p + 1))) (nI (p + 1)) else some 0 := by
  have hb : k / 10 ^ p < 2 ^ 31 := Nat.lt_of_le_of_lt (Nat.div_le_self _ _) hk
  show m_X7_holdsEachHullOnce_18b (m_X7_holdsEachHullOnce_18 n) (nI m) (nI (k / 10 ^ p)) (nI p) = _
  unfold m_X7_holdsEachHullOnce_18b
  rw [if_neg (by rw [l6, nI_leI (by omega) (by omega)]; omega), rem10 hb, ogl_def]
  have hd : k / 10 ^ p % 10 < 2 ^ 31 := by omega
  by_cases h : dig k p < 6
  · have h' : k / 10 ^ p % 10 < 6 := h
    rw [isHull_N h', ogb_some, if_neg (by decide), if_pos h, sh1 h', fa_or, ogl_def, div10 hb, ogl_def, ogl_def, nI_1, divp]
    rfl
  · have h' : ¬ k / 10 ^ p % 10 < 6 := h
    have e : m_X7_isHull (nI (k / 10 ^ p % 10)) = some 0 := by
      unfold m_X7_isHull
      rw [if_neg (nI_pos hd), if_pos]
      rw [l6, nI_leI (by omega) hd]
      omega
    rw [e, ogb_some, if_pos rfl, if_neg h]
theorem row_ex {k : Nat} : rowP k ↔ ∀ h, h < 6 → (h = dig k 0 ∨ h = dig k 1 ∨ h = dig k 2 ∨ h = dig k 3 ∨ h = dig k 4 ∨ h = dig k 5) := by
  constructor
  · intro H h hh
    obtain ⟨p, hp, e⟩ := H h hh
    have : p = 0 ∨ p = 1 ∨ p = 2 ∨ p = 3 ∨ p = 4 ∨ p = 5 := by omega
    rcases this with rfl | rfl | rfl | rfl | rfl | rfl <;> simp [e]
  · intro H h hh
    rcases H h hh with e | e | e | e | e | e
    · exact ⟨0, by omega, e.symm⟩
    · exact ⟨1, by omega, e.symm⟩
    · exact ⟨2, by omega, e.symm⟩
    · exact ⟨3, by omega, e.symm⟩
    · exact ⟨4, by omega, e.symm⟩
    · exact ⟨5, by omega, e.symm⟩
theorem isRow_run (n k : Nat) (hk : k < 2 ^ 31) : (rowP k → m_X7_holdsEachHullOnce_18 (n + 7) 0 (nI k) 0 = some 1) ∧ (¬ rowP k → m_X7_holdsEachHullOnce_18 (n + 7) 0 (nI k) 0 = some 0) := by
  have e0 : m_X7_holdsEachHullOnce_18 (n + 7) 0 (nI k) 0 = m_X7_holdsEachHullOnce_18 (n + 6 + 1) (nI 0) (nI (k / 10 ^ 0)) (nI 0) := by rw [Nat.pow_zero, Nat.div_one]; rfl
  rw [e0, step_row _ _ k 0 hk (by omega), step_row _ _ k 1 hk (by omega), step_row _ _ k 2 hk (by omega), step_row _ _ k 3 hk (by omega), step_row _ _ k 4 hk (by omega), step_row _ _ k 5 hk (by omega)]
  have fin : m_X7_holdsEachHullOnce_18 (n + 1) (nI (0 ||| 2 ^ dig k 0 ||| 2 ^ dig k 1 ||| 2 ^ dig k 2 ||| 2 ^ dig k 3 ||| 2 ^ dig k 4 ||| 2 ^ dig k 5)) (nI (k / 10 ^ 6)) (nI 6) = if nI (0 ||| 2 ^ dig k 0 ||| 2 ^ dig k 1 ||| 2 ^ dig k 2 ||| 2 ^ dig k 3 ||| 2 ^ dig k 4 ||| 2 ^ dig k 5) = 63 then some 1 else some 0 := by
    show m_X7_holdsEachHullOnce_18b (m_X7_holdsEachHullOnce_18 n) _ _ _ = _
    unfold m_X7_holdsEachHullOnce_18b
    rw [if_pos (by decide)]
  have g : ∀ p, p < 6 → (rowP k → dig k p < 6) := fun p hp H => by
    obtain ⟨h, h1, h2, -⟩ := row_all H p hp
    omega
  by_cases hall : dig k 0 < 6 ∧ dig k 1 < 6 ∧ dig k 2 < 6 ∧ dig k 3 < 6 ∧ dig k 4 < 6 ∧ dig k 5 < 6
  · obtain ⟨a0, a1, a2, a3, a4, a5⟩ := hall
    rw [if_pos a0, if_pos a1, if_pos a2, if_pos a3, if_pos a4, if_pos a5, fin]
    have M2 : rowP k ↔ (0 ||| 2 ^ dig k 0 ||| 2 ^ dig k 1 ||| 2 ^ dig k 2 ||| 2 ^ dig k 3 ||| 2 ^ dig k 4 ||| 2 ^ dig k 5) = 63 := by
      rw [row_ex]
      constructor
      · intro H
        apply Nat.eq_of_testBit_eq
        intro i
        simp only [Nat.testBit_or, Nat.testBit_two_pow, Nat.zero_testBit, Bool.false_or]
        by_cases hi : i < 6
        · have e63 : Nat.testBit 63 i = true := by
            have : i = 0 ∨ i = 1 ∨ i = 2 ∨ i = 3 ∨ i = 4 ∨ i = 5 := by omega
            rcases this with rfl | rfl | rfl | rfl | rfl | rfl <;> decide
          rw [e63]
          simp only [Bool.or_eq_true, decide_eq_true_eq]
          have := H i hi
          omega
        · have e63 : Nat.testBit 63 i = false := Nat.testBit_lt_two_pow (Nat.lt_of_lt_of_le (by decide : 63 < 2 ^ 6) (Nat.pow_le_pow_right (by omega) (by omega)))
          rw [e63]
          simp only [Bool.or_eq_false_iff, decide_eq_false_iff_not]
          omega
      · intro H h hh
        have e63 : Nat.testBit 63 h = true := by
          have : h = 0 ∨ h = 1 ∨ h = 2 ∨ h = 3 ∨ h = 4 ∨ h = 5 := by omega
          rcases this with rfl | rfl | rfl | rfl | rfl | rfl <;> decide
        rw [← H] at e63
        simp only [Nat.testBit_or, Nat.testBit_two_pow, Nat.zero_testBit, Bool.false_or, Bool.or_eq_true, decide_eq_true_eq] at e63
        omega
    have lt : ∀ d, d < 6 → 2 ^ d < 64 := fun d hd => by
      have : d = 0 ∨ d = 1 ∨ d = 2 ∨ d = 3 ∨ d = 4 ∨ d = 5 := by omega
      rcases this with rfl | rfl | rfl | rfl | rfl | rfl <;> decide
    have b : (0 ||| 2 ^ dig k 0 ||| 2 ^ dig k 1 ||| 2 ^ dig k 2 ||| 2 ^ dig k 3 ||| 2 ^ dig k 4 ||| 2 ^ dig k 5) < 2 ^ 6 := by
      refine Nat.or_lt_two_pow (Nat.or_lt_two_pow (Nat.or_lt_two_pow (Nat.or_lt_two_pow (Nat.or_lt_two_pow (Nat.or_lt_two_pow ?_ ?_) ?_) ?_) ?_) ?_) ?_
      · decide
      all_goals exact lt _ (by assumption)
    generalize (0 ||| 2 ^ dig k 0 ||| 2 ^ dig k 1 ||| 2 ^ dig k 2 ||| 2 ^ dig k 3 ||| 2 ^ dig k 4 ||| 2 ^ dig k 5) = x at *
    have ex : (nI x = 63) ↔ x = 63 := by rw [l63, nI_eq (by omega) (by omega)]
    constructor
    · intro H; rw [if_pos (ex.mpr (M2.mp H))]
    · intro H; rw [if_neg (fun q => H (M2.mpr (ex.mp q)))]
  · constructor
    · intro H
      exact absurd ⟨g 0 (by omega) H, g 1 (by omega) H, g 2 (by omega) H, g 3 (by omega) H, g 4 (by omega) H, g 5 (by omega) H⟩ hall
    · intro _
      by_cases a0 : dig k 0 < 6
      · rw [if_pos a0]
        by_cases a1 : dig k 1 < 6
        · rw [if_pos a1]
          by_cases a2 : dig k 2 < 6
          · rw [if_pos a2]
            by_cases a3 : dig k 3 < 6
            · rw [if_pos a3]
              by_cases a4 : dig k 4 < 6
              · rw [if_pos a4]
                by_cases a5 : dig k 5 < 6
                · exact absurd ⟨a0, a1, a2, a3, a4, a5⟩ hall
                · rw [if_neg a5]
              · rw [if_neg a4]
            · rw [if_neg a3]
          · rw [if_neg a2]
        · rw [if_neg a1]
      · rw [if_neg a0]
theorem isRow_neg {v : Int32} (h : v < 0) : m_X7_holdsEachHullOnce v = some 0 := by
  unfold m_X7_holdsEachHullOnce
  have e : m_X7_isWithin v 0 543210 = some 0 := by
    unfold m_X7_isWithin
    rw [if_pos h]
  rw [e, ogb_some, if_pos rfl]
theorem isRow_N {k : Nat} (hk : k < 2 ^ 31) : (k < 1000000 ∧ rowP k → m_X7_holdsEachHullOnce (nI k) = some 1) ∧ (¬ (k < 1000000 ∧ rowP k) → m_X7_holdsEachHullOnce (nI k) = some 0) := by
  have W : m_X7_isWithin (nI k) 0 543210 = some (if 0 ≤ k ∧ k ≤ 543210 then 1 else 0) := with_N (j := k) (a := 0) (b := 543210) hk (by omega) (by omega)
  obtain ⟨r1, r2⟩ := isRow_run 999993 k hk
  have r1 : rowP k → m_X7_holdsEachHullOnce_18 1000000 0 (nI k) 0 = some 1 := r1
  have r2 : ¬ rowP k → m_X7_holdsEachHullOnce_18 1000000 0 (nI k) 0 = some 0 := r2
  unfold m_X7_holdsEachHullOnce
  rw [W, ogb_some]
  constructor
  · rintro ⟨h1, h2⟩
    have := row_le h1 h2
    rw [if_pos (show 0 ≤ k ∧ k ≤ 543210 by omega), if_neg (by decide)]
    exact r1 h2
  · intro h
    by_cases hb : k ≤ 543210
    · rw [if_pos (show 0 ≤ k ∧ k ≤ 543210 by omega), if_neg (by decide)]
      exact r2 (fun q => h ⟨by omega, q⟩)
    · rw [if_neg (show ¬ (0 ≤ k ∧ k ≤ 543210) by omega), if_pos rfl]
-- the check's place of a hull in a row
def plc (k h : Nat) (s : Int32) : Nat → Int32
  | 0 => s
  | t + 1 => if dig k t = h then nI (5 - t) else plc k h s t
theorem step_plc (n k h j : Nat) (s : Int32) (hk : k < 2 ^ 31) (hh : h < 10) (hj : j ≤ 5) : m_X8_placeIn_8 (n + 1) (nI h) (nI (k / 10 ^ (5 - j))) s (nI j) = m_X8_placeIn_8 n (nI h) (nI (k / 10 ^ (6 - j))) (if dig k (5 - j) = h then nI j else s) (nI j + (-1)) := by
  have hb : k / 10 ^ (5 - j) < 2 ^ 31 := Nat.lt_of_le_of_lt (Nat.div_le_self _ _) hk
  show m_X8_placeIn_8b (m_X8_placeIn_8 n) (nI h) (nI (k / 10 ^ (5 - j))) s (nI j) = _
  unfold m_X8_placeIn_8b m_X8_placeIn_27
  have e6 : 6 - j = 5 - j + 1 := by omega
  have hd : k / 10 ^ (5 - j) % 10 < 10 := Nat.mod_lt _ (by omega)
  have z : (nI (k / 10 ^ (5 - j) % 10) = nI h) ↔ (dig k (5 - j) = h) := nI_eq (by omega) (by omega)
  rw [if_neg (nI_pos (by omega)), rem10 hb, div10 hb, ogl_def, ogl_def, ogl_def, ogl_def, divp, e6]
  by_cases q : dig k (5 - j) = h
  · rw [if_pos (z.mpr q), if_pos q]
  · rw [if_neg (fun c => q (z.mp c)), if_neg q]
theorem placeIn_N {k h : Nat} (hk : k < 2 ^ 31) (hh : h < 10) : m_X8_placeIn (nI k) (nI h) = some (plc k h (-6) 6) := by
  have e0 : m_X8_placeIn (nI k) (nI h) = m_X8_placeIn_8 (999999 + 1) (nI h) (nI (k / 10 ^ (5 - 5))) (-6) (nI 5) := by
    rw [Nat.sub_self, Nat.pow_zero, Nat.div_one]; rfl
  have m (j : Nat) : nI (j + 1) + (-1) = nI j := pk_m1 j
  rw [e0, step_plc _ k h 5 _ hk hh (by omega), m 4, show (6 - 5 : Nat) = 5 - 4 from rfl]
  rw [show (999999 : Nat) = 999998 + 1 from rfl, step_plc _ k h 4 _ hk hh (by omega), m 3, show (6 - 4 : Nat) = 5 - 3 from rfl]
  rw [show (999998 : Nat) = 999997 + 1 from rfl, step_plc _ k h 3 _ hk hh (by omega), m 2, show (6 - 3 : Nat) = 5 - 2 from rfl]
  rw [show (999997 : Nat) = 999996 + 1 from rfl, step_plc _ k h 2 _ hk hh (by omega), m 1, show (6 - 2 : Nat) = 5 - 1 from rfl]
  rw [show (999996 : Nat) = 999995 + 1 from rfl, step_plc _ k h 1 _ hk hh (by omega), m 0, show (6 - 1 : Nat) = 5 - 0 from rfl]
  rw [show (999995 : Nat) = 999994 + 1 from rfl, step_plc _ k h 0 _ hk hh (by omega)]
  rw [show (999994 : Nat) = 999993 + 1 from rfl]
  show m_X8_placeIn_8b (m_X8_placeIn_8 999993) _ _ _ _ = _
  unfold m_X8_placeIn_8b
  rw [if_pos (by decide)]
  rfl
theorem plc_pos {k h : Nat} : ∀ t, t ≤ 6 → ((∃ p, p < t ∧ dig k p = h) → ¬ plc k h (-6) t < 0) ∧ ((¬ ∃ p, p < t ∧ dig k p = h) → plc k h (-6) t = -6) := by
  intro t
  induction t with
  | zero => intro _; exact ⟨fun ⟨p, hp, _⟩ => absurd hp (by omega), fun _ => rfl⟩
  | succ t ih =>
    intro ht
    obtain ⟨i1, i2⟩ := ih (by omega)
    constructor
    · rintro ⟨p, hp, e⟩
      unfold plc
      by_cases q : dig k t = h
      · rw [if_pos q]; exact nI_pos (by omega)
      · rw [if_neg q]
        refine i1 ⟨p, ?_, e⟩
        have : p ≠ t := fun c => q (c ▸ e)
        omega
    · intro hn
      unfold plc
      rw [if_neg (fun q => hn ⟨t, by omega, q⟩)]
      exact i2 (fun ⟨p, hp, e⟩ => hn ⟨p, by omega, e⟩)
theorem rank_bad (mf : Nat → Int32) (j : Nat) (a2 : Int32) : ∀ i, i ≤ 6 → ∀ fuel, 6 - i < fuel → m_X8_rank_20 fuel (nI j) a2 0 (nI i) mf = some (-2, mf) := by
  refine loop_up (fun fuel i => m_X8_rank_20 fuel (nI j) a2 0 (nI i) mf = some (-2, mf)) 6 (fun fuel => ?_) (fun fuel i hi ih => ?_)
  · show m_X8_rank_20b (m_X8_rank_20 fuel) (nI j) a2 0 (nI 6) mf = _
    unfold m_X8_rank_20b
    rw [if_pos (by decide), if_pos rfl]
  · show m_X8_rank_20b (m_X8_rank_20 fuel) (nI j) a2 0 (nI i) mf = _
    unfold m_X8_rank_20b m_X8_rank_44 m_X8_rank_45
    rw [if_neg (by rw [l6, nI_leI (by omega) (by omega)]; omega), if_pos rfl, ogl_def, nI_1]
    exact ih
theorem rank_good (mf : Nat → Int32) (j k : Nat) (hj : j < 5) (hk : k < 2 ^ 31) (hR : rowP k) : ∀ i, i ≤ 6 → ∀ fuel, 6 - i < fuel → m_X8_rank_20 fuel (nI j) (nI k) 1 (nI i) mf = some (mf j, upd mf j (nI k)) := by
  refine loop_up (fun fuel i => m_X8_rank_20 fuel (nI j) (nI k) 1 (nI i) mf = some (mf j, upd mf j (nI k))) 6 (fun fuel => ?_) (fun fuel i hi ih => ?_)
  · show m_X8_rank_20b (m_X8_rank_20 fuel) (nI j) (nI k) 1 (nI 6) mf = _
    unfold m_X8_rank_20b
    rw [if_pos (by decide), if_neg (by decide), ogi_N hj (by omega), ogl_def, ogi_N hj (by omega), cl_N (by omega)]
  · show m_X8_rank_20b (m_X8_rank_20 fuel) (nI j) (nI k) 1 (nI i) mf = _
    unfold m_X8_rank_20b m_X8_rank_45
    obtain ⟨p, hp, ep⟩ := hR i hi
    rw [if_neg (by rw [l6, nI_leI (by omega) (by omega)]; omega), if_neg (by decide), placeIn_N hk (by omega), ogb_some, if_neg ((plc_pos 6 (by omega)).1 ⟨p, hp, ep⟩), ogl_def, nI_1]
    exact ih
theorem rank_run (mf : Nat → Int32) (j k h0 : Nat) (hk : k < 2 ^ 31) (h06 : h0 < 6) (hn : ¬ ∃ p, p < 6 ∧ dig k p = h0) : ∀ i, i ≤ 6 → ∀ fuel, 6 - i < fuel → (6 - i < fuel → i ≤ h0 → m_X8_rank_20 fuel (nI j) (nI k) 1 (nI i) mf = some (-2, mf)) := by
  refine loop_up (fun fuel i => 6 - i < fuel → i ≤ h0 → m_X8_rank_20 fuel (nI j) (nI k) 1 (nI i) mf = some (-2, mf)) 6 (fun fuel => ?_) (fun fuel i hi ih => ?_)
  · intro _ h6; exact absurd h6 (by omega)
  · intro hf hih
    show m_X8_rank_20b (m_X8_rank_20 fuel) (nI j) (nI k) 1 (nI i) mf = _
    unfold m_X8_rank_20b m_X8_rank_44 m_X8_rank_45
    rw [if_neg (by rw [l6, nI_leI (by omega) (by omega)]; omega), if_neg (by decide), placeIn_N hk (by omega), ogb_some, ogl_def, ogl_def, nI_1]
    by_cases q : ∃ p, p < 6 ∧ dig k p = i
    · rw [if_neg ((plc_pos 6 (by omega)).1 q)]
      have : i ≠ h0 := fun e => hn (e ▸ q)
      exact ih (by omega) (by omega)
    · rw [(plc_pos 6 (by omega)).2 q, if_pos (by decide)]
      exact rank_bad mf j (nI k) (i + 1) (by omega) fuel (by omega)
theorem rank_bad0 (mf : Nat → Int32) (j : Nat) (a2 : Int32) : m_X8_rank_20 1000000 (nI j) a2 0 0 mf = some (-2, mf) := rank_bad mf j a2 0 (by omega) 1000000 (by omega)
theorem rank_good0 (mf : Nat → Int32) (j k : Nat) (hj : j < 5) (hk : k < 2 ^ 31) (hR : rowP k) : m_X8_rank_20 1000000 (nI j) (nI k) 1 0 mf = some (mf j, upd mf j (nI k)) := rank_good mf j k hj hk hR 0 (by omega) 1000000 (by omega)
theorem rank_run0 (mf : Nat → Int32) (j k : Nat) (hk : k < 2 ^ 31) (hn : ¬ rowP k) : m_X8_rank_20 1000000 (nI j) (nI k) 1 0 mf = some (-2, mf) := by
  obtain ⟨h0, hh0, hq⟩ : ∃ h0, h0 < 6 ∧ ¬ ∃ p, p < 6 ∧ dig k p = h0 := by
    refine Classical.byContradiction fun hc => hn fun h hh => ?_
    exact Classical.byContradiction fun hq => hc ⟨h, hh, hq⟩
  exact rank_run mf j k h0 hk hh0 hq 0 (by omega) 1000000 (by omega) (by omega) (by omega)
