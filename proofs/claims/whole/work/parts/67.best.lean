-- the most: best gains of what is left, the first way to them
def bfm (b0 : Nat) (val : Nat → Nat) (p : Nat → Bool) : Nat → Nat
  | 0 => b0
  | n + 1 => if p n then max (bfm b0 val p n) (val n) else bfm b0 val p n
theorem bfm_s (b0 : Nat) (val : Nat → Nat) (p : Nat → Bool) (n : Nat) : bfm b0 val p (n + 1) = if p n then max (bfm b0 val p n) (val n) else bfm b0 val p n := rfl
theorem bfm_0 (b0 : Nat) (val : Nat → Nat) (p : Nat → Bool) : ∀ n, b0 ≤ bfm b0 val p n
  | 0 => Nat.le_refl _
  | n + 1 => by
    have := bfm_0 b0 val p n
    rw [bfm_s]
    by_cases q : p n = true
    · rw [if_pos q]; omega
    · rw [if_neg q]; exact this
theorem bfm_ge (b0 : Nat) (val : Nat → Nat) (p : Nat → Bool) : ∀ n i, i < n → p i = true → val i ≤ bfm b0 val p n
  | 0, _, h, _ => absurd h (by omega)
  | n + 1, i, h, hp => by
    rw [bfm_s]
    by_cases e : i = n
    · subst e
      rw [if_pos hp]; omega
    · have := bfm_ge b0 val p n i (by omega) hp
      by_cases q : p n = true
      · rw [if_pos q]; omega
      · rw [if_neg q]; exact this
theorem bfm_or (b0 : Nat) (val : Nat → Nat) (p : Nat → Bool) : ∀ n, bfm b0 val p n = b0 ∨ ∃ i, i < n ∧ p i = true ∧ bfm b0 val p n = val i
  | 0 => Or.inl rfl
  | n + 1 => by
    have ih := bfm_or b0 val p n
    rw [bfm_s]
    by_cases q : p n = true
    · rw [if_pos q]
      by_cases c : bfm b0 val p n ≤ val n
      · exact Or.inr ⟨n, by omega, q, by omega⟩
      · have e : max (bfm b0 val p n) (val n) = bfm b0 val p n := by omega
        rw [e]
        rcases ih with h | ⟨i, h1, h2, h3⟩
        · exact Or.inl h
        · exact Or.inr ⟨i, by omega, h2, h3⟩
    · rw [if_neg q]
      rcases ih with h | ⟨i, h1, h2, h3⟩
      · exact Or.inl h
      · exact Or.inr ⟨i, by omega, h2, h3⟩
def Bst (ch : Nat → Nat) (w : Nat → Int32) : Nat → Nat → Nat
  | 0, _ => 0
  | j + 1, F => bfm (Bst ch w j F) (fun n => 1000 + wz w (5 - j) n + Bst ch w j (clr F n)) (fun n => (ch (5 - j)).testBit n && F.testBit n) 5
theorem Bst_s (ch : Nat → Nat) (w : Nat → Int32) (j F : Nat) : Bst ch w (j + 1) F = bfm (Bst ch w j F) (fun n => 1000 + wz w (5 - j) n + Bst ch w j (clr F n)) (fun n => (ch (5 - j)).testBit n && F.testBit n) 5 := rfl
theorem Bst_le {w : Nat → Int32} (hw : rng 30 99 w) (ch : Nat → Nat) : ∀ j, j ≤ 6 → ∀ F, F < 32 → Bst ch w j F ≤ 1099 * j := by
  intro j
  induction j with
  | zero => intro _ F _; exact Nat.le_refl 0
  | succ j ih =>
    intro hj F hF
    have h0 := ih (by omega) F hF
    rw [Bst_s]
    rcases bfm_or (Bst ch w j F) (fun n => 1000 + wz w (5 - j) n + Bst ch w j (clr F n)) (fun n => (ch (5 - j)).testBit n && F.testBit n) 5 with e | ⟨i, hi, -, e⟩
    · rw [e]; omega
    · rw [e]
      have h1 := ih (by omega) (clr F i) (clr_lt hF hi)
      have h2 := (worth_N hw (show 5 - j < 6 by omega) hi).2.1
      show 1000 + wz w (5 - j) i + Bst ch w j (clr F i) ≤ _
      omega
def okF (ch : Nat → Nat) (c : Nat) : Nat → Nat → Bool
  | 0, _ => true
  | j + 1, F => if dg c (5 - j) = 5 then okF ch c j F else ((ch (5 - j)).testBit (dg c (5 - j)) && F.testBit (dg c (5 - j))) && okF ch c j (clr F (dg c (5 - j)))
theorem okF_s (ch : Nat → Nat) (c j F : Nat) : okF ch c (j + 1) F = if dg c (5 - j) = 5 then okF ch c j F else ((ch (5 - j)).testBit (dg c (5 - j)) && F.testBit (dg c (5 - j))) && okF ch c j (clr F (dg c (5 - j))) := rfl
def gnF (w : Nat → Int32) (c : Nat) : Nat → Nat
  | 0 => 0
  | j + 1 => (if dg c (5 - j) = 5 then 0 else 1000 + wz w (5 - j) (dg c (5 - j))) + gnF w c j
theorem gnF_s (w : Nat → Int32) (c j : Nat) : gnF w c (j + 1) = (if dg c (5 - j) = 5 then 0 else 1000 + wz w (5 - j) (dg c (5 - j))) + gnF w c j := rfl
theorem gn_le {w : Nat → Int32} (ch : Nat → Nat) (c : Nat) : ∀ j, ∀ F, F < 32 → okF ch c j F = true → gnF w c j ≤ Bst ch w j F := by
  intro j
  induction j with
  | zero => intro F _ _; exact Nat.le_refl 0
  | succ j ih =>
    intro F hF ok
    rw [okF_s] at ok
    rw [gnF_s, Bst_s]
    have hd := dg_lt c (5 - j)
    by_cases q : dg c (5 - j) = 5
    · rw [if_pos q] at ok ⊢
      have := ih F hF ok
      have := bfm_0 (Bst ch w j F) (fun n => 1000 + wz w (5 - j) n + Bst ch w j (clr F n)) (fun n => (ch (5 - j)).testBit n && F.testBit n) 5
      omega
    · rw [if_neg q] at ok ⊢
      rw [Bool.and_eq_true] at ok
      have h1 := ih _ (clr_lt hF (by omega)) ok.2
      have h2 := bfm_ge (Bst ch w j F) (fun n => 1000 + wz w (5 - j) n + Bst ch w j (clr F n)) (fun n => (ch (5 - j)).testBit n && F.testBit n) 5 (dg c (5 - j)) (by omega) ok.1
      have h3 : 1000 + wz w (5 - j) (dg c (5 - j)) + Bst ch w j (clr F (dg c (5 - j))) ≤ bfm (Bst ch w j F) (fun n => 1000 + wz w (5 - j) n + Bst ch w j (clr F n)) (fun n => (ch (5 - j)).testBit n && F.testBit n) 5 := h2
      omega
theorem okF_cong {ch : Nat → Nat} {w : Nat → Int32} {c c' : Nat} : ∀ j, j ≤ 6 → (∀ h, 6 ≤ h + j → h < 6 → dg c h = dg c' h) → (∀ F, okF ch c j F = okF ch c' j F) ∧ gnF w c j = gnF w c' j := by
  intro j
  induction j with
  | zero => intro _ _; exact ⟨fun _ => rfl, rfl⟩
  | succ j ih =>
    intro hj h
    obtain ⟨i1, i2⟩ := ih (by omega) (fun h' h1 h2 => h h' (by omega) h2)
    have e := h (5 - j) (by omega) (by omega)
    refine ⟨fun F => ?_, ?_⟩
    · rw [okF_s, okF_s, e, i1, i1]
    · rw [gnF_s, gnF_s, e, i2]
def fq (ch : Nat → Nat) (w : Nat → Int32) (j F : Nat) : Nat → Bool := fun n => ((ch (5 - j)).testBit n && F.testBit n) && decide (1000 + wz w (5 - j) n + Bst ch w j (clr F n) = Bst ch w (j + 1) F)
def fn (ch : Nat → Nat) (w : Nat → Int32) (j F : Nat) : Nat := fa_first (fq ch w j F) 5
theorem fn_le (ch : Nat → Nat) (w : Nat → Int32) (j F : Nat) : fn ch w j F ≤ 5 := fa_first_le _ 5
def grd (ch : Nat → Nat) (w : Nat → Int32) : Nat → Nat → Nat
  | 0, _ => 0
  | j + 1, F => fn ch w j F * 6 ^ j + grd ch w j (if fn ch w j F = 5 then F else clr F (fn ch w j F))
theorem grd_s (ch : Nat → Nat) (w : Nat → Int32) (j F : Nat) : grd ch w (j + 1) F = fn ch w j F * 6 ^ j + grd ch w j (if fn ch w j F = 5 then F else clr F (fn ch w j F)) := rfl
theorem grd_lt (ch : Nat → Nat) (w : Nat → Int32) : ∀ j F, grd ch w j F < 6 ^ j := by
  intro j
  induction j with
  | zero => intro F; show 0 < 1; omega
  | succ j ih =>
    intro F
    have h1 := ih (if fn ch w j F = 5 then F else clr F (fn ch w j F))
    have h2 := Nat.mul_le_mul_right (6 ^ j) (fn_le ch w j F)
    rw [grd_s, Nat.pow_succ]
    omega
theorem dg_top {n s j : Nat} (hj : j ≤ 5) (hn : n < 6) (hs : s < 6 ^ j) : dg (n * 6 ^ j + s) (5 - j) = n := by
  unfold dg
  have hp : 0 < 6 ^ j := Nat.pow_pos (by omega)
  rw [show 5 - (5 - j) = j by omega, Nat.add_comm, Nat.add_mul_div_right _ _ hp, Nat.div_eq_of_lt hs, Nat.zero_add, Nat.mod_eq_of_lt hn]
theorem dg_low {n s j h : Nat} (hh : 5 < h + j) (h6 : h < 6) : dg (n * 6 ^ j + s) h = dg s h := by
  unfold dg
  have hp : 0 < 6 ^ (5 - h) := Nat.pow_pos (by omega)
  have e : 6 ^ j = 6 * 6 ^ (j - (5 - h) - 1) * 6 ^ (5 - h) := by
    rw [Nat.mul_comm 6, ← Nat.pow_succ, ← Nat.pow_add]
    congr 1
    omega
  rw [e, ← Nat.mul_assoc, Nat.add_comm, Nat.add_mul_div_right _ _ hp, ← Nat.mul_assoc, Nat.mul_comm n 6, Nat.mul_assoc, Nat.add_mul_mod_self_left]
theorem fn_yes {ch : Nat → Nat} {w : Nat → Int32} {j F : Nat} (h : fn ch w j F ≠ 5) : ((ch (5 - j)).testBit (fn ch w j F) && F.testBit (fn ch w j F)) = true ∧ 1000 + wz w (5 - j) (fn ch w j F) + Bst ch w j (clr F (fn ch w j F)) = Bst ch w (j + 1) F := by
  have hl := fn_le ch w j F
  have y := fa_first_yes (fq ch w j F) 5 (show fn ch w j F < 5 by omega)
  have y2 : fq ch w j F (fn ch w j F) = true := y
  unfold fq at y2
  rw [Bool.and_eq_true, decide_eq_true_eq] at y2
  exact y2
theorem fn_no {ch : Nat → Nat} {w : Nat → Int32} {j F i : Nat} (h : i < fn ch w j F) (hb : ((ch (5 - j)).testBit i && F.testBit i) = true) : 1000 + wz w (5 - j) i + Bst ch w j (clr F i) < Bst ch w (j + 1) F := by
  have n := fa_first_no (fq ch w j F) 5 i h
  have hl := fn_le ch w j F
  unfold fq at n
  rw [hb, Bool.true_and, decide_eq_false_iff_not] at n
  have h2 := bfm_ge (Bst ch w j F) (fun n => 1000 + wz w (5 - j) n + Bst ch w j (clr F n)) (fun n => (ch (5 - j)).testBit n && F.testBit n) 5 i (by omega) hb
  have h3 : 1000 + wz w (5 - j) i + Bst ch w j (clr F i) ≤ Bst ch w (j + 1) F := h2
  omega
theorem fn_none {ch : Nat → Nat} {w : Nat → Int32} {j F : Nat} (h : fn ch w j F = 5) : Bst ch w (j + 1) F = Bst ch w j F := by
  rcases bfm_or (Bst ch w j F) (fun n => 1000 + wz w (5 - j) n + Bst ch w j (clr F n)) (fun n => (ch (5 - j)).testBit n && F.testBit n) 5 with e | ⟨i, hi, hb, e⟩
  · exact e
  · have h1 := fn_no (ch := ch) (w := w) (j := j) (F := F) (i := i) (by omega) hb
    have h2 : Bst ch w (j + 1) F = 1000 + wz w (5 - j) i + Bst ch w j (clr F i) := e
    omega
theorem grd_ok (ch : Nat → Nat) (w : Nat → Int32) : ∀ j, j ≤ 6 → ∀ F, F < 32 → okF ch (grd ch w j F) j F = true ∧ gnF w (grd ch w j F) j = Bst ch w j F := by
  intro j
  induction j with
  | zero => intro _ F _; exact ⟨rfl, rfl⟩
  | succ j ih =>
    intro hj F hF
    have hl := fn_le ch w j F
    have hF' : (if fn ch w j F = 5 then F else clr F (fn ch w j F)) < 32 := by
      by_cases q : fn ch w j F = 5
      · rw [if_pos q]; exact hF
      · rw [if_neg q]; exact clr_lt hF (by omega)
    obtain ⟨i1, i2⟩ := ih (by omega) _ hF'
    have et := dg_top (n := fn ch w j F) (s := grd ch w j (if fn ch w j F = 5 then F else clr F (fn ch w j F))) (j := j) (by omega) (by omega) (grd_lt ch w j _)
    obtain ⟨c1, c2⟩ := okF_cong (ch := ch) (w := w) (c := grd ch w (j + 1) F) (c' := grd ch w j (if fn ch w j F = 5 then F else clr F (fn ch w j F))) j (by omega) (fun h h1 h2 => by rw [grd_s]; exact dg_low (by omega) h2)
    rw [← grd_s] at et
    rw [okF_s, gnF_s, et, c2, i2, c1, c1]
    by_cases q : fn ch w j F = 5
    · rw [if_pos q, if_pos q, if_pos q, fn_none q, Nat.zero_add]
      rw [if_pos q] at i1
      exact ⟨i1, rfl⟩
    · obtain ⟨y1, y2⟩ := fn_yes q
      rw [if_neg q] at i1
      rw [if_neg q, if_neg q, if_neg q, y1, ← y2]
      exact ⟨by rw [i1]; rfl, rfl⟩
theorem grd_first (ch : Nat → Nat) (w : Nat → Int32) : ∀ j, j ≤ 6 → ∀ F, F < 32 → ∀ c, c % 6 ^ j < grd ch w j F → okF ch c j F = true → gnF w c j < Bst ch w j F := by
  intro j
  induction j with
  | zero => intro _ F _ c h; exact absurd h (by show ¬ c % 6 ^ 0 < 0; omega)
  | succ j ih =>
    intro hj F hF c h ok
    have hl := fn_le ch w j F
    have hd := dg_lt c (5 - j)
    have hp : 0 < 6 ^ j := Nat.pow_pos (by omega)
    have hm := Nat.mod_lt c hp
    have hg := grd_lt ch w j (if fn ch w j F = 5 then F else clr F (fn ch w j F))
    rw [Nat.mod_pow_succ, dg_at c (by omega), grd_s, Nat.mul_comm (6 ^ j)] at h
    have hle : dg c (5 - j) ≤ fn ch w j F := by
      rcases Nat.lt_or_ge (fn ch w j F) (dg c (5 - j)) with z | z
      · have := Nat.mul_le_mul_right (6 ^ j) z
        rw [Nat.succ_mul] at this
        omega
      · exact z
    rw [okF_s] at ok
    rw [gnF_s]
    by_cases z : dg c (5 - j) = fn ch w j F
    · rw [z] at h ok ⊢
      have h' : c % 6 ^ j < grd ch w j (if fn ch w j F = 5 then F else clr F (fn ch w j F)) := by omega
      by_cases q : fn ch w j F = 5
      · rw [if_pos q] at h' ok ⊢
        have := ih (by omega) F hF c h' ok
        rw [fn_none q]
        omega
      · rw [if_neg q] at h' ok ⊢
        rw [Bool.and_eq_true] at ok
        have := ih (by omega) _ (clr_lt hF (by omega)) c h' ok.2
        have := (fn_yes q).2
        omega
    · have hlt : dg c (5 - j) < fn ch w j F := by omega
      rw [if_neg (by omega)] at ok ⊢
      rw [Bool.and_eq_true] at ok
      have h1 := fn_no hlt ok.1
      have h2 := gn_le (w := w) ch c j _ (clr_lt hF (by omega)) ok.2
      omega
/-- good from above is good from below -/
theorem okF_Z {ch : Nat → Nat} {c : Nat} : ∀ j, ∀ F, F < 32 → (okF ch c j F = true ↔ okZ ch c j = true ∧ ∀ n, n < 5 → (seN c j).testBit n = true → F.testBit n = true) := by
  intro j
  induction j with
  | zero =>
    intro F _
    refine ⟨fun _ => ⟨rfl, fun n _ h => ?_⟩, fun _ => rfl⟩
    have : (0 : Nat).testBit n = true := h
    rw [Nat.zero_testBit] at this
    exact absurd this (by decide)
  | succ j ih =>
    intro F hF
    have hd := dg_lt c (5 - j)
    have hS := seN_lt c j
    have e1 : seN c (j + 1) = if dg c (5 - j) < 5 then sbt (seN c j) (dg c (5 - j)) else seN c j := rfl
    have e2 : okZ ch c (j + 1) = (okZ ch c j && (decide (dg c (5 - j) = 5) || ((ch (5 - j)).testBit (dg c (5 - j)) && !(seN c j).testBit (dg c (5 - j))))) := rfl
    rw [okF_s, e1, e2]
    by_cases q : dg c (5 - j) = 5
    · rw [if_pos q, if_neg (by omega), decide_eq_true q, Bool.true_or, Bool.and_true]
      exact ih F hF
    · have hd5 : dg c (5 - j) < 5 := by omega
      rw [if_neg q, if_pos hd5, decide_eq_false q, Bool.false_or, Bool.and_eq_true, Bool.and_eq_true, Bool.and_eq_true, Bool.and_eq_true, ih _ (clr_lt hF hd5)]
      constructor
      · rintro ⟨⟨h1, h2⟩, h3, h4⟩
        have nd : (seN c j).testBit (dg c (5 - j)) = false := by
          rw [← Bool.not_eq_true]
          intro h5
          have := h4 _ hd5 h5
          rw [clr_bit hF hd5 hd5, decide_eq_true rfl, Bool.not_true, Bool.and_false] at this
          exact absurd this (by decide)
        refine ⟨⟨h3, h1, by rw [nd]; rfl⟩, fun n hn h5 => ?_⟩
        rw [sbt_bit hS hd5 hn, Bool.or_eq_true, decide_eq_true_eq] at h5
        rcases h5 with h5 | h5
        · have := h4 n hn h5
          rw [clr_bit hF hd5 hn, Bool.and_eq_true] at this
          exact this.1
        · rw [h5]; exact h2
      · rintro ⟨⟨h3, h1, h6⟩, h4⟩
        have h6' : (seN c j).testBit (dg c (5 - j)) = false := by
          rw [← Bool.not_eq_true]
          intro h5
          rw [h5] at h6
          exact absurd h6 (by decide)
        refine ⟨⟨h1, h4 _ hd5 (by rw [sbt_bit hS hd5 hd5, decide_eq_true rfl, Bool.or_true])⟩, h3, fun n hn h5 => ?_⟩
        rw [clr_bit hF hd5 hn, h4 n hn (by rw [sbt_bit hS hd5 hn, h5, Bool.true_or])]
        have : n ≠ dg c (5 - j) := fun e => by rw [e, h6'] at h5; exact absurd h5 (by decide)
        rw [decide_eq_false this]
        rfl
theorem okZ_sub {may : Nat → Int32} {H N c : Nat} : ∀ j, okZ (chz may H N) c j = true → ∀ n, n < 5 → (seN c j).testBit n = true → N.testBit n = true := by
  intro j
  induction j with
  | zero =>
    intro _ n _ h
    have : (0 : Nat).testBit n = true := h
    rw [Nat.zero_testBit] at this
    exact absurd this (by decide)
  | succ j ih =>
    intro ok n hn h
    have hd := dg_lt c (5 - j)
    have hS := seN_lt c j
    have e1 : seN c (j + 1) = if dg c (5 - j) < 5 then sbt (seN c j) (dg c (5 - j)) else seN c j := rfl
    have e2 : okZ (chz may H N) c (j + 1) = (okZ (chz may H N) c j && (decide (dg c (5 - j) = 5) || (((chz may H N) (5 - j)).testBit (dg c (5 - j)) && !(seN c j).testBit (dg c (5 - j))))) := rfl
    rw [e2, Bool.and_eq_true] at ok
    rw [e1] at h
    by_cases q : dg c (5 - j) = 5
    · rw [if_neg (by omega)] at h
      exact ih ok.1 n hn h
    · have hd5 : dg c (5 - j) < 5 := by omega
      rw [if_pos hd5, sbt_bit hS hd5 hn, Bool.or_eq_true, decide_eq_true_eq] at h
      rcases h with h | h
      · exact ih ok.1 n hn h
      · have h2 := ok.2
        rw [decide_eq_false q, Bool.false_or, Bool.and_eq_true, chz_bit, Bool.and_eq_true, Bool.and_eq_true] at h2
        rw [h]; exact h2.1.2.2
theorem okF_6 {may : Nat → Int32} {H N c : Nat} (hN : N < 32) : okF (chz may H N) c 6 N = true ↔ okZ (chz may H N) c 6 = true := by
  rw [okF_Z 6 N hN]
  exact ⟨fun h => h.1, fun h => ⟨h, okZ_sub 6 h⟩⟩
theorem gnF_6 (w : Nat → Int32) (c : Nat) : gnF w c 6 = 1000 * cnE (dg c) 6 + wsE w (dg c) 6 := by
  have e1 : gnF w c 6 = (if dg c 0 = 5 then 0 else 1000 + wz w 0 (dg c 0)) + ((if dg c 1 = 5 then 0 else 1000 + wz w 1 (dg c 1)) + ((if dg c 2 = 5 then 0 else 1000 + wz w 2 (dg c 2)) + ((if dg c 3 = 5 then 0 else 1000 + wz w 3 (dg c 3)) + ((if dg c 4 = 5 then 0 else 1000 + wz w 4 (dg c 4)) + ((if dg c 5 = 5 then 0 else 1000 + wz w 5 (dg c 5)) + 0))))) := rfl
  have e2 : cnE (dg c) 6 = 0 + (if dg c 0 = 5 then 0 else 1) + (if dg c 1 = 5 then 0 else 1) + (if dg c 2 = 5 then 0 else 1) + (if dg c 3 = 5 then 0 else 1) + (if dg c 4 = 5 then 0 else 1) + (if dg c 5 = 5 then 0 else 1) := rfl
  have e3 : wsE w (dg c) 6 = 0 + (if dg c 0 = 5 then 0 else wz w 0 (dg c 0)) + (if dg c 1 = 5 then 0 else wz w 1 (dg c 1)) + (if dg c 2 = 5 then 0 else wz w 2 (dg c 2)) + (if dg c 3 = 5 then 0 else wz w 3 (dg c 3)) + (if dg c 4 = 5 then 0 else wz w 4 (dg c 4)) + (if dg c 5 = 5 then 0 else wz w 5 (dg c 5)) := rfl
  have s : ∀ h, (if dg c h = 5 then 0 else 1000 + wz w h (dg c h)) = 1000 * (if dg c h = 5 then 0 else 1) + (if dg c h = 5 then 0 else wz w h (dg c h)) := by
    intro h
    by_cases q : dg c h = 5
    · rw [if_pos q, if_pos q, if_pos q]
    · rw [if_neg q, if_neg q, if_neg q]
  rw [e1, e2, e3, s 0, s 1, s 2, s 3, s 4, s 5]
  omega
