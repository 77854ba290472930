-- a giving laid by a code
def flg2 (b : Bool) : Int32 := if b then 1 else 0
def dg (c h : Nat) : Nat := c / 6 ^ (5 - h) % 6
def gv (c h : Nat) : Int32 := if dg c h = 5 then -6 else nI (dg c h)
def seN (c : Nat) : Nat → Nat
  | 0 => 0
  | k + 1 => if dg c (5 - k) < 5 then sbt (seN c k) (dg c (5 - k)) else seN c k
def okZ (ch : Nat → Nat) (c : Nat) : Nat → Bool
  | 0 => true
  | k + 1 => okZ ch c k && (decide (dg c (5 - k) = 5) || ((ch (5 - k)).testBit (dg c (5 - k)) && !(seN c k).testBit (dg c (5 - k))))
theorem dg_lt (c h : Nat) : dg c h < 6 := Nat.mod_lt _ (by omega)
theorem seN_lt (c : Nat) : ∀ k, seN c k < 32
  | 0 => by show 0 < 32; omega
  | k + 1 => by
    show (if dg c (5 - k) < 5 then sbt (seN c k) (dg c (5 - k)) else seN c k) < 32
    by_cases q : dg c (5 - k) < 5
    · rw [if_pos q]; exact sbt_lt (seN_lt c k) q
    · rw [if_neg q]; exact seN_lt c k
theorem dg_at (c : Nat) {k : Nat} (hk : k < 6) : c / 6 ^ k % 6 = dg c (5 - k) := by
  unfold dg
  rw [show 5 - (5 - k) = k by omega]
theorem lay_12s (mm : Nat → Int32) (n : Nat) (a b c d e f : Int32) (g : Nat → Int32) : m_X8_layGiving_12 mm (n + 1) a b c d e f g = m_X8_layGiving_12b (m_X8_layGiving_12 mm n) mm a b c d e f g := rfl
theorem chz_bit {may : Nat → Int32} {H N h d : Nat} : (chz may H N h).testBit d = (H.testBit h && ((nV may h).testBit d && N.testBit d)) := by
  unfold chz
  by_cases c : H.testBit h = true
  · rw [if_pos c, c, Nat.testBit_and]
    rfl
  · rw [if_neg c, Nat.zero_testBit]
    have : H.testBit h = false := Bool.eq_false_iff.mpr c
    rw [this]
    rfl
set_option maxHeartbeats 1000000 in
theorem lay_step {may mm : Nat → Int32} (hm : rng 6 31 may) (hE : eqN 6 may mm) {H N c k : Nat} (hH : H < 64) (hN : N < 32) (hc : c < 2 ^ 31) (hk : k < 6) (f : Nat) (g : Nat → Int32) :
    m_X8_layGiving_12 mm (f + 1) (nI H) (nI N) (nI (c / 6 ^ k)) (nI (seN c k)) (flg2 (okZ (chz may H N) c k)) (nI (5 - k)) g = m_X8_layGiving_12 mm f (nI H) (nI N) (nI (c / 6 ^ (k + 1))) (nI (seN c (k + 1))) (flg2 (okZ (chz may H N) c (k + 1))) (nI (5 - k) + (-1)) (upd g (5 - k) (gv c (5 - k))) := by
  have hb : c / 6 ^ k < 2 ^ 31 := Nat.lt_of_le_of_lt (Nat.div_le_self _ _) hc
  have hh : 5 - k < 6 := by omega
  have rem : nI (c / 6 ^ k) - nI (c / 6 ^ k) / 6 * 6 = nI (dg c (5 - k)) := by
    rw [← dg_at c hk]
    exact pk_rem (d := 6) hb (by omega) (by omega)
  have div : nI (c / 6 ^ k) / 6 = nI (c / 6 ^ (k + 1)) := by
    rw [l6, pk_div hb (by omega) (by omega), Nat.div_div_eq_div_mul, ← Nat.pow_succ]
  have hd6 := dg_lt c (5 - k)
  have hS := seN_lt c k
  have e1 : seN c (k + 1) = if dg c (5 - k) < 5 then sbt (seN c k) (dg c (5 - k)) else seN c k := rfl
  have e2 : okZ (chz may H N) c (k + 1) = (okZ (chz may H N) c k && (decide (dg c (5 - k) = 5) || ((chz may H N (5 - k)).testBit (dg c (5 - k)) && !(seN c k).testBit (dg c (5 - k))))) := rfl
  have em : mm (5 - k) = nI (nV may (5 - k)) ∧ nV may (5 - k) ≤ 31 := by
    rw [← hE _ hh]
    exact nV_of (by omega) hm hh
  obtain ⟨em, em31⟩ := em
  have i6 : ∀ {α : Type} (z : Option α), ogi (nI (5 - k)) 6 z = z := fun z => ogi_N hh (by omega)
  have ck : (nI (5 - k)).toNatClampNeg = 5 - k := cl_N (by omega)
  have i1 : ¬ (1 : Int32) = 0 := by decide
  rw [lay_12s]
  unfold m_X8_layGiving_12b
  rw [if_neg (nI_pos (by omega)), rem, ogl_def, div, ogl_def]
  unfold gv
  by_cases d5 : dg c (5 - k) = 5
  · rw [if_pos (by rw [d5]; rfl), if_pos d5]
    unfold m_X8_layGiving_50 m_X8_layGiving_121
    rw [i6, if_pos (by rw [d5]; decide), ogl_def, ck, e1, if_neg (by omega), e2, decide_eq_true d5, Bool.true_or, Bool.and_true]
  · have hd : dg c (5 - k) < 5 := by omega
    have n5 : ¬ nI (dg c (5 - k)) = 5 := by rw [l5, nI_eq (by omega) (by omega)]; exact d5
    have n5' : ¬ (5 : Int32) ≤ nI (dg c (5 - k)) := by rw [l5, nI_leI (by omega) (by omega)]; omega
    rw [if_neg n5, if_neg d5]
    unfold m_X8_layGiving_50 m_X8_layGiving_109 m_X8_layGiving_110 m_X8_layGiving_121
    simp only [i6, ck, ogl_def]
    rw [if_neg n5', em, hb8 hH hh, hb8 (show N < 64 by omega) (show dg c (5 - k) < 6 by omega), hb8 (show nV may (5 - k) < 64 by omega) (show dg c (5 - k) < 6 by omega), hb8 (show seN c k < 64 by omega) (show dg c (5 - k) < 6 by omega), sbt_N hS hd, e1, if_pos hd, e2, decide_eq_false d5, Bool.false_or, chz_bit]
    simp only [ogb_some]
    generalize okZ (chz may H N) c k = F
    generalize H.testBit (5 - k) = A
    generalize N.testBit (dg c (5 - k)) = B
    generalize (nV may (5 - k)).testBit (dg c (5 - k)) = M
    generalize (seN c k).testBit (dg c (5 - k)) = S
    unfold flg2
    cases F <;> cases A <;> cases B <;> cases M <;> cases S <;> rfl
def gz (c k : Nat) (g : Nat → Int32) : Nat → Int32 := fun j => if 6 ≤ j + k ∧ j < 6 then gv c j else g j
theorem gz_s {c k : Nat} (hk : k < 6) (g : Nat → Int32) : upd (gz c k g) (5 - k) (gv c (5 - k)) = gz c (k + 1) g := by
  funext j
  unfold upd gz
  by_cases q : j = 5 - k
  · subst q
    rw [if_pos rfl, if_pos (by omega)]
  · rw [if_neg q]
    by_cases w : 6 ≤ j + k ∧ j < 6
    · rw [if_pos w, if_pos (by omega)]
    · rw [if_neg w, if_neg (by omega)]
theorem lay_run {may mm : Nat → Int32} (hm : rng 6 31 may) (hE : eqN 6 may mm) {H N c : Nat} (hH : H < 64) (hN : N < 32) (hc : c < 2 ^ 31) (g : Nat → Int32) : ∀ (m k : Nat), k + m = 6 → ∀ f, m < f → ∀ v, (k < 6 → v = nI (5 - k)) → (k = 6 → v = -1) → m_X8_layGiving_12 mm f (nI H) (nI N) (nI (c / 6 ^ k)) (nI (seN c k)) (flg2 (okZ (chz may H N) c k)) v (gz c k g) = some (flg2 (okZ (chz may H N) c 6), gz c 6 g) := by
  intro m
  induction m with
  | zero =>
    intro k hk f hf v h1 h2
    obtain ⟨f, rfl⟩ : ∃ z, f = z + 1 := ⟨f - 1, by omega⟩
    have : k = 6 := by omega
    subst this
    rw [h2 rfl, lay_12s]
    unfold m_X8_layGiving_12b
    have b01 : flg2 (okZ (chz may H N) c 6) = 0 ∨ flg2 (okZ (chz may H N) c 6) = 1 := by
      unfold flg2
      cases okZ (chz may H N) c 6
      · exact Or.inl rfl
      · exact Or.inr rfl
    rw [if_pos (by decide), ogy_ok b01]
  | succ m ih =>
    intro k hk f hf v h1 h2
    obtain ⟨f, rfl⟩ : ∃ z, f = z + 1 := ⟨f - 1, by omega⟩
    rw [h1 (by omega), lay_step hm hE hH hN hc (by omega), gz_s (by omega)]
    refine ih (k + 1) (by omega) f (by omega) _ (fun h => ?_) (fun h => ?_)
    · rw [show 5 - k = 5 - (k + 1) + 1 by omega, pk_m1]
    · rw [show 5 - k = 0 by omega]; decide
theorem gz_0 (c : Nat) (g : Nat → Int32) : gz c 0 g = g := by
  funext j
  unfold gz
  rw [if_neg (by omega)]
theorem gz_at {c j : Nat} (hj : j < 6) (g : Nat → Int32) : gz c 6 g j = gv c j := if_pos ⟨by omega, hj⟩
theorem lay_N {may mm : Nat → Int32} (hm : rng 6 31 may) (hE : eqN 6 may mm) {H N c : Nat} (hH : H < 64) (hN : N < 32) (hc : c < 2 ^ 31) (g : Nat → Int32) : m_X8_layGiving mm g (nI c) (nI H) (nI N) = some (flg2 (okZ (chz may H N) c 6), gz c 6 g) := by
  have h := lay_run hm hE hH hN hc g 6 0 (by omega) 1000000 (by omega) 5 (fun _ => rfl) (fun h => absurd h (by omega))
  rw [gz_0, Nat.pow_zero, Nat.div_one] at h
  exact h
theorem okZ_mono {ch : Nat → Nat} {c k : Nat} (h : okZ ch c k = false) : ∀ j, okZ ch c (k + j) = false
  | 0 => h
  | j + 1 => by
    show (okZ ch c (k + j) && _) = false
    rw [okZ_mono h j, Bool.false_and]
/-- who holds a name, of the hulls laid last -/
def hd (c n : Nat) : Nat → Int32
  | 0 => -6
  | k + 1 => if dg c (5 - k) = n then nI (5 - k) else hd c n k
theorem hd_rg (c n : Nat) : ∀ k, hd c n k = -6 ∨ ∃ h, h < 6 ∧ 6 ≤ h + k ∧ hd c n k = nI h ∧ dg c h = n
  | 0 => Or.inl rfl
  | k + 1 => by
    show (if dg c (5 - k) = n then nI (5 - k) else hd c n k) = -6 ∨ ∃ h, h < 6 ∧ 6 ≤ h + (k + 1) ∧ (if dg c (5 - k) = n then nI (5 - k) else hd c n k) = nI h ∧ dg c h = n
    by_cases q : dg c (5 - k) = n
    · rw [if_pos q]; exact Or.inr ⟨5 - k, by omega, by omega, rfl, q⟩
    · rw [if_neg q]
      rcases hd_rg c n k with e | ⟨h, h1, h2, h3, h4⟩
      · exact Or.inl e
      · exact Or.inr ⟨h, h1, by omega, h3, h4⟩
theorem seN_hd {c n : Nat} (hn : n < 5) : ∀ k, (seN c k).testBit n = true ↔ hd c n k ≠ -6
  | 0 => by
    show (0 : Nat).testBit n = true ↔ (-6 : Int32) ≠ -6
    rw [Nat.zero_testBit]
    exact ⟨fun h => absurd h (by decide), fun h => absurd rfl h⟩
  | k + 1 => by
    have ih := seN_hd (c := c) hn k
    have hS := seN_lt c k
    show (if dg c (5 - k) < 5 then sbt (seN c k) (dg c (5 - k)) else seN c k).testBit n = true ↔ (if dg c (5 - k) = n then nI (5 - k) else hd c n k) ≠ -6
    by_cases q : dg c (5 - k) < 5
    · rw [if_pos q, sbt_bit hS q hn]
      by_cases w : dg c (5 - k) = n
      · rw [if_pos w, decide_eq_true w.symm, Bool.or_true]
        exact ⟨fun _ => nI_n6 (by omega), fun _ => rfl⟩
      · rw [if_neg w, decide_eq_false (fun e => w e.symm), Bool.or_false]
        exact ih
    · rw [if_neg q, if_neg (by omega)]
      exact ih
/-- no name twice in a good giving -/
theorem okZ_one {ch : Nat → Nat} {c : Nat} : ∀ k, k ≤ 6 → okZ ch c k = true → ∀ n, n < 5 → ∀ h, h < 6 → 6 ≤ h + k → dg c h = n → hd c n k = nI h := by
  intro k
  induction k with
  | zero => intro _ _ n _ h hh h6; exact absurd h6 (by omega)
  | succ k ih =>
    intro hk ok n hn h hh h6 e
    have e2 : okZ ch c (k + 1) = (okZ ch c k && (decide (dg c (5 - k) = 5) || ((ch (5 - k)).testBit (dg c (5 - k)) && !(seN c k).testBit (dg c (5 - k))))) := rfl
    rw [e2, Bool.and_eq_true] at ok
    obtain ⟨ok1, ok2⟩ := ok
    show (if dg c (5 - k) = n then nI (5 - k) else hd c n k) = nI h
    by_cases q : dg c (5 - k) = n
    · rw [if_pos q]
      by_cases w : h = 5 - k
      · rw [w]
      · have := ih (by omega) ok1 n hn h hh (by omega) e
        have sb : (seN c k).testBit n = true := (seN_hd hn k).mpr (by rw [this]; exact nI_n6 (by omega))
        rw [q, sb, decide_eq_false (by omega)] at ok2
        exact absurd ok2 (by simp)
    · rw [if_neg q]
      refine ih (by omega) ok1 n hn h hh ?_ e
      have : h ≠ 5 - k := fun w => q (w ▸ e)
      omega
theorem hol_5s (g : Nat → Int32) (n : Nat) (a b c : Int32) : m_X8_holderOf_5 g (n + 1) a b c = m_X8_holderOf_5b (m_X8_holderOf_5 g n) g a b c := rfl
theorem hol_N {ch : Nat → Nat} {c n : Nat} {g : Nat → Int32} (hg : ∀ j, j < 6 → g j = gv c j) (hn : n < 5) (ok : okZ ch c 6 = true) : m_X8_holderOf g (nI n) = some (hd c n 6) := by
  have gn : ∀ j, j < 6 → (g j = nI n ↔ dg c j = n) := by
    intro j hj
    rw [hg j hj]
    unfold gv
    have := dg_lt c j
    by_cases q : dg c j = 5
    · rw [if_pos q]
      exact ⟨fun e => absurd e.symm (nI_n6 (by omega)), fun e => by omega⟩
    · rw [if_neg q]
      exact nI_eq (by omega) (by omega)
  have run : ∀ (m t : Nat), t + m = 6 → ∀ f, m < f → ∀ s, (s = hd c n 6 ∨ (s = -6 ∧ ∀ j, j < t → dg c j ≠ n)) → m_X8_holderOf_5 g f (nI n) s (nI t) = some (hd c n 6) := by
    intro m
    induction m with
    | zero =>
      intro t ht f hf s hs
      obtain ⟨f, rfl⟩ : ∃ z, f = z + 1 := ⟨f - 1, by omega⟩
      rw [hol_5s]
      unfold m_X8_holderOf_5b
      rw [if_pos (by rw [l6, nI_leI (by omega) (by omega)]; omega)]
      rcases hs with rfl | ⟨rfl, h⟩
      · rfl
      · rcases hd_rg c n 6 with e | ⟨j, h1, -, -, h4⟩
        · rw [e]
        · exact absurd h4 (h j (by omega))
    | succ m ih =>
      intro t ht f hf s hs
      obtain ⟨f, rfl⟩ : ∃ z, f = z + 1 := ⟨f - 1, by omega⟩
      rw [hol_5s]
      unfold m_X8_holderOf_5b m_X8_holderOf_26
      rw [if_neg (by rw [l6, nI_leI (by omega) (by omega)]; omega), ogi_N (show t < 6 by omega) (by omega), cl_N (by omega), ogl_def, nI_1]
      by_cases q : dg c t = n
      · rw [if_pos ((gn t (by omega)).mpr q)]
        exact ih (t + 1) (by omega) f (by omega) _ (Or.inl (okZ_one 6 (by omega) ok n hn t (by omega) (by omega) q).symm)
      · rw [if_neg (fun e => q ((gn t (by omega)).mp e))]
        refine ih (t + 1) (by omega) f (by omega) _ ?_
        rcases hs with e | ⟨e, h⟩
        · exact Or.inl e
        · refine Or.inr ⟨e, fun j hj => ?_⟩
          by_cases w : j = t
          · rw [w]; exact q
          · exact h j (by omega)
  exact run 6 0 (by omega) 1000000 (by omega) (-6) (Or.inr ⟨rfl, fun j hj => absurd hj (by omega)⟩)
