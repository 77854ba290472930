-- the next way
theorem tg_2s (n : Nat) (a b : Int32) (w : Nat → Int32) : m_X6_turnGaps_2 (n + 1) a b w = m_X6_turnGaps_2b (m_X6_turnGaps_2 n) a b w := rfl
theorem tg_step (n met v x : Nat) (w : Nat → Int32) (hm : met ≤ 4) (hv : v < 4) (hx : v < met → w v = nI x ∧ x < 6) :
    m_X6_turnGaps_2 (n + 1) (nI met) (nI v) w = if v < met ∧ x < 5 then some (1, upd w v (nI (x + 1))) else m_X6_turnGaps_2 n (nI met) (nI v + (-1)) (upd w v 0) := by
  have i4 : ∀ {α : Type} (k : Option α), ogi (nI v) 4 k = k := fun k => ogi_N hv (by omega)
  have cv : (nI v).toNatClampNeg = v := cl_N (by omega)
  rw [tg_2s]
  unfold m_X6_turnGaps_2b m_X6_turnGaps_33
  simp only [i4, cv, ogl_def]
  rw [if_neg (nI_pos (by omega))]
  by_cases c : v < met
  · obtain ⟨e, hx6⟩ := hx c
    rw [if_neg (by rw [nI_leI (by omega) (by omega)]; omega), e]
    by_cases d : x < 5
    · rw [if_neg (by rw [l5, nI_leI (by omega) (by omega)]; omega), if_pos ⟨c, d⟩, nI_1]
    · rw [if_pos (by rw [l5, nI_leI (by omega) (by omega)]; omega), if_neg (fun h => d h.2)]
  · rw [if_pos (by rw [nI_leI (by omega) (by omega)]; omega), if_neg (fun h => c h.1)]
theorem tg_end (n met : Nat) (w : Nat → Int32) : m_X6_turnGaps_2 (n + 1) (nI met) (-1) w = some (0, w) := by
  rw [tg_2s]
  unfold m_X6_turnGaps_2b
  rw [if_pos (by decide)]
theorem tg_all (met a b c d : Nat) (w : Nat → Int32) (hm : met ≤ 4) (ha : 0 < met → w 0 = nI a ∧ a < 6) (hb : 1 < met → w 1 = nI b ∧ b < 6) (hc : 2 < met → w 2 = nI c ∧ c < 6) (hd : 3 < met → w 3 = nI d ∧ d < 6) :
    m_X6_turnGaps w (nI met) = if 3 < met ∧ d < 5 then some (1, upd w 3 (nI (d + 1))) else if 2 < met ∧ c < 5 then some (1, upd (upd w 3 0) 2 (nI (c + 1))) else if 1 < met ∧ b < 5 then some (1, upd (upd (upd w 3 0) 2 0) 1 (nI (b + 1))) else if 0 < met ∧ a < 5 then some (1, upd (upd (upd (upd w 3 0) 2 0) 1 0) 0 (nI (a + 1))) else some (0, upd (upd (upd (upd w 3 0) 2 0) 1 0) 0 0) := by
  have s3 := tg_step 999999 met 3 d w hm (by omega) hd
  have s2 := tg_step 999998 met 2 c (upd w 3 0) hm (by omega) (fun h => by rw [upd_n _ _ (by omega)]; exact hc h)
  have s1 := tg_step 999997 met 1 b (upd (upd w 3 0) 2 0) hm (by omega) (fun h => by rw [upd_n _ _ (by omega), upd_n _ _ (by omega)]; exact hb h)
  have s0 := tg_step 999996 met 0 a (upd (upd (upd w 3 0) 2 0) 1 0) hm (by omega) (fun h => by rw [upd_n _ _ (by omega), upd_n _ _ (by omega), upd_n _ _ (by omega)]; exact ha h)
  have e3 : nI 3 + (-1) = nI 2 := pk_m1 2
  have e2 : nI 2 + (-1) = nI 1 := pk_m1 1
  have e1 : nI 1 + (-1) = nI 0 := pk_m1 0
  have e0 : nI 0 + (-1) = -1 := by decide
  rw [e3] at s3
  rw [e2] at s2
  rw [e1] at s1
  rw [e0, tg_end] at s0
  show m_X6_turnGaps_2 (999999 + 1) (nI met) (nI 3) w = _
  rw [s3]
  by_cases c3 : 3 < met ∧ d < 5
  · rw [if_pos c3, if_pos c3]
  · rw [if_neg c3, if_neg c3]
    show m_X6_turnGaps_2 (999998 + 1) (nI met) (nI 2) _ = _
    rw [s2]
    by_cases c2 : 2 < met ∧ c < 5
    · rw [if_pos c2, if_pos c2]
    · rw [if_neg c2, if_neg c2]
      show m_X6_turnGaps_2 (999997 + 1) (nI met) (nI 1) _ = _
      rw [s1]
      by_cases c1 : 1 < met ∧ b < 5
      · rw [if_pos c1, if_pos c1]
      · rw [if_neg c1, if_neg c1]
        show m_X6_turnGaps_2 (999996 + 1) (nI met) (nI 0) _ = _
        rw [s0]
def nxt (G met C : Nat) : Nat := (C / 6 ^ (G - met) + 1) * 6 ^ (G - met)
theorem nxt_gt (G met C : Nat) : C < nxt G met C := by
  unfold nxt
  have h := Nat.div_add_mod C (6 ^ (G - met))
  have hp : 0 < 6 ^ (G - met) := Nat.pow_pos (by omega)
  have h2 := Nat.mod_lt C hp
  rw [Nat.add_mul, Nat.one_mul, Nat.mul_comm]
  omega
theorem nxt_same {G met C X g : Nat} (hm : met ≤ G) (h1 : C ≤ X) (h2 : X < nxt G met C) (hg : g < met) : dgt G X g = dgt G C g := by
  have hp : 0 < 6 ^ (G - met) := Nat.pow_pos (by omega)
  have a : X / 6 ^ (G - met) < C / 6 ^ (G - met) + 1 := (Nat.div_lt_iff_lt_mul hp).mpr h2
  have b : C / 6 ^ (G - met) ≤ X / 6 ^ (G - met) := Nat.div_le_div_right h1
  have e : X / 6 ^ (G - met) = C / 6 ^ (G - met) := by omega
  have s : 6 ^ (G - 1 - g) = 6 ^ (G - met) * 6 ^ (met - 1 - g) := by rw [← Nat.pow_add]; congr 1; omega
  unfold dgt
  rw [s, ← Nat.div_div_eq_div_mul, ← Nat.div_div_eq_div_mul, e]
theorem nxt_full (G C : Nat) : nxt G G C = C + 1 := by
  unfold nxt
  rw [Nat.sub_self, Nat.pow_zero, Nat.div_one, Nat.mul_one]
def wq (x : Option (Int32 × (Nat → Int32))) (G C : Nat) : Prop := ∃ w', (C < 6 ^ G ∧ x = some (1, w') ∧ ∀ g, g < G → w' g = nI (dgt G C g)) ∨ (6 ^ G ≤ C ∧ x = some (0, w'))
theorem lt4 {P : Nat → Prop} (h0 : P 0) (h1 : P 1) (h2 : P 2) (h3 : P 3) : ∀ g, g < 4 → P g := by
  intro g hg
  match g, hg with
  | 0, _ => exact h0
  | 1, _ => exact h1
  | 2, _ => exact h2
  | 3, _ => exact h3
  | n + 4, h => omega
set_option maxHeartbeats 4000000 in
theorem turn_4 {met C : Nat} {w : Nat → Int32} (hm : met ≤ 4) (hC : C < 1296) (hw : ∀ g, g < met → w g = nI (dgt 4 C g)) : wq (m_X6_turnGaps w (nI met)) 4 (nxt 4 met C) := by
  have d0 : 0 < met → w 0 = nI (C / 216 % 6) := fun h => hw 0 h
  have d1 : 1 < met → w 1 = nI (C / 36 % 6) := fun h => hw 1 h
  have d2 : 2 < met → w 2 = nI (C / 6 % 6) := fun h => hw 2 h
  have d3 : 3 < met → w 3 = nI (C % 6) := fun h => by rw [hw 3 h]; unfold dgt; simp
  have T := tg_all met (C / 216 % 6) (C / 36 % 6) (C / 6 % 6) (C % 6) w hm (fun h => ⟨d0 h, by omega⟩) (fun h => ⟨d1 h, by omega⟩) (fun h => ⟨d2 h, by omega⟩) (fun h => ⟨d3 h, by omega⟩)
  have fin : ∀ {X x0 x1 x2 x3 : Nat} {f : Nat → Int32}, X < 1296 → f 0 = nI x0 → f 1 = nI x1 → f 2 = nI x2 → f 3 = nI x3 → x0 = X / 216 % 6 → x1 = X / 36 % 6 → x2 = X / 6 % 6 → x3 = X % 6 → m_X6_turnGaps w (nI met) = some (1, f) → wq (m_X6_turnGaps w (nI met)) 4 X := by
    intro X x0 x1 x2 x3 f hX f0 f1 f2 f3 e0 e1 e2 e3 hh
    refine ⟨f, Or.inl ⟨hX, hh, lt4 ?_ ?_ ?_ ?_⟩⟩
    · rw [f0, e0]; rfl
    · rw [f1, e1]; rfl
    · rw [f2, e2]; rfl
    · rw [f3, e3]; unfold dgt; simp
  have z : (0 : Int32) = nI 0 := rfl
  have m : met = 0 ∨ met = 1 ∨ met = 2 ∨ met = 3 ∨ met = 4 := by omega
  have u : ∀ (f : Nat → Int32) (i : Nat) (x : Int32), upd f i x i = x := upd_s
  by_cases c3 : 3 < met ∧ C % 6 < 5
  · rw [if_pos c3] at T
    have e : nxt 4 met C = C + 1 := by
      have : met = 4 := by omega
      subst this; exact nxt_full 4 C
    rw [e]
    exact fin (X := C + 1) (by omega) ((upd_n _ _ (by omega)).trans (d0 (by omega))) ((upd_n _ _ (by omega)).trans (d1 (by omega))) ((upd_n _ _ (by omega)).trans (d2 (by omega))) (upd_s _ _ _) (by omega) (by omega) (by omega) (by omega) T
  · rw [if_neg c3] at T
    by_cases c2 : 2 < met ∧ C / 6 % 6 < 5
    · rw [if_pos c2] at T
      have e : nxt 4 met C = (C / 6 + 1) * 6 := by
        rcases m with rfl | rfl | rfl | rfl | rfl
        · omega
        · omega
        · omega
        · rfl
        · rw [nxt_full]; omega
      rw [e]
      exact fin (X := (C / 6 + 1) * 6) (by omega) ((upd_n _ _ (by omega)).trans ((upd_n _ _ (by omega)).trans (d0 (by omega)))) ((upd_n _ _ (by omega)).trans ((upd_n _ _ (by omega)).trans (d1 (by omega)))) (upd_s _ _ _) ((upd_n _ _ (by omega)).trans ((upd_s _ _ _).trans z)) (by omega) (by omega) (by omega) (by omega) T
    · rw [if_neg c2] at T
      by_cases c1 : 1 < met ∧ C / 36 % 6 < 5
      · rw [if_pos c1] at T
        have e : nxt 4 met C = (C / 36 + 1) * 36 := by
          rcases m with rfl | rfl | rfl | rfl | rfl
          · omega
          · omega
          · rfl
          · show (C / 6 + 1) * 6 = _; omega
          · rw [nxt_full]; omega
        rw [e]
        exact fin (X := (C / 36 + 1) * 36) (by omega) ((upd_n _ _ (by omega)).trans ((upd_n _ _ (by omega)).trans ((upd_n _ _ (by omega)).trans (d0 (by omega))))) (upd_s _ _ _) ((upd_n _ _ (by omega)).trans ((upd_s _ _ _).trans z)) ((upd_n _ _ (by omega)).trans ((upd_n _ _ (by omega)).trans ((upd_s _ _ _).trans z))) (by omega) (by omega) (by omega) (by omega) T
      · rw [if_neg c1] at T
        by_cases c0 : 0 < met ∧ C / 216 % 6 < 5
        · rw [if_pos c0] at T
          have e : nxt 4 met C = (C / 216 + 1) * 216 := by
            rcases m with rfl | rfl | rfl | rfl | rfl
            · omega
            · rfl
            · show (C / 36 + 1) * 36 = _; omega
            · show (C / 6 + 1) * 6 = _; omega
            · rw [nxt_full]; omega
          rw [e]
          exact fin (X := (C / 216 + 1) * 216) (by omega) (upd_s _ _ _) ((upd_n _ _ (by omega)).trans ((upd_s _ _ _).trans z)) ((upd_n _ _ (by omega)).trans ((upd_n _ _ (by omega)).trans ((upd_s _ _ _).trans z))) ((upd_n _ _ (by omega)).trans ((upd_n _ _ (by omega)).trans ((upd_n _ _ (by omega)).trans ((upd_s _ _ _).trans z)))) (by omega) (by omega) (by omega) (by omega) T
        · rw [if_neg c0] at T
          have e : 1296 ≤ nxt 4 met C := by
            rcases m with rfl | rfl | rfl | rfl | rfl
            · show 1296 ≤ (C / 1296 + 1) * 1296; omega
            · show 1296 ≤ (C / 216 + 1) * 216; omega
            · show 1296 ≤ (C / 36 + 1) * 36; omega
            · show 1296 ≤ (C / 6 + 1) * 6; omega
            · rw [nxt_full]; omega
          exact ⟨_, Or.inr ⟨e, T⟩⟩
theorem dgt_4 {G X g : Nat} (hG : G ≤ 4) (hg : g < G) : dgt 4 (X * 6 ^ (4 - G)) g = dgt G X g := by
  unfold dgt
  have s : 6 ^ (4 - 1 - g) = 6 ^ (G - 1 - g) * 6 ^ (4 - G) := by rw [← Nat.pow_add]; congr 1; omega
  rw [s, Nat.mul_div_mul_right _ _ (Nat.pow_pos (by omega))]
theorem nxt_4 {G met C : Nat} (hG : G ≤ 4) (hm : met ≤ G) : nxt 4 met (C * 6 ^ (4 - G)) = nxt G met C * 6 ^ (4 - G) := by
  unfold nxt
  have s : 6 ^ (4 - met) = 6 ^ (G - met) * 6 ^ (4 - G) := by rw [← Nat.pow_add]; congr 1; omega
  rw [s, Nat.mul_div_mul_right _ _ (Nat.pow_pos (by omega)), Nat.mul_assoc]
theorem turn_N {G met C : Nat} {w : Nat → Int32} (hG : G ≤ 4) (hm : met ≤ G) (hC : C < 6 ^ G) (hw : ∀ g, g < G → w g = nI (dgt G C g)) : wq (m_X6_turnGaps w (nI met)) G (nxt G met C) := by
  have p : 0 < 6 ^ (4 - G) := Nat.pow_pos (by omega)
  have s : 6 ^ 4 = 6 ^ G * 6 ^ (4 - G) := by rw [← Nat.pow_add]; congr 1; omega
  have hC4 : C * 6 ^ (4 - G) < 1296 := by
    have := (Nat.mul_lt_mul_right p).mpr hC
    rw [← s] at this
    exact this
  obtain ⟨w', h⟩ := turn_4 (met := met) (w := w) (by omega) hC4 (fun g hg => by rw [dgt_4 hG (by omega)]; exact hw g (by omega))
  rw [nxt_4 hG hm, s] at h
  rcases h with ⟨h1, h2, h3⟩ | ⟨h1, h2⟩
  · exact ⟨w', Or.inl ⟨(Nat.mul_lt_mul_right p).mp h1, h2, fun g hg => by rw [h3 g (by omega), dgt_4 hG hg]⟩⟩
  · exact ⟨w', Or.inr ⟨Nat.le_of_mul_le_mul_right h1 p, h2⟩⟩
