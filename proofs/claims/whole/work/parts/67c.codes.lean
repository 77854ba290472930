-- the check tries all codes
def BZ (b : Nat → Int32) : Prop := ∀ F, F < 32 → b (192 + F) = 0
theorem kb_2s (g : Nat → Int32) (n : Nat) (a : Int32) (b : Nat → Int32) : m_X8_keepBest_2 g (n + 1) a b = m_X8_keepBest_2b (m_X8_keepBest_2 g n) g a b := rfl
theorem keepB_N (g b : Nat → Int32) : m_X8_keepBest g b = some (prg g b 6) := by
  have key := loop_up (fun fuel i => m_X8_keepBest_2 g fuel (nI i) (prg g b i) = some (prg g b 6)) 6
    (fun fuel => by
      rw [kb_2s]; unfold m_X8_keepBest_2b; rw [if_pos (by decide)])
    (fun fuel i hi ih => by
      rw [kb_2s]; unfold m_X8_keepBest_2b
      rw [if_neg (by rw [l6, nI_leI (by omega) (by omega)]; omega), ogi_N hi (by omega), ogi_N hi (by omega), ogl_def, nI_1, cl_N (by omega), prg_s]
      exact ih)
  have h := key 0 (Nat.zero_le _) 1000000 (by omega)
  rw [prg_0] at h
  exact h
theorem dg_none : ∀ h, h < 6 → dg 46655 h = 5 := by
  intro h hh
  match h, hh with
  | 0, _ => decide
  | 1, _ => decide
  | 2, _ => decide
  | 3, _ => decide
  | 4, _ => decide
  | 5, _ => decide
  | n + 6, h => omega
theorem okZ_none (ch : Nat → Nat) : ∀ k, okZ ch 46655 k = true
  | 0 => rfl
  | k + 1 => by
    show (okZ ch 46655 k && (decide (dg 46655 (5 - k) = 5) || _)) = true
    rw [okZ_none ch k, dg_none (5 - k) (by omega)]
    rfl
def OPT (ch : Nat → Nat) (w : Nat → Int32) (C c0 : Nat) : Prop := c0 < C ∧ okZ ch c0 6 = true ∧ ∀ c, c < C → okZ ch c 6 = true → gnF w c 6 ≤ gnF w c0 6 ∧ (c < c0 → gnF w c 6 < gnF w c0 6)
theorem mo_21s (mm w : Nat → Int32) (n : Nat) (a b c d e f : Int32) (x y : Nat → Int32) : m_X8_most_21 mm w (n + 1) a b c d e f x y = m_X8_most_21b (m_X8_most_21 mm w n) mm w a b c d e f x y := rfl
theorem mo_run {may mm w w' : Nat → Int32} (hm : rng 6 31 may) (hE : eqN 6 may mm) (hw : rng 30 99 w) (hEw : eqN 30 w w') {H N : Nat} (hH : H < 64) (hN : N < 32) (v : Int32) : ∀ (m C : Nat), C + m = 46656 → ∀ f, m < f → ∀ (v4 v5 : Int32) (bst g : Nat → Int32),
    (((∀ c, c < C → okZ (chz may H N) c 6 = false) ∧ v4 = -6) ∨ ∃ c0, OPT (chz may H N) w C c0 ∧ v4 = nI (cnE (dg c0) 6) ∧ v5 = nI (wsE w (dg c0) 6) ∧ ∀ j, j < 6 → bst j = gv c0 j) →
    ∃ (bst' g' : Nat → Int32) (c0 : Nat), OPT (chz may H N) w 46656 c0 ∧ (∀ j, j < 6 → bst' j = gv c0 j) ∧ m_X8_most_21 mm w' f (nI H) (nI N) v v4 v5 (nI C) bst g = ogb (m_X8_toldOf bst' w' v) (fun q => some (q, (bst', g'))) := by
  have lE : (46656 : Int32) = nI 46656 := rfl
  intro m
  induction m with
  | zero =>
    intro C hC f hf v4 v5 bst g M
    obtain ⟨f, rfl⟩ : ∃ z, f = z + 1 := ⟨f - 1, by omega⟩
    have : C = 46656 := by omega
    subst this
    rcases M with ⟨h, -⟩ | ⟨c0, O, -, -, hb⟩
    · have := h 46655 (by omega)
      rw [okZ_none] at this
      exact absurd this (by decide)
    · refine ⟨bst, g, c0, O, hb, ?_⟩
      rw [mo_21s]; unfold m_X8_most_21b
      rw [if_pos (by rw [lE, nI_leI (by omega) (by omega)]; omega)]
  | succ m ih =>
    intro C hC f hf v4 v5 bst g M
    obtain ⟨f, rfl⟩ : ∃ z, f = z + 1 := ⟨f - 1, by omega⟩
    rw [mo_21s]
    unfold m_X8_most_21b m_X8_most_80 m_X8_most_92
    rw [if_neg (by rw [lE, nI_leI (by omega) (by omega)]; omega), lay_N hm hE hH hN (by omega), ogb_some]
    cases ok : okZ (chz may H N) C 6
    · rw [if_pos (show flg2 false = 0 from rfl), ogl_def, nI_1]
      refine ih (C + 1) (by omega) f (by omega) v4 v5 bst _ ?_
      rcases M with ⟨h, e⟩ | ⟨c0, ⟨o1, o2, o3⟩, e1, e2, hb⟩
      · refine Or.inl ⟨fun c hc => ?_, e⟩
        by_cases z : c = C
        · rw [z]; exact ok
        · exact h c (by omega)
      · refine Or.inr ⟨c0, ⟨by omega, o2, fun c hc hk => ?_⟩, e1, e2, hb⟩
        by_cases z : c = C
        · rw [z, ok] at hk; exact absurd hk (by decide)
        · exact o3 c (by omega) hk
    · have hd : ∀ j, j < 6 → dg C j < 6 := fun j _ => dg_lt C j
      have hgz : ∀ j, j < 6 → gz C 6 g j = gve (dg C) j := fun j hj => gz_at hj g
      have hcn := cnE_le (dg C) 6
      have hws := wsE_le hw hd 6 (by omega)
      have gC := gnF_6 w C
      rw [if_neg (show ¬ flg2 true = 0 by decide), sail_N hd hgz, ogb_some, wors_N hw hEw hd hgz, ogb_some, keepB_N, ogb_some]
      simp only [ogl_def, nI_1]
      have new : (∀ c, c < C → okZ (chz may H N) c 6 = true → gnF w c 6 < gnF w C 6) → ∃ (bst' g' : Nat → Int32) (c0 : Nat), OPT (chz may H N) w 46656 c0 ∧ (∀ j, j < 6 → bst' j = gv c0 j) ∧ m_X8_most_21 mm w' f (nI H) (nI N) v (nI (cnE (dg C) 6)) (nI (wsE w (dg C) 6)) (nI (C + 1)) (prg (gz C 6 g) bst 6) (gz C 6 g) = ogb (m_X8_toldOf bst' w' v) (fun q => some (q, (bst', g'))) := by
        intro h
        refine ih (C + 1) (by omega) f (by omega) _ _ _ _ (Or.inr ⟨C, ⟨by omega, ok, fun c hc hk => ?_⟩, rfl, rfl, fun j hj => by rw [prg_lt hj]; exact gz_at hj g⟩)
        by_cases z : c = C
        · rw [z]; exact ⟨Nat.le_refl _, fun h => absurd h (by omega)⟩
        · have := h c (by omega) hk
          exact ⟨by omega, fun _ => this⟩
      rcases M with ⟨h, e⟩ | ⟨c0, ⟨o1, o2, o3⟩, e1, e2, hb⟩
      · have lt : v4 < nI (cnE (dg C) 6) := by
          rw [e, fa_lt, nI_toInt (by omega)]
          have : (-6 : Int32).toInt = -6 := by decide
          omega
        rw [if_pos lt]
        exact new (fun c hc hk => by rw [h c hc] at hk; exact absurd hk (by decide))
      · have hd0 : ∀ j, j < 6 → dg c0 j < 6 := fun j _ => dg_lt c0 j
        have hcn0 := cnE_le (dg c0) 6
        have hws0 := wsE_le hw hd0 6 (by omega)
        have g0 := gnF_6 w c0
        have old : gnF w C 6 ≤ gnF w c0 6 → ∃ (bst' g' : Nat → Int32) (c0 : Nat), OPT (chz may H N) w 46656 c0 ∧ (∀ j, j < 6 → bst' j = gv c0 j) ∧ m_X8_most_21 mm w' f (nI H) (nI N) v v4 v5 (nI (C + 1)) bst (gz C 6 g) = ogb (m_X8_toldOf bst' w' v) (fun q => some (q, (bst', g'))) := by
          intro h
          refine ih (C + 1) (by omega) f (by omega) _ _ _ _ (Or.inr ⟨c0, ⟨by omega, o2, fun c hc hk => ?_⟩, e1, e2, hb⟩)
          by_cases z : c = C
          · rw [z]; exact ⟨h, fun h => absurd h (by omega)⟩
          · exact o3 c (by omega) hk
        have new' : gnF w c0 6 < gnF w C 6 → _ := fun h => new (fun c hc hk => Nat.lt_of_le_of_lt (o3 c hc hk).1 h)
        rw [e1, e2] at old ⊢
        by_cases c1 : cnE (dg c0) 6 < cnE (dg C) 6
        · rw [if_pos (nI_lt c1 (by omega))]
          exact new' (by omega)
        · rw [if_neg (nI_nlt (by omega) (by omega))]
          by_cases c2 : cnE (dg C) 6 = cnE (dg c0) 6
          · rw [if_pos (by rw [c2])]
            by_cases c3 : wsE w (dg C) 6 ≤ wsE w (dg c0) 6
            · rw [if_pos (by rw [nI_leI (by omega) (by omega)]; exact c3)]
              exact old (by omega)
            · rw [if_neg (by rw [nI_leI (by omega) (by omega)]; exact c3)]
              exact new' (by omega)
          · rw [if_neg (by rw [nI_eq (by omega) (by omega)]; exact c2)]
            exact old (by omega)
theorem opt_grd {may w : Nat → Int32} {H N c0 : Nat} (hN : N < 32) (O : OPT (chz may H N) w 46656 c0) : c0 = grd (chz may H N) w 6 N := by
  obtain ⟨o1, o2, o3⟩ := O
  obtain ⟨g1, g2⟩ := grd_ok (chz may H N) w 6 (by omega) N hN
  have gl : grd (chz may H N) w 6 N < 46656 := grd_lt (chz may H N) w 6 N
  obtain ⟨p1, p2⟩ := o3 _ gl (okF_6 hN |>.mp g1)
  have f0 := (okF_6 hN).mpr o2
  have l0 := gn_le (w := w) (chz may H N) c0 6 N hN f0
  rcases Nat.lt_trichotomy c0 (grd (chz may H N) w 6 N) with h | h | h
  · have hm : c0 % 6 ^ 6 < grd (chz may H N) w 6 N := by
      have : c0 % 6 ^ 6 = c0 := Nat.mod_eq_of_lt o1
      omega
    have := grd_first (chz may H N) w 6 (by omega) N hN c0 hm f0
    omega
  · exact h
  · have := p2 h
    omega
