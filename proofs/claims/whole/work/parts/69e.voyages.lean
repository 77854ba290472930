theorem m1_cases (v : Int32) : (v = -1 ∧ m_X7_isWithin v (-1) 5 = some 1) ∨ (∃ j, j < 6 ∧ v = nI j ∧ m_X7_isWithin v (-1) 5 = some 1) ∨ m_X7_isWithin v (-1) 5 = some 0 := by
  unfold m_X7_isWithin
  by_cases h1 : v < -1
  · exact Or.inr (Or.inr (by rw [if_pos h1]))
  · rw [if_neg h1]
    by_cases h2 : v = -1
    · subst h2
      exact Or.inl ⟨rfl, by rw [if_neg (by decide)]⟩
    · have h0 : ¬ v < 0 := by
        rw [fa_lt] at h1 ⊢
        have e1 : (-1 : Int32).toInt = -1 := by decide
        have e0 : (0 : Int32).toInt = 0 := by decide
        have : v.toInt ≠ -1 := fun e => h2 ((fa_eq v (-1)).mpr (by rw [e, e1]))
        omega
      obtain ⟨j, hj, rfl⟩ := nI_of h0
      by_cases h3 : (5 : Int32) < nI j
      · exact Or.inr (Or.inr (by rw [if_pos h3]))
      · refine Or.inr (Or.inl ⟨j, ?_, rfl, by rw [if_neg h3]⟩)
        rw [l5, nI_ltI (by omega) hj] at h3
        omega
set_option maxHeartbeats 4000000 in
theorem step_voyages {xf_port_may : Nat → Int32} {xf_port_voyage : Nat → Int32} {xf_port_luck : Nat → Int32} {xf_port_rank : Nat → Int32} {xf_port_worth : Nat → Int32} {xf_firstImage_may : Nat → Int32} {xf_firstImage_voyage : Nat → Int32} {xf_firstImage_luck : Nat → Int32} {xf_firstImage_rank : Nat → Int32} {xf_firstImage_worth : Nat → Int32} {xf_secondImage_may : Nat → Int32} {xf_secondImage_voyage : Nat → Int32} {xf_secondImage_luck : Nat → Int32} {xf_secondImage_rank : Nat → Int32} {xf_secondImage_worth : Nat → Int32} {xx_t_keptImages : Int32} {xf_pad_signs : Nat → Int32} {xx_pad_count : Int32} {mf_may : Nat → Int32} {mf_voyage : Nat → Int32} {mf_lucky : Nat → Int32} {mf_ranks : Nat → Int32} {mf_worths : Nat → Int32} {mx_t_signs : Int32} {mf_pad : Nat → Int32} {mf_image : Nat → Int32} {mf_isKept : Nat → Int32} {xf_fleet_busy : Nat → Int32} {xf_fleet_nameOf : Nat → Int32} {mf_best : Nat → Int32} {mf_gives : Nat → Int32} {mf_sums : Nat → Int32} (a1 : Int32) (hI : INV xf_port_may xf_port_voyage xf_port_luck xf_port_rank xf_port_worth xf_firstImage_may xf_firstImage_voyage xf_firstImage_luck xf_firstImage_rank xf_firstImage_worth xf_secondImage_may xf_secondImage_voyage xf_secondImage_luck xf_secondImage_rank xf_secondImage_worth xx_t_keptImages xf_pad_signs xx_pad_count mf_may mf_voyage mf_lucky mf_ranks mf_worths mx_t_signs mf_pad mf_image mf_isKept) : ∃ (r : Int32) (xf_fleet_busy' : Nat → Int32) (xf_fleet_nameOf' : Nat → Int32) (mf_best' : Nat → Int32) (mf_gives' : Nat → Int32) (mf_sums' : Nat → Int32), m_X7_voyages xf_port_may xf_port_voyage xf_fleet_busy xf_fleet_nameOf a1 = some (r, (xf_fleet_busy', xf_fleet_nameOf')) ∧ m_X8_voyages mf_may mf_voyage mf_best mf_gives mf_sums a1 = some (r, (mf_best', mf_gives', mf_sums')) ∧ INV xf_port_may xf_port_voyage xf_port_luck xf_port_rank xf_port_worth xf_firstImage_may xf_firstImage_voyage xf_firstImage_luck xf_firstImage_rank xf_firstImage_worth xf_secondImage_may xf_secondImage_voyage xf_secondImage_luck xf_secondImage_rank xf_secondImage_worth xx_t_keptImages xf_pad_signs xx_pad_count mf_may mf_voyage mf_lucky mf_ranks mf_worths mx_t_signs mf_pad mf_image mf_isKept := by
  obtain ⟨hP, hE, hKp, hC, hS⟩ := hI
  suffices hz : ∃ r, (m_X7_voyages xf_port_may xf_port_voyage xf_fleet_busy xf_fleet_nameOf a1).map Prod.fst = some r ∧ (m_X8_voyages mf_may mf_voyage mf_best mf_gives mf_sums a1).map Prod.fst = some r by
    obtain ⟨r, h1, h2⟩ := hz
    obtain ⟨⟨xf_fleet_busy', xf_fleet_nameOf'⟩, h1⟩ := map_fst h1
    obtain ⟨⟨mf_best', mf_gives', mf_sums'⟩, h2⟩ := map_fst h2
    exact ⟨r, xf_fleet_busy', xf_fleet_nameOf', mf_best', mf_gives', mf_sums', h1, h2, hP, hE, hKp, hC, hS⟩
  obtain ⟨c, hc, rfl, rfl⟩ := hC
  have i1 : ¬ (1 : Int32) = 0 := by decide
  unfold m_X7_voyages m_X8_voyages
  rw [in_eq]
  have l31' : (31 : Int32) = nI 31 := rfl
  obtain ⟨b1, n1, b2, g2, s2, hh⟩ := days_both hP.1 hE.1 hP.2.1 hE.2.1 (N := 31) (by omega) xf_fleet_busy xf_fleet_nameOf mf_best mf_gives mf_sums
  rw [← l31'] at hh
  rcases m1_cases a1 with ⟨rfl, hw⟩ | ⟨j, hj, rfl, hw⟩ | hw
  · rw [hw, ogb_some, ogb_some, if_neg i1, if_neg i1]
    rcases hh with ⟨e1, e2, -⟩ | ⟨y, hy, e1, e2, -⟩
    · rw [e1, e2, ogb_some, ogb_some, if_pos rfl, if_pos rfl]
      exact ⟨-6, rfl, rfl⟩
    · have nM : ¬ nI y = 1000000 := by
        have : (1000000 : Int32) = nI 1000000 := rfl
        rw [this, nI_eq (by omega) (by omega)]; omega
      rw [e1, e2, ogb_some, ogb_some, if_pos rfl, if_neg nM, if_pos rfl]
      exact ⟨nI y, rfl, rfl⟩
  · have nm1 : ¬ nI j = -1 := by
      intro e
      have := nI_pos (show j < 2 ^ 31 by omega)
      rw [e] at this
      exact this (by decide)
    rw [hw, ogb_some, ogb_some, if_neg i1, if_neg i1]
    rcases hh with ⟨e1, e2, e3⟩ | ⟨y, hy, e1, e2, e3⟩
    · rw [e1, e2, ogb_some, ogb_some, if_neg nm1, if_pos rfl, at_N _ hj (by omega), ogb_some]
      exact ⟨-6, by rw [← e3 j hj]; rfl, rfl⟩
    · have nM : ¬ nI y = 1000000 := by
        have : (1000000 : Int32) = nI 1000000 := rfl
        rw [this, nI_eq (by omega) (by omega)]; omega
      rw [e1, e2, ogb_some, ogb_some, if_neg nm1, if_neg nM, if_neg nm1, at_N _ hj (by omega), ogb_some, ogi_N hj (by omega), cl_N (by omega)]
      exact ⟨b2 j, by rw [← e3 j hj]; rfl, rfl⟩
  · rw [hw, ogb_some, ogb_some, if_pos rfl, if_pos rfl]
    exact ⟨-2, rfl, rfl⟩
theorem lg7_21s (may vo : Nat → Int32) (n : Nat) (a b c d : Int32) (x y : Nat → Int32) : m_X7_letGo_21 may vo (n + 1) a b c d x y = m_X7_letGo_21b (m_X7_letGo_21 may vo n) may vo a b c d x y := rfl
theorem lg8_21s (mm mv : Nat → Int32) (n : Nat) (a b c d : Int32) (x y z : Nat → Int32) : m_X8_letGo_21 mm mv (n + 1) a b c d x y z = m_X8_letGo_21b (m_X8_letGo_21 mm mv n) mm mv a b c d x y z := rfl
theorem lg_run {may mm vo mv : Nat → Int32} (hm : rng 6 31 may) (hEm : eqN 6 may mm) (hv : rng 6 9 vo) (hEv : eqN 6 vo mv) (v1 : Int32) : ∀ (m n : Nat), n + m = 5 → ∀ (f1 f2 : Nat), m < f1 → m < f2 → ∀ (b2 b3 l2 l3 : Int32) (busy nm best gives sums : Nat → Int32),
    ((b2 = -6 ∧ b3 = -6 ∧ l2 = -6 ∧ l3 = 1000000) ∨ ∃ x y, x < 5 ∧ y < 1000 ∧ b2 = nI x ∧ l2 = nI x ∧ b3 = nI y ∧ l3 = nI y) →
    ∃ r s t, m_X7_letGo_21 may vo f1 v1 b2 b3 (nI n) busy nm = some (r, s) ∧ m_X8_letGo_21 mm mv f2 v1 l2 l3 (nI n) best gives sums = some (r, t) := by
  intro m
  induction m with
  | zero =>
    intro n hn f1 f2 h1 h2 b2 b3 l2 l3 busy nm best gives sums M
    obtain ⟨f1, rfl⟩ : ∃ z, f1 = z + 1 := ⟨f1 - 1, by omega⟩
    obtain ⟨f2, rfl⟩ : ∃ z, f2 = z + 1 := ⟨f2 - 1, by omega⟩
    have : n = 5 := by omega
    subst this
    rw [lg7_21s, lg8_21s]
    unfold m_X7_letGo_21b m_X8_letGo_21b
    have h5 : (5 : Int32) ≤ nI 5 := by decide
    rw [if_pos h5, if_pos h5]
    rcases M with ⟨rfl, rfl, rfl, rfl⟩ | ⟨x, y, hx, hy, rfl, rfl, rfl, rfl⟩
    · rw [if_neg (show ¬ (0 : Int32) ≤ -6 by decide)]
      by_cases c : v1 = 0
      · rw [if_pos c]; exact ⟨_, _, _, rfl, rfl⟩
      · rw [if_neg c]; exact ⟨_, _, _, rfl, rfl⟩
    · rw [if_pos (nI_pos' (by omega))]
      by_cases c : v1 = 0
      · rw [if_pos c, if_pos c]; exact ⟨_, _, _, rfl, rfl⟩
      · rw [if_neg c, if_neg c]; exact ⟨_, _, _, rfl, rfl⟩
  | succ m ih =>
    intro n hn f1 f2 h1 h2 b2 b3 l2 l3 busy nm best gives sums M
    obtain ⟨f1, rfl⟩ : ∃ z, f1 = z + 1 := ⟨f1 - 1, by omega⟩
    obtain ⟨f2, rfl⟩ : ∃ z, f2 = z + 1 := ⟨f2 - 1, by omega⟩
    have hn5 : n < 5 := by omega
    have l31' : (31 : Int32) = nI 31 := rfl
    have lM : (1000000 : Int32) = nI 1000000 := rfl
    have n5 : ¬ (5 : Int32) ≤ nI n := by rw [l5, nI_leI (by omega) (by omega)]; omega
    have go := ih (n + 1) (by omega) f1 f2 (by omega) (by omega)
    rw [lg7_21s, lg8_21s]
    unfold m_X7_letGo_21b m_X8_letGo_21b m_X7_letGo_64 m_X7_letGo_70 m_X8_letGo_54
    have ck : (31 : Int32) &&& (((1 : Int32) <<< ((nI n) &&& 31)) ^^^ (-1)) = nI (clr 31 n) := clr_N (F := 31) (by omega) hn5
    rw [if_neg n5, if_neg n5, ck]
    obtain ⟨bb, nn, be, gi, su, hh⟩ := days_both hm hEm hv hEv (N := clr 31 n) (clr_lt (by omega) hn5) busy nm best gives sums
    rcases hh with ⟨e1, e2, -⟩ | ⟨y, hy, e1, e2, -⟩
    · rw [e1, e2, ogb_some, ogb_some, if_pos rfl]
      have le : l3 ≤ 1000000 := by
        rcases M with ⟨-, -, -, e⟩ | ⟨x, y, hx, hy, -, -, -, e⟩
        · rw [e]; decide
        · rw [e, lM, nI_leI (by omega) (by omega)]; omega
      rw [if_pos le]
      simp only [ogl_def, nI_1]
      exact go b2 b3 l2 l3 bb nn be gi su M
    · rw [e1, e2, ogb_some, ogb_some, if_neg (nI_n6 (by omega))]
      rcases M with ⟨rfl, rfl, rfl, rfl⟩ | ⟨x, y2, hx, hy2, rfl, rfl, rfl, rfl⟩
      · have nle : ¬ (1000000 : Int32) ≤ nI y := by rw [lM, nI_leI (by omega) (by omega)]; omega
        rw [if_pos rfl, if_neg nle]
        simp only [ogl_def, nI_1]
        exact go _ _ _ _ bb nn be gi su (Or.inr ⟨n, y, hn5, hy, rfl, rfl, rfl, rfl⟩)
      · rw [if_neg (nI_n6 (by omega))]
        by_cases c : y2 ≤ y
        · have c' : nI y2 ≤ nI y := by rw [nI_leI (by omega) (by omega)]; exact c
          rw [if_pos c', if_pos c']
          simp only [ogl_def, nI_1]
          exact go _ _ _ _ bb nn be gi su (Or.inr ⟨x, y2, hx, hy2, rfl, rfl, rfl, rfl⟩)
        · have c' : ¬ nI y2 ≤ nI y := by rw [nI_leI (by omega) (by omega)]; exact c
          rw [if_neg c', if_neg c']
          simp only [ogl_def, nI_1]
          exact go _ _ _ _ bb nn be gi su (Or.inr ⟨n, y, hn5, hy, rfl, rfl, rfl, rfl⟩)
set_option maxHeartbeats 4000000 in
theorem step_letGo {xf_port_may : Nat → Int32} {xf_port_voyage : Nat → Int32} {xf_port_luck : Nat → Int32} {xf_port_rank : Nat → Int32} {xf_port_worth : Nat → Int32} {xf_firstImage_may : Nat → Int32} {xf_firstImage_voyage : Nat → Int32} {xf_firstImage_luck : Nat → Int32} {xf_firstImage_rank : Nat → Int32} {xf_firstImage_worth : Nat → Int32} {xf_secondImage_may : Nat → Int32} {xf_secondImage_voyage : Nat → Int32} {xf_secondImage_luck : Nat → Int32} {xf_secondImage_rank : Nat → Int32} {xf_secondImage_worth : Nat → Int32} {xx_t_keptImages : Int32} {xf_pad_signs : Nat → Int32} {xx_pad_count : Int32} {mf_may : Nat → Int32} {mf_voyage : Nat → Int32} {mf_lucky : Nat → Int32} {mf_ranks : Nat → Int32} {mf_worths : Nat → Int32} {mx_t_signs : Int32} {mf_pad : Nat → Int32} {mf_image : Nat → Int32} {mf_isKept : Nat → Int32} {xf_fleet_busy : Nat → Int32} {xf_fleet_nameOf : Nat → Int32} {mf_best : Nat → Int32} {mf_gives : Nat → Int32} {mf_sums : Nat → Int32} (a1 : Int32) (hI : INV xf_port_may xf_port_voyage xf_port_luck xf_port_rank xf_port_worth xf_firstImage_may xf_firstImage_voyage xf_firstImage_luck xf_firstImage_rank xf_firstImage_worth xf_secondImage_may xf_secondImage_voyage xf_secondImage_luck xf_secondImage_rank xf_secondImage_worth xx_t_keptImages xf_pad_signs xx_pad_count mf_may mf_voyage mf_lucky mf_ranks mf_worths mx_t_signs mf_pad mf_image mf_isKept) : ∃ (r : Int32) (xf_fleet_busy' : Nat → Int32) (xf_fleet_nameOf' : Nat → Int32) (mf_best' : Nat → Int32) (mf_gives' : Nat → Int32) (mf_sums' : Nat → Int32), m_X7_letGo xf_port_may xf_port_voyage xf_fleet_busy xf_fleet_nameOf a1 = some (r, (xf_fleet_busy', xf_fleet_nameOf')) ∧ m_X8_letGo mf_may mf_voyage mf_best mf_gives mf_sums a1 = some (r, (mf_best', mf_gives', mf_sums')) ∧ INV xf_port_may xf_port_voyage xf_port_luck xf_port_rank xf_port_worth xf_firstImage_may xf_firstImage_voyage xf_firstImage_luck xf_firstImage_rank xf_firstImage_worth xf_secondImage_may xf_secondImage_voyage xf_secondImage_luck xf_secondImage_rank xf_secondImage_worth xx_t_keptImages xf_pad_signs xx_pad_count mf_may mf_voyage mf_lucky mf_ranks mf_worths mx_t_signs mf_pad mf_image mf_isKept := by
  obtain ⟨hP, hE, hKp, hC, hS⟩ := hI
  suffices hz : ∃ r, (m_X7_letGo xf_port_may xf_port_voyage xf_fleet_busy xf_fleet_nameOf a1).map Prod.fst = some r ∧ (m_X8_letGo mf_may mf_voyage mf_best mf_gives mf_sums a1).map Prod.fst = some r by
    obtain ⟨r, h1, h2⟩ := hz
    obtain ⟨⟨xf_fleet_busy', xf_fleet_nameOf'⟩, h1⟩ := map_fst h1
    obtain ⟨⟨mf_best', mf_gives', mf_sums'⟩, h2⟩ := map_fst h2
    exact ⟨r, xf_fleet_busy', xf_fleet_nameOf', mf_best', mf_gives', mf_sums', h1, h2, hP, hE, hKp, hC, hS⟩
  obtain ⟨c, hc, rfl, rfl⟩ := hC
  have i1 : ¬ (1 : Int32) = 0 := by decide
  unfold m_X7_letGo m_X8_letGo
  rw [in_eq]
  rcases with_cases a1 1 (by omega) with ⟨t, ht, rfl, hw⟩ | ⟨hw, -⟩
  · have hw7 : m_X7_isWithin (nI t) 0 1 = some 1 := hw
    rw [hw7, ogb_some, ogb_some, if_neg i1, if_neg i1]
    obtain ⟨r, s, u, h1, h2⟩ := lg_run hP.1 hE.1 hP.2.1 hE.2.1 (nI t) 5 0 (by omega) 1000000 1000000 (by omega) (by omega) (-6) (-6) (-6) 1000000 xf_fleet_busy xf_fleet_nameOf mf_best mf_gives mf_sums (Or.inl ⟨rfl, rfl, rfl, rfl⟩)
    have z0' : nI 0 = 0 := rfl
    rw [z0'] at h1 h2
    exact ⟨r, by rw [h1]; rfl, by rw [h2]; rfl⟩
  · have hw7 : m_X7_isWithin a1 0 1 = some 0 := hw
    rw [hw7, ogb_some, ogb_some, if_pos rfl, if_pos rfl]
    exact ⟨-2, rfl, rfl⟩
