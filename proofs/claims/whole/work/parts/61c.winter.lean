set_option maxHeartbeats 4000000 in
theorem step_winter {xf_port_may : Nat → Int32} {xf_port_voyage : Nat → Int32} {xf_port_luck : Nat → Int32} {xf_port_rank : Nat → Int32} {xf_port_worth : Nat → Int32} {xf_firstImage_may : Nat → Int32} {xf_firstImage_voyage : Nat → Int32} {xf_firstImage_luck : Nat → Int32} {xf_firstImage_rank : Nat → Int32} {xf_firstImage_worth : Nat → Int32} {xf_secondImage_may : Nat → Int32} {xf_secondImage_voyage : Nat → Int32} {xf_secondImage_luck : Nat → Int32} {xf_secondImage_rank : Nat → Int32} {xf_secondImage_worth : Nat → Int32} {xx_t_keptImages : Int32} {xf_pad_signs : Nat → Int32} {xx_pad_count : Int32} {mf_may : Nat → Int32} {mf_voyage : Nat → Int32} {mf_lucky : Nat → Int32} {mf_ranks : Nat → Int32} {mf_worths : Nat → Int32} {mx_t_signs : Int32} {mf_pad : Nat → Int32} {mf_image : Nat → Int32} {mf_isKept : Nat → Int32} {xf_sea_homes : Nat → Int32} {xf_sea_hullOf : Nat → Int32} {xf_sea_nameOf : Nat → Int32} {xf_sea_taker : Nat → Int32} {xf_sea_turn : Nat → Int32} {xx_sea_day : Int32} {mf_bears : Nat → Int32} {mf_borneBy : Nat → Int32} {mf_due : Nat → Int32} {mf_gone : Nat → Int32} {mf_sunk : Nat → Int32} {mf_times : Nat → Int32} {mf_whoBore : Nat → Int32} {mx_t_day : Int32} {mx_t_reason : Int32} {mx_t_asked : Int32} (a1 : Int32) (a2 : Int32) (a3 : Int32) (hI : INV xf_port_may xf_port_voyage xf_port_luck xf_port_rank xf_port_worth xf_firstImage_may xf_firstImage_voyage xf_firstImage_luck xf_firstImage_rank xf_firstImage_worth xf_secondImage_may xf_secondImage_voyage xf_secondImage_luck xf_secondImage_rank xf_secondImage_worth xx_t_keptImages xf_pad_signs xx_pad_count mf_may mf_voyage mf_lucky mf_ranks mf_worths mx_t_signs mf_pad mf_image mf_isKept) : ∃ (r : Int32) (xf_sea_homes' : Nat → Int32) (xf_sea_hullOf' : Nat → Int32) (xf_sea_nameOf' : Nat → Int32) (xf_sea_taker' : Nat → Int32) (xf_sea_turn' : Nat → Int32) (xx_sea_day' : Int32) (mf_bears' : Nat → Int32) (mf_borneBy' : Nat → Int32) (mf_due' : Nat → Int32) (mf_gone' : Nat → Int32) (mf_sunk' : Nat → Int32) (mf_times' : Nat → Int32) (mf_whoBore' : Nat → Int32) (mx_t_asked' : Int32) (mx_t_day' : Int32) (mx_t_reason' : Int32), m_X7_winter xf_port_luck xf_port_may xf_port_voyage xf_sea_homes xf_sea_hullOf xf_sea_nameOf xf_sea_taker xf_sea_turn xx_sea_day a1 a2 a3 = some (r, (xf_sea_homes', xf_sea_hullOf', xf_sea_nameOf', xf_sea_taker', xf_sea_turn', xx_sea_day')) ∧ m_X8_winter mf_lucky mf_may mf_voyage mf_bears mf_borneBy mf_due mf_gone mf_sunk mf_times mf_whoBore mx_t_asked mx_t_day mx_t_reason a1 a2 a3 = some (r, (mf_bears', mf_borneBy', mf_due', mf_gone', mf_sunk', mf_times', mf_whoBore', mx_t_asked', mx_t_day', mx_t_reason')) ∧ INV xf_port_may xf_port_voyage xf_port_luck xf_port_rank xf_port_worth xf_firstImage_may xf_firstImage_voyage xf_firstImage_luck xf_firstImage_rank xf_firstImage_worth xf_secondImage_may xf_secondImage_voyage xf_secondImage_luck xf_secondImage_rank xf_secondImage_worth xx_t_keptImages xf_pad_signs xx_pad_count mf_may mf_voyage mf_lucky mf_ranks mf_worths mx_t_signs mf_pad mf_image mf_isKept := by
  obtain ⟨hP, hE, hKp, hC, hS⟩ := hI
  suffices hz : ∃ r, (m_X7_winter xf_port_luck xf_port_may xf_port_voyage xf_sea_homes xf_sea_hullOf xf_sea_nameOf xf_sea_taker xf_sea_turn xx_sea_day a1 a2 a3).map Prod.fst = some r ∧ (m_X8_winter mf_lucky mf_may mf_voyage mf_bears mf_borneBy mf_due mf_gone mf_sunk mf_times mf_whoBore mx_t_asked mx_t_day mx_t_reason a1 a2 a3).map Prod.fst = some r by
    obtain ⟨r, h1, h2⟩ := hz
    obtain ⟨⟨xf_sea_homes', xf_sea_hullOf', xf_sea_nameOf', xf_sea_taker', xf_sea_turn', xx_sea_day'⟩, h1⟩ := map_fst h1
    obtain ⟨⟨mf_bears', mf_borneBy', mf_due', mf_gone', mf_sunk', mf_times', mf_whoBore', mx_t_asked', mx_t_day', mx_t_reason'⟩, h2⟩ := map_fst h2
    exact ⟨r, xf_sea_homes', xf_sea_hullOf', xf_sea_nameOf', xf_sea_taker', xf_sea_turn', xx_sea_day', mf_bears', mf_borneBy', mf_due', mf_gone', mf_sunk', mf_times', mf_whoBore', mx_t_asked', mx_t_day', mx_t_reason', h1, h2, hP, hE, hKp, hC, hS⟩
  obtain ⟨c, hc, rfl, rfl⟩ := hC
  have i1 : ¬ (1 : Int32) = 0 := by decide
  unfold m_X7_winter m_X8_winter
  simp only [in_eq]
  rcases with_cases a1 9999 (by omega) with ⟨t, ht, rfl, hw⟩ | ⟨hw, -⟩
  · have hw7 : m_X7_isWithin (nI t) 0 9999 = some 1 := hw
    simp only [hw7, ogb_some, if_neg i1]
    have hdays : (∃ D, 1 ≤ D ∧ D ≤ 60 ∧ a2 = nI D ∧ m_X7_isWithin a2 1 60 = some 1) ∨ m_X7_isWithin a2 1 60 = some 0 := by
      have e60 : (60 : Int32) = nI 60 := rfl
      unfold m_X7_isWithin
      by_cases c1 : a2 < 1
      · exact Or.inr (by rw [if_pos c1])
      · have c0 : ¬ a2 < 0 := by
          rw [fa_lt] at c1 ⊢
          have : (1 : Int32).toInt = 1 := rfl
          have : (0 : Int32).toInt = 0 := rfl
          omega
        obtain ⟨D, hD, rfl⟩ := nI_of c0
        by_cases c2 : (60 : Int32) < nI D
        · exact Or.inr (by rw [if_neg c1, if_pos c2])
        · refine Or.inl ⟨D, ?_, ?_, rfl, by rw [if_neg c1, if_neg c2]⟩
          · rw [l1, nI_ltI hD (by omega)] at c1; omega
          · rw [e60, nI_ltI (by omega) hD] at c2; omega
    rcases hdays with ⟨D, hD1, hD, rfl, hd⟩ | hd
    · simp only [hd, ogb_some, if_neg i1]
      rcases with_cases a3 2 (by omega) with ⟨v, hv, rfl, hv2⟩ | ⟨hv2, -⟩
      · have hv7 : m_X7_isWithin (nI v) 0 2 = some 1 := hv2
        have S0 := LR_0 (K := False) (a := 0) (nm := 0) (aN := 0) (aD := 0) (ak := 0) HK_no xf_sea_nameOf xf_sea_hullOf xf_sea_homes xf_sea_turn xf_sea_taker mf_bears mf_borneBy mf_due mf_gone mf_sunk mf_times mf_whoBore
        obtain ⟨x1, x2, x3, x4, x5, x6, x7, x8, x9, x10, x11, x12, dy, e, g1, S, g2⟩ := days_run hD hE.1 hE.2.1 hE.2.2.1 hP.2.1 (nI v) D 0 (by omega) (by omega) 1000000 1000000 (by omega) (by omega) _ _ _ _ _ _ _ _ _ _ _ (cst (-6) 5 mf_whoBore) (nI t) (nI 0) (-6) 0 (Or.inl ⟨rfl, rfl, fun n hn => cst_lt hn, S0.1⟩)
        obtain ⟨r, g3, g4⟩ := hulls_run (ll := mf_lucky) (mm := mf_may) (mv := mf_voyage) S 6 0 (by omega) 1000000 1000000 (by omega) (by omega) 0
        obtain ⟨r1, r2, g5, g6, g7⟩ := names_run (ll := mf_lucky) (mm := mf_may) (mv := mf_voyage) S 5 0 (by omega) 1000000 1000000 1000000 (by omega) (by omega) (by omega) 0 0
        have z0' : nI 0 = 0 := rfl
        rw [z0'] at g1 g2 g3 g4 g5 g6 g7
        have p1 : m_X5_pass xf_port_luck xf_port_may xf_port_voyage xf_sea_homes xf_sea_hullOf xf_sea_nameOf xf_sea_taker xf_sea_turn xx_sea_day (nI t) (nI D) = some (x3, x2, x1, x5, x4, dy) := by
          unfold m_X5_pass
          rw [calm_N, ogb_some]
          exact g1
        have p3 : m_X4_drownedHulls x1 = some r := g3
        have p5 : m_X4_drownedNames x2 = some r1 := g5
        have p6 : m_X4_allHomes x3 = some r2 := g6
        rw [hv7, ogb_some, ogb_some, if_neg i1, if_neg i1, p1, ogb_some, begin_N, ogb_some]
        refine ⟨if nI v = 0 then r else if nI v = 1 then r1 else r2, ?_, ?_⟩
        · by_cases c1 : nI v = 0
          · rw [if_pos c1, if_pos c1, p3]; rfl
          · rw [if_neg c1, if_neg c1]
            by_cases c2 : nI v = 1
            · rw [if_pos c2, if_pos c2, p5]; rfl
            · rw [if_neg c2, if_neg c2, p6]; rfl
        · have h := (g2.trans (g4 (nI v) 0 0 x12 (-6) dy 0)).trans (g7 (nI v) r x12 (-6) dy 0)
          refine Eq.trans (congrArg _ h) rfl
      · have hv7 : m_X7_isWithin a3 0 2 = some 0 := hv2
        simp only [hv7, ogb_some, if_pos rfl]
        exact ⟨-2, rfl, rfl⟩
    · simp only [hd, ogb_some, if_pos rfl]
      exact ⟨-2, rfl, rfl⟩
  · have hw7 : m_X7_isWithin a1 0 9999 = some 0 := hw
    simp only [hw7, ogb_some, if_pos rfl]
    exact ⟨-2, rfl, rfl⟩
