set_option maxHeartbeats 8000000 in
set_option maxRecDepth 20000 in
theorem step_rank {xf_port_may : Nat → Int32} {xf_port_voyage : Nat → Int32} {xf_port_luck : Nat → Int32} {xf_port_rank : Nat → Int32} {xf_port_worth : Nat → Int32} {xf_firstImage_may : Nat → Int32} {xf_firstImage_voyage : Nat → Int32} {xf_firstImage_luck : Nat → Int32} {xf_firstImage_rank : Nat → Int32} {xf_firstImage_worth : Nat → Int32} {xf_secondImage_may : Nat → Int32} {xf_secondImage_voyage : Nat → Int32} {xf_secondImage_luck : Nat → Int32} {xf_secondImage_rank : Nat → Int32} {xf_secondImage_worth : Nat → Int32} {xx_t_keptImages : Int32} {xf_pad_signs : Nat → Int32} {xx_pad_count : Int32} {mf_may : Nat → Int32} {mf_voyage : Nat → Int32} {mf_lucky : Nat → Int32} {mf_ranks : Nat → Int32} {mf_worths : Nat → Int32} {mx_t_signs : Int32} {mf_pad : Nat → Int32} {mf_image : Nat → Int32} {mf_isKept : Nat → Int32} (a1 : Int32) (a2 : Int32) (hI : INV xf_port_may xf_port_voyage xf_port_luck xf_port_rank xf_port_worth xf_firstImage_may xf_firstImage_voyage xf_firstImage_luck xf_firstImage_rank xf_firstImage_worth xf_secondImage_may xf_secondImage_voyage xf_secondImage_luck xf_secondImage_rank xf_secondImage_worth xx_t_keptImages xf_pad_signs xx_pad_count mf_may mf_voyage mf_lucky mf_ranks mf_worths mx_t_signs mf_pad mf_image mf_isKept) : ∃ (r : Int32) (xf_port_rank' : Nat → Int32) (mf_ranks' : Nat → Int32), m_X7_rank xf_port_rank a1 a2 = some (r, xf_port_rank') ∧ m_X8_rank mf_ranks a1 a2 = some (r, mf_ranks') ∧ INV xf_port_may xf_port_voyage xf_port_luck xf_port_rank' xf_port_worth xf_firstImage_may xf_firstImage_voyage xf_firstImage_luck xf_firstImage_rank xf_firstImage_worth xf_secondImage_may xf_secondImage_voyage xf_secondImage_luck xf_secondImage_rank xf_secondImage_worth xx_t_keptImages xf_pad_signs xx_pad_count mf_may mf_voyage mf_lucky mf_ranks' mf_worths mx_t_signs mf_pad mf_image mf_isKept := by
  obtain ⟨hP, hE, hKp, hC, hS⟩ := hI
  suffices hz : ∃ (r : Int32) (f' g' : Nat → Int32), m_X7_rank xf_port_rank a1 a2 = some (r, f') ∧ m_X8_rank mf_ranks a1 a2 = some (r, g') ∧ eqN 5 f' g' ∧ (∀ j, j < 5 → rowOK (f' j)) by
    obtain ⟨r, f', g', h1, h2, h3, h4⟩ := hz
    exact ⟨r, f', g', h1, h2, ⟨hP.1, hP.2.1, hP.2.2.1, h4, hP.2.2.2.2⟩, ⟨hE.1, hE.2.1, hE.2.2.1, h3, hE.2.2.2.2⟩, hKp, hC, hS⟩
  have hE4 := hE.2.2.2.1
  have hP4 := hP.2.2.2.1
  rcases isName_cases a1 with ⟨j, hj, rfl, h7, h8⟩ | ⟨h7, h8, -⟩
  · by_cases hn : a2 < 0
    · have hw : m_X8_in a2 0 999999 = some 0 := by
        show m_X7_isWithin a2 0 999999 = some 0
        unfold m_X7_isWithin
        rw [if_pos hn]
      refine ⟨-2, xf_port_rank, mf_ranks, ?_, ?_, hE4, hP4⟩
      · simp only [m_X7_rank, h7, ogb_some, isRow_neg hn]
        rfl
      · unfold m_X8_rank
        rw [h8, ogb_some, if_neg (by decide), hw, ogb_some]
        exact rank_bad0 _ _ _
    · obtain ⟨k, hk, rfl⟩ := nI_of hn
      have W7 : m_X7_isWithin (nI k) 0 999999 = some (if 0 ≤ k ∧ k ≤ 999999 then 1 else 0) := with_N (j := k) (a := 0) (b := 999999) hk (by omega) (by omega)
      have W : m_X8_in (nI k) 0 999999 = some (if 0 ≤ k ∧ k ≤ 999999 then 1 else 0) := (in_eq _ _ _).trans W7
      obtain ⟨r1, r2⟩ := isRow_N hk
      by_cases hR : k < 1000000 ∧ rowP k
      · have hle := row_le hR.1 hR.2
        refine ⟨xf_port_rank j, upd xf_port_rank j (nI k), upd mf_ranks j (nI k), ?_, ?_, eqN_upd hE4, ?_⟩
        · simp only [m_X7_rank, h7, ogb_some, r1 hR, swap_N _ _ hj (by omega)]
          rfl
        · simp only [m_X8_rank, h8, W, ogb_some]
          rw [if_neg (by decide), if_pos (show 0 ≤ k ∧ k ≤ 999999 by omega), hE4 j hj]
          exact rank_good0 _ _ _ hj hk hR.2
        · intro i hi
          by_cases e : i = j
          · subst e
            rw [upd_s]
            exact ⟨k, hle, rfl, fun h hh => hR.2 h hh⟩
          · rw [upd_n _ _ e]; exact hP4 i hi
      · refine ⟨-2, xf_port_rank, mf_ranks, ?_, ?_, hE4, hP4⟩
        · simp only [m_X7_rank, h7, ogb_some, r2 hR]
          rfl
        · simp only [m_X8_rank, h8, W, ogb_some]
          rw [if_neg (by decide)]
          by_cases hb : 0 ≤ k ∧ k ≤ 999999
          · rw [if_pos hb]
            have hnr : ¬ rowP k := fun q => hR ⟨by omega, q⟩
            exact rank_run0 _ _ _ hk hnr
          · rw [if_neg hb]
            exact rank_bad0 _ _ _
  · refine ⟨-1, xf_port_rank, mf_ranks, ?_, ?_, hE4, hP4⟩
    · simp only [m_X7_rank, h7, ogb_some]; rfl
    · simp only [m_X8_rank, h8, ogb_some]; rfl
