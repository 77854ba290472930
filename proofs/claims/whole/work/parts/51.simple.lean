theorem kI_0 : ∀ a b : Bool, kI a b = 0 ↔ (a = false ∧ b = false) := by decide
def prg (g f : Nat → Int32) (i : Nat) : Nat → Int32 := fun j => if j < i then g j else f j
theorem prg_0 (g f : Nat → Int32) : prg g f 0 = f := by funext j; simp [prg]
theorem prg_s (g f : Nat → Int32) (i : Nat) : upd (prg g f i) i (g i) = prg g f (i + 1) := by
  funext j
  unfold upd prg
  by_cases h : j = i
  · subst h; simp
  · rw [if_neg h]
    by_cases h2 : j < i
    · rw [if_pos h2, if_pos (by omega)]
    · rw [if_neg h2, if_neg (by omega)]
theorem prg_lt {g f : Nat → Int32} {i j : Nat} (h : j < i) : prg g f i j = g j := if_pos h
set_option maxHeartbeats 2000000 in
theorem step_hull {xf_port_may : Nat → Int32} {xf_port_voyage : Nat → Int32} {xf_port_luck : Nat → Int32} {xf_port_rank : Nat → Int32} {xf_port_worth : Nat → Int32} {xf_firstImage_may : Nat → Int32} {xf_firstImage_voyage : Nat → Int32} {xf_firstImage_luck : Nat → Int32} {xf_firstImage_rank : Nat → Int32} {xf_firstImage_worth : Nat → Int32} {xf_secondImage_may : Nat → Int32} {xf_secondImage_voyage : Nat → Int32} {xf_secondImage_luck : Nat → Int32} {xf_secondImage_rank : Nat → Int32} {xf_secondImage_worth : Nat → Int32} {xx_t_keptImages : Int32} {xf_pad_signs : Nat → Int32} {xx_pad_count : Int32} {mf_may : Nat → Int32} {mf_voyage : Nat → Int32} {mf_lucky : Nat → Int32} {mf_ranks : Nat → Int32} {mf_worths : Nat → Int32} {mx_t_signs : Int32} {mf_pad : Nat → Int32} {mf_image : Nat → Int32} {mf_isKept : Nat → Int32} (a1 : Int32) (a2 : Int32) (a3 : Int32) (hI : INV xf_port_may xf_port_voyage xf_port_luck xf_port_rank xf_port_worth xf_firstImage_may xf_firstImage_voyage xf_firstImage_luck xf_firstImage_rank xf_firstImage_worth xf_secondImage_may xf_secondImage_voyage xf_secondImage_luck xf_secondImage_rank xf_secondImage_worth xx_t_keptImages xf_pad_signs xx_pad_count mf_may mf_voyage mf_lucky mf_ranks mf_worths mx_t_signs mf_pad mf_image mf_isKept) : ∃ (r : Int32) (xf_port_may' : Nat → Int32) (xf_port_voyage' : Nat → Int32) (mf_may' : Nat → Int32) (mf_voyage' : Nat → Int32), m_X7_hull xf_port_may xf_port_voyage a1 a2 a3 = some (r, (xf_port_may', xf_port_voyage')) ∧ m_X8_hull mf_may mf_voyage a1 a2 a3 = some (r, (mf_may', mf_voyage')) ∧ INV xf_port_may' xf_port_voyage' xf_port_luck xf_port_rank xf_port_worth xf_firstImage_may xf_firstImage_voyage xf_firstImage_luck xf_firstImage_rank xf_firstImage_worth xf_secondImage_may xf_secondImage_voyage xf_secondImage_luck xf_secondImage_rank xf_secondImage_worth xx_t_keptImages xf_pad_signs xx_pad_count mf_may' mf_voyage' mf_lucky mf_ranks mf_worths mx_t_signs mf_pad mf_image mf_isKept := by
  obtain ⟨hP, hE, hKp, hC, hS⟩ := hI
  rcases isHull_cases a1 with ⟨j, hj, rfl, h7, h8⟩ | ⟨h7, h8, -⟩
  · by_cases c0 : a2 = 0
    · subst c0
      rcases with_cases a3 31 (by omega) with ⟨k, hk, rfl, hw⟩ | ⟨hw, -⟩
      · refine ⟨xf_port_may j, upd xf_port_may j (nI k), xf_port_voyage, upd mf_may j (nI k), mf_voyage, ?_, ?_, ⟨rng_upd hP.1 hk, hP.2⟩, ⟨eqN_upd hE.1, hE.2⟩, hKp, hC, hS⟩
        · have hw : m_X7_isWithin (nI k) 0 31 = some 1 := hw
          simp only [m_X7_hull, h7, ogb_some, hw, swap_N _ _ hj (by omega)]
          rfl
        · have hw : m_X8_in (nI k) 0 31 = some 1 := hw
          have e : m_X8_in 0 0 1 = some 1 := rfl
          simp only [m_X8_hull, m_X8_hull_31, m_X8_hull_59, h8, ogb_some, hw, e, ogi_N hj (by omega), cl_N (show j < 2 ^ 31 by omega), hE.1 j hj]
          rfl
      · refine ⟨-2, xf_port_may, xf_port_voyage, mf_may, mf_voyage, ?_, ?_, hP, hE, hKp, hC, hS⟩
        · have hw : m_X7_isWithin a3 0 31 = some 0 := hw
          simp only [m_X7_hull, m_X7_hull_36, h7, ogb_some, hw]
          rfl
        · have hw : m_X8_in a3 0 31 = some 0 := hw
          have e : m_X8_in 0 0 1 = some 1 := rfl
          simp only [m_X8_hull, m_X8_hull_31, h8, ogb_some, hw, e]
          rfl
    · by_cases c1 : a2 = 1
      · subst c1
        have e : m_X8_in 1 0 1 = some 1 := rfl
        rcases with_cases a3 9 (by omega) with ⟨k, hk, rfl, hw⟩ | ⟨hw, -⟩
        · refine ⟨xf_port_voyage j, xf_port_may, upd xf_port_voyage j (nI k), mf_may, upd mf_voyage j (nI k), ?_, ?_, ⟨hP.1, rng_upd hP.2.1 hk, hP.2.2⟩, ⟨hE.1, eqN_upd hE.2.1, hE.2.2⟩, hKp, hC, hS⟩
          · have hw : m_X7_isWithin (nI k) 0 9 = some 1 := hw
            simp only [m_X7_hull, m_X7_hull_36, h7, ogb_some, hw, swap_N _ _ hj (by omega)]
            rfl
          · have hw : m_X8_in (nI k) 0 9 = some 1 := hw
            simp only [m_X8_hull, m_X8_hull_31, m_X8_hull_59, h8, ogb_some, hw, e, ogi_N hj (by omega), cl_N (show j < 2 ^ 31 by omega), hE.2.1 j hj]
            rfl
        · refine ⟨-2, xf_port_may, xf_port_voyage, mf_may, mf_voyage, ?_, ?_, hP, hE, hKp, hC, hS⟩
          · have hw : m_X7_isWithin a3 0 9 = some 0 := hw
            simp only [m_X7_hull, m_X7_hull_36, h7, ogb_some, hw]
            rfl
          · have hw : m_X8_in a3 0 9 = some 0 := hw
            simp only [m_X8_hull, m_X8_hull_31, h8, ogb_some, hw, e]
            rfl
      · refine ⟨-2, xf_port_may, xf_port_voyage, mf_may, mf_voyage, ?_, ?_, hP, hE, hKp, hC, hS⟩
        · simp only [m_X7_hull, m_X7_hull_36, h7, ogb_some]
          rw [if_neg (by decide), if_neg c0, if_neg c1]
        · have e : m_X8_in a2 0 1 = some 0 := by
            rcases with_cases a2 1 (by omega) with ⟨k, hk, rfl, hw⟩ | ⟨hw, -⟩
            · have : k = 0 ∨ k = 1 := by omega
              rcases this with rfl | rfl
              · exact absurd rfl c0
              · exact absurd rfl c1
            · exact hw
          simp only [m_X8_hull, h8, ogb_some, e]
          rfl
  · refine ⟨-1, xf_port_may, xf_port_voyage, mf_may, mf_voyage, ?_, ?_, hP, hE, hKp, hC, hS⟩
    · simp only [m_X7_hull, h7, ogb_some]
      rfl
    · simp only [m_X8_hull, h8, ogb_some]
      rfl
set_option maxHeartbeats 2000000 in
theorem step_luck {xf_port_may : Nat → Int32} {xf_port_voyage : Nat → Int32} {xf_port_luck : Nat → Int32} {xf_port_rank : Nat → Int32} {xf_port_worth : Nat → Int32} {xf_firstImage_may : Nat → Int32} {xf_firstImage_voyage : Nat → Int32} {xf_firstImage_luck : Nat → Int32} {xf_firstImage_rank : Nat → Int32} {xf_firstImage_worth : Nat → Int32} {xf_secondImage_may : Nat → Int32} {xf_secondImage_voyage : Nat → Int32} {xf_secondImage_luck : Nat → Int32} {xf_secondImage_rank : Nat → Int32} {xf_secondImage_worth : Nat → Int32} {xx_t_keptImages : Int32} {xf_pad_signs : Nat → Int32} {xx_pad_count : Int32} {mf_may : Nat → Int32} {mf_voyage : Nat → Int32} {mf_lucky : Nat → Int32} {mf_ranks : Nat → Int32} {mf_worths : Nat → Int32} {mx_t_signs : Int32} {mf_pad : Nat → Int32} {mf_image : Nat → Int32} {mf_isKept : Nat → Int32} (a1 : Int32) (a2 : Int32) (hI : INV xf_port_may xf_port_voyage xf_port_luck xf_port_rank xf_port_worth xf_firstImage_may xf_firstImage_voyage xf_firstImage_luck xf_firstImage_rank xf_firstImage_worth xf_secondImage_may xf_secondImage_voyage xf_secondImage_luck xf_secondImage_rank xf_secondImage_worth xx_t_keptImages xf_pad_signs xx_pad_count mf_may mf_voyage mf_lucky mf_ranks mf_worths mx_t_signs mf_pad mf_image mf_isKept) : ∃ (r : Int32) (xf_port_luck' : Nat → Int32) (mf_lucky' : Nat → Int32), m_X7_luck xf_port_luck a1 a2 = some (r, xf_port_luck') ∧ m_X8_luck mf_lucky a1 a2 = some (r, mf_lucky') ∧ INV xf_port_may xf_port_voyage xf_port_luck' xf_port_rank xf_port_worth xf_firstImage_may xf_firstImage_voyage xf_firstImage_luck xf_firstImage_rank xf_firstImage_worth xf_secondImage_may xf_secondImage_voyage xf_secondImage_luck xf_secondImage_rank xf_secondImage_worth xx_t_keptImages xf_pad_signs xx_pad_count mf_may mf_voyage mf_lucky' mf_ranks mf_worths mx_t_signs mf_pad mf_image mf_isKept := by
  obtain ⟨hP, hE, hKp, hC, hS⟩ := hI
  rcases isName_cases a1 with ⟨j, hj, rfl, h7, h8⟩ | ⟨h7, h8, -⟩
  · rcases with_cases a2 10 (by omega) with ⟨k, hk, rfl, hw⟩ | ⟨hw, -⟩
    · refine ⟨xf_port_luck j, upd xf_port_luck j (nI k), upd mf_lucky j (nI k), ?_, ?_, ⟨hP.1, hP.2.1, rng_upd hP.2.2.1 hk, hP.2.2.2⟩, ⟨hE.1, hE.2.1, eqN_upd hE.2.2.1, hE.2.2.2⟩, hKp, hC, hS⟩
      · have hw : m_X7_isWithin (nI k) 0 10 = some 1 := hw
        simp only [m_X7_luck, h7, ogb_some, hw, swap_N _ _ hj (by omega)]
        rfl
      · have hw : m_X8_in (nI k) 0 10 = some 1 := hw
        simp only [m_X8_luck, h8, ogb_some, ogl_def, hw, ogi_N hj (by omega), cl_N (show j < 2 ^ 31 by omega), hE.2.2.1 j hj]
        rfl
    · refine ⟨-2, xf_port_luck, mf_lucky, ?_, ?_, hP, hE, hKp, hC, hS⟩
      · have hw : m_X7_isWithin a2 0 10 = some 0 := hw
        simp only [m_X7_luck, h7, ogb_some, hw]
        rfl
      · have hw : m_X8_in a2 0 10 = some 0 := hw
        simp only [m_X8_luck, h8, ogb_some, hw]
        rfl
  · refine ⟨-1, xf_port_luck, mf_lucky, ?_, ?_, hP, hE, hKp, hC, hS⟩
    · simp only [m_X7_luck, h7, ogb_some]
      rfl
    · simp only [m_X8_luck, h8, ogb_some]
      rfl
set_option maxHeartbeats 2000000 in
theorem step_worth {xf_port_may : Nat → Int32} {xf_port_voyage : Nat → Int32} {xf_port_luck : Nat → Int32} {xf_port_rank : Nat → Int32} {xf_port_worth : Nat → Int32} {xf_firstImage_may : Nat → Int32} {xf_firstImage_voyage : Nat → Int32} {xf_firstImage_luck : Nat → Int32} {xf_firstImage_rank : Nat → Int32} {xf_firstImage_worth : Nat → Int32} {xf_secondImage_may : Nat → Int32} {xf_secondImage_voyage : Nat → Int32} {xf_secondImage_luck : Nat → Int32} {xf_secondImage_rank : Nat → Int32} {xf_secondImage_worth : Nat → Int32} {xx_t_keptImages : Int32} {xf_pad_signs : Nat → Int32} {xx_pad_count : Int32} {mf_may : Nat → Int32} {mf_voyage : Nat → Int32} {mf_lucky : Nat → Int32} {mf_ranks : Nat → Int32} {mf_worths : Nat → Int32} {mx_t_signs : Int32} {mf_pad : Nat → Int32} {mf_image : Nat → Int32} {mf_isKept : Nat → Int32} (a1 : Int32) (a2 : Int32) (a3 : Int32) (hI : INV xf_port_may xf_port_voyage xf_port_luck xf_port_rank xf_port_worth xf_firstImage_may xf_firstImage_voyage xf_firstImage_luck xf_firstImage_rank xf_firstImage_worth xf_secondImage_may xf_secondImage_voyage xf_secondImage_luck xf_secondImage_rank xf_secondImage_worth xx_t_keptImages xf_pad_signs xx_pad_count mf_may mf_voyage mf_lucky mf_ranks mf_worths mx_t_signs mf_pad mf_image mf_isKept) : ∃ (r : Int32) (xf_port_worth' : Nat → Int32) (mf_worths' : Nat → Int32), m_X7_worth xf_port_worth a1 a2 a3 = some (r, xf_port_worth') ∧ m_X8_worth mf_worths a1 a2 a3 = some (r, mf_worths') ∧ INV xf_port_may xf_port_voyage xf_port_luck xf_port_rank xf_port_worth' xf_firstImage_may xf_firstImage_voyage xf_firstImage_luck xf_firstImage_rank xf_firstImage_worth xf_secondImage_may xf_secondImage_voyage xf_secondImage_luck xf_secondImage_rank xf_secondImage_worth xx_t_keptImages xf_pad_signs xx_pad_count mf_may mf_voyage mf_lucky mf_ranks mf_worths' mx_t_signs mf_pad mf_image mf_isKept := by
  obtain ⟨hP, hE, hKp, hC, hS⟩ := hI
  rcases isHull_cases a1 with ⟨j, hj, rfl, h7, h8⟩ | ⟨h7, h8, -⟩
  · rcases isName_cases a2 with ⟨i, hi, rfl, g7, g8⟩ | ⟨g7, g8, -⟩
    · have e7 : nI j * 5 + nI i = nI (j * 5 + i) := by rw [l5, pk_mul, nI_add]
      have e8 : 5 * nI j + nI i = nI (j * 5 + i) := by rw [l5, pk_mul, nI_add, Nat.mul_comm]
      have hji : j * 5 + i < 30 := by omega
      rcases with_cases a3 99 (by omega) with ⟨k, hk, rfl, hw⟩ | ⟨hw, -⟩
      · refine ⟨xf_port_worth (j * 5 + i), upd xf_port_worth (j * 5 + i) (nI k), upd mf_worths (j * 5 + i) (nI k), ?_, ?_, ⟨hP.1, hP.2.1, hP.2.2.1, hP.2.2.2.1, rng_upd hP.2.2.2.2 hk⟩, ⟨hE.1, hE.2.1, hE.2.2.1, hE.2.2.2.1, eqN_upd hE.2.2.2.2⟩, hKp, hC, hS⟩
        · have hw : m_X7_isWithin (nI k) 0 99 = some 1 := hw
          simp only [m_X7_worth, h7, g7, ogb_some, hw, e7, swap_N _ _ hji (by omega)]
          rfl
        · have hw : m_X8_in (nI k) 0 99 = some 1 := hw
          simp only [m_X8_worth, h8, g8, ogb_some, ogl_def, hw, e8, ogi_N hji (by omega), cl_N (show j * 5 + i < 2 ^ 31 by omega), hE.2.2.2.2 _ hji]
          rfl
      · refine ⟨-2, xf_port_worth, mf_worths, ?_, ?_, hP, hE, hKp, hC, hS⟩
        · have hw : m_X7_isWithin a3 0 99 = some 0 := hw
          simp only [m_X7_worth, h7, g7, ogb_some, hw]
          rfl
        · have hw : m_X8_in a3 0 99 = some 0 := hw
          simp only [m_X8_worth, h8, g8, ogb_some, hw]
          rfl
    · refine ⟨-1, xf_port_worth, mf_worths, ?_, ?_, hP, hE, hKp, hC, hS⟩
      · simp only [m_X7_worth, h7, g7, ogb_some]
        rfl
      · simp only [m_X8_worth, h8, g8, ogb_some]
        rfl
  · refine ⟨-1, xf_port_worth, mf_worths, ?_, ?_, hP, hE, hKp, hC, hS⟩
    · simp only [m_X7_worth, h7, ogb_some]
      rfl
    · simp only [m_X8_worth, h8, ogb_some]
      rfl
set_option maxHeartbeats 2000000 in
theorem step_wipe {xf_port_may : Nat → Int32} {xf_port_voyage : Nat → Int32} {xf_port_luck : Nat → Int32} {xf_port_rank : Nat → Int32} {xf_port_worth : Nat → Int32} {xf_firstImage_may : Nat → Int32} {xf_firstImage_voyage : Nat → Int32} {xf_firstImage_luck : Nat → Int32} {xf_firstImage_rank : Nat → Int32} {xf_firstImage_worth : Nat → Int32} {xf_secondImage_may : Nat → Int32} {xf_secondImage_voyage : Nat → Int32} {xf_secondImage_luck : Nat → Int32} {xf_secondImage_rank : Nat → Int32} {xf_secondImage_worth : Nat → Int32} {xx_t_keptImages : Int32} {xf_pad_signs : Nat → Int32} {xx_pad_count : Int32} {mf_may : Nat → Int32} {mf_voyage : Nat → Int32} {mf_lucky : Nat → Int32} {mf_ranks : Nat → Int32} {mf_worths : Nat → Int32} {mx_t_signs : Int32} {mf_pad : Nat → Int32} {mf_image : Nat → Int32} {mf_isKept : Nat → Int32} (hI : INV xf_port_may xf_port_voyage xf_port_luck xf_port_rank xf_port_worth xf_firstImage_may xf_firstImage_voyage xf_firstImage_luck xf_firstImage_rank xf_firstImage_worth xf_secondImage_may xf_secondImage_voyage xf_secondImage_luck xf_secondImage_rank xf_secondImage_worth xx_t_keptImages xf_pad_signs xx_pad_count mf_may mf_voyage mf_lucky mf_ranks mf_worths mx_t_signs mf_pad mf_image mf_isKept) : ∃ (r : Int32) (xx_pad_count' : Int32) (mx_t_signs' : Int32), m_X7_wipe xx_pad_count = some (r, xx_pad_count') ∧ m_X8_wipe mx_t_signs = some (r, mx_t_signs') ∧ INV xf_port_may xf_port_voyage xf_port_luck xf_port_rank xf_port_worth xf_firstImage_may xf_firstImage_voyage xf_firstImage_luck xf_firstImage_rank xf_firstImage_worth xf_secondImage_may xf_secondImage_voyage xf_secondImage_luck xf_secondImage_rank xf_secondImage_worth xx_t_keptImages xf_pad_signs xx_pad_count' mf_may mf_voyage mf_lucky mf_ranks mf_worths mx_t_signs' mf_pad mf_image mf_isKept := by
  obtain ⟨hP, hE, hKp, hC, hS⟩ := hI
  obtain ⟨c, hc, rfl, rfl⟩ := hC
  exact ⟨nI c, 0, 0, rfl, rfl, hP, hE, hKp, ⟨0, by omega, rfl, rfl⟩, hS⟩
set_option maxHeartbeats 2000000 in
theorem step_say {xf_port_may : Nat → Int32} {xf_port_voyage : Nat → Int32} {xf_port_luck : Nat → Int32} {xf_port_rank : Nat → Int32} {xf_port_worth : Nat → Int32} {xf_firstImage_may : Nat → Int32} {xf_firstImage_voyage : Nat → Int32} {xf_firstImage_luck : Nat → Int32} {xf_firstImage_rank : Nat → Int32} {xf_firstImage_worth : Nat → Int32} {xf_secondImage_may : Nat → Int32} {xf_secondImage_voyage : Nat → Int32} {xf_secondImage_luck : Nat → Int32} {xf_secondImage_rank : Nat → Int32} {xf_secondImage_worth : Nat → Int32} {xx_t_keptImages : Int32} {xf_pad_signs : Nat → Int32} {xx_pad_count : Int32} {mf_may : Nat → Int32} {mf_voyage : Nat → Int32} {mf_lucky : Nat → Int32} {mf_ranks : Nat → Int32} {mf_worths : Nat → Int32} {mx_t_signs : Int32} {mf_pad : Nat → Int32} {mf_image : Nat → Int32} {mf_isKept : Nat → Int32} (a1 : Int32) (hI : INV xf_port_may xf_port_voyage xf_port_luck xf_port_rank xf_port_worth xf_firstImage_may xf_firstImage_voyage xf_firstImage_luck xf_firstImage_rank xf_firstImage_worth xf_secondImage_may xf_secondImage_voyage xf_secondImage_luck xf_secondImage_rank xf_secondImage_worth xx_t_keptImages xf_pad_signs xx_pad_count mf_may mf_voyage mf_lucky mf_ranks mf_worths mx_t_signs mf_pad mf_image mf_isKept) : ∃ (r : Int32) (xf_pad_signs' : Nat → Int32) (xx_pad_count' : Int32) (mf_pad' : Nat → Int32) (mx_t_signs' : Int32), m_X7_say xf_pad_signs xx_pad_count a1 = some (r, (xf_pad_signs', xx_pad_count')) ∧ m_X8_say mf_pad mx_t_signs a1 = some (r, (mf_pad', mx_t_signs')) ∧ INV xf_port_may xf_port_voyage xf_port_luck xf_port_rank xf_port_worth xf_firstImage_may xf_firstImage_voyage xf_firstImage_luck xf_firstImage_rank xf_firstImage_worth xf_secondImage_may xf_secondImage_voyage xf_secondImage_luck xf_secondImage_rank xf_secondImage_worth xx_t_keptImages xf_pad_signs' xx_pad_count' mf_may mf_voyage mf_lucky mf_ranks mf_worths mx_t_signs' mf_pad' mf_image mf_isKept := by
  obtain ⟨hP, hE, hKp, hC, hS⟩ := hI
  obtain ⟨c, hc, rfl, rfl⟩ := hC
  have e8 : m_X8_in a1 33 126 = m_X7_isWithin a1 33 126 := rfl
  have hw : m_X7_isWithin a1 33 126 = some 0 ∨ m_X7_isWithin a1 33 126 = some 1 := by
    unfold m_X7_isWithin
    by_cases c1 : a1 < 33
    · exact Or.inl (if_pos c1)
    · rw [if_neg c1]
      by_cases c2 : 126 < a1
      · exact Or.inl (if_pos c2)
      · exact Or.inr (if_neg c2)
  rcases hw with hw | hw
  · refine ⟨-2, xf_pad_signs, nI c, mf_pad, nI c, ?_, ?_, hP, hE, hKp, ⟨c, hc, rfl, rfl⟩, hS⟩
    · simp only [m_X7_say, hw, ogb_some]
      rfl
    · simp only [m_X8_say, e8, hw, ogb_some]
      rfl
  · by_cases h48 : c = 48
    · subst h48
      refine ⟨-4, xf_pad_signs, nI 48, mf_pad, nI 48, ?_, ?_, hP, hE, hKp, ⟨48, hc, rfl, rfl⟩, hS⟩
      · have e : m_X2_add xf_pad_signs (nI 48) a1 = some (-4, xf_pad_signs, nI 48) := by
          unfold m_X2_add
          rw [if_neg (by decide), if_neg (by decide)]
        simp only [m_X7_say, hw, ogb_some, e]
        rfl
      · simp only [m_X8_say, e8, hw, ogb_some]
        rfl
    · have hc2 : c < 48 := by omega
      refine ⟨nI (c + 1), upd xf_pad_signs c a1, nI (c + 1), upd mf_pad c a1, nI (c + 1), ?_, ?_, hP, hE, hKp, ⟨c + 1, by omega, rfl, rfl⟩, eqN_upd hS⟩
      · have e : m_X2_add xf_pad_signs (nI c) a1 = some (nI (c + 1), upd xf_pad_signs c a1, nI (c + 1)) := by
          unfold m_X2_add
          rw [if_neg (nI_pos (by omega)), if_pos (by rw [l48, nI_ltI (by omega) (by omega)]; exact hc2), ogi_N hc2 (by omega), ogl_def, nI_1, cl_N (by omega)]
        simp only [m_X7_say, hw, ogb_some, e]
        rfl
      · have n48 : ¬ nI c = 48 := by rw [l48, nI_eq (by omega) (by omega)]; exact h48
        simp only [m_X8_say, e8, hw, ogb_some]
        rw [if_neg (by decide), if_neg n48, ogi_N hc2 (by omega), ogl_def, nI_1, cl_N (by omega)]
