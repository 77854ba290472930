theorem opens_step {mp : Nat → Int32} {c : Nat} (hc : c ≤ 48) : ∀ i, i ≤ c → ∀ fuel, c - i < fuel → m_X8_opens_4 mp (nI c) fuel (nI (cnt mp 63 i)) (nI i) = some (nI (cnt mp 63 c)) := by
  refine loop_up (fun fuel i => m_X8_opens_4 mp (nI c) fuel (nI (cnt mp 63 i)) (nI i) = some (nI (cnt mp 63 c))) c (fun fuel => ?_) (fun fuel i hi ih => ?_)
  · show m_X8_opens_4b (m_X8_opens_4 mp (nI c) fuel) mp (nI c) _ (nI c) = _
    unfold m_X8_opens_4b
    rw [if_pos (by rw [nI_leI (by omega) (by omega)]; omega)]
  · show m_X8_opens_4b (m_X8_opens_4 mp (nI c) fuel) mp (nI c) _ (nI i) = _
    unfold m_X8_opens_4b m_X8_opens_29
    have e : cnt mp 63 (i + 1) = cnt mp 63 i + (if mp i = 63 then 1 else 0) := rfl
    rw [if_neg (by rw [nI_leI (by omega) (by omega)]; omega), ogi_N (by omega) (by omega), cl_N (by omega), ogl_def, ogl_def, ogl_def, ogl_def]
    simp only [nI_1]
    by_cases q : mp i = 63
    · rw [if_pos q] at e
      rw [if_pos q, ← e]
      exact ih
    · rw [if_neg q] at e
      have z : nI (cnt mp 63 i) + 0 = nI (cnt mp 63 (i + 1)) := by rw [e]; exact Int32.add_zero _
      rw [if_neg q, z]
      exact ih
theorem last_step {mp : Nat → Int32} {c : Nat} (hc : c ≤ 48) : ∀ i, i ≤ c → ∀ fuel, c - i < fuel → m_X8_lastDay_4 mp (nI c) fuel (nI (cnt mp 46 i)) (nI i) = some (nI (cnt mp 46 c)) := by
  refine loop_up (fun fuel i => m_X8_lastDay_4 mp (nI c) fuel (nI (cnt mp 46 i)) (nI i) = some (nI (cnt mp 46 c))) c (fun fuel => ?_) (fun fuel i hi ih => ?_)
  · show m_X8_lastDay_4b (m_X8_lastDay_4 mp (nI c) fuel) mp (nI c) _ (nI c) = _
    unfold m_X8_lastDay_4b
    rw [if_pos (by rw [nI_leI (by omega) (by omega)]; omega)]
  · show m_X8_lastDay_4b (m_X8_lastDay_4 mp (nI c) fuel) mp (nI c) _ (nI i) = _
    unfold m_X8_lastDay_4b m_X8_lastDay_29
    have e : cnt mp 46 (i + 1) = cnt mp 46 i + (if mp i = 46 then 1 else 0) := rfl
    rw [if_neg (by rw [nI_leI (by omega) (by omega)]; omega), ogi_N (by omega) (by omega), cl_N (by omega), ogl_def, ogl_def, ogl_def, ogl_def]
    simp only [nI_1]
    by_cases q : mp i = 46
    · rw [if_pos q] at e
      rw [if_pos q, ← e]
      exact ih
    · rw [if_neg q] at e
      have z : nI (cnt mp 46 i) + 0 = nI (cnt mp 46 (i + 1)) := by rw [e]; exact Int32.add_zero _
      rw [if_neg q, z]
      exact ih
theorem cnt_eq {sg mp : Nat → Int32} (hS : eqN 48 sg mp) (x : Int32) : ∀ c, c ≤ 48 → cnt mp x c = cnt sg x c
  | 0, _ => rfl
  | c + 1, h => by
    unfold cnt
    rw [cnt_eq hS x c (by omega), hS c (by omega)]
theorem opens_N {sg mp : Nat → Int32} {c : Nat} (hc : c ≤ 48) (hS : eqN 48 sg mp) : m_X8_opens mp (nI c) = some (nI (cnt sg 63 c)) := by
  have h := opens_step (mp := mp) hc 0 (by omega) 1000000 (by omega)
  rw [cnt_eq hS 63 c hc] at h
  exact h
theorem last_N {sg mp : Nat → Int32} {c : Nat} (hc : c ≤ 48) (hS : eqN 48 sg mp) : m_X8_lastDay mp (nI c) = some (nI (cnt sg 46 c)) := by
  have h := last_step (mp := mp) hc 0 (by omega) 1000000 (by omega)
  rw [cnt_eq hS 46 c hc] at h
  exact h
theorem step_fault {xf_port_may : Nat → Int32} {xf_port_voyage : Nat → Int32} {xf_port_luck : Nat → Int32} {xf_port_rank : Nat → Int32} {xf_port_worth : Nat → Int32} {xf_firstImage_may : Nat → Int32} {xf_firstImage_voyage : Nat → Int32} {xf_firstImage_luck : Nat → Int32} {xf_firstImage_rank : Nat → Int32} {xf_firstImage_worth : Nat → Int32} {xf_secondImage_may : Nat → Int32} {xf_secondImage_voyage : Nat → Int32} {xf_secondImage_luck : Nat → Int32} {xf_secondImage_rank : Nat → Int32} {xf_secondImage_worth : Nat → Int32} {xx_t_keptImages : Int32} {xf_pad_signs : Nat → Int32} {xx_pad_count : Int32} {mf_may : Nat → Int32} {mf_voyage : Nat → Int32} {mf_lucky : Nat → Int32} {mf_ranks : Nat → Int32} {mf_worths : Nat → Int32} {mx_t_signs : Int32} {mf_pad : Nat → Int32} {mf_image : Nat → Int32} {mf_isKept : Nat → Int32} {xf_pad_days : Nat → Int32} {xf_pad_hulls : Nat → Int32} {xf_pad_kinds : Nat → Int32} {xf_pad_names : Nat → Int32} {xx_pad_awaited : Int32} {xx_pad_parts : Int32} {xx_pad_gaps : Int32} {xx_pad_lastDay : Int32} (hI : INV xf_port_may xf_port_voyage xf_port_luck xf_port_rank xf_port_worth xf_firstImage_may xf_firstImage_voyage xf_firstImage_luck xf_firstImage_rank xf_firstImage_worth xf_secondImage_may xf_secondImage_voyage xf_secondImage_luck xf_secondImage_rank xf_secondImage_worth xx_t_keptImages xf_pad_signs xx_pad_count mf_may mf_voyage mf_lucky mf_ranks mf_worths mx_t_signs mf_pad mf_image mf_isKept) : ∃ (r : Int32) (xf_pad_days' : Nat → Int32) (xf_pad_hulls' : Nat → Int32) (xf_pad_kinds' : Nat → Int32) (xf_pad_names' : Nat → Int32) (xx_pad_awaited' : Int32) (xx_pad_gaps' : Int32) (xx_pad_lastDay' : Int32) (xx_pad_parts' : Int32), m_X7_fault xf_pad_signs xx_pad_count xf_pad_days xf_pad_hulls xf_pad_kinds xf_pad_names xx_pad_awaited xx_pad_gaps xx_pad_lastDay xx_pad_parts = some (r, (xf_pad_days', xf_pad_hulls', xf_pad_kinds', xf_pad_names', xx_pad_awaited', xx_pad_gaps', xx_pad_lastDay', xx_pad_parts')) ∧ m_X8_fault mf_pad mx_t_signs = some r ∧ INV xf_port_may xf_port_voyage xf_port_luck xf_port_rank xf_port_worth xf_firstImage_may xf_firstImage_voyage xf_firstImage_luck xf_firstImage_rank xf_firstImage_worth xf_secondImage_may xf_secondImage_voyage xf_secondImage_luck xf_secondImage_rank xf_secondImage_worth xx_t_keptImages xf_pad_signs xx_pad_count mf_may mf_voyage mf_lucky mf_ranks mf_worths mx_t_signs mf_pad mf_image mf_isKept := by
  obtain ⟨hP, hE, hKp, hC, hS⟩ := hI
  obtain ⟨c, hc, rfl, rfl⟩ := hC
  obtain ⟨r, a1, a2, a3, a4, a5, a6, a7, a8, e1, e2, -⟩ := read_all hc hS xf_pad_days xf_pad_hulls xf_pad_kinds xf_pad_names xx_pad_awaited xx_pad_gaps xx_pad_lastDay xx_pad_parts
  refine ⟨r, a1, a2, a3, a4, a5, a6, a7, a8, ?_, ?_, hP, hE, hKp, ⟨c, hc, rfl, rfl⟩, hS⟩
  · unfold m_X7_fault
    rw [e1, ogb_some]
  · unfold m_X8_fault
    rw [e2, ogb_some]
