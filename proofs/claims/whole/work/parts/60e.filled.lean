set_option maxHeartbeats 4000000 in
theorem step_filled {xf_port_may : Nat → Int32} {xf_port_voyage : Nat → Int32} {xf_port_luck : Nat → Int32} {xf_port_rank : Nat → Int32} {xf_port_worth : Nat → Int32} {xf_firstImage_may : Nat → Int32} {xf_firstImage_voyage : Nat → Int32} {xf_firstImage_luck : Nat → Int32} {xf_firstImage_rank : Nat → Int32} {xf_firstImage_worth : Nat → Int32} {xf_secondImage_may : Nat → Int32} {xf_secondImage_voyage : Nat → Int32} {xf_secondImage_luck : Nat → Int32} {xf_secondImage_rank : Nat → Int32} {xf_secondImage_worth : Nat → Int32} {xx_t_keptImages : Int32} {xf_pad_signs : Nat → Int32} {xx_pad_count : Int32} {mf_may : Nat → Int32} {mf_voyage : Nat → Int32} {mf_lucky : Nat → Int32} {mf_ranks : Nat → Int32} {mf_worths : Nat → Int32} {mx_t_signs : Int32} {mf_pad : Nat → Int32} {mf_image : Nat → Int32} {mf_isKept : Nat → Int32} {xf_pad_days : Nat → Int32} {xf_pad_hulls : Nat → Int32} {xf_pad_kinds : Nat → Int32} {xf_pad_names : Nat → Int32} {xf_sea_homes : Nat → Int32} {xf_sea_hullOf : Nat → Int32} {xf_sea_nameOf : Nat → Int32} {xf_sea_taker : Nat → Int32} {xf_sea_turn : Nat → Int32} {xf_tale_first : Nat → Int32} {xf_tale_written : Nat → Int32} {xx_pad_awaited : Int32} {xx_pad_parts : Int32} {xx_pad_gaps : Int32} {xx_pad_lastDay : Int32} {xx_sea_day : Int32} {xx_tale_gapsMet : Int32} {xx_tale_askedName : Int32} {xx_tale_askedDay : Int32} {xx_tale_why : Int32} {xx_tale_seen : Int32} {xx_tale_ways : Int32} {xx_tale_bearers : Int32} {mf_bears : Nat → Int32} {mf_borneBy : Nat → Int32} {mf_due : Nat → Int32} {mf_gone : Nat → Int32} {mf_sunk : Nat → Int32} {mf_times : Nat → Int32} {mf_whoBore : Nat → Int32} {mx_t_day : Int32} {mx_t_reason : Int32} {mx_t_asked : Int32} (a1 : Int32) (hI : INV xf_port_may xf_port_voyage xf_port_luck xf_port_rank xf_port_worth xf_firstImage_may xf_firstImage_voyage xf_firstImage_luck xf_firstImage_rank xf_firstImage_worth xf_secondImage_may xf_secondImage_voyage xf_secondImage_luck xf_secondImage_rank xf_secondImage_worth xx_t_keptImages xf_pad_signs xx_pad_count mf_may mf_voyage mf_lucky mf_ranks mf_worths mx_t_signs mf_pad mf_image mf_isKept) : ∃ (r : Int32) (xf_pad_days' : Nat → Int32) (xf_pad_hulls' : Nat → Int32) (xf_pad_kinds' : Nat → Int32) (xf_pad_names' : Nat → Int32) (xf_sea_homes' : Nat → Int32) (xf_sea_hullOf' : Nat → Int32) (xf_sea_nameOf' : Nat → Int32) (xf_sea_taker' : Nat → Int32) (xf_sea_turn' : Nat → Int32) (xf_tale_first' : Nat → Int32) (xf_tale_written' : Nat → Int32) (xx_pad_awaited' : Int32) (xx_pad_gaps' : Int32) (xx_pad_lastDay' : Int32) (xx_pad_parts' : Int32) (xx_sea_day' : Int32) (xx_tale_bearers' : Int32) (xx_tale_gapsMet' : Int32) (xx_tale_seen' : Int32) (xx_tale_ways' : Int32) (xx_tale_why' : Int32) (mf_bears' : Nat → Int32) (mf_borneBy' : Nat → Int32) (mf_due' : Nat → Int32) (mf_gone' : Nat → Int32) (mf_sunk' : Nat → Int32) (mf_times' : Nat → Int32) (mf_whoBore' : Nat → Int32) (mx_t_day' : Int32) (mx_t_reason' : Int32), m_X7_filled xf_pad_signs xf_port_may xx_pad_count xx_tale_askedName xx_tale_askedDay xf_pad_days xf_pad_hulls xf_pad_kinds xf_pad_names xf_sea_homes xf_sea_hullOf xf_sea_nameOf xf_sea_taker xf_sea_turn xf_tale_first xf_tale_written xx_pad_awaited xx_pad_gaps xx_pad_lastDay xx_pad_parts xx_sea_day xx_tale_bearers xx_tale_gapsMet xx_tale_seen xx_tale_ways xx_tale_why a1 = some (r, (xf_pad_days', xf_pad_hulls', xf_pad_kinds', xf_pad_names', xf_sea_homes', xf_sea_hullOf', xf_sea_nameOf', xf_sea_taker', xf_sea_turn', xf_tale_first', xf_tale_written', xx_pad_awaited', xx_pad_gaps', xx_pad_lastDay', xx_pad_parts', xx_sea_day', xx_tale_bearers', xx_tale_gapsMet', xx_tale_seen', xx_tale_ways', xx_tale_why')) ∧ m_X8_filled mf_may mf_pad mx_t_signs mx_t_asked mf_bears mf_borneBy mf_due mf_gone mf_sunk mf_times mf_whoBore mx_t_day mx_t_reason a1 = some (r, (mf_bears', mf_borneBy', mf_due', mf_gone', mf_sunk', mf_times', mf_whoBore', mx_t_day', mx_t_reason')) ∧ INV xf_port_may xf_port_voyage xf_port_luck xf_port_rank xf_port_worth xf_firstImage_may xf_firstImage_voyage xf_firstImage_luck xf_firstImage_rank xf_firstImage_worth xf_secondImage_may xf_secondImage_voyage xf_secondImage_luck xf_secondImage_rank xf_secondImage_worth xx_t_keptImages xf_pad_signs xx_pad_count mf_may mf_voyage mf_lucky mf_ranks mf_worths mx_t_signs mf_pad mf_image mf_isKept := by
  obtain ⟨hP, hE, hKp, hC, hS⟩ := hI
  suffices hz : ∃ r, (m_X7_filled xf_pad_signs xf_port_may xx_pad_count xx_tale_askedName xx_tale_askedDay xf_pad_days xf_pad_hulls xf_pad_kinds xf_pad_names xf_sea_homes xf_sea_hullOf xf_sea_nameOf xf_sea_taker xf_sea_turn xf_tale_first xf_tale_written xx_pad_awaited xx_pad_gaps xx_pad_lastDay xx_pad_parts xx_sea_day xx_tale_bearers xx_tale_gapsMet xx_tale_seen xx_tale_ways xx_tale_why a1).map Prod.fst = some r ∧ (m_X8_filled mf_may mf_pad mx_t_signs mx_t_asked mf_bears mf_borneBy mf_due mf_gone mf_sunk mf_times mf_whoBore mx_t_day mx_t_reason a1).map Prod.fst = some r by
    obtain ⟨r, h1, h2⟩ := hz
    obtain ⟨⟨xf_pad_days', xf_pad_hulls', xf_pad_kinds', xf_pad_names', xf_sea_homes', xf_sea_hullOf', xf_sea_nameOf', xf_sea_taker', xf_sea_turn', xf_tale_first', xf_tale_written', xx_pad_awaited', xx_pad_gaps', xx_pad_lastDay', xx_pad_parts', xx_sea_day', xx_tale_bearers', xx_tale_gapsMet', xx_tale_seen', xx_tale_ways', xx_tale_why'⟩, h1⟩ := map_fst h1
    obtain ⟨⟨mf_bears', mf_borneBy', mf_due', mf_gone', mf_sunk', mf_times', mf_whoBore', mx_t_day', mx_t_reason'⟩, h2⟩ := map_fst h2
    exact ⟨r, xf_pad_days', xf_pad_hulls', xf_pad_kinds', xf_pad_names', xf_sea_homes', xf_sea_hullOf', xf_sea_nameOf', xf_sea_taker', xf_sea_turn', xf_tale_first', xf_tale_written', xx_pad_awaited', xx_pad_gaps', xx_pad_lastDay', xx_pad_parts', xx_sea_day', xx_tale_bearers', xx_tale_gapsMet', xx_tale_seen', xx_tale_ways', xx_tale_why', mf_bears', mf_borneBy', mf_due', mf_gone', mf_sunk', mf_times', mf_whoBore', mx_t_day', mx_t_reason', h1, h2, hP, hE, hKp, hC, hS⟩
  obtain ⟨c, hc, rfl, rfl⟩ := hC
  obtain ⟨r0, b1, b2, b3, b4, b5, b6, b7, b8, e1, e2, e3⟩ := read_all hc hS xf_pad_days xf_pad_hulls xf_pad_kinds xf_pad_names xx_pad_awaited xx_pad_gaps xx_pad_lastDay xx_pad_parts
  unfold m_X7_filled m_X8_filled
  rw [e1, e2, ogb_some, ogb_some]
  rcases e3 with ⟨rfl, P, rfl, rfl, hG, rfl, hPI⟩ | ⟨q, hq, rfl⟩
  · have n6 : (-6 : Int32) < 0 := by decide
    rw [if_pos rfl, if_pos n6]
    obtain ⟨rr, ss, W⟩ := ways_N (K := False) (a := 0) (nm := 0) (aN := xx_tale_askedName) (aD := xx_tale_askedDay) (ak := mx_t_asked) HK_no (fun h => h.elim) hc hS hPI hG hE.1
    obtain ⟨s, hs⟩ := fl_run W hG rfl hc hS a1 (6 ^ cnt xf_pad_signs 63 c) 0 1000000 (by omega) (by have := pw6 hG; omega) mf_bears mf_borneBy mf_due mf_gone mf_sunk mf_times mf_whoBore mx_t_day mx_t_reason
    have z1 : nI (fa_cnt (okw rr) 0) = 0 := rfl
    have z2 : fI rr 0 = -6 := rfl
    have z3 : nI 0 = 0 := rfl
    rw [z1, z2, z3] at hs
    obtain ⟨f1, f2, f3, f4, f5, f6, f7, f8, f9, f10, f11, f12, f13, t1, j1, j2, j3, -⟩ := try_N W hG xf_tale_first xf_tale_written xf_sea_homes xf_sea_hullOf xf_sea_nameOf xf_sea_taker xf_sea_turn xx_tale_bearers xx_tale_gapsMet xx_tale_seen xx_tale_ways xx_tale_why xx_sea_day
    refine ⟨fAns (cnt xf_pad_signs 63 c) rr a1, ?_, by rw [hs]; rfl⟩
    rw [t1, ogb_some]
    unfold fAns
    by_cases c1 : a1 = -1
    · rw [if_pos c1, if_pos c1, ← j1]; rfl
    · rw [if_neg c1, if_neg c1, ← in_eq, in_G hG, ogb_some]
      by_cases c3 : a1 < 0
      · rw [if_pos c3, if_pos rfl, if_pos c3]
        by_cases c2 : fa_first (okw rr) (6 ^ cnt xf_pad_signs 63 c) < 6 ^ cnt xf_pad_signs 63 c
        · rw [if_pos c2]; rfl
        · rw [if_neg c2]; rfl
      · rw [if_neg c3, if_neg c3]
        by_cases c4 : nI (cnt xf_pad_signs 63 c) ≤ a1
        · rw [if_pos c4, if_pos rfl, if_pos c4]
          by_cases c2 : fa_first (okw rr) (6 ^ cnt xf_pad_signs 63 c) < 6 ^ cnt xf_pad_signs 63 c
          · rw [if_pos c2]; rfl
          · rw [if_neg c2]; rfl
        · rw [if_neg c4, if_neg (show ¬ (1 : Int32) = 0 by decide), if_neg c4]
          obtain ⟨j, hj, rfl⟩ := rng_of (by omega) c3 c4
          rw [at_N f1 (show j < 4 by omega) (by omega), ogb_some, cl_N (by omega)]
          by_cases c2 : fa_first (okw rr) (6 ^ cnt xf_pad_signs 63 c) < 6 ^ cnt xf_pad_signs 63 c
          · rw [if_pos c2, ← j2 c2 j hj]; rfl
          · rw [if_neg c2, ← j3 c2 j (by omega)]; rfl
  · rw [if_neg (nI_n6 (by omega)), if_neg (nn0 (by omega))]
    exact ⟨-5, rfl, rfl⟩
set_option maxHeartbeats 4000000 in
theorem step_could {xf_port_may : Nat → Int32} {xf_port_voyage : Nat → Int32} {xf_port_luck : Nat → Int32} {xf_port_rank : Nat → Int32} {xf_port_worth : Nat → Int32} {xf_firstImage_may : Nat → Int32} {xf_firstImage_voyage : Nat → Int32} {xf_firstImage_luck : Nat → Int32} {xf_firstImage_rank : Nat → Int32} {xf_firstImage_worth : Nat → Int32} {xf_secondImage_may : Nat → Int32} {xf_secondImage_voyage : Nat → Int32} {xf_secondImage_luck : Nat → Int32} {xf_secondImage_rank : Nat → Int32} {xf_secondImage_worth : Nat → Int32} {xx_t_keptImages : Int32} {xf_pad_signs : Nat → Int32} {xx_pad_count : Int32} {mf_may : Nat → Int32} {mf_voyage : Nat → Int32} {mf_lucky : Nat → Int32} {mf_ranks : Nat → Int32} {mf_worths : Nat → Int32} {mx_t_signs : Int32} {mf_pad : Nat → Int32} {mf_image : Nat → Int32} {mf_isKept : Nat → Int32} {xf_pad_days : Nat → Int32} {xf_pad_hulls : Nat → Int32} {xf_pad_kinds : Nat → Int32} {xf_pad_names : Nat → Int32} {xf_sea_homes : Nat → Int32} {xf_sea_hullOf : Nat → Int32} {xf_sea_nameOf : Nat → Int32} {xf_sea_taker : Nat → Int32} {xf_sea_turn : Nat → Int32} {xf_tale_first : Nat → Int32} {xf_tale_written : Nat → Int32} {xx_pad_awaited : Int32} {xx_pad_parts : Int32} {xx_pad_gaps : Int32} {xx_pad_lastDay : Int32} {xx_sea_day : Int32} {xx_tale_gapsMet : Int32} {xx_tale_askedName : Int32} {xx_tale_askedDay : Int32} {xx_tale_why : Int32} {xx_tale_seen : Int32} {xx_tale_ways : Int32} {xx_tale_bearers : Int32} {mf_bears : Nat → Int32} {mf_borneBy : Nat → Int32} {mf_due : Nat → Int32} {mf_gone : Nat → Int32} {mf_sunk : Nat → Int32} {mf_times : Nat → Int32} {mf_whoBore : Nat → Int32} {mx_t_day : Int32} {mx_t_reason : Int32} {mx_t_asked : Int32} (a1 : Int32) (a2 : Int32) (hI : INV xf_port_may xf_port_voyage xf_port_luck xf_port_rank xf_port_worth xf_firstImage_may xf_firstImage_voyage xf_firstImage_luck xf_firstImage_rank xf_firstImage_worth xf_secondImage_may xf_secondImage_voyage xf_secondImage_luck xf_secondImage_rank xf_secondImage_worth xx_t_keptImages xf_pad_signs xx_pad_count mf_may mf_voyage mf_lucky mf_ranks mf_worths mx_t_signs mf_pad mf_image mf_isKept) : ∃ (r : Int32) (xf_pad_days' : Nat → Int32) (xf_pad_hulls' : Nat → Int32) (xf_pad_kinds' : Nat → Int32) (xf_pad_names' : Nat → Int32) (xf_sea_homes' : Nat → Int32) (xf_sea_hullOf' : Nat → Int32) (xf_sea_nameOf' : Nat → Int32) (xf_sea_taker' : Nat → Int32) (xf_sea_turn' : Nat → Int32) (xf_tale_first' : Nat → Int32) (xf_tale_written' : Nat → Int32) (xx_pad_awaited' : Int32) (xx_pad_gaps' : Int32) (xx_pad_lastDay' : Int32) (xx_pad_parts' : Int32) (xx_sea_day' : Int32) (xx_tale_askedDay' : Int32) (xx_tale_askedName' : Int32) (xx_tale_bearers' : Int32) (xx_tale_gapsMet' : Int32) (xx_tale_seen' : Int32) (xx_tale_ways' : Int32) (xx_tale_why' : Int32) (mf_bears' : Nat → Int32) (mf_borneBy' : Nat → Int32) (mf_due' : Nat → Int32) (mf_gone' : Nat → Int32) (mf_sunk' : Nat → Int32) (mf_times' : Nat → Int32) (mf_whoBore' : Nat → Int32) (mx_t_asked' : Int32) (mx_t_day' : Int32) (mx_t_reason' : Int32), m_X7_could xf_pad_signs xf_port_may xx_pad_count xf_pad_days xf_pad_hulls xf_pad_kinds xf_pad_names xf_sea_homes xf_sea_hullOf xf_sea_nameOf xf_sea_taker xf_sea_turn xf_tale_first xf_tale_written xx_pad_awaited xx_pad_gaps xx_pad_lastDay xx_pad_parts xx_sea_day xx_tale_askedDay xx_tale_askedName xx_tale_bearers xx_tale_gapsMet xx_tale_seen xx_tale_ways xx_tale_why a1 a2 = some (r, (xf_pad_days', xf_pad_hulls', xf_pad_kinds', xf_pad_names', xf_sea_homes', xf_sea_hullOf', xf_sea_nameOf', xf_sea_taker', xf_sea_turn', xf_tale_first', xf_tale_written', xx_pad_awaited', xx_pad_gaps', xx_pad_lastDay', xx_pad_parts', xx_sea_day', xx_tale_askedDay', xx_tale_askedName', xx_tale_bearers', xx_tale_gapsMet', xx_tale_seen', xx_tale_ways', xx_tale_why')) ∧ m_X8_could mf_may mf_pad mx_t_signs mf_bears mf_borneBy mf_due mf_gone mf_sunk mf_times mf_whoBore mx_t_asked mx_t_day mx_t_reason a1 a2 = some (r, (mf_bears', mf_borneBy', mf_due', mf_gone', mf_sunk', mf_times', mf_whoBore', mx_t_asked', mx_t_day', mx_t_reason')) ∧ INV xf_port_may xf_port_voyage xf_port_luck xf_port_rank xf_port_worth xf_firstImage_may xf_firstImage_voyage xf_firstImage_luck xf_firstImage_rank xf_firstImage_worth xf_secondImage_may xf_secondImage_voyage xf_secondImage_luck xf_secondImage_rank xf_secondImage_worth xx_t_keptImages xf_pad_signs xx_pad_count mf_may mf_voyage mf_lucky mf_ranks mf_worths mx_t_signs mf_pad mf_image mf_isKept := by
  obtain ⟨hP, hE, hKp, hC, hS⟩ := hI
  suffices hz : ∃ r, (m_X7_could xf_pad_signs xf_port_may xx_pad_count xf_pad_days xf_pad_hulls xf_pad_kinds xf_pad_names xf_sea_homes xf_sea_hullOf xf_sea_nameOf xf_sea_taker xf_sea_turn xf_tale_first xf_tale_written xx_pad_awaited xx_pad_gaps xx_pad_lastDay xx_pad_parts xx_sea_day xx_tale_askedDay xx_tale_askedName xx_tale_bearers xx_tale_gapsMet xx_tale_seen xx_tale_ways xx_tale_why a1 a2).map Prod.fst = some r ∧ (m_X8_could mf_may mf_pad mx_t_signs mf_bears mf_borneBy mf_due mf_gone mf_sunk mf_times mf_whoBore mx_t_asked mx_t_day mx_t_reason a1 a2).map Prod.fst = some r by
    obtain ⟨r, h1, h2⟩ := hz
    obtain ⟨⟨xf_pad_days', xf_pad_hulls', xf_pad_kinds', xf_pad_names', xf_sea_homes', xf_sea_hullOf', xf_sea_nameOf', xf_sea_taker', xf_sea_turn', xf_tale_first', xf_tale_written', xx_pad_awaited', xx_pad_gaps', xx_pad_lastDay', xx_pad_parts', xx_sea_day', xx_tale_askedDay', xx_tale_askedName', xx_tale_bearers', xx_tale_gapsMet', xx_tale_seen', xx_tale_ways', xx_tale_why'⟩, h1⟩ := map_fst h1
    obtain ⟨⟨mf_bears', mf_borneBy', mf_due', mf_gone', mf_sunk', mf_times', mf_whoBore', mx_t_asked', mx_t_day', mx_t_reason'⟩, h2⟩ := map_fst h2
    exact ⟨r, xf_pad_days', xf_pad_hulls', xf_pad_kinds', xf_pad_names', xf_sea_homes', xf_sea_hullOf', xf_sea_nameOf', xf_sea_taker', xf_sea_turn', xf_tale_first', xf_tale_written', xx_pad_awaited', xx_pad_gaps', xx_pad_lastDay', xx_pad_parts', xx_sea_day', xx_tale_askedDay', xx_tale_askedName', xx_tale_bearers', xx_tale_gapsMet', xx_tale_seen', xx_tale_ways', xx_tale_why', mf_bears', mf_borneBy', mf_due', mf_gone', mf_sunk', mf_times', mf_whoBore', mx_t_asked', mx_t_day', mx_t_reason', h1, h2, hP, hE, hKp, hC, hS⟩
  obtain ⟨c, hc, rfl, rfl⟩ := hC
  have refused : ∀ (r : Int32), ¬ r = 0 → (m_X7_refusalOf xf_pad_signs (nI c) xf_pad_days xf_pad_hulls xf_pad_kinds xf_pad_names xx_pad_awaited xx_pad_gaps xx_pad_lastDay xx_pad_parts a1 a2).map Prod.fst = some r → (m_X7_could xf_pad_signs xf_port_may (nI c) xf_pad_days xf_pad_hulls xf_pad_kinds xf_pad_names xf_sea_homes xf_sea_hullOf xf_sea_nameOf xf_sea_taker xf_sea_turn xf_tale_first xf_tale_written xx_pad_awaited xx_pad_gaps xx_pad_lastDay xx_pad_parts xx_sea_day xx_tale_askedDay xx_tale_askedName xx_tale_bearers xx_tale_gapsMet xx_tale_seen xx_tale_ways xx_tale_why a1 a2).map Prod.fst = some r := by
    intro r hr hs
    obtain ⟨s, hs⟩ := map_fst hs
    unfold m_X7_could
    rw [hs, ogb_some, if_neg hr]
    rfl
  rcases isName_cases a1 with ⟨nm, hnm, rfl, h7, h8⟩ | ⟨h7, h8, -⟩
  · have i1 : ¬ (1 : Int32) = 0 := by decide
    by_cases hd0 : (0 : Int32) ≤ a2
    · have hd1 : ¬ a2 < 0 := by
        rw [Int32.lt_iff_toInt_lt]; rw [Int32.le_iff_toInt_le] at hd0; omega
      obtain ⟨a, ha, rfl⟩ := nI_of hd1
      obtain ⟨r0, b1, b2, b3, b4, b5, b6, b7, b8, e1, e2, e3⟩ := read_all hc hS xf_pad_days xf_pad_hulls xf_pad_kinds xf_pad_names xx_pad_awaited xx_pad_gaps xx_pad_lastDay xx_pad_parts
      rcases e3 with ⟨rfl, P, rfl, rfl, hG, rfl, hPI⟩ | ⟨q, hq, rfl⟩
      · have n6 : (-6 : Int32) < 0 := by decide
        have cl46 := cnt_le xf_pad_signs 46 c
        by_cases hl : a ≤ cnt xf_pad_signs 46 c
        · have hl2 : nI a ≤ nI (cnt xf_pad_signs 46 c) := by rw [nI_leI ha (by omega)]; exact hl
          have ref : m_X7_refusalOf xf_pad_signs (nI c) xf_pad_days xf_pad_hulls xf_pad_kinds xf_pad_names xx_pad_awaited xx_pad_gaps xx_pad_lastDay xx_pad_parts (nI nm) (nI a) = some (0, b1, b2, b3, b4, b5, nI (cnt xf_pad_signs 63 c), nI (cnt xf_pad_signs 46 c), nI P) := by
            unfold m_X7_refusalOf
            rw [h7, ogb_some, if_neg i1, if_pos hd0, e1, ogb_some, if_pos rfl, if_pos hl2]
          obtain ⟨rr, ss, W⟩ := ways_N (K := True) (a := a) (nm := nm) (aN := nI nm) (aD := nI a) (ak := nI a) (fun _ => ⟨rfl, rfl, rfl, hnm, by omega⟩) (fun _ => hl) hc hS hPI hG hE.1
          obtain ⟨s, hs⟩ := co_run trivial W hnm hG rfl hc hS (6 ^ cnt xf_pad_signs 63 c) 0 1000000 (by omega) (by have := pw6 hG; omega) mf_bears mf_borneBy mf_due mf_gone mf_sunk mf_times mf_whoBore mx_t_day mx_t_reason
          have z1 : orb rr ss 0 = 0 := rfl
          have z2 : flg rr 0 = 0 := rfl
          have z3 : nI 0 = 0 := rfl
          rw [z1, z2, z3] at hs
          obtain ⟨f1, f2, f3, f4, f5, f6, f7, f8, f9, f10, f11, f12, f13, t1, j1, -, -, j4⟩ := try_N W hG xf_tale_first xf_tale_written xf_sea_homes xf_sea_hullOf xf_sea_nameOf xf_sea_taker xf_sea_turn xx_tale_bearers xx_tale_gapsMet xx_tale_seen xx_tale_ways xx_tale_why xx_sea_day
          have ask : m_X6_ask xx_tale_askedDay xx_tale_askedName (nI nm) (nI a) = some (nI a, nI nm) := rfl
          have hcl := fa_cnt_le (okw rr) (6 ^ cnt xf_pad_signs 63 c)
          have hN := pw6 hG
          refine ⟨cAns (cnt xf_pad_signs 63 c) rr ss, ?_, ?_⟩
          · unfold m_X7_could
            rw [ref, ogb_some, if_pos rfl, ask, ogb_some, t1, ogb_some]
            unfold cAns
            by_cases c1 : fa_cnt (okw rr) (6 ^ cnt xf_pad_signs 63 c) = 0
            · have : f11 ≤ 0 := by rw [j1, c1]; decide
              rw [if_pos c1, if_pos this]; rfl
            · have : ¬ f11 ≤ 0 := by rw [j1]; exact nI_nle (by omega) (by omega)
              rw [if_neg c1, if_neg this, ← j4 trivial]; rfl
          · unfold m_X8_could
            rw [h8, ogb_some, if_neg i1, if_pos hd0, e2, ogb_some, if_pos n6, last_N hc hS, ogb_some, if_pos hl2, hs]
            rfl
        · have hl2 : ¬ nI a ≤ nI (cnt xf_pad_signs 46 c) := by rw [nI_leI ha (by omega)]; exact hl
          refine ⟨-1, refused (-1) (by decide) ?_, ?_⟩
          · unfold m_X7_refusalOf
            rw [h7, ogb_some, if_neg i1, if_pos hd0, e1, ogb_some, if_pos rfl, if_neg hl2]
            rfl
          · unfold m_X8_could
            rw [h8, ogb_some, if_neg i1, if_pos hd0, e2, ogb_some, if_pos n6, last_N hc hS, ogb_some, if_neg hl2]
            rfl
      · refine ⟨-5, refused (-5) (by decide) ?_, ?_⟩
        · unfold m_X7_refusalOf
          rw [h7, ogb_some, if_neg i1, if_pos hd0, e1, ogb_some, if_neg (nI_n6 (by omega))]
          rfl
        · unfold m_X8_could
          rw [h8, ogb_some, if_neg i1, if_pos hd0, e2, ogb_some, if_neg (nn0 (by omega))]
          rfl
    · refine ⟨-1, refused (-1) (by decide) ?_, ?_⟩
      · unfold m_X7_refusalOf
        rw [h7, ogb_some, if_neg i1, if_neg hd0]
        rfl
      · unfold m_X8_could
        rw [h8, ogb_some, if_neg i1, if_neg hd0]
        rfl
  · refine ⟨-1, refused (-1) (by decide) ?_, ?_⟩
    · unfold m_X7_refusalOf
      rw [h7, ogb_some, if_pos rfl]
      rfl
    · unfold m_X8_could
      rw [h8, ogb_some, if_pos rfl]
      rfl
