-- what a log asks
theorem nz {j : Nat} (hj : j < 2 ^ 31) (h : ¬ j = 0) : ¬ nI j = 0 := fun e => h ((nI_eq hj (by omega)).mp (show nI j = nI 0 from e))
def aboutL (j : Nat) : Bool := j == 0 || (j / 10 == 1 && j % 10 < 6) || ((j / 10 == 2 || j / 10 == 3 || j / 10 == 4) && j % 10 < 5)
theorem about7_50 : ∀ j, j < 50 → m_X7_isAboutLog (nI j) = some (if aboutL j then 1 else 0) := by decide
theorem about7 {j : Nat} (hj : j < 2 ^ 31) : m_X7_isAboutLog (nI j) = some (if aboutL j then 1 else 0) := by
  by_cases h : j < 50
  · exact about7_50 j h
  · have a : aboutL j = false := by
      unfold aboutL
      simp only [Bool.or_eq_false_iff, Bool.and_eq_false_iff, beq_eq_false_iff_ne, decide_eq_false_iff_not]
      omega
    unfold m_X7_isAboutLog
    rw [a, if_neg (nz hj (by omega)), l10, show (15 : Int32) = nI 15 from rfl, with_N hj (by omega) (by omega), if_neg (by omega), ogb_some, if_pos rfl]
    rw [show (20 : Int32) = nI 20 from rfl, show (24 : Int32) = nI 24 from rfl, with_N hj (by omega) (by omega), if_neg (by omega), ogb_some, if_pos rfl]
    rw [show (30 : Int32) = nI 30 from rfl, show (34 : Int32) = nI 34 from rfl, with_N hj (by omega) (by omega), if_neg (by omega), ogb_some, if_pos rfl]
    rw [show (40 : Int32) = nI 40 from rfl, show (44 : Int32) = nI 44 from rfl, with_N hj (by omega) (by omega), if_neg (by omega), ogb_some, if_pos rfl]
    rfl
theorem about7_neg {v : Int32} (h : v < 0) : m_X7_isAboutLog v = some 0 := by
  unfold m_X7_isAboutLog
  rw [if_neg (fun e => by rw [e] at h; exact absurd h (by decide)), l10, with_neg (by omega) h, ogb_some, if_pos rfl]
  rw [show (20 : Int32) = nI 20 from rfl, with_neg (by omega) h, ogb_some, if_pos rfl]
  rw [show (30 : Int32) = nI 30 from rfl, with_neg (by omega) h, ogb_some, if_pos rfl]
  rw [show (40 : Int32) = nI 40 from rfl, with_neg (by omega) h, ogb_some, if_pos rfl]
theorem log8 {j : Nat} (hj : j < 2 ^ 31) (mm mp : Nat → Int32) (s ak : Int32) (be bo du go su ti wb : Nat → Int32) (d rs : Int32) : m_X8_log mm mp s ak be bo du go su ti wb d rs (nI j) = m_X8_log_45 mm mp s ak (nI j) (nI (j % 10)) (if aboutL j then 1 else 0) be bo du go su ti wb d rs := by
  unfold m_X8_log
  rw [ogl_def, rem10 hj]
  by_cases z : j = 0
  · subst z
    rw [if_pos (show nI 0 = 0 from rfl)]
    unfold m_X8_log_40
    rfl
  · rw [if_neg (nz hj (by omega)), in_eq, in_eq, in_eq, l10, show (15 : Int32) = nI 15 from rfl, with_N hj (by omega) (by omega), ogb_some]
    by_cases a : 10 ≤ j ∧ j ≤ 15
    · have ab : aboutL j = true := by
        unfold aboutL
        simp only [Bool.or_eq_true, Bool.and_eq_true, beq_iff_eq, decide_eq_true_iff]
        omega
      rw [if_pos a, if_neg (by decide : ¬ (1 : Int32) = 0), ab, if_pos rfl]
      unfold m_X8_log_40
      rfl
    · rw [if_neg a, if_pos rfl, show (20 : Int32) = nI 20 from rfl, show (49 : Int32) = nI 49 from rfl, with_N hj (by omega) (by omega), ogb_some]
      by_cases b : 20 ≤ j ∧ j ≤ 49
      · rw [if_pos b, if_neg (by decide : ¬ (1 : Int32) = 0), show (0 : Int32) = nI 0 from rfl, l4, with_N (by omega) (by omega) (by omega), ogb_some]
        by_cases cc : 0 ≤ j % 10 ∧ j % 10 ≤ 4
        · have ab : aboutL j = true := by
            unfold aboutL
            simp only [Bool.or_eq_true, Bool.and_eq_true, beq_iff_eq, decide_eq_true_iff]
            omega
          rw [if_pos cc, if_neg (by decide), ab, if_pos rfl]
          unfold m_X8_log_40
          rfl
        · have ab : aboutL j = false := by
            unfold aboutL
            simp only [Bool.or_eq_false_iff, Bool.and_eq_false_iff, beq_eq_false_iff_ne, decide_eq_false_iff_not]
            omega
          rw [if_neg cc, if_pos (by decide), ab, if_neg (by decide)]
          unfold m_X8_log_44
          rfl
      · have ab : aboutL j = false := by
          unfold aboutL
          simp only [Bool.or_eq_false_iff, Bool.and_eq_false_iff, beq_eq_false_iff_ne, decide_eq_false_iff_not]
          omega
        rw [if_neg b, if_pos rfl, ab, if_neg (by decide)]
        unfold m_X8_log_44
        rfl
theorem log8_neg {v : Int32} (h : v < 0) (mm mp : Nat → Int32) (s ak : Int32) (be bo du go su ti wb : Nat → Int32) (d rs : Int32) : (m_X8_log mm mp s ak be bo du go su ti wb d rs v).map Prod.fst = some (-2) := by
  unfold m_X8_log
  rw [ogl_def, if_neg (fun e => by rw [e] at h; exact absurd h (by decide)), in_eq, in_eq, in_eq, l10, with_neg (by omega) h, ogb_some, if_pos rfl, show (20 : Int32) = nI 20 from rfl, with_neg (by omega) h, ogb_some, if_pos rfl]
  unfold m_X8_log_44 m_X8_log_45
  rw [if_pos rfl]
  rfl
set_option maxHeartbeats 4000000 in
theorem step_log {xf_port_may : Nat → Int32} {xf_port_voyage : Nat → Int32} {xf_port_luck : Nat → Int32} {xf_port_rank : Nat → Int32} {xf_port_worth : Nat → Int32} {xf_firstImage_may : Nat → Int32} {xf_firstImage_voyage : Nat → Int32} {xf_firstImage_luck : Nat → Int32} {xf_firstImage_rank : Nat → Int32} {xf_firstImage_worth : Nat → Int32} {xf_secondImage_may : Nat → Int32} {xf_secondImage_voyage : Nat → Int32} {xf_secondImage_luck : Nat → Int32} {xf_secondImage_rank : Nat → Int32} {xf_secondImage_worth : Nat → Int32} {xx_t_keptImages : Int32} {xf_pad_signs : Nat → Int32} {xx_pad_count : Int32} {mf_may : Nat → Int32} {mf_voyage : Nat → Int32} {mf_lucky : Nat → Int32} {mf_ranks : Nat → Int32} {mf_worths : Nat → Int32} {mx_t_signs : Int32} {mf_pad : Nat → Int32} {mf_image : Nat → Int32} {mf_isKept : Nat → Int32} {xf_pad_days : Nat → Int32} {xf_pad_hulls : Nat → Int32} {xf_pad_kinds : Nat → Int32} {xf_pad_names : Nat → Int32} {xf_sea_homes : Nat → Int32} {xf_sea_hullOf : Nat → Int32} {xf_sea_nameOf : Nat → Int32} {xf_sea_taker : Nat → Int32} {xf_sea_turn : Nat → Int32} {xf_tale_written : Nat → Int32} {xx_pad_awaited : Int32} {xx_pad_parts : Int32} {xx_pad_gaps : Int32} {xx_pad_lastDay : Int32} {xx_sea_day : Int32} {xx_tale_gapsMet : Int32} {xx_tale_askedName : Int32} {xx_tale_askedDay : Int32} {xx_tale_why : Int32} {xx_tale_seen : Int32} {mf_bears : Nat → Int32} {mf_borneBy : Nat → Int32} {mf_due : Nat → Int32} {mf_gone : Nat → Int32} {mf_sunk : Nat → Int32} {mf_times : Nat → Int32} {mf_whoBore : Nat → Int32} {mx_t_day : Int32} {mx_t_reason : Int32} {mx_t_asked : Int32} (a1 : Int32) (hI : INV xf_port_may xf_port_voyage xf_port_luck xf_port_rank xf_port_worth xf_firstImage_may xf_firstImage_voyage xf_firstImage_luck xf_firstImage_rank xf_firstImage_worth xf_secondImage_may xf_secondImage_voyage xf_secondImage_luck xf_secondImage_rank xf_secondImage_worth xx_t_keptImages xf_pad_signs xx_pad_count mf_may mf_voyage mf_lucky mf_ranks mf_worths mx_t_signs mf_pad mf_image mf_isKept) : ∃ (r : Int32) (xf_pad_days' : Nat → Int32) (xf_pad_hulls' : Nat → Int32) (xf_pad_kinds' : Nat → Int32) (xf_pad_names' : Nat → Int32) (xf_sea_homes' : Nat → Int32) (xf_sea_hullOf' : Nat → Int32) (xf_sea_nameOf' : Nat → Int32) (xf_sea_taker' : Nat → Int32) (xf_sea_turn' : Nat → Int32) (xx_pad_awaited' : Int32) (xx_pad_gaps' : Int32) (xx_pad_lastDay' : Int32) (xx_pad_parts' : Int32) (xx_sea_day' : Int32) (xx_tale_gapsMet' : Int32) (xx_tale_seen' : Int32) (xx_tale_why' : Int32) (mf_bears' : Nat → Int32) (mf_borneBy' : Nat → Int32) (mf_due' : Nat → Int32) (mf_gone' : Nat → Int32) (mf_sunk' : Nat → Int32) (mf_times' : Nat → Int32) (mf_whoBore' : Nat → Int32) (mx_t_day' : Int32) (mx_t_reason' : Int32), m_X7_log xf_pad_signs xf_port_may xf_tale_written xx_pad_count xx_tale_askedName xx_tale_askedDay xf_pad_days xf_pad_hulls xf_pad_kinds xf_pad_names xf_sea_homes xf_sea_hullOf xf_sea_nameOf xf_sea_taker xf_sea_turn xx_pad_awaited xx_pad_gaps xx_pad_lastDay xx_pad_parts xx_sea_day xx_tale_gapsMet xx_tale_seen xx_tale_why a1 = some (r, (xf_pad_days', xf_pad_hulls', xf_pad_kinds', xf_pad_names', xf_sea_homes', xf_sea_hullOf', xf_sea_nameOf', xf_sea_taker', xf_sea_turn', xx_pad_awaited', xx_pad_gaps', xx_pad_lastDay', xx_pad_parts', xx_sea_day', xx_tale_gapsMet', xx_tale_seen', xx_tale_why')) ∧ m_X8_log mf_may mf_pad mx_t_signs mx_t_asked mf_bears mf_borneBy mf_due mf_gone mf_sunk mf_times mf_whoBore mx_t_day mx_t_reason a1 = some (r, (mf_bears', mf_borneBy', mf_due', mf_gone', mf_sunk', mf_times', mf_whoBore', mx_t_day', mx_t_reason')) ∧ INV xf_port_may xf_port_voyage xf_port_luck xf_port_rank xf_port_worth xf_firstImage_may xf_firstImage_voyage xf_firstImage_luck xf_firstImage_rank xf_firstImage_worth xf_secondImage_may xf_secondImage_voyage xf_secondImage_luck xf_secondImage_rank xf_secondImage_worth xx_t_keptImages xf_pad_signs xx_pad_count mf_may mf_voyage mf_lucky mf_ranks mf_worths mx_t_signs mf_pad mf_image mf_isKept := by
  obtain ⟨hP, hE, hKp, hC, hS⟩ := hI
  suffices hz : ∃ r, (m_X7_log xf_pad_signs xf_port_may xf_tale_written xx_pad_count xx_tale_askedName xx_tale_askedDay xf_pad_days xf_pad_hulls xf_pad_kinds xf_pad_names xf_sea_homes xf_sea_hullOf xf_sea_nameOf xf_sea_taker xf_sea_turn xx_pad_awaited xx_pad_gaps xx_pad_lastDay xx_pad_parts xx_sea_day xx_tale_gapsMet xx_tale_seen xx_tale_why a1).map Prod.fst = some r ∧ (m_X8_log mf_may mf_pad mx_t_signs mx_t_asked mf_bears mf_borneBy mf_due mf_gone mf_sunk mf_times mf_whoBore mx_t_day mx_t_reason a1).map Prod.fst = some r by
    obtain ⟨r, h1, h2⟩ := hz
    obtain ⟨⟨xf_pad_days', xf_pad_hulls', xf_pad_kinds', xf_pad_names', xf_sea_homes', xf_sea_hullOf', xf_sea_nameOf', xf_sea_taker', xf_sea_turn', xx_pad_awaited', xx_pad_gaps', xx_pad_lastDay', xx_pad_parts', xx_sea_day', xx_tale_gapsMet', xx_tale_seen', xx_tale_why'⟩, h1⟩ := map_fst h1
    obtain ⟨⟨mf_bears', mf_borneBy', mf_due', mf_gone', mf_sunk', mf_times', mf_whoBore', mx_t_day', mx_t_reason'⟩, h2⟩ := map_fst h2
    exact ⟨r, xf_pad_days', xf_pad_hulls', xf_pad_kinds', xf_pad_names', xf_sea_homes', xf_sea_hullOf', xf_sea_nameOf', xf_sea_taker', xf_sea_turn', xx_pad_awaited', xx_pad_gaps', xx_pad_lastDay', xx_pad_parts', xx_sea_day', xx_tale_gapsMet', xx_tale_seen', xx_tale_why', mf_bears', mf_borneBy', mf_due', mf_gone', mf_sunk', mf_times', mf_whoBore', mx_t_day', mx_t_reason', h1, h2, hP, hE, hKp, hC, hS⟩
  obtain ⟨c, hc, rfl, rfl⟩ := hC
  by_cases hn : a1 < 0
  · refine ⟨-2, ?_, log8_neg hn _ _ _ _ _ _ _ _ _ _ _ _ _⟩
    unfold m_X7_log
    rw [about7_neg hn, ogb_some, if_pos rfl]
    rfl
  obtain ⟨j, hj, rfl⟩ := nI_of hn
  rw [log8 hj]
  unfold m_X7_log
  rw [about7 hj, ogb_some]
  by_cases ab : aboutL j = true
  · have i1' : ¬ (1 : Int32) = 0 := by decide
    have n6 : (-6 : Int32) < 0 := by decide
    unfold m_X8_log_45
    rw [ab, if_pos rfl, if_neg i1', if_neg i1']
    obtain ⟨r0, b1, b2, b3, b4, b5, b6, b7, b8, e1, e2, e3⟩ := read_all hc hS xf_pad_days xf_pad_hulls xf_pad_kinds xf_pad_names xx_pad_awaited xx_pad_gaps xx_pad_lastDay xx_pad_parts
    rw [e1, e2, ogb_some, ogb_some]
    rcases e3 with ⟨rfl, P, rfl, rfl, hG, rfl, hPI⟩ | ⟨q, hq, rfl⟩
    · rw [if_pos rfl, if_pos n6, opens_N hc hS, ogb_some]
      by_cases g0 : cnt xf_pad_signs 63 c = 0
      · obtain ⟨r, x1, x2, x3, x4, x5, x6, x7, x8, x9, x10, x11, x12, s1, s2, s3, d2, g2, t1, t2, t3⟩ := tell_go (C := 0) (wr := xf_tale_written) (aN := xx_tale_askedName) (aD := xx_tale_askedDay) (ak := mx_t_asked) HK_no hc hS hPI hG hE.1 (by omega) (fun g hg => absurd hg (by omega)) xf_sea_nameOf xf_sea_hullOf xf_sea_homes xf_sea_turn xf_sea_taker mf_bears mf_borneBy mf_due mf_gone mf_sunk mf_times mf_whoBore xx_tale_gapsMet xx_tale_seen xx_tale_why xx_sea_day mx_t_day mx_t_reason
        have z0 : nI 0 = 0 := rfl
        rw [z0] at t2
        rw [if_neg (fun h => (zG2 (by omega)).mp h g0), if_neg (fun h => (zG2 (by omega)).mp h g0), t1, t2, ogb_some, ogb_some]
        rcases t3 with ⟨rfl, -, hd2, ⟨SH, SN, ST⟩, -⟩ | ⟨q, hq, rfl, -, -⟩
        · rw [if_pos rfl, if_pos n6, ogl_def, rem10 hj, div10 hj]
          dsimp only
          have hq : ∀ {m : Nat}, m < 2 ^ 31 → ((nI (j / 10) = nI m) ↔ j / 10 = m) := fun hm => nI_eq (by omega) hm
          have H : j = 0 ∨ (j / 10 = 1 ∧ j % 10 < 6) ∨ ((j / 10 = 2 ∨ j / 10 = 3 ∨ j / 10 = 4) ∧ j % 10 < 5) := by
            unfold aboutL at ab
            simp only [Bool.or_eq_true, Bool.and_eq_true, beq_iff_eq, decide_eq_true_iff] at ab
            omega
          have l0' : (0 : Int32) = nI 0 := rfl
          rcases H with h | ⟨h, hr⟩ | ⟨h | h | h, hr⟩
          · subst h
            rw [if_neg (show ¬ nI (0 / 10) = 1 by decide), if_neg (show ¬ nI (0 / 10) = 2 by decide), if_neg (show ¬ nI (0 / 10) = 3 by decide), if_neg (show ¬ nI (0 / 10) = 4 by decide), if_pos (show nI (0 / 10) = 0 by decide)]
            exact ⟨_, rfl, by rw [hd2]; rfl⟩
          · rw [h, if_pos (show nI 1 = 1 from rfl), if_pos (show nI 1 = 1 from rfl), if_neg (show ¬ nI 1 = 0 by decide), at_N _ hr (by omega), ogb_some, ogi_N hr (by omega), ogi_N hr (by omega), cl_N (by omega)]
            rcases SH _ hr with ⟨z1, z2, -⟩ | ⟨z1, z2, -⟩
            · rw [if_pos z1, z2]; exact ⟨_, rfl, rfl⟩
            · rw [if_neg (by rw [z1]; decide), z2]; exact ⟨_, rfl, rfl⟩
          · rw [h, if_neg (show ¬ nI 2 = 1 by decide), if_pos (show nI 2 = 2 from rfl), if_neg (show ¬ nI 2 = 0 by decide), if_neg (show ¬ nI 2 = 1 by decide), if_pos (show nI 2 = 2 from rfl), at_N _ hr (by omega), ogb_some, ogi_N hr (by omega), ogi_N hr (by omega), cl_N (by omega)]
            rcases SN _ hr with ⟨z1, z2, -⟩ | ⟨z1, z2, -⟩
            · rw [if_pos z1, z2]; exact ⟨_, rfl, rfl⟩
            · rw [if_neg (by rw [z1]; decide), z2]; exact ⟨_, rfl, rfl⟩
          · rw [h, if_neg (show ¬ nI 3 = 1 by decide), if_neg (show ¬ nI 3 = 2 by decide), if_pos (show nI 3 = 3 from rfl), if_neg (show ¬ nI 3 = 0 by decide), if_neg (show ¬ nI 3 = 1 by decide), if_neg (show ¬ nI 3 = 2 by decide), if_pos (show nI 3 = 3 from rfl)]
            unfold m_X4_dayAtHome
            rw [at_N _ hr (by omega), ogb_some, at_N _ hr (by omega), ogb_some, ogi_N hr (by omega), ogi_N hr (by omega), ogi_N hr (by omega), cl_N (by omega)]
            rcases SN _ hr with ⟨z1, z2, z3⟩ | ⟨z1, z2, -⟩
            · rcases z3 with z3 | ⟨hh, tt, hh6, zb, -, -, ztu, zdu, -, -⟩
              · rw [if_neg (show ¬ x2 (j % 10) = -7 by rw [z2, z3]; decide), if_pos (show x2 (j % 10) = -6 by rw [z2, z3]), if_pos (show x9 (j % 10) = 0 from z1), if_pos (show x7 (j % 10) < 0 by rw [z3]; decide)]
                exact ⟨_, rfl, rfl⟩
              · rw [if_neg (show ¬ x2 (j % 10) = -7 by rw [z2, zb]; exact nI_n7 (by omega)), if_neg (show ¬ x2 (j % 10) = -6 by rw [z2, zb]; exact nI_n6 (by omega)), if_pos (show x9 (j % 10) = 0 from z1), if_neg (show ¬ x7 (j % 10) < 0 by rw [zb]; exact nn0 (by omega)), ztu]
                exact ⟨_, rfl, congrArg some zdu⟩
            · rw [if_pos (show x2 (j % 10) = -7 from z2), if_neg (show ¬ x9 (j % 10) = 0 by rw [z1]; decide)]
              exact ⟨_, rfl, rfl⟩
          · rw [h, if_neg (show ¬ nI 4 = 1 by decide), if_neg (show ¬ nI 4 = 2 by decide), if_neg (show ¬ nI 4 = 3 by decide), if_pos (show nI 4 = 4 from rfl), if_neg (show ¬ nI 4 = 0 by decide), if_neg (show ¬ nI 4 = 1 by decide), if_neg (show ¬ nI 4 = 2 by decide), if_neg (show ¬ nI 4 = 3 by decide), at_N _ hr (by omega), ogb_some, ogi_N hr (by omega), cl_N (by omega), ST _ hr]
            exact ⟨_, rfl, rfl⟩
        · have hP48 : P ≤ 48 := by have := hPI.2.1; omega
          rw [if_neg (nI_n6 (by omega)), if_neg (nn0 (by omega))]
          exact ⟨-3, rfl, rfl⟩
      · rw [if_pos ((zG2 (by omega)).mpr g0), if_pos ((zG2 (by omega)).mpr g0)]
        exact ⟨-3, rfl, rfl⟩
    · rw [if_neg (nI_n6 (by omega)), if_neg (nn0 (by omega))]
      exact ⟨-5, rfl, rfl⟩
  · unfold m_X8_log_45
    rw [if_neg ab, if_pos rfl, if_pos rfl]
    exact ⟨-2, rfl, rfl⟩
