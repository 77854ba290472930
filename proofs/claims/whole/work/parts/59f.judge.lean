theorem map_fst {α β : Type} {x : Option (α × β)} {r : α} (h : x.map Prod.fst = some r) : ∃ s, x = some (r, s) := by
  cases x with
  | none => cases h
  | some q => obtain ⟨a, b⟩ := q; cases h; exact ⟨b, rfl⟩
theorem HK_no {aN aD ak : Int32} : HK False 0 0 aN aD ak := fun h => h.elim
theorem nn0 {j : Nat} (h : j < 2 ^ 31) : ¬ nI j < 0 := nI_pos h
theorem zG {G : Nat} (h : G < 2 ^ 31) : (nI G ≤ 0) ↔ G = 0 := by
  have : (0 : Int32) = nI 0 := rfl
  rw [this, nI_leI h (by omega)]
  omega
theorem zG2 {G : Nat} (h : G < 2 ^ 31) : ((0 : Int32) < nI G) ↔ ¬ G = 0 := by
  have : (0 : Int32) = nI 0 := rfl
  rw [this, nI_ltI (by omega) h]
  omega
set_option maxHeartbeats 4000000 in
theorem step_judge {xf_port_may : Nat → Int32} {xf_port_voyage : Nat → Int32} {xf_port_luck : Nat → Int32} {xf_port_rank : Nat → Int32} {xf_port_worth : Nat → Int32} {xf_firstImage_may : Nat → Int32} {xf_firstImage_voyage : Nat → Int32} {xf_firstImage_luck : Nat → Int32} {xf_firstImage_rank : Nat → Int32} {xf_firstImage_worth : Nat → Int32} {xf_secondImage_may : Nat → Int32} {xf_secondImage_voyage : Nat → Int32} {xf_secondImage_luck : Nat → Int32} {xf_secondImage_rank : Nat → Int32} {xf_secondImage_worth : Nat → Int32} {xx_t_keptImages : Int32} {xf_pad_signs : Nat → Int32} {xx_pad_count : Int32} {mf_may : Nat → Int32} {mf_voyage : Nat → Int32} {mf_lucky : Nat → Int32} {mf_ranks : Nat → Int32} {mf_worths : Nat → Int32} {mx_t_signs : Int32} {mf_pad : Nat → Int32} {mf_image : Nat → Int32} {mf_isKept : Nat → Int32} {xf_pad_days : Nat → Int32} {xf_pad_hulls : Nat → Int32} {xf_pad_kinds : Nat → Int32} {xf_pad_names : Nat → Int32} {xf_sea_homes : Nat → Int32} {xf_sea_hullOf : Nat → Int32} {xf_sea_nameOf : Nat → Int32} {xf_sea_taker : Nat → Int32} {xf_sea_turn : Nat → Int32} {xf_tale_written : Nat → Int32} {xx_pad_awaited : Int32} {xx_pad_parts : Int32} {xx_pad_gaps : Int32} {xx_pad_lastDay : Int32} {xx_sea_day : Int32} {xx_tale_gapsMet : Int32} {xx_tale_askedName : Int32} {xx_tale_askedDay : Int32} {xx_tale_why : Int32} {xx_tale_seen : Int32} {mf_bears : Nat → Int32} {mf_borneBy : Nat → Int32} {mf_due : Nat → Int32} {mf_gone : Nat → Int32} {mf_sunk : Nat → Int32} {mf_times : Nat → Int32} {mf_whoBore : Nat → Int32} {mx_t_day : Int32} {mx_t_reason : Int32} {mx_t_asked : Int32} (a1 : Int32) (hI : INV xf_port_may xf_port_voyage xf_port_luck xf_port_rank xf_port_worth xf_firstImage_may xf_firstImage_voyage xf_firstImage_luck xf_firstImage_rank xf_firstImage_worth xf_secondImage_may xf_secondImage_voyage xf_secondImage_luck xf_secondImage_rank xf_secondImage_worth xx_t_keptImages xf_pad_signs xx_pad_count mf_may mf_voyage mf_lucky mf_ranks mf_worths mx_t_signs mf_pad mf_image mf_isKept) : ∃ (r : Int32) (xf_pad_days' : Nat → Int32) (xf_pad_hulls' : Nat → Int32) (xf_pad_kinds' : Nat → Int32) (xf_pad_names' : Nat → Int32) (xf_sea_homes' : Nat → Int32) (xf_sea_hullOf' : Nat → Int32) (xf_sea_nameOf' : Nat → Int32) (xf_sea_taker' : Nat → Int32) (xf_sea_turn' : Nat → Int32) (xx_pad_awaited' : Int32) (xx_pad_gaps' : Int32) (xx_pad_lastDay' : Int32) (xx_pad_parts' : Int32) (xx_sea_day' : Int32) (xx_tale_gapsMet' : Int32) (xx_tale_seen' : Int32) (xx_tale_why' : Int32) (mf_bears' : Nat → Int32) (mf_borneBy' : Nat → Int32) (mf_due' : Nat → Int32) (mf_gone' : Nat → Int32) (mf_sunk' : Nat → Int32) (mf_times' : Nat → Int32) (mf_whoBore' : Nat → Int32) (mx_t_day' : Int32) (mx_t_reason' : Int32), m_X7_judge xf_pad_signs xf_port_may xf_tale_written xx_pad_count xx_tale_askedName xx_tale_askedDay xf_pad_days xf_pad_hulls xf_pad_kinds xf_pad_names xf_sea_homes xf_sea_hullOf xf_sea_nameOf xf_sea_taker xf_sea_turn xx_pad_awaited xx_pad_gaps xx_pad_lastDay xx_pad_parts xx_sea_day xx_tale_gapsMet xx_tale_seen xx_tale_why a1 = some (r, (xf_pad_days', xf_pad_hulls', xf_pad_kinds', xf_pad_names', xf_sea_homes', xf_sea_hullOf', xf_sea_nameOf', xf_sea_taker', xf_sea_turn', xx_pad_awaited', xx_pad_gaps', xx_pad_lastDay', xx_pad_parts', xx_sea_day', xx_tale_gapsMet', xx_tale_seen', xx_tale_why')) ∧ m_X8_judge mf_may mf_pad mx_t_signs mx_t_asked mf_bears mf_borneBy mf_due mf_gone mf_sunk mf_times mf_whoBore mx_t_day mx_t_reason a1 = some (r, (mf_bears', mf_borneBy', mf_due', mf_gone', mf_sunk', mf_times', mf_whoBore', mx_t_day', mx_t_reason')) ∧ INV xf_port_may xf_port_voyage xf_port_luck xf_port_rank xf_port_worth xf_firstImage_may xf_firstImage_voyage xf_firstImage_luck xf_firstImage_rank xf_firstImage_worth xf_secondImage_may xf_secondImage_voyage xf_secondImage_luck xf_secondImage_rank xf_secondImage_worth xx_t_keptImages xf_pad_signs xx_pad_count mf_may mf_voyage mf_lucky mf_ranks mf_worths mx_t_signs mf_pad mf_image mf_isKept := by
  obtain ⟨hP, hE, hKp, hC, hS⟩ := hI
  suffices hz : ∃ r, (m_X7_judge xf_pad_signs xf_port_may xf_tale_written xx_pad_count xx_tale_askedName xx_tale_askedDay xf_pad_days xf_pad_hulls xf_pad_kinds xf_pad_names xf_sea_homes xf_sea_hullOf xf_sea_nameOf xf_sea_taker xf_sea_turn xx_pad_awaited xx_pad_gaps xx_pad_lastDay xx_pad_parts xx_sea_day xx_tale_gapsMet xx_tale_seen xx_tale_why a1).map Prod.fst = some r ∧ (m_X8_judge mf_may mf_pad mx_t_signs mx_t_asked mf_bears mf_borneBy mf_due mf_gone mf_sunk mf_times mf_whoBore mx_t_day mx_t_reason a1).map Prod.fst = some r by
    obtain ⟨r, h1, h2⟩ := hz
    obtain ⟨⟨xf_pad_days', xf_pad_hulls', xf_pad_kinds', xf_pad_names', xf_sea_homes', xf_sea_hullOf', xf_sea_nameOf', xf_sea_taker', xf_sea_turn', xx_pad_awaited', xx_pad_gaps', xx_pad_lastDay', xx_pad_parts', xx_sea_day', xx_tale_gapsMet', xx_tale_seen', xx_tale_why'⟩, h1⟩ := map_fst h1
    obtain ⟨⟨mf_bears', mf_borneBy', mf_due', mf_gone', mf_sunk', mf_times', mf_whoBore', mx_t_day', mx_t_reason'⟩, h2⟩ := map_fst h2
    exact ⟨r, xf_pad_days', xf_pad_hulls', xf_pad_kinds', xf_pad_names', xf_sea_homes', xf_sea_hullOf', xf_sea_nameOf', xf_sea_taker', xf_sea_turn', xx_pad_awaited', xx_pad_gaps', xx_pad_lastDay', xx_pad_parts', xx_sea_day', xx_tale_gapsMet', xx_tale_seen', xx_tale_why', mf_bears', mf_borneBy', mf_due', mf_gone', mf_sunk', mf_times', mf_whoBore', mx_t_day', mx_t_reason', h1, h2, hP, hE, hKp, hC, hS⟩
  obtain ⟨c, hc, rfl, rfl⟩ := hC
  rcases with_cases a1 1 (by omega) with ⟨t, ht, rfl, hw⟩ | ⟨hw, -⟩
  · have hw7 : m_X7_isWithin (nI t) 0 1 = some 1 := hw
    have hw8 : m_X8_in (nI t) 0 1 = some 1 := hw
    have i1 : ¬ (1 : Int32) = 0 := by decide
    obtain ⟨r0, b1, b2, b3, b4, b5, b6, b7, b8, e1, e2, e3⟩ := read_all hc hS xf_pad_days xf_pad_hulls xf_pad_kinds xf_pad_names xx_pad_awaited xx_pad_gaps xx_pad_lastDay xx_pad_parts
    unfold m_X7_judge m_X8_judge
    rw [hw7, hw8, ogb_some, ogb_some, if_neg i1, if_neg i1, e1, e2, ogb_some, ogb_some]
    rcases e3 with ⟨rfl, P, rfl, rfl, hG, rfl, hPI⟩ | ⟨q, hq, rfl⟩
    · have n6 : (-6 : Int32) < 0 := by decide
      rw [if_pos rfl, if_pos n6, opens_N hc hS, ogb_some]
      by_cases g0 : cnt xf_pad_signs 63 c = 0
      · obtain ⟨r, x1, x2, x3, x4, x5, x6, x7, x8, x9, x10, x11, x12, s1, s2, s3, d2, g2, t1, t2, t3⟩ := tell_go (C := 0) (wr := xf_tale_written) (aN := xx_tale_askedName) (aD := xx_tale_askedDay) (ak := mx_t_asked) HK_no hc hS hPI hG hE.1 (by omega) (fun g hg => absurd hg (by omega)) xf_sea_nameOf xf_sea_hullOf xf_sea_homes xf_sea_turn xf_sea_taker mf_bears mf_borneBy mf_due mf_gone mf_sunk mf_times mf_whoBore xx_tale_gapsMet xx_tale_seen xx_tale_why xx_sea_day mx_t_day mx_t_reason
        have z0 : nI 0 = 0 := rfl
        rw [z0] at t2
        rw [if_pos ((zG (by omega)).mpr g0), if_pos ((zG (by omega)).mpr g0), t1, t2, ogb_some, ogb_some]
        rcases t3 with ⟨rfl, -⟩ | ⟨q, hq, rfl, rfl, -⟩
        · exact ⟨-6, by rw [if_pos rfl]; rfl, by rw [if_pos n6]; rfl⟩
        · have hP48 : P ≤ 48 := by have := hPI.2.1; omega
          rw [if_neg (nI_n6 (by omega)), if_neg (nn0 (by omega))]
          by_cases hz : nI t = 0
          · rw [if_pos hz, if_pos hz]; exact ⟨_, rfl, rfl⟩
          · rw [if_neg hz, if_neg hz]; exact ⟨_, rfl, rfl⟩
      · rw [if_neg (fun h => g0 ((zG (by omega)).mp h)), if_neg (fun h => g0 ((zG (by omega)).mp h))]
        exact ⟨-3, rfl, rfl⟩
    · rw [if_neg (nI_n6 (by omega)), if_neg (nn0 (by omega))]
      exact ⟨-5, rfl, rfl⟩
  · have hw7 : m_X7_isWithin a1 0 1 = some 0 := hw
    have hw8 : m_X8_in a1 0 1 = some 0 := hw
    unfold m_X7_judge m_X8_judge
    rw [hw7, hw8, ogb_some, ogb_some, if_pos rfl, if_pos rfl]
    exact ⟨-2, rfl, rfl⟩
set_option maxHeartbeats 4000000 in
theorem step_who {xf_port_may : Nat → Int32} {xf_port_voyage : Nat → Int32} {xf_port_luck : Nat → Int32} {xf_port_rank : Nat → Int32} {xf_port_worth : Nat → Int32} {xf_firstImage_may : Nat → Int32} {xf_firstImage_voyage : Nat → Int32} {xf_firstImage_luck : Nat → Int32} {xf_firstImage_rank : Nat → Int32} {xf_firstImage_worth : Nat → Int32} {xf_secondImage_may : Nat → Int32} {xf_secondImage_voyage : Nat → Int32} {xf_secondImage_luck : Nat → Int32} {xf_secondImage_rank : Nat → Int32} {xf_secondImage_worth : Nat → Int32} {xx_t_keptImages : Int32} {xf_pad_signs : Nat → Int32} {xx_pad_count : Int32} {mf_may : Nat → Int32} {mf_voyage : Nat → Int32} {mf_lucky : Nat → Int32} {mf_ranks : Nat → Int32} {mf_worths : Nat → Int32} {mx_t_signs : Int32} {mf_pad : Nat → Int32} {mf_image : Nat → Int32} {mf_isKept : Nat → Int32} {xf_pad_days : Nat → Int32} {xf_pad_hulls : Nat → Int32} {xf_pad_kinds : Nat → Int32} {xf_pad_names : Nat → Int32} {xf_sea_homes : Nat → Int32} {xf_sea_hullOf : Nat → Int32} {xf_sea_nameOf : Nat → Int32} {xf_sea_taker : Nat → Int32} {xf_sea_turn : Nat → Int32} {xf_tale_written : Nat → Int32} {xx_pad_awaited : Int32} {xx_pad_parts : Int32} {xx_pad_gaps : Int32} {xx_pad_lastDay : Int32} {xx_sea_day : Int32} {xx_tale_gapsMet : Int32} {xx_tale_askedName : Int32} {xx_tale_askedDay : Int32} {xx_tale_why : Int32} {xx_tale_seen : Int32} {mf_bears : Nat → Int32} {mf_borneBy : Nat → Int32} {mf_due : Nat → Int32} {mf_gone : Nat → Int32} {mf_sunk : Nat → Int32} {mf_times : Nat → Int32} {mf_whoBore : Nat → Int32} {mx_t_day : Int32} {mx_t_reason : Int32} {mx_t_asked : Int32} (a1 : Int32) (a2 : Int32) (hI : INV xf_port_may xf_port_voyage xf_port_luck xf_port_rank xf_port_worth xf_firstImage_may xf_firstImage_voyage xf_firstImage_luck xf_firstImage_rank xf_firstImage_worth xf_secondImage_may xf_secondImage_voyage xf_secondImage_luck xf_secondImage_rank xf_secondImage_worth xx_t_keptImages xf_pad_signs xx_pad_count mf_may mf_voyage mf_lucky mf_ranks mf_worths mx_t_signs mf_pad mf_image mf_isKept) : ∃ (r : Int32) (xf_pad_days' : Nat → Int32) (xf_pad_hulls' : Nat → Int32) (xf_pad_kinds' : Nat → Int32) (xf_pad_names' : Nat → Int32) (xf_sea_homes' : Nat → Int32) (xf_sea_hullOf' : Nat → Int32) (xf_sea_nameOf' : Nat → Int32) (xf_sea_taker' : Nat → Int32) (xf_sea_turn' : Nat → Int32) (xx_pad_awaited' : Int32) (xx_pad_gaps' : Int32) (xx_pad_lastDay' : Int32) (xx_pad_parts' : Int32) (xx_sea_day' : Int32) (xx_tale_askedDay' : Int32) (xx_tale_askedName' : Int32) (xx_tale_gapsMet' : Int32) (xx_tale_seen' : Int32) (xx_tale_why' : Int32) (mf_bears' : Nat → Int32) (mf_borneBy' : Nat → Int32) (mf_due' : Nat → Int32) (mf_gone' : Nat → Int32) (mf_sunk' : Nat → Int32) (mf_times' : Nat → Int32) (mf_whoBore' : Nat → Int32) (mx_t_asked' : Int32) (mx_t_day' : Int32) (mx_t_reason' : Int32), m_X7_who xf_pad_signs xf_port_may xf_tale_written xx_pad_count xf_pad_days xf_pad_hulls xf_pad_kinds xf_pad_names xf_sea_homes xf_sea_hullOf xf_sea_nameOf xf_sea_taker xf_sea_turn xx_pad_awaited xx_pad_gaps xx_pad_lastDay xx_pad_parts xx_sea_day xx_tale_askedDay xx_tale_askedName xx_tale_gapsMet xx_tale_seen xx_tale_why a1 a2 = some (r, (xf_pad_days', xf_pad_hulls', xf_pad_kinds', xf_pad_names', xf_sea_homes', xf_sea_hullOf', xf_sea_nameOf', xf_sea_taker', xf_sea_turn', xx_pad_awaited', xx_pad_gaps', xx_pad_lastDay', xx_pad_parts', xx_sea_day', xx_tale_askedDay', xx_tale_askedName', xx_tale_gapsMet', xx_tale_seen', xx_tale_why')) ∧ m_X8_who mf_may mf_pad mx_t_signs mf_bears mf_borneBy mf_due mf_gone mf_sunk mf_times mf_whoBore mx_t_asked mx_t_day mx_t_reason a1 a2 = some (r, (mf_bears', mf_borneBy', mf_due', mf_gone', mf_sunk', mf_times', mf_whoBore', mx_t_asked', mx_t_day', mx_t_reason')) ∧ INV xf_port_may xf_port_voyage xf_port_luck xf_port_rank xf_port_worth xf_firstImage_may xf_firstImage_voyage xf_firstImage_luck xf_firstImage_rank xf_firstImage_worth xf_secondImage_may xf_secondImage_voyage xf_secondImage_luck xf_secondImage_rank xf_secondImage_worth xx_t_keptImages xf_pad_signs xx_pad_count mf_may mf_voyage mf_lucky mf_ranks mf_worths mx_t_signs mf_pad mf_image mf_isKept := by
  obtain ⟨hP, hE, hKp, hC, hS⟩ := hI
  suffices hz : ∃ r, (m_X7_who xf_pad_signs xf_port_may xf_tale_written xx_pad_count xf_pad_days xf_pad_hulls xf_pad_kinds xf_pad_names xf_sea_homes xf_sea_hullOf xf_sea_nameOf xf_sea_taker xf_sea_turn xx_pad_awaited xx_pad_gaps xx_pad_lastDay xx_pad_parts xx_sea_day xx_tale_askedDay xx_tale_askedName xx_tale_gapsMet xx_tale_seen xx_tale_why a1 a2).map Prod.fst = some r ∧ (m_X8_who mf_may mf_pad mx_t_signs mf_bears mf_borneBy mf_due mf_gone mf_sunk mf_times mf_whoBore mx_t_asked mx_t_day mx_t_reason a1 a2).map Prod.fst = some r by
    obtain ⟨r, h1, h2⟩ := hz
    obtain ⟨⟨xf_pad_days', xf_pad_hulls', xf_pad_kinds', xf_pad_names', xf_sea_homes', xf_sea_hullOf', xf_sea_nameOf', xf_sea_taker', xf_sea_turn', xx_pad_awaited', xx_pad_gaps', xx_pad_lastDay', xx_pad_parts', xx_sea_day', xx_tale_askedDay', xx_tale_askedName', xx_tale_gapsMet', xx_tale_seen', xx_tale_why'⟩, h1⟩ := map_fst h1
    obtain ⟨⟨mf_bears', mf_borneBy', mf_due', mf_gone', mf_sunk', mf_times', mf_whoBore', mx_t_asked', mx_t_day', mx_t_reason'⟩, h2⟩ := map_fst h2
    exact ⟨r, xf_pad_days', xf_pad_hulls', xf_pad_kinds', xf_pad_names', xf_sea_homes', xf_sea_hullOf', xf_sea_nameOf', xf_sea_taker', xf_sea_turn', xx_pad_awaited', xx_pad_gaps', xx_pad_lastDay', xx_pad_parts', xx_sea_day', xx_tale_askedDay', xx_tale_askedName', xx_tale_gapsMet', xx_tale_seen', xx_tale_why', mf_bears', mf_borneBy', mf_due', mf_gone', mf_sunk', mf_times', mf_whoBore', mx_t_asked', mx_t_day', mx_t_reason', h1, h2, hP, hE, hKp, hC, hS⟩
  obtain ⟨c, hc, rfl, rfl⟩ := hC
  have refused : ∀ (r : Int32), ¬ r = 0 → (m_X7_refusalOf xf_pad_signs (nI c) xf_pad_days xf_pad_hulls xf_pad_kinds xf_pad_names xx_pad_awaited xx_pad_gaps xx_pad_lastDay xx_pad_parts a1 a2).map Prod.fst = some r → (m_X7_who xf_pad_signs xf_port_may xf_tale_written (nI c) xf_pad_days xf_pad_hulls xf_pad_kinds xf_pad_names xf_sea_homes xf_sea_hullOf xf_sea_nameOf xf_sea_taker xf_sea_turn xx_pad_awaited xx_pad_gaps xx_pad_lastDay xx_pad_parts xx_sea_day xx_tale_askedDay xx_tale_askedName xx_tale_gapsMet xx_tale_seen xx_tale_why a1 a2).map Prod.fst = some r := by
    intro r hr hs
    obtain ⟨s, hs⟩ := map_fst hs
    unfold m_X7_who
    rw [hs, ogb_some, if_neg hr]
    rfl
  rcases isName_cases a1 with ⟨nm, hnm, rfl, h7, h8⟩ | ⟨h7, h8, -⟩
  · have i1 : ¬ (1 : Int32) = 0 := by decide
    by_cases hd0 : (0 : Int32) ≤ a2
    · have hd1 : ¬ a2 < 0 := by
        rw [Int32.lt_iff_toInt_lt]; rw [Int32.le_iff_toInt_le] at hd0; omega
      obtain ⟨a, ha, rfl⟩ := nI_of hd1
      obtain ⟨r0, b1, b2, b3, b4, b5, b6, b7, b8, e1, e2, e3⟩ := read_all hc hS xf_pad_days xf_pad_hulls xf_pad_kinds xf_pad_names xx_pad_awaited xx_pad_gaps xx_pad_lastDay xx_pad_parts
      rcases e3 with ⟨rfl, P, rfl, rfl, hG, rfl, hPI⟩ | ⟨q, hq, rfl⟩
      · have n6 : (-6 : Int32) < 0 := by decide
        have cl46 := cnt_le xf_pad_signs 46 c
        by_cases hl : a ≤ cnt xf_pad_signs 46 c
        · have hl2 : nI a ≤ nI (cnt xf_pad_signs 46 c) := by rw [nI_leI ha (by omega)]; exact hl
          have ref : m_X7_refusalOf xf_pad_signs (nI c) xf_pad_days xf_pad_hulls xf_pad_kinds xf_pad_names xx_pad_awaited xx_pad_gaps xx_pad_lastDay xx_pad_parts (nI nm) (nI a) = some (0, b1, b2, b3, b4, b5, nI (cnt xf_pad_signs 63 c), nI (cnt xf_pad_signs 46 c), nI P) := by
            unfold m_X7_refusalOf
            rw [h7, ogb_some, if_neg i1, if_pos hd0, e1, ogb_some, if_pos rfl, if_pos hl2]
          unfold m_X7_who m_X8_who
          rw [ref, ogb_some, if_pos rfl, h8, ogb_some, if_neg i1, if_pos hd0, e2, ogb_some, if_pos n6, last_N hc hS, ogb_some, if_pos hl2, opens_N hc hS, ogb_some]
          by_cases g0 : cnt xf_pad_signs 63 c = 0
          · have ask : m_X6_ask xx_tale_askedDay xx_tale_askedName (nI nm) (nI a) = some (nI a, nI nm) := rfl
            obtain ⟨r, x1, x2, x3, x4, x5, x6, x7, x8, x9, x10, x11, x12, s1, s2, s3, d2, g2, t1, t2, t3⟩ := tell_go (K := True) (a := a) (nm := nm) (C := 0) (wr := xf_tale_written) (aN := nI nm) (aD := nI a) (ak := nI a) (fun _ => ⟨rfl, rfl, rfl, hnm, by omega⟩) hc hS hPI hG hE.1 (by omega) (fun g hg => absurd hg (by omega)) xf_sea_nameOf xf_sea_hullOf xf_sea_homes xf_sea_turn xf_sea_taker mf_bears mf_borneBy mf_due mf_gone mf_sunk mf_times mf_whoBore xx_tale_gapsMet xx_tale_seen xx_tale_why xx_sea_day mx_t_day mx_t_reason
            have z0 : nI 0 = 0 := rfl
            rw [z0] at t2
            rw [if_pos ((zG (by omega)).mpr g0), ask, ogb_some, t1, ogb_some, if_neg (fun h => (zG2 (by omega)).mp h g0), t2, ogb_some]
            rcases t3 with ⟨rfl, -, hd2, -, hw⟩ | ⟨q, hq, rfl, -, -⟩
            · rw [if_pos rfl, if_pos n6, ogi_N hnm (by omega), cl_N (by omega)]
              exact ⟨s1, rfl, by rw [(hw trivial (by omega)).1]; rfl⟩
            · have hP48 : P ≤ 48 := by have := hPI.2.1; omega
              rw [if_neg (nI_n6 (by omega)), if_neg (nn0 (by omega))]
              exact ⟨-3, rfl, rfl⟩
          · rw [if_neg (fun h => g0 ((zG (by omega)).mp h)), if_pos ((zG2 (by omega)).mpr g0)]
            exact ⟨-3, rfl, rfl⟩
        · have hl2 : ¬ nI a ≤ nI (cnt xf_pad_signs 46 c) := by rw [nI_leI ha (by omega)]; exact hl
          refine ⟨-1, refused (-1) (by decide) ?_, ?_⟩
          · unfold m_X7_refusalOf
            rw [h7, ogb_some, if_neg i1, if_pos hd0, e1, ogb_some, if_pos rfl, if_neg hl2]
            rfl
          · unfold m_X8_who
            rw [h8, ogb_some, if_neg i1, if_pos hd0, e2, ogb_some, if_pos n6, last_N hc hS, ogb_some, if_neg hl2]
            rfl
      · refine ⟨-5, refused (-5) (by decide) ?_, ?_⟩
        · unfold m_X7_refusalOf
          rw [h7, ogb_some, if_neg i1, if_pos hd0, e1, ogb_some, if_neg (nI_n6 (by omega))]
          rfl
        · unfold m_X8_who
          rw [h8, ogb_some, if_neg i1, if_pos hd0, e2, ogb_some, if_neg (nn0 (by omega))]
          rfl
    · refine ⟨-1, refused (-1) (by decide) ?_, ?_⟩
      · unfold m_X7_refusalOf
        rw [h7, ogb_some, if_neg i1, if_neg hd0]
        rfl
      · unfold m_X8_who
        rw [h8, ogb_some, if_neg i1, if_neg hd0]
        rfl
  · refine ⟨-1, refused (-1) (by decide) ?_, ?_⟩
    · unfold m_X7_refusalOf
      rw [h7, ogb_some, if_pos rfl]
      rfl
    · unfold m_X8_who
      rw [h8, ogb_some, if_pos rfl]
      rfl
