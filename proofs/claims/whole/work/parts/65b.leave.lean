set_option maxHeartbeats 4000000 in
theorem step_leave {xf_port_may : Nat → Int32} {xf_port_voyage : Nat → Int32} {xf_port_luck : Nat → Int32} {xf_port_rank : Nat → Int32} {xf_port_worth : Nat → Int32} {xf_firstImage_may : Nat → Int32} {xf_firstImage_voyage : Nat → Int32} {xf_firstImage_luck : Nat → Int32} {xf_firstImage_rank : Nat → Int32} {xf_firstImage_worth : Nat → Int32} {xf_secondImage_may : Nat → Int32} {xf_secondImage_voyage : Nat → Int32} {xf_secondImage_luck : Nat → Int32} {xf_secondImage_rank : Nat → Int32} {xf_secondImage_worth : Nat → Int32} {xx_t_keptImages : Int32} {xf_pad_signs : Nat → Int32} {xx_pad_count : Int32} {mf_may : Nat → Int32} {mf_voyage : Nat → Int32} {mf_lucky : Nat → Int32} {mf_ranks : Nat → Int32} {mf_worths : Nat → Int32} {mx_t_signs : Int32} {mf_pad : Nat → Int32} {mf_image : Nat → Int32} {mf_isKept : Nat → Int32} {xf_givings_choice : Nat → Int32} {xf_givings_hullOf : Nat → Int32} {xf_givings_nameOf : Nat → Int32} {mf_gives : Nat → Int32} (a1 : Int32) (a2 : Int32) (a3 : Int32) (a4 : Int32) (hI : INV xf_port_may xf_port_voyage xf_port_luck xf_port_rank xf_port_worth xf_firstImage_may xf_firstImage_voyage xf_firstImage_luck xf_firstImage_rank xf_firstImage_worth xf_secondImage_may xf_secondImage_voyage xf_secondImage_luck xf_secondImage_rank xf_secondImage_worth xx_t_keptImages xf_pad_signs xx_pad_count mf_may mf_voyage mf_lucky mf_ranks mf_worths mx_t_signs mf_pad mf_image mf_isKept) : ∃ (r : Int32) (xf_givings_choice' : Nat → Int32) (xf_givings_hullOf' : Nat → Int32) (xf_givings_nameOf' : Nat → Int32) (mf_gives' : Nat → Int32), m_X7_leave xf_port_may xf_port_rank xf_port_worth xf_givings_choice xf_givings_hullOf xf_givings_nameOf a1 a2 a3 a4 = some (r, (xf_givings_choice', xf_givings_hullOf', xf_givings_nameOf')) ∧ m_X8_leave mf_may mf_ranks mf_worths mf_gives a1 a2 a3 a4 = some (r, mf_gives') ∧ INV xf_port_may xf_port_voyage xf_port_luck xf_port_rank xf_port_worth xf_firstImage_may xf_firstImage_voyage xf_firstImage_luck xf_firstImage_rank xf_firstImage_worth xf_secondImage_may xf_secondImage_voyage xf_secondImage_luck xf_secondImage_rank xf_secondImage_worth xx_t_keptImages xf_pad_signs xx_pad_count mf_may mf_voyage mf_lucky mf_ranks mf_worths mx_t_signs mf_pad mf_image mf_isKept := by
  obtain ⟨hP, hE, hKp, hC, hS⟩ := hI
  suffices hz : ∃ r, (m_X7_leave xf_port_may xf_port_rank xf_port_worth xf_givings_choice xf_givings_hullOf xf_givings_nameOf a1 a2 a3 a4).map Prod.fst = some r ∧ (m_X8_leave mf_may mf_ranks mf_worths mf_gives a1 a2 a3 a4).map Prod.fst = some r by
    obtain ⟨r, h1, h2⟩ := hz
    obtain ⟨⟨xf_givings_choice', xf_givings_hullOf', xf_givings_nameOf'⟩, h1⟩ := map_fst h1
    obtain ⟨mf_gives', h2⟩ := map_fst h2
    exact ⟨r, xf_givings_choice', xf_givings_hullOf', xf_givings_nameOf', mf_gives', h1, h2, hP, hE, hKp, hC, hS⟩
  obtain ⟨c, hc, rfl, rfl⟩ := hC
  have i1 : ¬ (1 : Int32) = 0 := by decide
  unfold m_X7_leave m_X8_leave
  rcases bits_cases a1 a2 with ⟨H, N, hH, hN, rfl, rfl, b7, b8⟩ | ⟨b7, b8⟩
  · rw [b7, b8, ogb_some, ogb_some, if_neg i1, if_neg i1, in_eq]
    rcases with_cases a4 1 (by omega) with ⟨t, ht, rfl, hw⟩ | ⟨hw, -⟩
    · have hw7 : m_X7_isWithin (nI t) 0 1 = some 1 := hw
      rw [hw7, ogb_some, ogb_some, if_neg i1, if_neg i1, open_N hP.1 hH hN, ogb_some]
      have hA : ∀ j, j < 6 → prg (fun j => nI (chz xf_port_may H N j)) xf_givings_choice 6 j = nI (chz xf_port_may H N j) := fun j hj => prg_lt hj
      have hL : ∀ j, j < 6 → chz xf_port_may H N j < 32 := fun j hj => chz_lt hP.1 hj
      have no : ∀ (s : (Nat → Int32) × (Nat → Int32)) (g : Nat → Int32), m_X1_takes (prg (fun j => nI (chz xf_port_may H N j)) xf_givings_choice 6) (cst (-6) 5 xf_givings_hullOf) (cst (-6) 6 xf_givings_nameOf) a3 = some (0, s) → m_X8_layNumber mf_may mf_gives a3 (nI H) (nI N) = some (0, g) → ∃ r, (ogb (m_X1_takes (prg (fun j => nI (chz xf_port_may H N j)) xf_givings_choice 6) (cst (-6) 5 xf_givings_hullOf) (cst (-6) 6 xf_givings_nameOf) a3) (fun q_35 => if q_35.1 = 0 then (some ((-3), (prg (fun j => nI (chz xf_port_may H N j)) xf_givings_choice 6, q_35.2.1, q_35.2.2))) else (ogb (m_X1_firstPair (prg (fun j => nI (chz xf_port_may H N j)) xf_givings_choice 6) q_35.2.1 q_35.2.2 xf_port_rank xf_port_worth) (fun q_48 => if q_48 = (-6) then (some ((-6), (prg (fun j => nI (chz xf_port_may H N j)) xf_givings_choice 6, q_35.2.1, q_35.2.2))) else (if nI t = 0 then (some ((q_48 / 5), (prg (fun j => nI (chz xf_port_may H N j)) xf_givings_choice 6, q_35.2.1, q_35.2.2))) else (some ((q_48 - q_48 / 5 * 5), (prg (fun j => nI (chz xf_port_may H N j)) xf_givings_choice 6, q_35.2.1, q_35.2.2)))))))).map Prod.fst = some r ∧ (ogb (m_X8_layNumber mf_may mf_gives a3 (nI H) (nI N)) (fun q_25 => if q_25.1 = 0 then (some ((-3), q_25.2)) else ((m_X8_leave_37 mf_may mf_ranks mf_worths 1000000 (nI H) (nI N) (nI t) 0 q_25.2)))).map Prod.fst = some r := by
        intro s g e1 e2
        rw [e1, e2, ogb_some, ogb_some, if_pos rfl, if_pos rfl]
        exact ⟨-3, rfl, rfl⟩
      rcases num_N hP.1 hE.1 hH hN mf_gives a3 with ⟨-, g, rfl, hg, hD, e8⟩ | ⟨hn, e8⟩
      · have h5 := (dok_all g 6).mp hD
        have hc := (cd_dg h5).2
        have wn : m_X7_isWithin (nI g) 0 999999 = some 1 := by
          unfold m_X7_isWithin
          have e9 : (999999 : Int32) = nI 999999 := rfl
          rw [if_neg (nI_pos (by omega)), if_neg (by rw [e9, nI_ltI (by omega) (by omega)]; omega)]
        have tk := tk_run hA hL hg h5 hc 6 0 (by omega) 1000000 (by omega) 5 (by decide) (cst (-6) 5 xf_givings_hullOf) (cst (-6) 6 xf_givings_nameOf) rfl ⟨fun j hj => by rw [cst_lt hj, if_neg (by omega)], fun n hn => cst_lt hn⟩
        rw [Nat.pow_zero, Nat.div_one] at tk
        have tk7 : m_X1_takes (prg (fun j => nI (chz xf_port_may H N j)) xf_givings_choice 6) (cst (-6) 5 xf_givings_hullOf) (cst (-6) 6 xf_givings_nameOf) (nI g) = m_X1_takes_16 (prg (fun j => nI (chz xf_port_may H N j)) xf_givings_choice 6) 1000000 (nI g) 5 (cst (-6) 5 xf_givings_hullOf) (cst (-6) 6 xf_givings_nameOf) := by
          unfold m_X1_takes
          rw [wn, ogb_some, if_neg i1]
        rcases tk with ⟨ok, hO', nO', tk, G1, G2⟩ | ⟨ok, s, tk⟩
        · rw [ok] at e8
          have BB : BOTH xf_port_may mf_may xf_port_rank mf_ranks xf_port_worth mf_worths (prg (fun j => nI (chz xf_port_may H N j)) xf_givings_choice 6) hO' nO' (gz (cdN g 6) 6 mf_gives) H N (cdN g 6) := ⟨hP.1, hE.1, hP.2.2.2.2, hE.2.2.2.2, hP.2.2.2.1, hE.2.2.2.1, hH, hN, hA, fun j hj => by rw [G1 j hj, if_pos (by omega)], G2, fun j hj => gz_at hj _, ok⟩
          rw [tk7, tk, e8, ogb_some, ogb_some, if_neg i1, if_neg (show ¬ flg2 true = 0 by decide)]
          rcases pair_out BB (nI t) 6 0 (by omega) 1000000 1000000 (by omega) (by omega) with ⟨h0, n0, hh0, hn0, p1, p2⟩ | ⟨p1, p2⟩
          · have p1' : m_X1_firstPair (prg (fun j => nI (chz xf_port_may H N j)) xf_givings_choice 6) hO' nO' xf_port_rank xf_port_worth = some (nI (h0 * 5 + n0)) := p1
            have p2' : m_X8_leave_37 mf_may mf_ranks mf_worths 1000000 (nI H) (nI N) (nI t) 0 (gz (cdN g 6) 6 mf_gives) = some ((if nI t = 0 then nI h0 else nI n0), gz (cdN g 6) 6 mf_gives) := p2
            rw [p1', p2', ogb_some, if_neg (nI_n6 (by omega)), l5, pk_div (by omega) (by omega) (by omega), pk_mul, pk_sub (by omega), show (h0 * 5 + n0) / 5 = h0 by omega, show h0 * 5 + n0 - h0 * 5 = n0 by omega]
            refine ⟨if nI t = 0 then nI h0 else nI n0, ?_, rfl⟩
            by_cases z : nI t = 0
            · rw [if_pos z, if_pos z]; rfl
            · rw [if_neg z, if_neg z]; rfl
          · have p1' : m_X1_firstPair (prg (fun j => nI (chz xf_port_may H N j)) xf_givings_choice 6) hO' nO' xf_port_rank xf_port_worth = some (-6) := p1
            have p2' : m_X8_leave_37 mf_may mf_ranks mf_worths 1000000 (nI H) (nI N) (nI t) 0 (gz (cdN g 6) 6 mf_gives) = some (-6, gz (cdN g 6) 6 mf_gives) := p2
            rw [p1', p2', ogb_some, if_pos rfl]
            exact ⟨-6, rfl, rfl⟩
        · rw [ok] at e8
          exact no s _ (tk7.trans tk) e8
      · have e7 : ∃ s, m_X1_takes (prg (fun j => nI (chz xf_port_may H N j)) xf_givings_choice 6) (cst (-6) 5 xf_givings_hullOf) (cst (-6) 6 xf_givings_nameOf) a3 = some (0, s) := by
          unfold m_X1_takes
          rcases with_cases a3 999999 (by omega) with ⟨g, hg, rfl, wn⟩ | ⟨wn, -⟩
          · have wn7 : m_X7_isWithin (nI g) 0 999999 = some 1 := wn
            rw [wn7, ogb_some, if_neg i1]
            have nd : ¬ dok g 6 = true := fun h => hn ⟨g, by omega, rfl, h⟩
            have : ∃ k0, k0 < 6 ∧ 5 < dig g k0 := by
              rcases Classical.em (∃ k0, k0 < 6 ∧ 5 < dig g k0) with h | h
              · exact h
              · exact absurd ((dok_all g 6).mpr (fun j hj => Nat.le_of_not_lt (fun hl => h ⟨j, hj, hl⟩))) nd
            obtain ⟨k0, hk0, hb⟩ := this
            have tb := tk_bad hA hL (g := g) (by omega) hk0 hb k0 0 (by omega) 1000000 (by omega) 5 rfl (cst (-6) 5 xf_givings_hullOf) (cst (-6) 6 xf_givings_nameOf)
            rw [Nat.pow_zero, Nat.div_one] at tb
            exact tb
          · have wn7 : m_X7_isWithin a3 0 999999 = some 0 := wn
            rw [wn7, ogb_some, if_pos rfl]
            exact ⟨_, rfl⟩
        obtain ⟨s, e7⟩ := e7
        exact no s _ e7 e8
    · have hw7 : m_X7_isWithin a4 0 1 = some 0 := hw
      rw [hw7, ogb_some, ogb_some, if_pos rfl, if_pos rfl]
      exact ⟨-2, rfl, rfl⟩
  · rw [b7, b8, ogb_some, ogb_some, if_pos rfl, if_pos rfl]
    exact ⟨-2, rfl, rfl⟩
