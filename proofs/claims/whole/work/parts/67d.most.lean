set_option maxHeartbeats 4000000 in
theorem step_most {xf_port_may : Nat → Int32} {xf_port_voyage : Nat → Int32} {xf_port_luck : Nat → Int32} {xf_port_rank : Nat → Int32} {xf_port_worth : Nat → Int32} {xf_firstImage_may : Nat → Int32} {xf_firstImage_voyage : Nat → Int32} {xf_firstImage_luck : Nat → Int32} {xf_firstImage_rank : Nat → Int32} {xf_firstImage_worth : Nat → Int32} {xf_secondImage_may : Nat → Int32} {xf_secondImage_voyage : Nat → Int32} {xf_secondImage_luck : Nat → Int32} {xf_secondImage_rank : Nat → Int32} {xf_secondImage_worth : Nat → Int32} {xx_t_keptImages : Int32} {xf_pad_signs : Nat → Int32} {xx_pad_count : Int32} {mf_may : Nat → Int32} {mf_voyage : Nat → Int32} {mf_lucky : Nat → Int32} {mf_ranks : Nat → Int32} {mf_worths : Nat → Int32} {mx_t_signs : Int32} {mf_pad : Nat → Int32} {mf_image : Nat → Int32} {mf_isKept : Nat → Int32} {xf_givings_best : Nat → Int32} {xf_givings_choice : Nat → Int32} {xf_givings_hullOf : Nat → Int32} {xf_givings_nameOf : Nat → Int32} {mf_best : Nat → Int32} {mf_gives : Nat → Int32} (a1 : Int32) (a2 : Int32) (a3 : Int32) (hI : INV xf_port_may xf_port_voyage xf_port_luck xf_port_rank xf_port_worth xf_firstImage_may xf_firstImage_voyage xf_firstImage_luck xf_firstImage_rank xf_firstImage_worth xf_secondImage_may xf_secondImage_voyage xf_secondImage_luck xf_secondImage_rank xf_secondImage_worth xx_t_keptImages xf_pad_signs xx_pad_count mf_may mf_voyage mf_lucky mf_ranks mf_worths mx_t_signs mf_pad mf_image mf_isKept) (hB : BZ xf_givings_best) : ∃ (r : Int32) (xf_givings_best' : Nat → Int32) (xf_givings_choice' : Nat → Int32) (xf_givings_hullOf' : Nat → Int32) (xf_givings_nameOf' : Nat → Int32) (mf_best' : Nat → Int32) (mf_gives' : Nat → Int32), m_X7_most xf_port_may xf_port_worth xf_givings_best xf_givings_choice xf_givings_hullOf xf_givings_nameOf a1 a2 a3 = some (r, (xf_givings_best', xf_givings_choice', xf_givings_hullOf', xf_givings_nameOf')) ∧ m_X8_most mf_may mf_worths mf_best mf_gives a1 a2 a3 = some (r, (mf_best', mf_gives')) ∧ INV xf_port_may xf_port_voyage xf_port_luck xf_port_rank xf_port_worth xf_firstImage_may xf_firstImage_voyage xf_firstImage_luck xf_firstImage_rank xf_firstImage_worth xf_secondImage_may xf_secondImage_voyage xf_secondImage_luck xf_secondImage_rank xf_secondImage_worth xx_t_keptImages xf_pad_signs xx_pad_count mf_may mf_voyage mf_lucky mf_ranks mf_worths mx_t_signs mf_pad mf_image mf_isKept ∧ BZ xf_givings_best' := by
  obtain ⟨hP, hE, hKp, hC, hS⟩ := hI
  have i1 : ¬ (1 : Int32) = 0 := by decide
  rcases bits_cases a1 a2 with ⟨H, N, hH, hN, rfl, rfl, b7, b8⟩ | ⟨b7, b8⟩
  · have hA : ∀ j, j < 6 → prg (fun j => nI (chz xf_port_may H N j)) xf_givings_choice 6 j = nI (chz xf_port_may H N j) := fun j hj => prg_lt hj
    have hL : ∀ j, j < 6 → chz xf_port_may H N j < 32 := fun j hj => chz_lt hP.1 hj
    have hw := hP.2.2.2.2
    have hEw := hE.2.2.2.2
    have R6 : RWs (chz xf_port_may H N) xf_port_worth xf_givings_best 6 := by
      intro h h1 h2 F hF
      have : h = 6 := by omega
      subst this
      exact hB F hF
    obtain ⟨b', R0, e1⟩ := fm_2 hw hA hL (nI N) (cst (-6) 5 xf_givings_hullOf) (cst (-6) 6 xf_givings_nameOf) 6 (by omega) 1000000 (by omega) 5 (by decide) xf_givings_best R6
    obtain ⟨hO', nO', e2, e3⟩ := fm_49 hw hA hL R0 6 (by omega) N hN 1000000 (by omega) 0 (by decide) (cst (-6) 5 xf_givings_hullOf) (cst (-6) 6 xf_givings_nameOf) (fun i hi _ => cst_lt hi)
    obtain ⟨bst', g', c0, O, hb, e4⟩ := mo_run hP.1 hE.1 hw hEw hH hN a3 46656 0 (by omega) 1000000 (by omega) (-6) 0 mf_best mf_gives (Or.inl ⟨fun c hc => absurd hc (by omega), rfl⟩)
    have ec := opt_grd hN O
    obtain ⟨r, t1, t2⟩ := told_N hw hEw (e := dg c0) (fun j _ => dg_lt c0 j) (f := nO') (f' := bst') (fun j hj => by rw [(e3 j hj).2 (by omega), ec]; rfl) (fun j hj => by rw [hb j hj]; rfl) a3
    have fm : m_X1_findMost (prg (fun j => nI (chz xf_port_may H N j)) xf_givings_choice 6) xf_port_worth xf_givings_best (cst (-6) 5 xf_givings_hullOf) (cst (-6) 6 xf_givings_nameOf) (nI N) = some (b', hO', nO') := e1.trans e2
    have e4' : m_X8_most_21 mf_may mf_worths 1000000 (nI H) (nI N) a3 (-6) 0 0 mf_best mf_gives = some (r, (bst', g')) := by
      refine Eq.trans e4 ?_
      rw [t2, ogb_some]
    refine ⟨r, b', prg (fun j => nI (chz xf_port_may H N j)) xf_givings_choice 6, hO', nO', bst', g', ?_, ?_, ⟨hP, hE, hKp, hC, hS⟩, fun F hF => R0 6 (by omega) (by omega) F hF⟩
    · unfold m_X7_most
      rw [b7, ogb_some, if_neg i1, open_N hP.1 hH hN, ogb_some, fm, ogb_some, t1, ogb_some]
    · unfold m_X8_most
      rw [b8, ogb_some, if_neg i1]
      exact e4'
  · refine ⟨-2, xf_givings_best, xf_givings_choice, xf_givings_hullOf, xf_givings_nameOf, mf_best, mf_gives, ?_, ?_, ⟨hP, hE, hKp, hC, hS⟩, hB⟩
    · unfold m_X7_most; rw [b7, ogb_some, if_pos rfl]
    · unfold m_X8_most; rw [b8, ogb_some, if_pos rfl]
