set_option maxHeartbeats 4000000 in
theorem step_stable {xf_port_may : Nat → Int32} {xf_port_voyage : Nat → Int32} {xf_port_luck : Nat → Int32} {xf_port_rank : Nat → Int32} {xf_port_worth : Nat → Int32} {xf_firstImage_may : Nat → Int32} {xf_firstImage_voyage : Nat → Int32} {xf_firstImage_luck : Nat → Int32} {xf_firstImage_rank : Nat → Int32} {xf_firstImage_worth : Nat → Int32} {xf_secondImage_may : Nat → Int32} {xf_secondImage_voyage : Nat → Int32} {xf_secondImage_luck : Nat → Int32} {xf_secondImage_rank : Nat → Int32} {xf_secondImage_worth : Nat → Int32} {xx_t_keptImages : Int32} {xf_pad_signs : Nat → Int32} {xx_pad_count : Int32} {mf_may : Nat → Int32} {mf_voyage : Nat → Int32} {mf_lucky : Nat → Int32} {mf_ranks : Nat → Int32} {mf_worths : Nat → Int32} {mx_t_signs : Int32} {mf_pad : Nat → Int32} {mf_image : Nat → Int32} {mf_isKept : Nat → Int32} {xf_givings_choice : Nat → Int32} {xf_givings_hullOf : Nat → Int32} {xf_givings_left : Nat → Int32} {xf_givings_nameOf : Nat → Int32} {mf_best : Nat → Int32} {mf_holds : Nat → Int32} {mf_refused : Nat → Int32} (a1 : Int32) (a2 : Int32) (a3 : Int32) (hI : INV xf_port_may xf_port_voyage xf_port_luck xf_port_rank xf_port_worth xf_firstImage_may xf_firstImage_voyage xf_firstImage_luck xf_firstImage_rank xf_firstImage_worth xf_secondImage_may xf_secondImage_voyage xf_secondImage_luck xf_secondImage_rank xf_secondImage_worth xx_t_keptImages xf_pad_signs xx_pad_count mf_may mf_voyage mf_lucky mf_ranks mf_worths mx_t_signs mf_pad mf_image mf_isKept) : ∃ (r : Int32) (xf_givings_choice' : Nat → Int32) (xf_givings_hullOf' : Nat → Int32) (xf_givings_left' : Nat → Int32) (xf_givings_nameOf' : Nat → Int32) (mf_best' : Nat → Int32) (mf_holds' : Nat → Int32) (mf_refused' : Nat → Int32), m_X7_stable xf_port_may xf_port_rank xf_port_worth xf_givings_choice xf_givings_hullOf xf_givings_left xf_givings_nameOf a1 a2 a3 = some (r, (xf_givings_choice', xf_givings_hullOf', xf_givings_left', xf_givings_nameOf')) ∧ m_X8_stable mf_may mf_ranks mf_worths mf_best mf_holds mf_refused a1 a2 a3 = some (r, (mf_best', mf_holds', mf_refused')) ∧ INV xf_port_may xf_port_voyage xf_port_luck xf_port_rank xf_port_worth xf_firstImage_may xf_firstImage_voyage xf_firstImage_luck xf_firstImage_rank xf_firstImage_worth xf_secondImage_may xf_secondImage_voyage xf_secondImage_luck xf_secondImage_rank xf_secondImage_worth xx_t_keptImages xf_pad_signs xx_pad_count mf_may mf_voyage mf_lucky mf_ranks mf_worths mx_t_signs mf_pad mf_image mf_isKept := by
  obtain ⟨hP, hE, hKp, hC, hS⟩ := hI
  have i1 : ¬ (1 : Int32) = 0 := by decide
  rcases bits_cases a1 a2 with ⟨H, N, hH, hN, rfl, rfl, b7, b8⟩ | ⟨b7, b8⟩
  · have hL : ∀ j, j < 6 → chz xf_port_may H N j < 32 := fun j hj => chz_lt hP.1 hj
    have hw := hP.2.2.2.2
    have hEw := hE.2.2.2.2
    have hr := hP.2.2.2.1
    have hEr := hE.2.2.2.1
    have L0 : LFT (chz xf_port_may H N) noz (fun j => if j < 6 then prg (fun j => nI (chz xf_port_may H N j)) xf_givings_choice 6 j else xf_givings_left j) := by
      intro h hh
      refine ⟨chz xf_port_may H N h, hL h hh, ?_, fun n hn => ?_⟩
      · show (if h < 6 then _ else _) = _
        rw [if_pos hh, prg_lt hh]
      · unfold qz noz
        rw [Bool.not_false, Bool.and_true]
    have R0 : RFS noz (cst 0 6 mf_refused) := fun h hh => ⟨0, by omega, cst_lt hh, fun n _ => Nat.zero_testBit n⟩
    obtain ⟨hO1, lf1, nO1, A1, e1, J1, F1, E1⟩ := fs_run (cA := prg (fun j => nI (chz xf_port_may H N j)) xf_givings_choice 6) hw hr hEr 30 0 (by omega) 1000000 (by omega) noz _ _ _ (by omega) (JS_0 (chz xf_port_may H N) xf_port_worth xf_port_rank xf_givings_hullOf xf_givings_nameOf) L0
    obtain ⟨A2, b2, d2, r2, e2, J2, F2, E2⟩ := sb_while hP.1 hE.1 hw hEw hr hEr hH hN a3 30 1000000 (by omega) noz _ _ _ (by omega) (JS_0 (chz xf_port_may H N) xf_port_worth xf_port_rank mf_holds mf_best) R0
    have S1 : SUBz A1 A2 := E1 A2 d2 b2 J2 F2 (fun h n _ _ e => absurd e (by unfold noz; decide))
    have S2 : SUBz A2 A1 := E2 A1 hO1 nO1 J1 F1 (fun h n _ _ e => absurd e (by unfold noz; decide))
    have same := JS_same J1 J2 S1 S2
    obtain ⟨r, t1, t2⟩ := told_N hw hEw (e := enc nO1) (fun j hj => (enc_N J1 hj).1) (f := nO1) (f' := b2) (fun j hj => (enc_N J1 hj).2) (fun j hj => by rw [← same j hj]; exact (enc_N J1 hj).2) a3
    have fs : m_X1_findStable (prg (fun j => nI (chz xf_port_may H N j)) xf_givings_choice 6) xf_port_rank xf_port_worth (cst (-6) 5 xf_givings_hullOf) xf_givings_left (cst (-6) 6 xf_givings_nameOf) = some (hO1, lf1, nO1) := by
      unfold m_X1_findStable
      rw [copyRow_N (by omega), ogb_some]
      exact e1
    have e2' : m_X8_stable_71 mf_may mf_ranks mf_worths 1000000 (nI H) (nI N) a3 1 (cst (-6) 6 mf_best) (cst (-6) 5 mf_holds) (cst 0 6 mf_refused) = some (r, (b2, d2, r2)) := by
      refine Eq.trans e2 ?_
      rw [t2, ogb_some]
    refine ⟨r, prg (fun j => nI (chz xf_port_may H N j)) xf_givings_choice 6, hO1, lf1, nO1, b2, d2, r2, ?_, ?_, hP, hE, hKp, hC, hS⟩
    · unfold m_X7_stable
      rw [b7, ogb_some, if_neg i1, open_N hP.1 hH hN, ogb_some, fs, ogb_some, t1, ogb_some]
    · unfold m_X8_stable
      rw [b8, ogb_some, if_neg i1]
      have h := sb_14 mf_may mf_ranks mf_worths (nI H) (nI N) a3 mf_best mf_holds mf_refused 0 (by omega) 1000000 (by omega)
      rw [prg_0, prg_0] at h
      exact h.trans e2'
  · refine ⟨-2, xf_givings_choice, xf_givings_hullOf, xf_givings_left, xf_givings_nameOf, mf_best, mf_holds, mf_refused, ?_, ?_, hP, hE, hKp, hC, hS⟩
    · unfold m_X7_stable; rw [b7, ogb_some, if_pos rfl]
    · unfold m_X8_stable; rw [b8, ogb_some, if_pos rfl]
