theorem with_N {j a b : Nat} (hj : j < 2 ^ 31) (ha : a < 2 ^ 31) (hb : b < 2 ^ 31) : m_X7_isWithin (nI j) (nI a) (nI b) = some (if a ≤ j ∧ j ≤ b then 1 else 0) := by
  unfold m_X7_isWithin
  by_cases h1 : j < a
  · rw [if_pos (nI_lt h1 ha), if_neg (by omega)]
  · rw [if_neg (nI_nlt (by omega) hj)]
    by_cases h2 : b < j
    · rw [if_pos (nI_lt h2 hj), if_neg (by omega)]
    · rw [if_neg (nI_nlt (by omega) hb), if_pos (by omega)]
theorem with_neg {v b' : Int32} {a : Nat} (ha : a < 2 ^ 31) (h : v < 0) : m_X7_isWithin v (nI a) b' = some 0 := by
  unfold m_X7_isWithin
  rw [if_pos]
  rw [Int32.lt_iff_toInt_lt] at h ⊢
  rw [nI_toInt ha]
  have : (0 : Int32).toInt = 0 := rfl
  omega
theorem isHull8_N {k : Nat} (h : k < 2 ^ 31) : m_X8_isHull (nI k) = some (if k < 6 then 1 else 0) := by
  rcases isHull_cases (nI k) with ⟨j, hj, e, -, h8⟩ | ⟨-, h8, hb⟩
  · have : k = j := (nI_eq h (by omega)).mp e
    rw [h8, if_pos (by omega)]
  · rcases hb with hb | hb
    · exact absurd hb (nI_pos h)
    · rw [nI_leI (by omega) h] at hb
      rw [h8, if_neg (by omega)]
theorem isName8_N {k : Nat} (h : k < 2 ^ 31) : m_X8_isName (nI k) = some (if k < 5 then 1 else 0) := by
  rcases isName_cases (nI k) with ⟨j, hj, e, -, h8⟩ | ⟨-, h8, hb⟩
  · have : k = j := (nI_eq h (by omega)).mp e
    rw [h8, if_pos (by omega)]
  · rcases hb with hb | hb
    · exact absurd hb (nI_pos h)
    · rw [nI_leI (by omega) h] at hb
      rw [h8, if_neg (by omega)]
theorem rem10 {k : Nat} (h : k < 2 ^ 31) : nI k - nI k / 10 * 10 = nI (k % 10) := pk_rem (d := 10) h (by omega) (by omega)
theorem div10 {k : Nat} (h : k < 2 ^ 31) : nI k / 10 = nI (k / 10) := pk_div (d := 10) h (by omega) (by omega)
theorem i1 (c : Prop) [Decidable c] : ((if c then (1 : Int32) else 0) = 0) = ¬ c := by by_cases h : c <;> simp [h]
set_option maxHeartbeats 4000000 in
theorem step_told {xf_port_may : Nat → Int32} {xf_port_voyage : Nat → Int32} {xf_port_luck : Nat → Int32} {xf_port_rank : Nat → Int32} {xf_port_worth : Nat → Int32} {xf_firstImage_may : Nat → Int32} {xf_firstImage_voyage : Nat → Int32} {xf_firstImage_luck : Nat → Int32} {xf_firstImage_rank : Nat → Int32} {xf_firstImage_worth : Nat → Int32} {xf_secondImage_may : Nat → Int32} {xf_secondImage_voyage : Nat → Int32} {xf_secondImage_luck : Nat → Int32} {xf_secondImage_rank : Nat → Int32} {xf_secondImage_worth : Nat → Int32} {xx_t_keptImages : Int32} {xf_pad_signs : Nat → Int32} {xx_pad_count : Int32} {mf_may : Nat → Int32} {mf_voyage : Nat → Int32} {mf_lucky : Nat → Int32} {mf_ranks : Nat → Int32} {mf_worths : Nat → Int32} {mx_t_signs : Int32} {mf_pad : Nat → Int32} {mf_image : Nat → Int32} {mf_isKept : Nat → Int32} (a1 : Int32) (hI : INV xf_port_may xf_port_voyage xf_port_luck xf_port_rank xf_port_worth xf_firstImage_may xf_firstImage_voyage xf_firstImage_luck xf_firstImage_rank xf_firstImage_worth xf_secondImage_may xf_secondImage_voyage xf_secondImage_luck xf_secondImage_rank xf_secondImage_worth xx_t_keptImages xf_pad_signs xx_pad_count mf_may mf_voyage mf_lucky mf_ranks mf_worths mx_t_signs mf_pad mf_image mf_isKept) : ∃ (r : Int32), m_X7_told xf_port_luck xf_port_may xf_port_rank xf_port_voyage xf_port_worth xx_pad_count a1 = some r ∧ m_X8_told mf_lucky mf_may mf_ranks mf_voyage mf_worths mx_t_signs a1 = some r ∧ INV xf_port_may xf_port_voyage xf_port_luck xf_port_rank xf_port_worth xf_firstImage_may xf_firstImage_voyage xf_firstImage_luck xf_firstImage_rank xf_firstImage_worth xf_secondImage_may xf_secondImage_voyage xf_secondImage_luck xf_secondImage_rank xf_secondImage_worth xx_t_keptImages xf_pad_signs xx_pad_count mf_may mf_voyage mf_lucky mf_ranks mf_worths mx_t_signs mf_pad mf_image mf_isKept := by
  obtain ⟨hP, hE, hKp, hC, hS⟩ := hI
  obtain ⟨c, hc, rfl, rfl⟩ := hC
  by_cases hn : a1 < 0
  · have n0 : ¬ a1 = 0 := by intro e; subst e; exact absurd hn (by decide)
    have e (a : Nat) (b' : Int32) (ha : a < 2 ^ 31) : m_X7_isWithin a1 (nI a) b' = some 0 := with_neg ha hn
    refine ⟨-2, ?_, ?_, hP, hE, hKp, ⟨c, hc, rfl, rfl⟩, hS⟩
    · have e1 := e 10 15 (by omega); have e2 := e 20 25 (by omega); have e3 := e 30 34 (by omega); have e4 := e 40 44 (by omega); have e5 := e 100 129 (by omega)
      have e1 : m_X7_isWithin a1 10 15 = some 0 := e1
      have e2 : m_X7_isWithin a1 20 25 = some 0 := e2
      have e3 : m_X7_isWithin a1 30 34 = some 0 := e3
      have e4 : m_X7_isWithin a1 40 44 = some 0 := e4
      have e5 : m_X7_isWithin a1 100 129 = some 0 := e5
      simp only [m_X7_told, e1, e2, e3, e4, e5, ogb_some, if_neg n0]
      rfl
    · have e1 : m_X8_in a1 10 25 = some 0 := e 10 25 (by omega)
      have e2 : m_X8_in a1 30 44 = some 0 := e 30 44 (by omega)
      have e3 : m_X8_in a1 100 129 = some 0 := e 100 129 (by omega)
      simp only [m_X8_told, m_X8_told_45, m_X8_told_85, ogl_def, e1, e2, e3, ogb_some, if_neg n0]
      rfl
  · obtain ⟨j, hj, rfl⟩ := nI_of hn
    have W (a b : Nat) (ha : a < 2 ^ 31) (hb : b < 2 ^ 31) := with_N (j := j) (a := a) (b := b) hj ha hb
    have w1 : m_X7_isWithin (nI j) 10 15 = some (if 10 ≤ j ∧ j ≤ 15 then 1 else 0) := W 10 15 (by omega) (by omega)
    have w2 : m_X7_isWithin (nI j) 20 25 = some (if 20 ≤ j ∧ j ≤ 25 then 1 else 0) := W 20 25 (by omega) (by omega)
    have w3 : m_X7_isWithin (nI j) 30 34 = some (if 30 ≤ j ∧ j ≤ 34 then 1 else 0) := W 30 34 (by omega) (by omega)
    have w4 : m_X7_isWithin (nI j) 40 44 = some (if 40 ≤ j ∧ j ≤ 44 then 1 else 0) := W 40 44 (by omega) (by omega)
    have w5 : m_X7_isWithin (nI j) 100 129 = some (if 100 ≤ j ∧ j ≤ 129 then 1 else 0) := W 100 129 (by omega) (by omega)
    have u1 : m_X8_in (nI j) 10 25 = some (if 10 ≤ j ∧ j ≤ 25 then 1 else 0) := W 10 25 (by omega) (by omega)
    have u2 : m_X8_in (nI j) 30 44 = some (if 30 ≤ j ∧ j ≤ 44 then 1 else 0) := W 30 44 (by omega) (by omega)
    have u3 : m_X8_in (nI j) 100 129 = some (if 100 ≤ j ∧ j ≤ 129 then 1 else 0) := W 100 129 (by omega) (by omega)
    have hm : j % 10 < 2 ^ 31 := by omega
    have H := isHull8_N hm
    have N := isName8_N hm
    have z : (nI j = 0) = (j = 0) := propext (nI_eq hj (by omega : 0 < 2 ^ 31))
    have s10 (h : 10 ≤ j) : nI j - 10 = nI (j - 10) := pk_sub h
    have s20 (h : 20 ≤ j) : nI j - 20 = nI (j - 20) := pk_sub h
    have s30 (h : 30 ≤ j) : nI j - 30 = nI (j - 30) := pk_sub h
    have s40 (h : 40 ≤ j) : nI j - 40 = nI (j - 40) := pk_sub h
    have s100 (h : 100 ≤ j) : nI j - 100 = nI (j - 100) := pk_sub h
    have g20 : ((20 : Int32) ≤ nI j) = (20 ≤ j) := propext (nI_leI (a := 20) (by omega) hj)
    have g40 : ((40 : Int32) ≤ nI j) = (40 ≤ j) := propext (nI_leI (a := 40) (by omega) hj)
    suffices h : ∃ r, m_X7_told xf_port_luck xf_port_may xf_port_rank xf_port_voyage xf_port_worth (nI c) (nI j) = some r ∧ m_X8_told mf_lucky mf_may mf_ranks mf_voyage mf_worths (nI c) (nI j) = some r by
      obtain ⟨r, h1, h2⟩ := h
      exact ⟨r, h1, h2, hP, hE, hKp, ⟨c, hc, rfl, rfl⟩, hS⟩
    simp only [m_X7_told, m_X8_told, m_X8_told_45, m_X8_told_85, ogl_def, rem10 hj, w1, w2, w3, w4, w5, u1, u2, u3, H, N, ogb_some, z, i1, g20, g40]
    by_cases c0 : j = 0
    · subst c0
      exact ⟨nI c, by simp, by simp⟩
    by_cases c1 : 10 ≤ j ∧ j ≤ 15
    · have hr : j % 10 = j - 10 := by omega
      refine ⟨xf_port_may (j - 10), ?_, ?_⟩
      · rw [if_neg c0, if_neg (by omega), s10 c1.1, at_N _ (by omega) (by omega)]; rfl
      · rw [if_neg (by omega), if_neg (by omega), if_neg (by omega), hr, ogi_N (by omega) (by omega), cl_N (by omega), hE.1 _ (by omega)]
    by_cases c2 : 20 ≤ j ∧ j ≤ 25
    · have hr : j % 10 = j - 20 := by omega
      refine ⟨xf_port_voyage (j - 20), ?_, ?_⟩
      · rw [if_neg c0, if_pos (by omega), if_neg (by omega), s20 c2.1, at_N _ (by omega) (by omega)]; rfl
      · rw [if_neg (by omega), if_neg (by omega), if_pos (by omega), hr, ogi_N (by omega) (by omega), cl_N (by omega), hE.2.1 _ (by omega)]
    have d1 : ¬ (10 ≤ j ∧ j ≤ 25) ∨ ¬ j % 10 < 6 := by omega
    by_cases c3 : 30 ≤ j ∧ j ≤ 34
    · have hr : j % 10 = j - 30 := by omega
      refine ⟨xf_port_luck (j - 30), ?_, ?_⟩
      · rw [if_neg c0, if_pos (by omega), if_pos (by omega), if_neg (by omega), s30 c3.1, at_N _ (by omega) (by omega)]; rfl
      · rw [if_pos (by omega), if_neg (by omega), if_neg (by omega), if_neg (by omega), hr, ogi_N (by omega) (by omega), cl_N (by omega), hE.2.2.1 _ (by omega)]
    by_cases c4 : 40 ≤ j ∧ j ≤ 44
    · have hr : j % 10 = j - 40 := by omega
      refine ⟨xf_port_rank (j - 40), ?_, ?_⟩
      · rw [if_neg c0, if_pos (by omega), if_pos (by omega), if_pos (by omega), if_neg (by omega), s40 c4.1, at_N _ (by omega) (by omega)]; rfl
      · rw [if_pos (by omega), if_neg (by omega), if_neg (by omega), if_pos (by omega), hr, ogi_N (by omega) (by omega), cl_N (by omega), hE.2.2.2.1 _ (by omega)]
    have d2 : ¬ (30 ≤ j ∧ j ≤ 44) ∨ ¬ j % 10 < 5 := by omega
    have key : ∀ x : Option Int32, (if ¬ (10 ≤ j ∧ j ≤ 25) then (if ¬ (30 ≤ j ∧ j ≤ 44) then x else if ¬ j % 10 < 5 then x else if 40 ≤ j then ogi (nI (j % 10)) 5 (some (mf_ranks (nI (j % 10)).toNatClampNeg)) else ogi (nI (j % 10)) 5 (some (mf_lucky (nI (j % 10)).toNatClampNeg))) else if ¬ j % 10 < 6 then (if ¬ (30 ≤ j ∧ j ≤ 44) then x else if ¬ j % 10 < 5 then x else if 40 ≤ j then ogi (nI (j % 10)) 5 (some (mf_ranks (nI (j % 10)).toNatClampNeg)) else ogi (nI (j % 10)) 5 (some (mf_lucky (nI (j % 10)).toNatClampNeg))) else if 20 ≤ j then ogi (nI (j % 10)) 6 (some (mf_voyage (nI (j % 10)).toNatClampNeg)) else ogi (nI (j % 10)) 6 (some (mf_may (nI (j % 10)).toNatClampNeg))) = x := by
      intro x
      have inner : ∀ y z : Option Int32, (if ¬ (30 ≤ j ∧ j ≤ 44) then x else if ¬ j % 10 < 5 then x else if 40 ≤ j then y else z) = x := by
        intro y z
        rcases d2 with d2 | d2
        · rw [if_pos d2]
        · by_cases q : 30 ≤ j ∧ j ≤ 44
          · rw [if_neg (by omega), if_pos d2]
          · rw [if_pos q]
      rcases d1 with d1 | d1
      · rw [if_pos d1]; exact inner _ _
      · by_cases q : 10 ≤ j ∧ j ≤ 25
        · rw [if_neg (by omega), if_pos d1]; exact inner _ _
        · rw [if_pos q]; exact inner _ _
    by_cases c5 : 100 ≤ j ∧ j ≤ 129
    · refine ⟨xf_port_worth (j - 100), ?_, ?_⟩
      · rw [if_neg c0, if_pos (by omega), if_pos (by omega), if_pos (by omega), if_pos (by omega), if_neg (by omega), s100 c5.1, at_N _ (by omega) (by omega)]; rfl
      · rw [key, if_neg c0, if_neg (by omega), s100 c5.1, ogi_N (by omega) (by omega), cl_N (by omega), hE.2.2.2.2 _ (by omega)]
    · refine ⟨-2, ?_, ?_⟩
      · rw [if_neg c0, if_pos (by omega), if_pos (by omega), if_pos (by omega), if_pos (by omega), if_pos (by omega)]
      · rw [key, if_neg c0, if_pos (by omega)]
