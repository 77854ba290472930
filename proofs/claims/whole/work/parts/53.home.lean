-- chances
noncomputable def cX (k d pt : Nat) : Option Int64 := ogl (90 + nI k) (fun (v4 : Int32) => ogb (m_X7_commonDivisor v4 100) (fun q => if nI pt = 0 then (m_X7_chanceHome_36 (fun _ => 0) (nI d) q v4) else (m_X7_chanceHome_36 (fun _ => 0) (nI d) q 100)))
noncomputable def cP (k d : Nat) : Option Int64 := m_X8_power (90 + Int32.toInt64 (nI k)) (nI d)
noncomputable def cL (d : Nat) : Option Int64 := m_X8_power 100 (nI d)
noncomputable def cH (pt : Nat) (a b : Int64) : Option Int64 := m_X8_home_68 (fun _ => 0) 1000000 (nI pt) a b a b
def cA (k d : Nat) : Nat := (100 / Nat.gcd (90 + k) 100) ^ d
def cS (k d : Nat) : Nat := ((90 + k) / Nat.gcd (90 + k) 100) ^ d
def cG (k d : Nat) : Nat := (Nat.gcd (90 + k) 100) ^ d
set_option maxRecDepth 100000 in
theorem home_tab : ∀ k : Fin 11, ∀ d : Fin 8, 1 ≤ d.val → cX k d 1 = some (lN (cA k d)) ∧ cX k d 0 = some (lN (cS k d)) ∧ cP k d = some (lN (cS k d * cG k d)) ∧ cL d = some (lN (cA k d * cG k d)) ∧ cH 0 (lN (cS k d * cG k d)) (lN (cA k d * cG k d)) = some (lN (cS k d)) ∧ cH 1 (lN (cS k d * cG k d)) (lN (cA k d * cG k d)) = some (lN (cA k d)) := by decide +kernel
theorem home_num : ∀ k : Fin 11, ∀ d : Fin 8, 1 ≤ d.val → cS k d ≤ cA k d ∧ 0 < cA k d ∧ 0 < cG k d ∧ cA k d * cG k d ≤ 100000000000000 := by decide +kernel
theorem home_f (f g : Nat → Int32) : m_X8_home_68 f = m_X8_home_68 g := rfl
theorem in17 (v : Int32) : (∃ d, 1 ≤ d ∧ d ≤ 7 ∧ v = nI d ∧ m_X7_isWithin v 1 7 = some 1) ∨ m_X7_isWithin v 1 7 = some 0 := by
  unfold m_X7_isWithin
  by_cases h1 : v < 1
  · exact Or.inr (if_pos h1)
  · rw [if_neg h1]
    by_cases h2 : 7 < v
    · exact Or.inr (if_pos h2)
    · left
      have h0 : ¬ v < 0 := by
        rw [Int32.lt_iff_toInt_lt] at h1 ⊢
        have e1 : (1 : Int32).toInt = 1 := rfl
        have e0 : (0 : Int32).toInt = 0 := rfl
        omega
      obtain ⟨d, hd, rfl⟩ := rng_of2 (n := 7) (by omega) h0 h2
      refine ⟨d, ?_, hd, rfl, if_neg h2⟩
      rcases Nat.eq_zero_or_pos d with e | e
      · subst e; exact absurd (by decide : nI 0 < 1) h1
      · exact e
theorem chance_eq {f : Nat → Int32} {j k : Nat} (hj : j < 5) (hf : f j = nI k) (d pt : Nat) : m_X7_chanceHome f (nI j) (nI d) (nI pt) = cX k d pt := by
  simp only [m_X7_chanceHome, at_N f hj (by omega), ogb_some, hf]
  rfl
set_option maxHeartbeats 4000000 in
set_option maxRecDepth 20000 in
theorem step_home {xf_port_may : Nat → Int32} {xf_port_voyage : Nat → Int32} {xf_port_luck : Nat → Int32} {xf_port_rank : Nat → Int32} {xf_port_worth : Nat → Int32} {xf_firstImage_may : Nat → Int32} {xf_firstImage_voyage : Nat → Int32} {xf_firstImage_luck : Nat → Int32} {xf_firstImage_rank : Nat → Int32} {xf_firstImage_worth : Nat → Int32} {xf_secondImage_may : Nat → Int32} {xf_secondImage_voyage : Nat → Int32} {xf_secondImage_luck : Nat → Int32} {xf_secondImage_rank : Nat → Int32} {xf_secondImage_worth : Nat → Int32} {xx_t_keptImages : Int32} {xf_pad_signs : Nat → Int32} {xx_pad_count : Int32} {mf_may : Nat → Int32} {mf_voyage : Nat → Int32} {mf_lucky : Nat → Int32} {mf_ranks : Nat → Int32} {mf_worths : Nat → Int32} {mx_t_signs : Int32} {mf_pad : Nat → Int32} {mf_image : Nat → Int32} {mf_isKept : Nat → Int32} (a1 : Int32) (a2 : Int32) (a3 : Int32) (hI : INV xf_port_may xf_port_voyage xf_port_luck xf_port_rank xf_port_worth xf_firstImage_may xf_firstImage_voyage xf_firstImage_luck xf_firstImage_rank xf_firstImage_worth xf_secondImage_may xf_secondImage_voyage xf_secondImage_luck xf_secondImage_rank xf_secondImage_worth xx_t_keptImages xf_pad_signs xx_pad_count mf_may mf_voyage mf_lucky mf_ranks mf_worths mx_t_signs mf_pad mf_image mf_isKept) : ∃ (r : Int64), m_X7_home xf_port_luck a1 a2 a3 = some r ∧ m_X8_home mf_lucky a1 a2 a3 = some r ∧ INV xf_port_may xf_port_voyage xf_port_luck xf_port_rank xf_port_worth xf_firstImage_may xf_firstImage_voyage xf_firstImage_luck xf_firstImage_rank xf_firstImage_worth xf_secondImage_may xf_secondImage_voyage xf_secondImage_luck xf_secondImage_rank xf_secondImage_worth xx_t_keptImages xf_pad_signs xx_pad_count mf_may mf_voyage mf_lucky mf_ranks mf_worths mx_t_signs mf_pad mf_image mf_isKept := by
  obtain ⟨hP, hE, hKp, hC, hS⟩ := hI
  suffices h : ∃ r, m_X7_home xf_port_luck a1 a2 a3 = some r ∧ m_X8_home mf_lucky a1 a2 a3 = some r by
    obtain ⟨r, h1, h2⟩ := h
    exact ⟨r, h1, h2, hP, hE, hKp, hC, hS⟩
  rcases isName_cases a1 with ⟨j, hj, rfl, h7, h8⟩ | ⟨h7, h8, -⟩
  · rcases in17 a2 with ⟨d, hd1, hd, rfl, hw⟩ | hw
    · have hw8 : m_X8_in (nI d) 1 7 = some 1 := hw
      rcases with_cases a3 1 (by omega) with ⟨pt, hpt, rfl, hv⟩ | ⟨hv, -⟩
      · have hv : m_X7_isWithin (nI pt) 0 1 = some 1 := hv
        have hv8 : m_X8_in (nI pt) 0 1 = some 1 := hv
        obtain ⟨k, hk, ek⟩ := hP.2.2.1 j hj
        have ek8 : mf_lucky j = nI k := by rw [← hE.2.2.1 j hj]; exact ek
        obtain ⟨t1, t2, t3, t4, t5, t6⟩ := home_tab ⟨k, by omega⟩ ⟨d, by omega⟩ hd1
        have e8 : ∀ r, cH pt (lN (cS k d * cG k d)) (lN (cA k d * cG k d)) = some r → m_X8_home mf_lucky (nI j) (nI d) (nI pt) = some r := by
          intro r hr
          have t3 : m_X8_power (90 + Int32.toInt64 (nI k)) (nI d) = _ := t3
          have t4 : m_X8_power 100 (nI d) = _ := t4
          simp only [m_X8_home, h8, hw8, hv8, ogb_some, ogi_N hj (by omega), cl_N (show j < 2 ^ 31 by omega), ek8, t3, t4]
          rw [if_neg (by decide), if_neg (by decide), if_neg (by decide), home_f mf_lucky (fun _ => 0)]
          exact hr
        have e7 : m_X7_home xf_port_luck (nI j) (nI d) (nI pt) = cX k d pt := by
          simp only [m_X7_home, h7, hw, hv, ogb_some, chance_eq hj ek]
          show (ogb (cX k d pt) fun q => some q) = _
          cases cX k d pt <;> rfl
        have : pt = 0 ∨ pt = 1 := by omega
        rcases this with rfl | rfl
        · exact ⟨lN (cS k d), e7.trans t2, e8 _ t5⟩
        · exact ⟨lN (cA k d), e7.trans t1, e8 _ t6⟩
      · have hv : m_X7_isWithin a3 0 1 = some 0 := hv
        have hv8 : m_X8_in a3 0 1 = some 0 := hv
        refine ⟨-1000000000000000002, ?_, ?_⟩
        · simp only [m_X7_home, h7, hw, hv, ogb_some]; rfl
        · simp only [m_X8_home, h8, hw8, hv8, ogb_some]; rfl
    · have hw8 : m_X8_in a2 1 7 = some 0 := hw
      refine ⟨-1000000000000000002, ?_, ?_⟩
      · simp only [m_X7_home, h7, hw, ogb_some]; rfl
      · simp only [m_X8_home, h8, hw8, ogb_some]; rfl
  · refine ⟨-1000000000000000001, ?_, ?_⟩
    · simp only [m_X7_home, h7, ogb_some]; rfl
    · simp only [m_X8_home, h8, ogb_some]; rfl
theorem ceil_div (x A g : Nat) (hA : 0 < A) (hg : 0 < g) : (x * g + A * g - 1) / (A * g) = (x + A - 1) / A := by
  have h1 : x * g + A * g - 1 = (x + A - 1) * g + (g - 1) := by
    have h2 : x * g + A * g = (x + A - 1) * g + g := by
      have h3 : x + A = (x + A - 1) + 1 := by omega
      rw [← Nat.add_mul, h3, Nat.add_mul, Nat.one_mul]
      simp
    omega
  rw [h1, Nat.mul_comm A g, ← Nat.div_div_eq_div_mul]
  congr 1
  rw [Nat.mul_comm, Nat.mul_add_div hg, Nat.div_eq_of_lt (by omega), Nat.add_zero]
set_option maxHeartbeats 4000000 in
set_option maxRecDepth 20000 in
theorem step_asks {xf_port_may : Nat → Int32} {xf_port_voyage : Nat → Int32} {xf_port_luck : Nat → Int32} {xf_port_rank : Nat → Int32} {xf_port_worth : Nat → Int32} {xf_firstImage_may : Nat → Int32} {xf_firstImage_voyage : Nat → Int32} {xf_firstImage_luck : Nat → Int32} {xf_firstImage_rank : Nat → Int32} {xf_firstImage_worth : Nat → Int32} {xf_secondImage_may : Nat → Int32} {xf_secondImage_voyage : Nat → Int32} {xf_secondImage_luck : Nat → Int32} {xf_secondImage_rank : Nat → Int32} {xf_secondImage_worth : Nat → Int32} {xx_t_keptImages : Int32} {xf_pad_signs : Nat → Int32} {xx_pad_count : Int32} {mf_may : Nat → Int32} {mf_voyage : Nat → Int32} {mf_lucky : Nat → Int32} {mf_ranks : Nat → Int32} {mf_worths : Nat → Int32} {mx_t_signs : Int32} {mf_pad : Nat → Int32} {mf_image : Nat → Int32} {mf_isKept : Nat → Int32} (a1 : Int32) (a2 : Int32) (a3 : Int32) (hI : INV xf_port_may xf_port_voyage xf_port_luck xf_port_rank xf_port_worth xf_firstImage_may xf_firstImage_voyage xf_firstImage_luck xf_firstImage_rank xf_firstImage_worth xf_secondImage_may xf_secondImage_voyage xf_secondImage_luck xf_secondImage_rank xf_secondImage_worth xx_t_keptImages xf_pad_signs xx_pad_count mf_may mf_voyage mf_lucky mf_ranks mf_worths mx_t_signs mf_pad mf_image mf_isKept) : ∃ (r : Int32), m_X7_asks xf_port_luck a1 a2 a3 = some r ∧ m_X8_asks mf_lucky a1 a2 a3 = some r ∧ INV xf_port_may xf_port_voyage xf_port_luck xf_port_rank xf_port_worth xf_firstImage_may xf_firstImage_voyage xf_firstImage_luck xf_firstImage_rank xf_firstImage_worth xf_secondImage_may xf_secondImage_voyage xf_secondImage_luck xf_secondImage_rank xf_secondImage_worth xx_t_keptImages xf_pad_signs xx_pad_count mf_may mf_voyage mf_lucky mf_ranks mf_worths mx_t_signs mf_pad mf_image mf_isKept := by
  obtain ⟨hP, hE, hKp, hC, hS⟩ := hI
  suffices h : ∃ r, m_X7_asks xf_port_luck a1 a2 a3 = some r ∧ m_X8_asks mf_lucky a1 a2 a3 = some r by
    obtain ⟨r, h1, h2⟩ := h
    exact ⟨r, h1, h2, hP, hE, hKp, hC, hS⟩
  rcases isName_cases a1 with ⟨j, hj, rfl, h7, h8⟩ | ⟨h7, h8, -⟩
  · rcases in17 a2 with ⟨d, hd1, hd, rfl, hw⟩ | hw
    · have hw8 : m_X8_in (nI d) 1 7 = some 1 := hw
      rcases with_cases a3 999 (by omega) with ⟨v, hv, rfl, hz⟩ | ⟨hz, -⟩
      · have hz : m_X7_isWithin (nI v) 0 999 = some 1 := hz
        have hz8 : m_X8_in (nI v) 0 999 = some 1 := hz
        obtain ⟨k, hk, ek⟩ := hP.2.2.1 j hj
        have ek8 : mf_lucky j = nI k := by rw [← hE.2.2.1 j hj]; exact ek
        obtain ⟨t1, t2, t3, t4, -, -⟩ := home_tab ⟨k, by omega⟩ ⟨d, by omega⟩ hd1
        obtain ⟨n1, n2, n3, n4⟩ := home_num ⟨k, by omega⟩ ⟨d, by omega⟩ hd1
        have t3 : m_X8_power (90 + Int32.toInt64 (nI k)) (nI d) = some (lN (cS k d * cG k d)) := t3
        have t4 : m_X8_power 100 (nI d) = some (lN (cA k d * cG k d)) := t4
        have t1 : m_X7_chanceHome xf_port_luck (nI j) (nI d) 1 = some (lN (cA k d)) := (chance_eq hj ek d 1).trans t1
        have t2 : m_X7_chanceHome xf_port_luck (nI j) (nI d) 0 = some (lN (cS k d)) := (chance_eq hj ek d 0).trans t2
        have n1 : cS k d ≤ cA k d := n1
        have n2 : 0 < cA k d := n2
        have n3 : 0 < cG k d := n3
        have n4 : cA k d * cG k d ≤ 100000000000000 := n4
        generalize cA k d = A at *
        generalize cS k d = S' at *
        generalize cG k d = g at *
        have hAle : A ≤ A * g := Nat.le_mul_of_pos_right _ n3
        have hsub : A * g - S' * g = (A - S') * g := (Nat.sub_mul A S' g).symm
        have hvb : v * (A - S') ≤ 999 * 100000000000000 := Nat.mul_le_mul hv (by omega)
        have hvg : v * ((A - S') * g) ≤ 999 * 100000000000000 := Nat.mul_le_mul hv (by
          have : (A - S') * g ≤ A * g := Nat.mul_le_mul_right g (Nat.sub_le A S')
          omega)
        have i64 : (nI v).toInt64 = lN v := nI_l (by omega)
        have l1 : (1 : Int64) = lN 1 := rfl
        have cmp : lg_cmp (lN A) 0 = 1 := by
          unfold lg_cmp
          have l0 : (0 : Int64) = lN 0 := rfl
          rw [if_pos]
          rw [l0, gt_iff_lt, pk_lLT (by omega) (by omega)]
          exact n2
        have nz : ∀ q : Nat, 0 < q → q < 2 ^ 63 → ¬ lN q = 0 := by
          intro q h1 h2 h3
          have l0 : (0 : Int64) = lN 0 := rfl
          rw [l0, pk_lEQ h2 (by omega)] at h3
          omega
        refine ⟨nI ((v * (A - S') + A - 1) / A), ?_, ?_⟩
        · have cu : m_X7_cutUp (lN (v * (A - S'))) (lN A) = some (lN ((v * (A - S') + A - 1) / A)) := by
            unfold m_X7_cutUp
            rw [cmp, if_neg (by decide), ogn_ok (nz A n2 (by omega)), lN_add, l1, lN_sub (by omega), pk_lDiv (by omega) n2 (by omega)]
          simp only [m_X7_asks, h7, hw, hz, ogb_some, ogl_def, t1, t2, lN_sub n1, i64, lN_mul, cu, lN_i]
          rfl
        · have hSg : S' * g ≤ A * g := Nat.mul_le_mul_right g n1
          have hpos : 0 < A * g := Nat.mul_pos n2 n3
          have e : v * ((A - S') * g) + A * g - 1 = (v * (A - S')) * g + A * g - 1 := by rw [Nat.mul_assoc]
          simp only [m_X8_asks, h8, hw8, hz8, ogb_some, ogl_def, t3, t4, ogi_N hj (by omega), cl_N (show j < 2 ^ 31 by omega), ek8, lN_sub hSg, i64, lN_mul, hsub, lN_add]
          rw [if_neg (by decide), if_neg (by decide), if_neg (by decide), ogn_ok (nz (A * g) hpos (by omega)), l1, lN_sub (by omega), pk_lDiv (by omega) hpos (by omega), e, ceil_div _ _ _ n2 n3, lN_i]
      · have hz : m_X7_isWithin a3 0 999 = some 0 := hz
        have hz8 : m_X8_in a3 0 999 = some 0 := hz
        refine ⟨-2, ?_, ?_⟩
        · simp only [m_X7_asks, h7, hw, hz, ogb_some]; rfl
        · simp only [m_X8_asks, h8, hw8, hz8, ogb_some]; rfl
    · have hw8 : m_X8_in a2 1 7 = some 0 := hw
      refine ⟨-2, ?_, ?_⟩
      · simp only [m_X7_asks, h7, hw, ogb_some]; rfl
      · simp only [m_X8_asks, h8, hw8, ogb_some]; rfl
  · refine ⟨-1, ?_, ?_⟩
    · simp only [m_X7_asks, h7, ogb_some]; rfl
    · simp only [m_X8_asks, h8, ogb_some]; rfl
