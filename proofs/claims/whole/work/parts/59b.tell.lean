-- one part of a log, side by side
theorem sN {s : Int32} (h : isN s) : ∃ n, n < 5 ∧ s = nI (97 + n) := by
  obtain ⟨h1, h2⟩ := h
  have h0 : ¬ s < 0 := by
    rw [Int32.lt_iff_toInt_lt] at h1 ⊢
    have e : (97 : Int32).toInt = 97 := rfl
    have z : (0 : Int32).toInt = 0 := rfl
    omega
  obtain ⟨x, hx, rfl⟩ := nI_of h0
  have e97 : (97 : Int32) = nI 97 := rfl
  have e101 : (101 : Int32) = nI 101 := rfl
  rw [e97, nI_ltI hx (by omega)] at h1
  rw [e101, nI_leI hx (by omega)] at h2
  exact ⟨x - 97, by omega, by rw [show 97 + (x - 97) = x by omega]⟩
theorem sD {s : Int32} (h : isD s) : ∃ n, 1 ≤ n ∧ n ≤ 9 ∧ s = nI (48 + n) := by
  obtain ⟨h1, h2⟩ := h
  have h0 : ¬ s < 0 := by
    rw [Int32.lt_iff_toInt_lt] at h1 ⊢
    have e : (49 : Int32).toInt = 49 := rfl
    have z : (0 : Int32).toInt = 0 := rfl
    omega
  obtain ⟨x, hx, rfl⟩ := nI_of h0
  rw [l49, nI_ltI hx (by omega)] at h1
  rw [l57, nI_leI hx (by omega)] at h2
  exact ⟨x - 48, by omega, by omega, by rw [show 48 + (x - 48) = x by omega]⟩
theorem sH {s : Int32} (h1 : ¬ s < 65) (h2 : ¬ 70 < s) : ∃ n, n < 6 ∧ s = nI (65 + n) := by
  have h0 : ¬ s < 0 := by
    rw [Int32.lt_iff_toInt_lt] at h1 ⊢
    have e : (65 : Int32).toInt = 65 := rfl
    have z : (0 : Int32).toInt = 0 := rfl
    omega
  obtain ⟨x, hx, rfl⟩ := nI_of h0
  have e65 : (65 : Int32) = nI 65 := rfl
  have e70 : (70 : Int32) = nI 70 := rfl
  rw [e65, nI_ltI hx (by omega)] at h1
  rw [e70, nI_ltI (by omega) hx] at h2
  exact ⟨x - 65, by omega, by rw [show 65 + (x - 65) = x by omega]⟩
theorem lets_N (may : Nat → Int32) {h n : Nat} (hh : h < 6) (hn : n < 5) : ∃ b : Int32, (b = 0 ∨ b = 1) ∧ m_X3_lets may (nI h) (nI n) = some b ∧ m_X8_has (may h) (nI n) = some b := by
  have e : m_X7_hasBit (may h) (nI n) = m_X8_has (may h) (nI n) := by
    unfold m_X7_hasBit m_X8_has
    rw [if_neg (nI_pos (by omega))]
  have hb : ∃ b : Int32, (b = 0 ∨ b = 1) ∧ m_X8_has (may h) (nI n) = some b := by
    unfold m_X8_has
    split
    · exact ⟨1, Or.inr rfl, rfl⟩
    · exact ⟨0, Or.inl rfl, rfl⟩
  obtain ⟨b, hb1, hb2⟩ := hb
  refine ⟨b, hb1, ?_, hb2⟩
  unfold m_X3_lets
  rw [isHull_N hh, ogb_some, if_neg (by decide), ogi_N hh (by omega), cl_N (by omega), e, hb2, ogb_some]
  rcases hb1 with rfl | rfl
  · rw [if_pos rfl]
  · rw [if_neg (by decide)]
theorem why_sim {lo : Nat → Nat} {d h n : Nat} {nO hO ho tu ta be bo du go su ti may : Nat → Int32} (S : SEA lo d nO hO ho tu ta be bo du go su ti) (hh : h < 6) (hn : n < 5) {b : Int32} (hb : b = 0 ∨ b = 1) (hm : m_X8_has (may h) (nI n) = some b) :
    ∃ r : Int32, (r = 0 ∨ r = 1 ∨ r = 2 ∨ r = 3 ∨ r = 4 ∨ r = 5) ∧ m_X4_whyNotSail hO nO (nI h) (nI n) b = some r ∧ m_X8_whyNot be bo go may su (nI h) (nI n) = some r ∧ (r = 0 → su h = 0 ∧ be h = -6 ∧ go n = 0 ∧ bo n = -6) := by
  obtain ⟨s1, s2, s3⟩ := S
  unfold m_X4_whyNotSail m_X8_whyNot
  simp only [at_N nO hh (show 6 < 2 ^ 31 by omega), at_N hO hn (show 5 < 2 ^ 31 by omega), ogb_some, ogi_N hh (show 6 < 2 ^ 31 by omega), ogi_N hn (show 5 < 2 ^ 31 by omega), cl_N (show h < 2 ^ 31 by omega), cl_N (show n < 2 ^ 31 by omega), hm]
  rcases s1 h hh with ⟨a, e, c⟩ | ⟨a, e, c⟩
  · rcases c with c | ⟨n2, c1, c2, c3⟩
    · rw [e, c, a, if_neg (by decide), if_pos rfl, if_pos rfl, if_pos (show (-6 : Int32) < 0 by decide)]
      rcases s2 n hn with ⟨a2, e2, x⟩ | ⟨a2, e2, x, -⟩
      · rcases x with x | ⟨h2, t, x1, x2, -⟩
        · rw [e2, x, a2, if_neg (by decide), if_pos rfl, if_pos rfl, if_pos (show (-6 : Int32) < 0 by decide)]
          rcases hb with rfl | rfl
          · exact ⟨5, by simp, by rw [if_pos rfl], by rw [if_pos rfl], fun q => absurd q (by decide)⟩
          · exact ⟨0, by simp, by rw [if_neg (by decide)], by rw [if_neg (by decide)], fun _ => ⟨rfl, rfl, rfl, rfl⟩⟩
        · rw [e2, x2, a2, if_neg (nI_n7 (by omega)), if_neg (nI_n6 (by omega)), if_pos rfl, if_neg (nI_pos (by omega))]
          exact ⟨4, by simp, rfl, rfl, fun q => absurd q (by decide)⟩
      · rw [e2, a2, if_pos rfl, if_neg (by decide)]
        exact ⟨3, by simp, rfl, rfl, fun q => absurd q (by decide)⟩
    · rw [e, c2, a, if_neg (nI_n7 (by omega)), if_neg (nI_n6 (by omega)), if_pos rfl, if_neg (nI_pos (by omega))]
      exact ⟨2, by simp, rfl, rfl, fun q => absurd q (by decide)⟩
  · rw [e, a, if_pos rfl, if_neg (by decide)]
    exact ⟨1, by simp, rfl, rfl, fun q => absurd q (by decide)⟩
theorem SEA.sail {d h n k : Nat} {nO hO ho tu ta be bo du go su ti : Nat → Int32} (S : SEA (fun _ => d) d nO hO ho tu ta be bo du go su ti) (hh : h < 6) (hn : n < 5) (e1 : su h = 0) (e2 : be h = -6) (e3 : go n = 0) (e4 : bo n = -6) (hk : 1 ≤ k) (hd : d + k < 1000000) :
    SEA (fun _ => d) d (upd nO h (nI n)) (upd hO n (nI h)) ho (upd tu n (nI (d + k))) (upd ta n (nI h)) (upd be h (nI n)) (upd bo n (nI h)) (upd du n (nI (d + k))) go su ti := by
  obtain ⟨s1, s2, s3⟩ := S
  refine ⟨fun h' hh' => ?_, fun n' hn' => ?_, s3⟩
  · by_cases q : h' = h
    · subst q
      exact Or.inl ⟨e1, by rw [upd_s, upd_s], Or.inr ⟨n, hn, upd_s _ _ _, upd_s _ _ _⟩⟩
    · rw [upd_n _ _ q, upd_n _ _ q]
      rcases s1 h' hh' with ⟨a, b, c⟩ | x
      · refine Or.inl ⟨a, b, ?_⟩
        rcases c with c | ⟨m, c1, c2, c3⟩
        · exact Or.inl c
        · refine Or.inr ⟨m, c1, c2, ?_⟩
          have : m ≠ n := by
            intro e; subst e
            exact absurd (c3.symm.trans e4) (nI_n6 (by omega))
          rw [upd_n _ _ this]; exact c3
      · exact Or.inr x
  · by_cases q : n' = n
    · subst q
      exact Or.inl ⟨e3, by rw [upd_s, upd_s], Or.inr ⟨h, d + k, hh, upd_s _ _ _, upd_s _ _ _, upd_s _ _ _, upd_s _ _ _, upd_s _ _ _, hd, (show d < d + k by omega)⟩⟩
    · rw [upd_n _ _ q, upd_n _ _ q, upd_n _ _ q, upd_n _ _ q, upd_n _ _ q]
      rcases s2 n' hn' with ⟨a, b, c⟩ | x
      · refine Or.inl ⟨a, b, ?_⟩
        rcases c with c | ⟨h2, t, c1, c2, c3, c4, c5, c6, c7, c8⟩
        · exact Or.inl c
        · refine Or.inr ⟨h2, t, c1, c2, ?_, c4, c5, c6, c7, c8⟩
          have : h2 ≠ h := by
            intro e; subst e
            exact absurd (c3.symm.trans e2) (nI_n6 (by omega))
          rw [upd_n _ _ this]; exact c3
      · exact Or.inr x
theorem SEA.drown {d h n : Nat} {nO hO ho tu ta be bo du go su ti : Nat → Int32} (S : SEA (fun _ => d) d nO hO ho tu ta be bo du go su ti) (hh : h < 6) (hn : n < 5) (e1 : bo n = nI h) (e2 : be h = nI n) :
    SEA (fun _ => d) d (upd nO h (-7)) (upd hO n (-7)) ho (upd tu n (nI d)) ta (upd be h (-6)) (upd bo n (-6)) du (upd go n 1) (upd su h 1) ti := by
  obtain ⟨s1, s2, s3⟩ := S
  have hta : ta n = nI h := by
    rcases s2 n hn with ⟨a, b, c⟩ | ⟨a, b, c, -⟩
    · rcases c with c | ⟨h2, t, c1, c2, c3, c4, -⟩
      · exact absurd (e1.symm.trans c) (nI_n6 (by omega))
      · have : h2 = h := (nI_eq (by omega) (by omega)).mp (c2.symm.trans e1)
        subst this
        exact c4
    · exact absurd (e1.symm.trans c) (nI_n6 (by omega))
  refine ⟨fun h' hh' => ?_, fun n' hn' => ?_, s3⟩
  · by_cases q : h' = h
    · subst q
      exact Or.inr ⟨upd_s _ _ _, upd_s _ _ _, upd_s _ _ _⟩
    · rw [upd_n _ _ q, upd_n _ _ q, upd_n _ _ q]
      rcases s1 h' hh' with ⟨a, b, c⟩ | x
      · refine Or.inl ⟨a, b, ?_⟩
        rcases c with c | ⟨m, c1, c2, c3⟩
        · exact Or.inl c
        · refine Or.inr ⟨m, c1, c2, ?_⟩
          have : m ≠ n := by
            intro e; subst e
            rw [e1] at c3
            exact q ((nI_eq (by omega) (by omega)).mp c3).symm
          rw [upd_n _ _ this]; exact c3
      · exact Or.inr x
  · by_cases q : n' = n
    · subst q
      exact Or.inr ⟨upd_s _ _ _, upd_s _ _ _, upd_s _ _ _, d, Nat.le_refl d, upd_s _ _ _, h, hh, hta⟩
    · rw [upd_n _ _ q, upd_n _ _ q, upd_n _ _ q, upd_n _ _ q]
      rcases s2 n' hn' with ⟨a, b, c⟩ | x
      · refine Or.inl ⟨a, b, ?_⟩
        rcases c with c | ⟨h2, t, c1, c2, c3, c4, c5, c6, c7, c8⟩
        · exact Or.inl c
        · refine Or.inr ⟨h2, t, c1, c2, ?_, c4, c5, c6, c7, c8⟩
          have : h2 ≠ h := by
            intro e; subst e
            rw [e2] at c3
            exact q ((nI_eq (by omega) (by omega)).mp c3).symm
          rw [upd_n _ _ this]; exact c3
      · exact Or.inr x
-- who bore a name
def bear (hO tu ta : Nat → Int32) (d n : Nat) : Int32 := if hO n = -7 then (if tu n = nI d then ta n else -6) else hO n
def RG (x : Int32) : Prop := x = -6 ∨ ∃ h, h < 6 ∧ x = nI h
theorem SEA_bear {lo : Nat → Nat} {d n : Nat} {nO hO ho tu ta be bo du go su ti : Nat → Int32} (S : SEA lo d nO hO ho tu ta be bo du go su ti) (hn : n < 5) : RG (bear hO tu ta d n) := by
  unfold bear
  rcases S.2.1 n hn with ⟨a, b, c⟩ | ⟨a, b, c, t, h1, h2, h, hh, e⟩
  · rcases c with c | ⟨h2, t, c1, c2, c3, c4, -⟩
    · rw [b, c, if_neg (by decide)]
      exact Or.inl rfl
    · rw [b, c2, if_neg (nI_n7 (by omega))]
      exact Or.inr ⟨h2, c1, rfl⟩
  · rw [b, if_pos rfl, e]
    by_cases q : tu n = nI d
    · rw [if_pos q]; exact Or.inr ⟨h, hh, rfl⟩
    · rw [if_neg q]; exact Or.inl rfl
theorem bearer_N (hO tu ta : Nat → Int32) (d : Nat) {n : Nat} (hn : n < 5) : m_X4_bearer hO ta tu (nI d) (nI n) = some (bear hO tu ta d n) := by
  unfold m_X4_bearer bear
  rw [at_N hO hn (by omega), ogb_some, at_N tu hn (by omega), ogb_some, at_N ta hn (by omega), ogb_some]
  by_cases q : hO n = -7
  · rw [if_pos q, if_pos q]
    by_cases w : tu n = nI d
    · rw [if_pos w, if_pos w]
    · rw [if_neg w, if_neg w]
  · rw [if_neg q, if_neg q]
def keep (bo wb : Nat → Int32) : Nat → Int32 := fun n => if n < 5 then (if bo n < 0 then wb n else bo n) else wb n
theorem keepWho_run (bo : Nat → Int32) (day : Int32) (wb : Nat → Int32) : ∀ i, i ≤ 5 → ∀ fuel, 5 - i < fuel → m_X8_keepWho_2 bo day day fuel (nI i) (fun n => if n < i then keep bo wb n else wb n) = some (keep bo wb) := by
  refine loop_up (fun fuel i => m_X8_keepWho_2 bo day day fuel (nI i) (fun n => if n < i then keep bo wb n else wb n) = some (keep bo wb)) 5 (fun fuel => ?_) (fun fuel i hi ih => ?_)
  · show m_X8_keepWho_2b (m_X8_keepWho_2 bo day day fuel) bo day day (nI 5) _ = _
    unfold m_X8_keepWho_2b
    rw [if_pos (by decide)]
    congr 1
    funext n
    by_cases q : n < 5
    · rw [if_pos q]
    · rw [if_neg q]; unfold keep; rw [if_neg q]
  · show m_X8_keepWho_2b (m_X8_keepWho_2 bo day day fuel) bo day day (nI i) _ = _
    unfold m_X8_keepWho_2b m_X8_keepWho_47
    rw [if_neg (by rw [l5, nI_leI (by omega) (by omega)]; omega), if_pos rfl]
    simp only [ogi_N hi (show 5 < 2 ^ 31 by omega), cl_N (show i < 2 ^ 31 by omega), ogl_def, nI_1]
    have e : ∀ x, x = keep bo wb i → upd (fun n => if n < i then keep bo wb n else wb n) i x = (fun n => if n < i + 1 then keep bo wb n else wb n) := by
      intro x hx
      funext n
      unfold upd
      by_cases q : n = i
      · subst q; rw [if_pos rfl, if_pos (by omega)]; exact hx
      · rw [if_neg q]
        show (if n < i then keep bo wb n else wb n) = _
        by_cases w : n < i
        · rw [if_pos w, if_pos (show n < i + 1 by omega)]
        · rw [if_neg w, if_neg (show ¬ n < i + 1 by omega)]
    by_cases q : bo i < 0
    · rw [if_pos q, e _ (by rw [if_neg (show ¬ i < i by omega)]; unfold keep; rw [if_pos hi, if_pos q])]
      exact ih
    · rw [if_neg q, e _ (by unfold keep; rw [if_pos hi, if_neg q])]
      exact ih
theorem keepWho_eq (bo : Nat → Int32) (day : Int32) (wb : Nat → Int32) : m_X8_keepWho bo day day wb = some (keep bo wb) := by
  have h := keepWho_run bo day wb 0 (by omega) 1000000 (by omega)
  have e : (fun n => if n < 0 then keep bo wb n else wb n) = wb := by funext n; rw [if_neg (by omega)]
  rw [e] at h
  exact h
theorem keepWho_ne (bo : Nat → Int32) {day ak : Int32} (h : ¬ day = ak) (wb : Nat → Int32) : m_X8_keepWho bo day ak wb = some wb := by
  show m_X8_keepWho_2b (m_X8_keepWho_2 bo day ak 999999) bo day ak 0 wb = _
  unfold m_X8_keepWho_2b
  rw [if_neg (by decide), if_neg h]
theorem keepWho_ok (bo : Nat → Int32) (day ak : Int32) (wb : Nat → Int32) : ∃ wb', m_X8_keepWho bo day ak wb = some wb' := by
  by_cases h : day = ak
  · subst h; exact ⟨_, keepWho_eq _ _ _⟩
  · exact ⟨_, keepWho_ne _ h _⟩
