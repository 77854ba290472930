-- the sea of the class and the log of the check, side by side
def SEA (lo : Nat → Nat) (d : Nat) (nO hO ho tu ta be bo du go su ti : Nat → Int32) : Prop :=
  (∀ h, h < 6 → (su h = 0 ∧ nO h = be h ∧ (be h = -6 ∨ ∃ n, n < 5 ∧ be h = nI n ∧ bo n = nI h)) ∨ (su h = 1 ∧ nO h = -7 ∧ be h = -6)) ∧
  (∀ n, n < 5 → (go n = 0 ∧ hO n = bo n ∧ (bo n = -6 ∨ ∃ h t, h < 6 ∧ bo n = nI h ∧ be h = nI n ∧ ta n = nI h ∧ tu n = nI t ∧ du n = nI t ∧ t < 1000000 ∧ lo n < t)) ∨ (go n = 1 ∧ hO n = -7 ∧ bo n = -6 ∧ ∃ t, t ≤ d ∧ tu n = nI t ∧ ∃ h, h < 6 ∧ ta n = nI h)) ∧
  (∀ n, n < 5 → ho n = ti n)
theorem nI_n6 {h : Nat} (hh : h < 2 ^ 31) : ¬ nI h = -6 := by
  intro e
  have := nI_pos hh
  rw [e] at this
  exact this (by decide)
theorem nI_n7 {h : Nat} (hh : h < 2 ^ 31) : ¬ nI h = -7 := by
  intro e
  have := nI_pos hh
  rw [e] at this
  exact this (by decide)
theorem SEA.weak {lo lo2 : Nat → Nat} {d d2 : Nat} {nO hO ho tu ta be bo du go su ti : Nat → Int32} (S : SEA lo d nO hO ho tu ta be bo du go su ti) (hd : d ≤ d2) (hl : ∀ n, n < 5 → lo2 n ≤ lo n) : SEA lo2 d2 nO hO ho tu ta be bo du go su ti := by
  obtain ⟨s1, s2, s3⟩ := S
  refine ⟨s1, fun n hn => ?_, s3⟩
  rcases s2 n hn with ⟨a, b, c⟩ | ⟨a, b, c, t, ht, e⟩
  · refine Or.inl ⟨a, b, ?_⟩
    rcases c with c | ⟨h, t, c1, c2, c3, c4, c5, c6, c7, c8⟩
    · exact Or.inl c
    · exact Or.inr ⟨h, t, c1, c2, c3, c4, c5, c6, c7, Nat.lt_of_le_of_lt (hl n hn) c8⟩
  · exact Or.inr ⟨a, b, c, t, by omega, e⟩
/-- one name at home again -/
theorem SEA.home {lo : Nat → Nat} {d k h : Nat} {nO hO ho tu ta be bo du go su ti : Nat → Int32} (S : SEA lo d nO hO ho tu ta be bo du go su ti) (hk : k < 5) (hh : h < 6) (e1 : bo k = nI h) (e2 : be h = nI k) :
    SEA (fun n => if n = k then d + 1 else lo n) d (upd nO h (-6)) (upd hO k (-6)) (upd ho k (ho k + 1)) tu ta (upd be h (-6)) (upd bo k (-6)) du go su (upd ti k (ti k + 1)) := by
  obtain ⟨s1, s2, s3⟩ := S
  refine ⟨fun h' hh' => ?_, fun n hn => ?_, fun n hn => ?_⟩
  · by_cases q : h' = h
    · subst q
      rcases s1 h' hh' with ⟨a, b, c⟩ | ⟨a, b, c⟩
      · exact Or.inl ⟨a, by rw [upd_s, upd_s], Or.inl (upd_s _ _ _)⟩
      · exact absurd (e2.symm.trans c) (nI_n6 (by omega))
    · rw [upd_n _ _ q, upd_n _ _ q]
      rcases s1 h' hh' with ⟨a, b, c⟩ | x
      · refine Or.inl ⟨a, b, ?_⟩
        rcases c with c | ⟨n, c1, c2, c3⟩
        · exact Or.inl c
        · refine Or.inr ⟨n, c1, c2, ?_⟩
          have : n ≠ k := by
            intro e; subst e
            rw [e1] at c3
            exact q ((nI_eq (by omega) (by omega)).mp c3).symm
          rw [upd_n _ _ this]; exact c3
      · exact Or.inr x
  · by_cases q : n = k
    · subst q
      rcases s2 n hn with ⟨a, b, c⟩ | ⟨a, b, c, _⟩
      · exact Or.inl ⟨a, by rw [upd_s, upd_s], Or.inl (upd_s _ _ _)⟩
      · exact absurd (e1.symm.trans c) (nI_n6 (by omega))
    · rw [upd_n _ _ q, upd_n _ _ q]
      rcases s2 n hn with ⟨a, b, c⟩ | x
      · refine Or.inl ⟨a, b, ?_⟩
        rcases c with c | ⟨h2, t, c1, c2, c3, c4, c5, c6, c7, c8⟩
        · exact Or.inl c
        · refine Or.inr ⟨h2, t, c1, c2, ?_, c4, c5, c6, c7, by show (if n = k then d + 1 else lo n) < t; rw [if_neg q]; exact c8⟩
          have : h2 ≠ h := by
            intro e; subst e
            rw [e2] at c3
            exact q ((nI_eq (by omega) (by omega)).mp c3).symm
          rw [upd_n _ _ this]; exact c3
      · exact Or.inr x
  · by_cases q : n = k
    · subst q; rw [upd_s, upd_s, s3 n hn]
    · rw [upd_n _ _ q, upd_n _ _ q]; exact s3 n hn
theorem isHull_m6 : m_X7_isHull (-6) = some 0 := by decide
theorem isHull_m7 : m_X7_isHull (-7) = some 0 := by decide
theorem dawn_7s (tu : Nat → Int32) (n : Nat) (a b : Int32) (x y z : Nat → Int32) (w : Int32) : m_X4_dawn_7 tu (n + 1) a b x y z w = m_X4_dawn_7b (m_X4_dawn_7 tu n) tu a b x y z w := rfl
theorem next_12s (du : Nat → Int32) (ak : Int32) (n : Nat) (a : Int32) (x y z v : Nat → Int32) (w : Int32) : m_X8_nextDay_12 du ak (n + 1) a x y z v w = m_X8_nextDay_12b (m_X8_nextDay_12 du ak n) du ak a x y z v w := rfl
theorem dawn_run {d : Nat} (hd : d < 900000) (tu ta du go su : Nat → Int32) (ak : Int32) : ∀ (m k : Nat), k + m = 5 → ∀ (f1 f2 : Nat), m < f1 → m < f2 → ∀ (nO hO ho be bo ti : Nat → Int32) (lo : Nat → Nat), (∀ n, n < k → d + 1 ≤ lo n) → (∀ n, d ≤ lo n) → SEA lo d nO hO ho tu ta be bo du go su ti →
    ∃ (nO' hO' ho' be' bo' ti' : Nat → Int32), m_X4_dawn_7 tu f1 (nI (d + 1)) (nI k) ho hO nO (nI (d + 1)) = some (ho', hO', nO', nI (d + 1)) ∧ (∀ wb, m_X8_nextDay_12 du ak f2 (nI k) be bo ti wb (nI (d + 1)) = ogb (m_X8_keepWho bo' (nI (d + 1)) ak wb) (fun q => some (be', bo', ti', q, nI (d + 1)))) ∧ SEA (fun _ => d + 1) (d + 1) nO' hO' ho' tu ta be' bo' du go su ti' := by
  intro m
  induction m with
  | zero =>
    intro k hk f1 f2 h1 h2 nO hO ho be bo ti lo hlo hlo2 S
    obtain ⟨f1, rfl⟩ : ∃ z, f1 = z + 1 := ⟨f1 - 1, by omega⟩
    obtain ⟨f2, rfl⟩ : ∃ z, f2 = z + 1 := ⟨f2 - 1, by omega⟩
    have : k = 5 := by omega
    subst this
    refine ⟨nO, hO, ho, be, bo, ti, ?_, fun wb => ?_, S.weak (by omega) (fun n hn => hlo n hn)⟩
    · rw [dawn_7s]; unfold m_X4_dawn_7b; rw [if_pos (by decide)]
    · rw [next_12s]; unfold m_X8_nextDay_12b; rw [if_pos (by decide)]
  | succ m ih =>
    intro k hk f1 f2 h1 h2 nO hO ho be bo ti lo hlo hlo2 S
    obtain ⟨f1, rfl⟩ : ∃ z, f1 = z + 1 := ⟨f1 - 1, by omega⟩
    obtain ⟨f2, rfl⟩ : ∃ z, f2 = z + 1 := ⟨f2 - 1, by omega⟩
    have hk5 : k < 5 := by omega
    have n5 : ¬ (5 : Int32) ≤ nI k := by rw [l5, nI_leI (by omega) (by omega)]; omega
    have ck : (nI k).toNatClampNeg = k := cl_N (by omega)
    obtain ⟨s1, s2, s3⟩ := id S
    have skipC : ∀ (x : Int32), hO k = x → m_X7_isHull x = some 0 → m_X4_dawn_7 tu (f1 + 1) (nI (d + 1)) (nI k) ho hO nO (nI (d + 1)) = m_X4_dawn_7 tu f1 (nI (d + 1)) (nI (k + 1)) ho hO nO (nI (d + 1)) := by
      intro x hx h0
      rw [dawn_7s]; unfold m_X4_dawn_7b m_X4_dawn_67
      rw [if_neg n5, ogi_N hk5 (by omega), ck, hx, h0, ogb_some, if_pos rfl, ogl_def, nI_1]
    have skipM : ∀ wb, bo k = -6 → m_X8_nextDay_12 du ak (f2 + 1) (nI k) be bo ti wb (nI (d + 1)) = m_X8_nextDay_12 du ak f2 (nI (k + 1)) be bo ti wb (nI (d + 1)) := by
      intro wb hb
      rw [next_12s]; unfold m_X8_nextDay_12b m_X8_nextDay_70
      rw [if_neg n5, ogi_N hk5 (by omega), ck, hb, if_pos (by decide), ogl_def, nI_1]
    -- a name that isn't at sea: its bound may be raised
    have raise : (∀ h t, bo k = nI h → h < 6 → tu k = nI t → t < 1000000 → lo k < t → d + 1 < t) → SEA (fun n => if n = k then d + 1 else lo n) d nO hO ho tu ta be bo du go su ti := by
      intro hr
      refine ⟨s1, fun n hn => ?_, s3⟩
      by_cases q : n = k
      · subst q
        rcases s2 n hn with ⟨a, b, c⟩ | x
        · refine Or.inl ⟨a, b, ?_⟩
          rcases c with c | ⟨h2, t, c1, c2, c3, c4, c5, c6, c7, c8⟩
          · exact Or.inl c
          · exact Or.inr ⟨h2, t, c1, c2, c3, c4, c5, c6, c7, by show (if n = n then d + 1 else lo n) < t; rw [if_pos rfl]; exact hr h2 t c2 c1 c5 c7 c8⟩
        · exact Or.inr x
      · simp only [if_neg q]; exact s2 n hn
    have hlo' : ∀ n, n < k + 1 → d + 1 ≤ (if n = k then d + 1 else lo n) := by
      intro n hn
      by_cases q : n = k
      · rw [if_pos q]; omega
      · rw [if_neg q]; exact hlo n (by omega)
    have hlo2' : ∀ n, d ≤ (if n = k then d + 1 else lo n) := by
      intro n
      by_cases q : n = k
      · rw [if_pos q]; omega
      · rw [if_neg q]; exact hlo2 n
    rcases s2 k hk5 with ⟨a, b, c⟩ | ⟨a, b, c, -⟩
    · rcases c with c | ⟨h, t, c1, c2, c3, c4, c5, c6, c7, c8⟩
      · obtain ⟨x1, x2, x3, x4, x5, x6, g1, g2, g3⟩ := ih (k + 1) (by omega) f1 f2 (by omega) (by omega) nO hO ho be bo ti _ hlo' hlo2' (raise (fun h2 t2 q hq => absurd (q.symm.trans c) (nI_n6 (by omega))))
        exact ⟨x1, x2, x3, x4, x5, x6, (skipC _ (b.trans c) isHull_m6).trans g1, fun wb => (skipM wb c).trans (g2 wb), g3⟩
      · have hH : m_X7_isHull (nI h) = some 1 := isHull_N c1
        have tl : d < t := Nat.lt_of_le_of_lt (hlo2 k) c8
        have nb : ¬ nI h < 0 := nI_pos (by omega)
        by_cases q : d + 1 < t
        · obtain ⟨x1, x2, x3, x4, x5, x6, g1, g2, g3⟩ := ih (k + 1) (by omega) f1 f2 (by omega) (by omega) nO hO ho be bo ti _ hlo' hlo2' (raise (fun h2 t2 _ _ q1 q2 q3 => by
            have : t2 = t := (nI_eq (by omega) (by omega)).mp (q1.symm.trans c5)
            omega))
          refine ⟨x1, x2, x3, x4, x5, x6, Eq.trans ?_ g1, fun wb => Eq.trans ?_ (g2 wb), g3⟩
          · rw [dawn_7s]; unfold m_X4_dawn_7b m_X4_dawn_67
            rw [if_neg n5, ogi_N hk5 (by omega), ck, b, c2, hH, ogb_some, if_neg (by decide), ogi_N hk5 (by omega), c5, if_pos (nI_lt q (by omega)), ogl_def, nI_1]
          · have ne : ¬ nI t = nI (d + 1) := by rw [nI_eq (by omega) (by omega)]; omega
            rw [next_12s]; unfold m_X8_nextDay_12b m_X8_nextDay_70
            rw [if_neg n5, ogi_N hk5 (by omega), ck, c2, if_neg nb, ogi_N hk5 (by omega), c6, if_neg ne, ogl_def, nI_1]
        · have et : t = d + 1 := by omega
          subst et
          obtain ⟨x1, x2, x3, x4, x5, x6, g1, g2, g3⟩ := ih (k + 1) (by omega) f1 f2 (by omega) (by omega) _ _ _ _ _ _ _ hlo' hlo2' (S.home hk5 c1 c2 c3)
          refine ⟨x1, x2, x3, x4, x5, x6, Eq.trans ?_ g1, fun wb => Eq.trans ?_ (g2 wb), g3⟩
          · rw [dawn_7s]; unfold m_X4_dawn_7b m_X4_dawn_67
            rw [if_neg n5, ogi_N hk5 (by omega), ck, b, c2, hH, ogb_some, if_neg (by decide), ogi_N hk5 (by omega), c5, if_neg (nI_nlt (by omega) (by omega)), ogi_N hk5 (by omega), put_N _ _ c1 (by omega), ogb_some, ogi_N hk5 (by omega), ogi_N hk5 (by omega), ogi_N hk5 (by omega), ogl_def, nI_1]
          · rw [next_12s]; unfold m_X8_nextDay_12b m_X8_nextDay_70
            rw [if_neg n5, ogi_N hk5 (by omega), ck, c2, if_neg nb, ogi_N hk5 (by omega), c6, if_pos rfl, ogi_N hk5 (by omega), ogi_N c1 (by omega), ogi_N hk5 (by omega), ogi_N hk5 (by omega), ogi_N hk5 (by omega), ogl_def, nI_1, cl_N (show h < 2 ^ 31 by omega)]
    · obtain ⟨x1, x2, x3, x4, x5, x6, g1, g2, g3⟩ := ih (k + 1) (by omega) f1 f2 (by omega) (by omega) nO hO ho be bo ti _ hlo' hlo2' (raise (fun h2 t2 q hq => absurd (q.symm.trans c) (nI_n6 (by omega))))
      exact ⟨x1, x2, x3, x4, x5, x6, (skipC _ b isHull_m7).trans g1, fun wb => (skipM wb c).trans (g2 wb), g3⟩
