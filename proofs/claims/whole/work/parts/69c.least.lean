-- the least days, both sides
/-- the first of the best codes -/
def BSV (o v : Nat → Nat) (C s : Nat) : Prop := s < C ∧ okV o v s 6 = true ∧ ∀ c, c < C → okV o v c 6 = true → mxV v s 6 ≤ mxV v c 6 ∧ (c < s → mxV v s 6 < mxV v c 6)
theorem BSV_one {o v : Nat → Nat} {C s t : Nat} (a : BSV o v C s) (b : BSV o v C t) : s = t := by
  obtain ⟨a1, a2, a3⟩ := a
  obtain ⟨b1, b2, b3⟩ := b
  obtain ⟨x1, x2⟩ := a3 t b1 b2
  obtain ⟨y1, y2⟩ := b3 s a1 a2
  rcases Nat.lt_trichotomy s t with h | h | h
  · have := y2 h; omega
  · exact h
  · have := x2 h; omega
theorem ls_91s (may vo : Nat → Int32) (n : Nat) (a b c : Int32) (x y : Nat → Int32) : m_X0_leastDays_91 may vo (n + 1) a b c x y = m_X0_leastDays_91b (m_X0_leastDays_91 may vo n) may vo a b c x y := rfl
theorem ls_24s (may vo : Nat → Int32) (n : Nat) (a b c d : Int32) (x y : Nat → Int32) : m_X0_leastDays_24 may vo (n + 1) a b c d x y = m_X0_leastDays_24b (m_X0_leastDays_24 may vo n) may vo a b c d x y := rfl
def smU (v : Nat → Nat) : Nat → Nat
  | 0 => 0
  | k + 1 => smU v k + v k
def mxU (v : Nat → Nat) : Nat → Nat
  | 0 => 0
  | k + 1 => if mxU v k < v k then v k else mxU v k
theorem smU_6 (v : Nat → Nat) : smU v 6 = smV v 6 := by
  show 0 + v 0 + v 1 + v 2 + v 3 + v 4 + v 5 = 0 + v 5 + v 4 + v 3 + v 2 + v 1 + v 0
  omega
theorem mxU_of (v : Nat → Nat) (L : Nat) : ∀ k, (∀ h, h < k → v h ≤ L) → mxU v k ≤ L
  | 0, _ => Nat.zero_le L
  | k + 1, h => by
    have := mxU_of v L k (fun h' hh => h h' (by omega))
    show (if mxU v k < v k then v k else mxU v k) ≤ L
    by_cases q : mxU v k < v k
    · rw [if_pos q]; exact h k (by omega)
    · rw [if_neg q]; exact this
theorem mxU_le (v : Nat → Nat) (h : ∀ k, k < 6 → v k ≤ 9) : ∀ k, k ≤ 6 → mxU v k ≤ 9 := fun k hk => mxU_of v 9 k (fun h' hh => h h' (by omega))
theorem smU_le (v : Nat → Nat) (h : ∀ k, k < 6 → v k ≤ 9) : ∀ k, k ≤ 6 → smU v k ≤ 9 * k
  | 0, _ => Nat.le_refl 0
  | k + 1, hk => by
    have := smU_le v h k (by omega)
    have := h k (by omega)
    show smU v k + v k ≤ _
    omega
theorem mx_own (v : Nat → Nat) (c : Nat) : mxU v 6 ≤ mxV v c 6 := by
  refine mxU_of v _ 6 (fun h hh => ?_)
  have := ld_own v c 6 (5 - h) (by omega)
  rw [show 5 - (5 - h) = h by omega] at this
  exact Nat.le_trans this (ld_mx v c 6 _)
theorem fe_top {o v : Nat → Nat} {lim c : Nat} : feV o v lim c 6 (fun _ => 0) = true ↔ okV o v c 6 = true ∧ mxV v c 6 ≤ lim := by
  rw [feV_iff 6 (fun _ => 0) (fun _ _ => Nat.zero_le lim)]
  constructor
  · rintro ⟨h1, h2⟩
    exact ⟨h1, mx_ld v c lim 6 (fun n hn => by have := h2 n hn; omega)⟩
  · rintro ⟨h1, h2⟩
    exact ⟨h1, fun n hn => by have := ld_mx v c 6 n; omega⟩
def LDR (o v : Nat → Nat) (x : Option (Int32 × ((Nat → Int32) × (Nat → Int32)))) : Prop :=
  ((∀ c, okV o v c 6 = false) ∧ ∃ bz nz, x = some (-6, (bz, nz)) ∧ ∀ i, i < 6 → nz i = -6) ∨
  ∃ s, BSV o v 15625 s ∧ ∃ bz nz, x = some (nI (mxV v s 6), (bz, nz)) ∧ ∀ i, i < 6 → nz i = gvv v s i
theorem ls_91 {may vo : Nat → Int32} (hm : rng 6 31 may) (hv : rng 6 9 vo) {N : Nat} (hN : N < 32) {g : Nat} (hg : g < 15625) (hok : okV (oz may N) (nV vo) g 6 = true) : ∀ (m l : Nat), l + m = smV (nV vo) 6 → ∀ f, m < f → ∀ busy nm : Nat → Int32, (∀ n, n < 5 → busy n = 0) → (∀ i, i < 6 → nm i = -6) → (∀ c, okV (oz may N) (nV vo) c 6 = true → l ≤ mxV (nV vo) c 6) →
    LDR (oz may N) (nV vo) (m_X0_leastDays_91 may vo f (nI N) (nI (smV (nV vo) 6)) (nI l) busy nm) := by
  have hv9 : ∀ k, k < 6 → nV vo k ≤ 9 := fun k hk => (nV_of (by omega) hv hk).2
  have hs := smU_le (nV vo) hv9 6 (by omega)
  rw [smU_6] at hs
  intro m
  induction m with
  | zero =>
    intro l hl f hf busy nm hB h6 hmin
    obtain ⟨f, rfl⟩ : ∃ z, f = z + 1 := ⟨f - 1, by omega⟩
    have F := fits_N hm hv (N := N) (lim := l) hN (by omega) 6 (by omega) 8 (by omega) (fun _ => 0) busy nm (fun _ _ => Nat.zero_le l) (fun n hn => by rw [hB n hn]; rfl) (fun i hi _ => h6 i hi)
    have z0' : nI (6 - 6) = 0 := rfl
    rw [z0'] at F
    rw [ls_91s]; unfold m_X0_leastDays_91b
    rw [if_neg (nI_nlt (by omega) (by omega))]
    rcases F with ⟨f1, -⟩ | ⟨s, s1, s2, s3, bz, nz, f2, f3⟩
    · have := f1 g
      rw [← Bool.not_eq_true, fe_top] at this
      exact absurd ⟨hok, by have := mx_sm (nV vo) g 6; omega⟩ this
    · rw [f2, ogb_some, if_neg (show ¬ (1 : Int32) = 0 by decide)]
      obtain ⟨ok, le⟩ := fe_top.mp s2
      have ge := hmin s ok
      have el : l = mxV (nV vo) s 6 := by omega
      refine Or.inr ⟨s, ⟨s1, ok, fun c hc okc => ⟨by have := hmin c okc; omega, fun h => ?_⟩⟩, bz, nz, by rw [el], fun i hi => (f3 i hi).2 (by omega)⟩
      have hcm : c % 5 ^ 6 < s := by have : c % 5 ^ 6 = c := Nat.mod_eq_of_lt hc; omega
      have := s3 c hcm
      rw [← Bool.not_eq_true, fe_top] at this
      rcases Nat.lt_or_ge (mxV (nV vo) s 6) (mxV (nV vo) c 6) with z | z
      · exact z
      · exact absurd ⟨okc, by omega⟩ this
  | succ m ih =>
    intro l hl f hf busy nm hB h6 hmin
    obtain ⟨f, rfl⟩ : ∃ z, f = z + 1 := ⟨f - 1, by omega⟩
    have F := fits_N hm hv (N := N) (lim := l) hN (by omega) 6 (by omega) 8 (by omega) (fun _ => 0) busy nm (fun _ _ => Nat.zero_le l) (fun n hn => by rw [hB n hn]; rfl) (fun i hi _ => h6 i hi)
    have z0' : nI (6 - 6) = 0 := rfl
    rw [z0'] at F
    rw [ls_91s]; unfold m_X0_leastDays_91b
    rw [if_neg (nI_nlt (by omega) (by omega))]
    rcases F with ⟨f1, bz, nz, f2, f3, f4⟩ | ⟨s, s1, s2, s3, bz, nz, f2, f3⟩
    · rw [f2, ogb_some, if_pos rfl, ogl_def, nI_1]
      refine ih (l + 1) (by omega) f (by omega) _ _ (fun n hn => (f3 n hn).trans (hB n hn)) (fun i hi => (f4 i hi).trans (h6 i hi)) (fun c okc => ?_)
      have := f1 c
      rw [← Bool.not_eq_true, fe_top] at this
      have h1 := hmin c okc
      rcases Nat.lt_or_ge l (mxV (nV vo) c 6) with z | z
      · exact z
      · exact absurd ⟨okc, z⟩ this
    · rw [f2, ogb_some, if_neg (show ¬ (1 : Int32) = 0 by decide)]
      obtain ⟨ok, le⟩ := fe_top.mp s2
      have ge := hmin s ok
      have el : l = mxV (nV vo) s 6 := by omega
      refine Or.inr ⟨s, ⟨s1, ok, fun c hc okc => ⟨by have := hmin c okc; omega, fun h => ?_⟩⟩, bz, nz, by rw [el], fun i hi => (f3 i hi).2 (by omega)⟩
      have hcm : c % 5 ^ 6 < s := by have : c % 5 ^ 6 = c := Nat.mod_eq_of_lt hc; omega
      have := s3 c hcm
      rw [← Bool.not_eq_true, fe_top] at this
      rcases Nat.lt_or_ge (mxV (nV vo) s 6) (mxV (nV vo) c 6) with z | z
      · exact z
      · exact absurd ⟨okc, by omega⟩ this
theorem bad_hull {o v : Nat → Nat} {h : Nat} (hh : h < 6) (hv : v h ≠ 0) (ho : o h = 0) (c : Nat) : okV o v c 6 = false := by
  have key : ∀ k, k ≤ 6 → 5 - h < k → okV o v c k = false := by
    intro k
    induction k with
    | zero => intro _ h; exact absurd h (by omega)
    | succ k ih =>
      intro hk h2
      rw [okV_s]
      by_cases q : k = 5 - h
      · subst q
        have e : 5 - (5 - h) = h := by omega
        unfold okd
        rw [e, if_neg hv, ho, Nat.zero_testBit, Bool.and_false]
      · rw [ih (by omega) (by omega), Bool.false_and]
  exact key 6 (by omega) (by omega)
theorem ld_class {may vo : Nat → Int32} (hm : rng 6 31 may) (hv : rng 6 9 vo) {N : Nat} (hN : N < 32) (busy nm : Nat → Int32) : LDR (oz may N) (nV vo) (m_X0_leastDays may vo busy nm (nI N)) := by
  have hv9 : ∀ k, k < 6 → nV vo k ≤ 9 := fun k hk => (nV_of (by omega) hv hk).2
  have hs := smU_le (nV vo) hv9 6 (by omega)
  have run : ∀ (m h : Nat), h + m = 6 → ∀ f, m < f → (∀ i, i < h → nV vo i ≠ 0 → oz may N i ≠ 0) → ∀ busy nm : Nat → Int32, (∀ n, n < 5 → busy n = 0) → (∀ i, i < 6 → nm i = -6) → LDR (oz may N) (nV vo) (m_X0_leastDays_24 may vo f (nI N) (nI (mxU (nV vo) h)) (nI (smU (nV vo) h)) (nI h) busy nm) := by
    intro m
    induction m with
    | zero =>
      intro h hh f hf hno busy nm hB h6
      obtain ⟨f, rfl⟩ : ∃ z, f = z + 1 := ⟨f - 1, by omega⟩
      have : h = 6 := by omega
      subst this
      rw [ls_24s]; unfold m_X0_leastDays_24b
      rw [if_pos (by decide), smU_6]
      have hx : ∀ h, h < 6 → nV vo h ≠ 0 → ∃ d, d < 5 ∧ (oz may N h).testBit d = true := by
        intro h hh hvh
        rcases Classical.em (∃ d, d < 5 ∧ (oz may N h).testBit d = true) with q | q
        · exact q
        · have ol : oz may N h < 32 := and_lt (by have := (nV_of (by omega) hm hh).2; omega)
          exact absurd (bits0 ol (fun d hd => Bool.eq_false_iff.mpr (fun e => q ⟨d, hd, e⟩))) (hno h hh hvh)
      obtain ⟨g, hg, ok⟩ := okV_ex hx 6 (by omega)
      have hmx : mxU (nV vo) 6 ≤ smV (nV vo) 6 := Nat.le_trans (mx_own (nV vo) g) (mx_sm (nV vo) g 6)
      exact ls_91 hm hv hN hg ok (smV (nV vo) 6 - mxU (nV vo) 6) (mxU (nV vo) 6) (by omega) 1000000 (by rw [← smU_6]; omega) busy nm hB h6 (fun c _ => mx_own (nV vo) c)
    | succ m ih =>
      intro h hh f hf hno busy nm hB h6
      obtain ⟨f, rfl⟩ : ∃ z, f = z + 1 := ⟨f - 1, by omega⟩
      have hh6 : h < 6 := by omega
      obtain ⟨ev, hv9h⟩ := nV_of (by omega) hv hh6
      obtain ⟨em, hm31⟩ := nV_of (by omega) hm hh6
      have hmx := mxU_le (nV vo) hv9 h (by omega)
      have hsm := smU_le (nV vo) hv9 h (by omega)
      have e1 : mxU (nV vo) (h + 1) = if mxU (nV vo) h < nV vo h then nV vo h else mxU (nV vo) h := rfl
      have e2 : smU (nV vo) (h + 1) = smU (nV vo) h + nV vo h := rfl
      have go : (nV vo h ≠ 0 → oz may N h ≠ 0) → LDR (oz may N) (nV vo) (m_X0_leastDays_70 (m_X0_leastDays_24 may vo f) may vo (nI N) (nI (mxU (nV vo) h)) (nI (smU (nV vo) h)) (nI h) (nI (nV vo h)) busy nm) := by
        intro hx
        have hi := ih (h + 1) (by omega) f (by omega) (fun i hi => by
          by_cases z : i = h
          · rw [z]; exact hx
          · exact hno i (by omega)) busy nm hB h6
        unfold m_X0_leastDays_70
        rw [ogl_def, ogl_def, ogl_def, nI_1, nI_add, ← e2]
        have em' : (if nI (mxU (nV vo) h) < nI (nV vo h) then nI (nV vo h) else nI (mxU (nV vo) h)) = nI (mxU (nV vo) (h + 1)) := by
          rw [e1]
          by_cases z : mxU (nV vo) h < nV vo h
          · rw [if_pos (nI_lt z (by omega)), if_pos z]
          · rw [if_neg (nI_nlt (by omega) (by omega)), if_neg z]
        rw [em']
        exact hi
      rw [ls_24s]; unfold m_X0_leastDays_24b
      rw [if_neg (by rw [l6, nI_leI (by omega) (by omega)]; omega), at_N vo hh6 (by omega), ogb_some, ev]
      by_cases q : nV vo h = 0
      · rw [if_pos (by rw [q]; decide)]
        exact go (fun hx => absurd q hx)
      · rw [if_neg (nI_nle (by omega) (by omega)), at_N may hh6 (by omega), ogb_some, em, fa_and]
        have eo : nV may h &&& N = oz may N h := rfl
        have ol : oz may N h < 32 := and_lt (by omega)
        rw [eo]
        by_cases z : oz may N h = 0
        · rw [if_pos (by rw [z]; rfl)]
          exact Or.inl ⟨fun c => bad_hull hh6 q z c, busy, nm, rfl, h6⟩
        · rw [if_neg (nI_ne0 (by omega) (by omega))]
          exact go (fun _ => z)
  unfold m_X0_leastDays
  rw [fill_N (by omega), ogb_some, fill_N (by omega), ogb_some]
  exact run 6 0 (by omega) 1000000 (by omega) (fun i hi => absurd hi (by omega)) _ _ (fun n hn => if_pos hn) (fun i hi => if_pos hi)
