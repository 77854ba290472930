-- the check's days
abbrev K5 := Int32 → Int32 → Int32 → (Nat → Int32) → (Nat → Int32) → (Nat → Int32) → Option (Int32 × ((Nat → Int32) × (Nat → Int32) × (Nat → Int32)))
abbrev K47 := Int32 → Int32 → Int32 → Int32 → Int32 → Int32 → Int32 → (Nat → Int32) → (Nat → Int32) → (Nat → Int32) → Option (Int32 × ((Nat → Int32) × (Nat → Int32) × (Nat → Int32)))
theorem db_47s (k5 : K5) (mm mv : Nat → Int32) (n : Nat) (a b c d e f g : Int32) (x y z : Nat → Int32) : m_X8_daysBy_47 k5 mm mv (n + 1) a b c d e f g x y z = m_X8_daysBy_47b k5 (m_X8_daysBy_47 k5 mm mv n) mm mv a b c d e f g x y z := rfl
theorem db_24s (k5 : K5) (mm mv : Nat → Int32) (n : Nat) (a b c d e f g : Int32) (x y z : Nat → Int32) : m_X8_daysBy_24 k5 mm mv (n + 1) a b c d e f g x y z = m_X8_daysBy_24b k5 (m_X8_daysBy_24 k5 mm mv n) mm mv a b c d e f g x y z := rfl
theorem db_5s (mm mv : Nat → Int32) (n : Nat) (a b c : Int32) (x y z : Nat → Int32) : m_X8_daysBy_5 mm mv (n + 1) a b c x y z = m_X8_daysBy_5b (m_X8_daysBy_5 mm mv n) mm mv a b c x y z := rfl
theorem rem5 {k : Nat} (h : k < 2 ^ 31) : nI k - nI k / 5 * 5 = nI (k % 5) := pk_rem (d := 5) h (by omega) (by omega)
theorem div5 {k : Nat} (h : k < 2 ^ 31) : nI k / 5 = nI (k / 5) := pk_div (d := 5) h (by omega) (by omega)
theorem db_87 {may mm vo mv : Nat → Int32} (hm : rng 6 31 may) (hEm : eqN 6 may mm) (hv : rng 6 9 vo) (hEv : eqN 6 vo mv) {N : Nat} (hN : N < 32) {c k : Nat} (hk : k < 6) (k5 : K5) (k47 : K47) (v2 v3 v4 v6 s2 : Int32) (best gives sums : Nat → Int32) :
    m_X8_daysBy_87 k5 k47 mm mv (nI N) v2 v3 v4 (flg2 (okV (oz may N) (nV vo) c k)) v6 (nI (5 - k)) (nI (dv c (5 - k))) (nI (5 - k)) s2 best gives sums = m_X8_daysBy_133 k5 k47 mm mv (nI N) v2 v3 v4 v6 (nI (5 - k)) (nI (dv c (5 - k))) (flg2 (okV (oz may N) (nV vo) c (k + 1))) best (upd gives (5 - k) s2) sums := by
  have hh : 5 - k < 6 := by omega
  have hd := dv_lt c (5 - k)
  obtain ⟨em, hm31⟩ := nV_of (by omega) hm hh
  obtain ⟨ev, hv9⟩ := nV_of (by omega) hv hh
  rw [hEm _ hh] at em
  rw [hEv _ hh] at ev
  have hX : N &&& nV may (5 - k) < 32 := and_lt hN
  have i6 : ∀ {α : Type} (z : Option α), ogi (nI (5 - k)) 6 z = z := fun z => ogi_N hh (by omega)
  have eo : oz may N (5 - k) = N &&& nV may (5 - k) := Nat.and_comm _ _
  unfold m_X8_daysBy_87 m_X8_daysBy_128 m_X8_daysBy_132
  simp only [i6, cl_N (show 5 - k < 2 ^ 31 by omega)]
  rw [em, ev, fa_and, hb8 (show N &&& nV may (5 - k) < 64 by omega) (show dv c (5 - k) < 6 by omega), ogb_some, okV_s]
  unfold okd
  rw [eo]
  have f0 : flg2 false = 0 := rfl
  have f1 : flg2 true = 1 := rfl
  cases okV (oz may N) (nV vo) c k
  · rw [Bool.false_and, f0, if_pos rfl]
  · rw [if_neg (show ¬ flg2 true = 0 by decide), Bool.true_and]
    by_cases q : nV vo (5 - k) = 0
    · rw [if_pos (by rw [q]; decide), if_pos q]
      by_cases z : dv c (5 - k) = 0
      · rw [if_pos (by rw [z]; rfl), decide_eq_true z, f1]
      · rw [if_neg (nI_ne0 (by omega) (by omega)), decide_eq_false z, f0]
    · rw [if_neg (nI_nle (by omega) (by omega)), if_neg q]
      cases (N &&& nV may (5 - k)).testBit (dv c (5 - k))
      · rw [f0, if_neg (show ¬ (false = true) by decide), if_pos rfl]
      · rw [f1, if_pos rfl, if_neg (show ¬ (1 : Int32) = 0 by decide)]
theorem db_47 {may mm vo mv : Nat → Int32} (hm : rng 6 31 may) (hEm : eqN 6 may mm) (hv : rng 6 9 vo) (hEv : eqN 6 vo mv) {N : Nat} (hN : N < 32) {c : Nat} (hc : c < 2 ^ 31) (v2 v3 : Int32) (best : Nat → Int32) : ∀ (m k : Nat), k + m = 6 → ∀ f, m < f → ∀ v, v = nI m + (-1) → ∀ gives sums : Nat → Int32, (∀ j, j < 6 → 6 ≤ j + k → gives j = gvv (nV vo) c j) → (∀ n, n < 5 → sums n = nI (ldV (nV vo) c n k)) →
    ∃ gives' sums' : Nat → Int32, (∀ j, j < 6 → gives' j = gvv (nV vo) c j) ∧ ∀ k5 : K5, m_X8_daysBy_47 k5 mm mv f (nI N) v2 v3 (nI (c / 5 ^ k)) (flg2 (okV (oz may N) (nV vo) c k)) (nI (mxV (nV vo) c k)) v best gives sums = (if okV (oz may N) (nV vo) c 6 = false then k5 (nI N) v2 (v3 + 1) best gives' sums' else if v2 ≤ nI (mxV (nV vo) c 6) then k5 (nI N) v2 (v3 + 1) best gives' sums' else k5 (nI N) (nI (mxV (nV vo) c 6)) (v3 + 1) (prg gives' best 6) gives' sums') := by
  have hv9 : ∀ k, k < 6 → nV vo k ≤ 9 := fun k hk => (nV_of (by omega) hv hk).2
  have hs := smU_le (nV vo) hv9 6 (by omega)
  rw [smU_6] at hs
  intro m
  induction m with
  | zero =>
    intro k hk f hf v hvv gives sums G S
    obtain ⟨f, rfl⟩ : ∃ z, f = z + 1 := ⟨f - 1, by omega⟩
    have : k = 6 := by omega
    subst this
    refine ⟨gives, sums, fun j hj => G j hj (by omega), fun k5 => ?_⟩
    rw [db_47s]; unfold m_X8_daysBy_47b m_X8_daysBy_202
    rw [if_pos (by rw [hvv]; decide), keepB_N, ogb_some]
    simp only [ogl_def]
    cases okV (oz may N) (nV vo) c 6
    · rfl
    · rfl
  | succ m ih =>
    intro k hk f hf v hvv gives sums G S
    obtain ⟨f, rfl⟩ : ∃ z, f = z + 1 := ⟨f - 1, by omega⟩
    have hk6 : k < 6 := by omega
    have hh : 5 - k < 6 := by omega
    have hd := dv_lt c (5 - k)
    have hb : c / 5 ^ k < 2 ^ 31 := Nat.lt_of_le_of_lt (Nat.div_le_self _ _) hc
    obtain ⟨ev, hv9h⟩ := nV_of (by omega) hv hh
    rw [hEv _ hh] at ev
    have hv1 : v = nI (5 - k) := by rw [hvv, pk_m1, show m = 5 - k by omega]
    have er : nI (c / 5 ^ k % 5) = nI (dv c (5 - k)) := by rw [dv_at c hk6]
    have ediv : c / 5 ^ k / 5 = c / 5 ^ (k + 1) := by rw [Nat.div_div_eq_div_mul, ← Nat.pow_succ]
    have hl1 := ldV_sm (nV vo) c (dv c (5 - k)) k
    have hmx := mx_sm (nV vo) c k
    have hsk : ∀ k, k ≤ 6 → smV (nV vo) k ≤ 9 * k := by
      intro k
      induction k with
      | zero => intro _; exact Nat.le_refl 0
      | succ k ihk =>
        intro h
        have := ihk (by omega)
        have := hv9 (5 - k) (by omega)
        show smV (nV vo) k + nV vo (5 - k) ≤ _
        omega
    have hsk6 := hsk k (by omega)
    have e1 : ldV (nV vo) c (dv c (5 - k)) (k + 1) = ldV (nV vo) c (dv c (5 - k)) k + nV vo (5 - k) := by rw [ldV_s, if_pos rfl]
    obtain ⟨g', s', p1, p2⟩ := ih (k + 1) (by omega) f (by omega) (nI (5 - k) + (-1)) (by rw [show 5 - k = m by omega]) (upd gives (5 - k) (gvv (nV vo) c (5 - k))) (upd sums (dv c (5 - k)) (nI (ldV (nV vo) c (dv c (5 - k)) k + nV vo (5 - k)))) (fun j hj h6 => by
      by_cases z : j = 5 - k
      · subst z; exact upd_s _ _ _
      · rw [upd_n _ _ z]; exact G j hj (by omega)) (fun n hn => by
      by_cases z : n = dv c (5 - k)
      · subst z; rw [upd_s, e1]
      · rw [upd_n _ _ z, S n hn, ldV_s, if_neg (fun e => z e.symm), Nat.add_zero])
    refine ⟨g', s', p1, fun k5 => ?_⟩
    refine Eq.trans ?_ (p2 k5)
    have i6 : ∀ {α : Type} (z : Option α), ogi (nI (5 - k)) 6 z = z := fun z => ogi_N hh (by omega)
    have i5 : ∀ {α : Type} (z : Option α), ogi (nI (dv c (5 - k))) 5 z = z := fun z => ogi_N hd (by omega)
    have key : ∀ s2 : Int32, s2 = gvv (nV vo) c (5 - k) → m_X8_daysBy_87 k5 (m_X8_daysBy_47 k5 mm mv f) mm mv (nI N) v2 v3 (nI (c / 5 ^ (k + 1))) (flg2 (okV (oz may N) (nV vo) c k)) (nI (mxV (nV vo) c k)) (nI (5 - k)) (nI (dv c (5 - k))) (nI (5 - k)) s2 best gives sums = m_X8_daysBy_47 k5 mm mv f (nI N) v2 v3 (nI (c / 5 ^ (k + 1))) (flg2 (okV (oz may N) (nV vo) c (k + 1))) (nI (mxV (nV vo) c (k + 1))) (nI (5 - k) + (-1)) best (upd gives (5 - k) (gvv (nV vo) c (5 - k))) (upd sums (dv c (5 - k)) (nI (ldV (nV vo) c (dv c (5 - k)) k + nV vo (5 - k)))) := by
      intro s2 es
      rw [db_87 hm hEm hv hEv hN hk6, es]
      unfold m_X8_daysBy_133 m_X8_daysBy_176
      simp only [i6, i5, cl_N (show 5 - k < 2 ^ 31 by omega), cl_N (show dv c (5 - k) < 2 ^ 31 by omega), upd_s, ogl_def]
      rw [S _ hd, ev, nI_add, mxV_s, e1]
      by_cases z : ldV (nV vo) c (dv c (5 - k)) k + nV vo (5 - k) ≤ mxV (nV vo) c k
      · rw [if_pos (by rw [nI_leI (by omega) (by omega)]; exact z), if_pos z]
      · rw [if_neg (by rw [nI_leI (by omega) (by omega)]; exact z), if_neg z]
    rw [hv1, db_47s]
    unfold m_X8_daysBy_47b
    rw [if_neg (nI_pos (by omega)), rem5 hb, div5 hb, ogl_def, ogl_def, er, ediv, i6, cl_N (show 5 - k < 2 ^ 31 by omega), ev]
    by_cases q : nV vo (5 - k) = 0
    · rw [if_pos (by rw [q]; decide)]
      exact key (-6) (by unfold gvv; rw [if_pos q])
    · rw [if_neg (nI_nle (by omega) (by omega))]
      exact key _ (by unfold gvv; rw [if_neg q])
theorem db_24 (k5 : K5) (mm mv : Nat → Int32) (a b c d : Int32) (x y z : Nat → Int32) : ∀ i, i ≤ 5 → ∀ fuel, 5 - i < fuel → m_X8_daysBy_24 k5 mm mv fuel a b c d 1 0 (nI i) x y (prg (fun _ => 0) z i) = m_X8_daysBy_47 k5 mm mv 1000000 a b c d 1 0 5 x y (cst 0 5 z) := by
  refine loop_up (fun fuel i => m_X8_daysBy_24 k5 mm mv fuel a b c d 1 0 (nI i) x y (prg (fun _ => 0) z i) = m_X8_daysBy_47 k5 mm mv 1000000 a b c d 1 0 5 x y (cst 0 5 z)) 5 (fun fuel => ?_) (fun fuel i hi ih => ?_)
  · rw [db_24s]; unfold m_X8_daysBy_24b
    rw [if_pos (by decide)]
    rfl
  · rw [db_24s]; unfold m_X8_daysBy_24b
    rw [if_neg (by rw [l5, nI_leI (by omega) (by omega)]; omega), ogi_N hi (by omega), ogl_def, nI_1, cl_N (by omega), prg_s (fun _ => 0)]
    exact ih
def DBR (o v : Nat → Nat) (x : Option (Int32 × ((Nat → Int32) × (Nat → Int32) × (Nat → Int32)))) : Prop :=
  ((∀ c, c < 15625 → okV o v c 6 = false) ∧ ∃ b g s, x = some (1000000, (b, g, s))) ∨
  ∃ t, BSV o v 15625 t ∧ ∃ b g s, x = some (nI (mxV v t 6), (b, g, s)) ∧ ∀ i, i < 6 → b i = gvv v t i
theorem db_run {may mm vo mv : Nat → Int32} (hm : rng 6 31 may) (hEm : eqN 6 may mm) (hv : rng 6 9 vo) (hEv : eqN 6 vo mv) {N : Nat} (hN : N < 32) : ∀ (m C : Nat), C + m = 15625 → ∀ f, m < f → ∀ (v2 : Int32) (best gives sums : Nat → Int32), (((∀ c, c < C → okV (oz may N) (nV vo) c 6 = false) ∧ v2 = 1000000) ∨ ∃ t, BSV (oz may N) (nV vo) C t ∧ v2 = nI (mxV (nV vo) t 6) ∧ ∀ i, i < 6 → best i = gvv (nV vo) t i) →
    DBR (oz may N) (nV vo) (m_X8_daysBy_5 mm mv f (nI N) v2 (nI C) best gives sums) := by
  have hv9 : ∀ k, k < 6 → nV vo k ≤ 9 := fun k hk => (nV_of (by omega) hv hk).2
  have hs := smU_le (nV vo) hv9 6 (by omega)
  rw [smU_6] at hs
  have lE : (15625 : Int32) = nI 15625 := rfl
  have lM : (1000000 : Int32) = nI 1000000 := rfl
  intro m
  induction m with
  | zero =>
    intro C hC f hf v2 best gives sums M
    obtain ⟨f, rfl⟩ : ∃ z, f = z + 1 := ⟨f - 1, by omega⟩
    have : C = 15625 := by omega
    subst this
    rw [db_5s]; unfold m_X8_daysBy_5b
    rw [if_pos (by rw [lE, nI_leI (by omega) (by omega)]; omega)]
    rcases M with ⟨h, e⟩ | ⟨t, B, e, hb⟩
    · exact Or.inl ⟨h, best, gives, sums, by rw [e]⟩
    · exact Or.inr ⟨t, B, best, gives, sums, by rw [e], hb⟩
  | succ m ih =>
    intro C hC f hf v2 best gives sums M
    obtain ⟨f, rfl⟩ : ∃ z, f = z + 1 := ⟨f - 1, by omega⟩
    obtain ⟨g', s', p1, p2⟩ := db_47 hm hEm hv hEv hN (c := C) (by omega) v2 (nI C) best 6 0 (by omega) 1000000 (by omega) 5 (by decide) gives (cst 0 5 sums) (fun j hj h => absurd h (by omega)) (fun n hn => cst_lt hn)
    rw [Nat.pow_zero, Nat.div_one] at p2
    have unf : m_X8_daysBy_5 mm mv (f + 1) (nI N) v2 (nI C) best gives sums = m_X8_daysBy_47 (m_X8_daysBy_5 mm mv f) mm mv 1000000 (nI N) v2 (nI C) (nI C) 1 0 5 best gives (cst 0 5 sums) := by
      rw [db_5s]; unfold m_X8_daysBy_5b
      rw [if_neg (by rw [lE, nI_leI (by omega) (by omega)]; omega)]
      have h := db_24 (m_X8_daysBy_5 mm mv f) mm mv (nI N) v2 (nI C) (nI C) best gives sums 0 (by omega) 1000000 (by omega)
      rw [prg_0] at h
      exact h
    have p3 : m_X8_daysBy_47 (m_X8_daysBy_5 mm mv f) mm mv 1000000 (nI N) v2 (nI C) (nI C) 1 0 5 best gives (cst 0 5 sums) = _ := p2 (m_X8_daysBy_5 mm mv f)
    rw [unf, p3, nI_1]
    have hmc := mx_sm (nV vo) C 6
    cases ok : okV (oz may N) (nV vo) C 6
    · rw [if_pos rfl]
      refine ih (C + 1) (by omega) f (by omega) v2 best g' s' ?_
      rcases M with ⟨h, e⟩ | ⟨t, ⟨b1, b2, b3⟩, e, hb⟩
      · refine Or.inl ⟨fun c hc => ?_, e⟩
        by_cases z : c = C
        · rw [z]; exact ok
        · exact h c (by omega)
      · refine Or.inr ⟨t, ⟨by omega, b2, fun c hc okc => ?_⟩, e, hb⟩
        by_cases z : c = C
        · rw [z, ok] at okc; exact absurd okc (by decide)
        · exact b3 c (by omega) okc
    · rw [if_neg (by decide)]
      rcases M with ⟨h, e⟩ | ⟨t, ⟨b1, b2, b3⟩, e, hb⟩
      · rw [if_neg (by rw [e, lM, nI_leI (by omega) (by omega)]; omega)]
        refine ih (C + 1) (by omega) f (by omega) _ _ g' s' (Or.inr ⟨C, ⟨by omega, ok, fun c hc okc => ?_⟩, rfl, fun i hi => by rw [prg_lt hi]; exact p1 i hi⟩)
        by_cases z : c = C
        · rw [z]; exact ⟨Nat.le_refl _, fun h => absurd h (by omega)⟩
        · rw [h c (by omega)] at okc; exact absurd okc (by decide)
      · have hmt := mx_sm (nV vo) t 6
        by_cases q : mxV (nV vo) t 6 ≤ mxV (nV vo) C 6
        · rw [if_pos (by rw [e, nI_leI (by omega) (by omega)]; exact q)]
          refine ih (C + 1) (by omega) f (by omega) v2 best g' s' (Or.inr ⟨t, ⟨by omega, b2, fun c hc okc => ?_⟩, e, hb⟩)
          by_cases z : c = C
          · rw [z]; exact ⟨q, fun h => absurd h (by omega)⟩
          · exact b3 c (by omega) okc
        · rw [if_neg (by rw [e, nI_leI (by omega) (by omega)]; exact q)]
          refine ih (C + 1) (by omega) f (by omega) _ _ g' s' (Or.inr ⟨C, ⟨by omega, ok, fun c hc okc => ?_⟩, rfl, fun i hi => by rw [prg_lt hi]; exact p1 i hi⟩)
          by_cases z : c = C
          · rw [z]; exact ⟨Nat.le_refl _, fun h => absurd h (by omega)⟩
          · have := (b3 c (by omega) okc).1
            exact ⟨by omega, fun _ => by omega⟩
theorem db_N {may mm vo mv : Nat → Int32} (hm : rng 6 31 may) (hEm : eqN 6 may mm) (hv : rng 6 9 vo) (hEv : eqN 6 vo mv) {N : Nat} (hN : N < 32) (best gives sums : Nat → Int32) : DBR (oz may N) (nV vo) (m_X8_daysBy mm mv best gives sums (nI N)) :=
  db_run hm hEm hv hEv hN 15625 0 (by omega) 1000000 (by omega) 1000000 best gives sums (Or.inl ⟨fun c hc => absurd hc (by omega), rfl⟩)
/-- both at once -/
theorem days_both {may mm vo mv : Nat → Int32} (hm : rng 6 31 may) (hEm : eqN 6 may mm) (hv : rng 6 9 vo) (hEv : eqN 6 vo mv) {N : Nat} (hN : N < 32) (busy nm best gives sums : Nat → Int32) :
    ∃ (b1 n1 b2 g2 s2 : Nat → Int32), (m_X0_leastDays may vo busy nm (nI N) = some (-6, (b1, n1)) ∧ m_X8_daysBy mm mv best gives sums (nI N) = some (1000000, (b2, g2, s2)) ∧ ∀ i, i < 6 → n1 i = -6) ∨
      ∃ y, y < 1000 ∧ m_X0_leastDays may vo busy nm (nI N) = some (nI y, (b1, n1)) ∧ m_X8_daysBy mm mv best gives sums (nI N) = some (nI y, (b2, g2, s2)) ∧ ∀ i, i < 6 → n1 i = b2 i := by
  have hv9 : ∀ k, k < 6 → nV vo k ≤ 9 := fun k hk => (nV_of (by omega) hv hk).2
  have hs := smU_le (nV vo) hv9 6 (by omega)
  rw [smU_6] at hs
  rcases ld_class hm hv hN busy nm with ⟨f1, bz, nz, e1, e2⟩ | ⟨s, B, bz, nz, e1, e2⟩
  · rcases db_N hm hEm hv hEv hN best gives sums with ⟨-, b, g, su, e3⟩ | ⟨t, ⟨-, T, -⟩, -⟩
    · exact ⟨bz, nz, b, g, su, Or.inl ⟨e1, e3, e2⟩⟩
    · rw [f1 t] at T; exact absurd T (by decide)
  · rcases db_N hm hEm hv hEv hN best gives sums with ⟨h, -⟩ | ⟨t, T, b, g, su, e3, e4⟩
    · exact absurd B.2.1 (by rw [h s B.1]; decide)
    · have := BSV_one B T
      subst this
      have hmx := mx_sm (nV vo) s 6
      exact ⟨bz, nz, b, g, su, Or.inr ⟨mxV (nV vo) s 6, by omega, e1, e3, fun i hi => by rw [e2 i hi, e4 i hi]⟩⟩
