-- a winter, side by side
def lst (P : Nat → Bool) : Nat → Int32
  | 0 => -6
  | m + 1 => if P (4 - m) then nI (4 - m) else lst P m
theorem lst_rg (P : Nat → Bool) : ∀ m, m ≤ 5 → lst P m = -6 ∨ ∃ n, n < 5 ∧ lst P m = nI n ∧ P n = true
  | 0, _ => Or.inl rfl
  | m + 1, h => by
    show (if P (4 - m) then nI (4 - m) else lst P m) = -6 ∨ ∃ n, n < 5 ∧ (if P (4 - m) then nI (4 - m) else lst P m) = nI n ∧ P n = true
    by_cases q : P (4 - m) = true
    · rw [if_pos q]; exact Or.inr ⟨4 - m, by omega, rfl, q⟩
    · rw [if_neg q]; exact lst_rg P m (by omega)
theorem ln_2s (may hO : Nat → Int32) (n : Nat) (a b : Int32) : m_X5_leastName_2 may hO (n + 1) a b = m_X5_leastName_2b (m_X5_leastName_2 may hO n) may hO a b := rfl
theorem la_5s (bo go mm : Nat → Int32) (n : Nat) (a b c : Int32) : m_X8_leastAtHome_5 bo go mm (n + 1) a b c = m_X8_leastAtHome_5b (m_X8_leastAtHome_5 bo go mm n) bo go mm a b c := rfl
noncomputable def PL (bo go mm : Nat → Int32) (k : Nat) : Nat → Bool := fun n => decide (bo n = -6 ∧ go n = 0 ∧ m_X8_has (mm k) (nI n) = some 1)
theorem home_iff {lo : Nat → Nat} {d n : Nat} {nO hO ho tu ta be bo du go su ti : Nat → Int32} (S : SEA lo d nO hO ho tu ta be bo du go su ti) (hn : n < 5) : (hO n = -6 ↔ bo n = -6 ∧ go n = 0) ∧ (go n = 0 ∨ go n = 1) ∧ (bo n = -6 ∨ ∃ h, h < 6 ∧ bo n = nI h) := by
  rcases S.2.1 n hn with ⟨a, b, c⟩ | ⟨a, b, c, -⟩
  · refine ⟨⟨fun h => ⟨b.symm.trans h, a⟩, fun h => b.trans h.1⟩, Or.inl a, ?_⟩
    rcases c with c | ⟨h, t, c1, c2, -⟩
    · exact Or.inl c
    · exact Or.inr ⟨h, c1, c2⟩
  · refine ⟨⟨fun h => absurd (b.symm.trans h) (by decide), fun h => absurd (a.symm.trans h.2) (by decide)⟩, Or.inr a, Or.inl c⟩
theorem ln_run {d k : Nat} {nO hO ho tu ta be bo du go su ti may mm : Nat → Int32} (S : SEA (fun _ => d) d nO hO ho tu ta be bo du go su ti) (hk : k < 6) (hM : mm k = may k) : ∀ (m n : Nat), n + m = 5 → ∀ f, m < f → m_X5_leastName_2 may hO f (nI k) (nI n) = some (lst (PL bo go mm k) m) := by
  intro m
  induction m with
  | zero =>
    intro n hn f hf
    obtain ⟨f, rfl⟩ : ∃ z, f = z + 1 := ⟨f - 1, by omega⟩
    rw [ln_2s]
    unfold m_X5_leastName_2b
    rw [if_pos (by rw [l5, nI_leI (by omega) (by omega)]; omega)]
    rfl
  | succ m ih =>
    intro n hn f hf
    obtain ⟨f, rfl⟩ : ∃ z, f = z + 1 := ⟨f - 1, by omega⟩
    have hn5 : n < 5 := by omega
    obtain ⟨h1, h2, h3⟩ := home_iff S hn5
    obtain ⟨b, hb, hl, hh⟩ := lets_N may hk hn5
    rw [ln_2s]
    unfold m_X5_leastName_2b m_X5_leastName_37
    have e4 : 4 - m = n := by omega
    have el : lst (PL bo go mm k) (m + 1) = if PL bo go mm k n = true then nI n else lst (PL bo go mm k) m := by
      show (if PL bo go mm k (4 - m) then nI (4 - m) else lst (PL bo go mm k) m) = _
      rw [e4]
    rw [if_neg (by rw [l5, nI_leI (by omega) (by omega)]; omega), at_N hO hn5 (by omega), ogb_some, hl, ogb_some, el, ogl_def, nI_1]
    have step := ih (n + 1) (by omega) f (by omega)
    unfold PL
    by_cases q : hO n = -6
    · obtain ⟨q1, q2⟩ := h1.mp q
      rw [if_pos q]
      rcases hb with rfl | rfl
      · have : ¬ decide (bo n = -6 ∧ go n = 0 ∧ m_X8_has (mm k) (nI n) = some 1) = true := by
          rw [decide_eq_true_eq, hM, hh]
          intro h
          exact absurd h.2.2 (by decide)
        rw [if_pos rfl, if_neg this]
        exact step
      · have : decide (bo n = -6 ∧ go n = 0 ∧ m_X8_has (mm k) (nI n) = some 1) = true := by
          rw [decide_eq_true_eq, hM, hh]
          exact ⟨q1, q2, rfl⟩
        rw [if_neg (by decide), if_pos this]
    · have : ¬ decide (bo n = -6 ∧ go n = 0 ∧ m_X8_has (mm k) (nI n) = some 1) = true := by
        rw [decide_eq_true_eq]
        intro h
        exact q (h1.mpr ⟨h.1, h.2.1⟩)
      rw [if_neg q, if_neg this]
      exact step
theorem la_run {d k : Nat} {nO hO ho tu ta be bo du go su ti mm : Nat → Int32} (S : SEA (fun _ => d) d nO hO ho tu ta be bo du go su ti) (hk : k < 6) : ∀ (j : Nat), j < 5 → ∀ f, j + 1 < f → m_X8_leastAtHome_5 bo go mm f (nI k) (lst (PL bo go mm k) (4 - j)) (nI j) = some (lst (PL bo go mm k) 5) := by
  have one : ∀ (j : Nat), j < 5 → ∀ f, m_X8_leastAtHome_5 bo go mm (f + 1) (nI k) (lst (PL bo go mm k) (4 - j)) (nI j) = m_X8_leastAtHome_5 bo go mm f (nI k) (lst (PL bo go mm k) (5 - j)) (nI j + (-1)) := by
    intro j hj f
    obtain ⟨h1, h2, h3⟩ := home_iff S hj
    obtain ⟨b, hb, -, hh⟩ := lets_N mm hk hj
    have el : lst (PL bo go mm k) (5 - j) = if PL bo go mm k j = true then nI j else lst (PL bo go mm k) (4 - j) := by
      rw [show 5 - j = (4 - j) + 1 by omega]
      show (if PL bo go mm k (4 - (4 - j)) then nI (4 - (4 - j)) else lst (PL bo go mm k) (4 - j)) = _
      rw [show 4 - (4 - j) = j by omega]
    rw [la_5s]
    unfold m_X8_leastAtHome_5b m_X8_leastAtHome_44 m_X8_leastAtHome_45
    have i5 : ∀ {α : Type} (z : Option α), ogi (nI j) 5 z = z := fun z => ogi_N hj (by omega)
    simp only [i5, ogl_def, cl_N (show j < 2 ^ 31 by omega), cl_N (show k < 2 ^ 31 by omega)]
    rw [if_neg (nI_pos (by omega)), ogi_N hk (by omega), hh, ogb_some, el]
    unfold PL
    rw [hh]
    rcases hb with rfl | rfl
    · have : ¬ decide (bo j = -6 ∧ go j = 0 ∧ some (0 : Int32) = some 1) = true := by
        rw [decide_eq_true_eq]
        intro h
        exact absurd h.2.2 (by decide)
      rw [if_pos rfl, if_neg this]
    · rw [if_neg (by decide)]
      by_cases q : go j = 0
      · rw [if_pos q]
        rcases h3 with e | ⟨h, hh6, e⟩
        · have : decide (bo j = -6 ∧ go j = 0 ∧ some (1 : Int32) = some 1) = true := by
            rw [decide_eq_true_eq]
            exact ⟨e, q, rfl⟩
          rw [if_pos this, e, if_neg (by decide)]
        · have : ¬ decide (bo j = -6 ∧ go j = 0 ∧ some (1 : Int32) = some 1) = true := by
            rw [decide_eq_true_eq, e]
            intro h
            exact nI_n6 (by omega) h.1
          rw [if_neg this, e, if_pos (nI_pos' (by omega))]
      · have : ¬ decide (bo j = -6 ∧ go j = 0 ∧ some (1 : Int32) = some 1) = true := by
          rw [decide_eq_true_eq]
          intro h
          exact q h.2.1
        rw [if_neg q, if_neg this]
  intro j
  induction j with
  | zero =>
    intro hj f hf
    obtain ⟨f, rfl⟩ : ∃ z, f = z + 1 := ⟨f - 1, by omega⟩
    obtain ⟨f, rfl⟩ : ∃ z, f = z + 1 := ⟨f - 1, by omega⟩
    rw [one 0 hj, show nI 0 + (-1) = -1 by decide, la_5s]
    unfold m_X8_leastAtHome_5b
    rw [if_pos (by decide)]
  | succ j ih =>
    intro hj f hf
    obtain ⟨f, rfl⟩ : ∃ z, f = z + 1 := ⟨f - 1, by omega⟩
    rw [one (j + 1) hj, pk_m1, show 5 - (j + 1) = 4 - j by omega]
    exact ih (by omega) f (by omega)
theorem least_N {d k : Nat} {nO hO ho tu ta be bo du go su ti may mm : Nat → Int32} (S : SEA (fun _ => d) d nO hO ho tu ta be bo du go su ti) (hk : k < 6) (hM : mm k = may k) :
    ∃ q, m_X5_leastName may hO (nI k) = some q ∧ m_X8_leastAtHome bo go mm (nI k) = some q ∧ (q = -6 ∨ ∃ n, n < 5 ∧ q = nI n ∧ bo n = -6 ∧ go n = 0) := by
  refine ⟨lst (PL bo go mm k) 5, ln_run S hk hM 5 0 (by omega) 1000000 (by omega), la_run S hk 4 (by omega) 1000000 (by omega), ?_⟩
  rcases lst_rg (PL bo go mm k) 5 (by omega) with e | ⟨n, hn, e, p⟩
  · exact Or.inl e
  · unfold PL at p
    rw [decide_eq_true_eq] at p
    exact Or.inr ⟨n, hn, e, p.1, p.2.1⟩
theorem so_2s (may vo : Nat → Int32) (dy : Int32) (n : Nat) (a : Int32) (x y z w : Nat → Int32) : m_X5_setOut_2 may vo dy (n + 1) a x y z w = m_X5_setOut_2b (m_X5_setOut_2 may vo dy n) may vo dy a x y z w := rfl
theorem w_67s (k49 : Int32 → Int32 → Int32 → Int32 → (Nat → Int32) → (Nat → Int32) → (Nat → Int32) → (Nat → Int32) → (Nat → Int32) → (Nat → Int32) → (Nat → Int32) → Int32 → Int32 → Int32 → Option (Int32 × ((Nat → Int32) × (Nat → Int32) × (Nat → Int32) × (Nat → Int32) × (Nat → Int32) × (Nat → Int32) × (Nat → Int32) × Int32 × Int32 × Int32))) (lu mm mv : Nat → Int32) (n : Nat) (v2 v3 v4 v5 v6 : Int32) (a b d e f g h : Nat → Int32) (x y z : Int32) : m_X8_winter_67 k49 lu mm mv (n + 1) v2 v3 v4 v5 v6 a b d e f g h x y z = m_X8_winter_67b k49 (m_X8_winter_67 k49 lu mm mv n) lu mm mv v2 v3 v4 v5 v6 a b d e f g h x y z := rfl
theorem w_163s (k49 : Int32 → Int32 → Int32 → Int32 → (Nat → Int32) → (Nat → Int32) → (Nat → Int32) → (Nat → Int32) → (Nat → Int32) → (Nat → Int32) → (Nat → Int32) → Int32 → Int32 → Int32 → Option (Int32 × ((Nat → Int32) × (Nat → Int32) × (Nat → Int32) × (Nat → Int32) × (Nat → Int32) × (Nat → Int32) × (Nat → Int32) × Int32 × Int32 × Int32))) (lu mm mv : Nat → Int32) (n : Nat) (v2 v3 v4 v5 v6 : Int32) (a b d e f g h : Nat → Int32) (x y z : Int32) : m_X8_winter_163 k49 lu mm mv (n + 1) v2 v3 v4 v5 v6 a b d e f g h x y z = m_X8_winter_163b k49 (m_X8_winter_163 k49 lu mm mv n) lu mm mv v2 v3 v4 v5 v6 a b d e f g h x y z := rfl
set_option maxHeartbeats 1000000 in
theorem out_run {d : Nat} (hd : d < 100) {may mm vo mv lu : Nat → Int32} (hM : eqN 6 may mm) (hV : eqN 6 vo mv) (hR : rng 6 9 vo) {ho go su ti : Nat → Int32} : ∀ (m k : Nat), k + m = 6 → ∀ (f1 f2 : Nat), m < f1 → m < f2 → ∀ (nO hO tu ta be bo du : Nat → Int32), SEA (fun _ => d) d nO hO ho tu ta be bo du go su ti →
    ∃ (nO' hO' tu' ta' be' bo' du' : Nat → Int32), m_X5_setOut_2 may vo (nI d) f1 (nI k) hO nO ta tu = some (hO', nO', ta', tu') ∧ SEA (fun _ => d) d nO' hO' ho tu' ta' be' bo' du' go su ti ∧
      ∀ (k49 : Int32 → Int32 → Int32 → Int32 → (Nat → Int32) → (Nat → Int32) → (Nat → Int32) → (Nat → Int32) → (Nat → Int32) → (Nat → Int32) → (Nat → Int32) → Int32 → Int32 → Int32 → Option (Int32 × ((Nat → Int32) × (Nat → Int32) × (Nat → Int32) × (Nat → Int32) × (Nat → Int32) × (Nat → Int32) × (Nat → Int32) × Int32 × Int32 × Int32))) (v2 v3 v4 : Int32) (wb : Nat → Int32) (ak rs : Int32), m_X8_winter_67 k49 lu mm mv f2 v2 v3 v4 (nI d) (nI k) be bo du go su ti wb ak (nI d) rs = m_X8_winter_163 k49 lu mm mv 1000000 v2 v3 v4 (nI d) 0 be' bo' du' go su ti wb ak (nI d) rs := by
  intro m
  induction m with
  | zero =>
    intro k hk f1 f2 h1 h2 nO hO tu ta be bo du S
    obtain ⟨f1, rfl⟩ : ∃ z, f1 = z + 1 := ⟨f1 - 1, by omega⟩
    obtain ⟨f2, rfl⟩ : ∃ z, f2 = z + 1 := ⟨f2 - 1, by omega⟩
    have : k = 6 := by omega
    subst this
    refine ⟨nO, hO, tu, ta, be, bo, du, ?_, S, fun k49 v2 v3 v4 wb ak rs => ?_⟩
    · rw [so_2s]; unfold m_X5_setOut_2b; rw [if_pos (by decide)]
    · rw [w_67s]; unfold m_X8_winter_67b; rw [if_pos (by decide)]
  | succ m ih =>
    intro k hk f1 f2 h1 h2 nO hO tu ta be bo du S
    obtain ⟨f1, rfl⟩ : ∃ z, f1 = z + 1 := ⟨f1 - 1, by omega⟩
    obtain ⟨f2, rfl⟩ : ∃ z, f2 = z + 1 := ⟨f2 - 1, by omega⟩
    have hk6 : k < 6 := by omega
    have n6 : ¬ (6 : Int32) ≤ nI k := by rw [l6, nI_leI (by omega) (by omega)]; omega
    have ck : (nI k).toNatClampNeg = k := cl_N (by omega)
    have i6 : ∀ {α : Type} (z : Option α), ogi (nI k) 6 z = z := fun z => ogi_N hk6 (by omega)
    obtain ⟨q, q1, q2, q3⟩ := least_N (may := may) (mm := mm) S hk6 (hM k hk6).symm
    obtain ⟨y, hy, ey⟩ := hR k hk6
    have eyv : mv k = nI y := by rw [← hV k hk6]; exact ey
    -- both pass this hull over
    have skip : m_X5_setOut_2 may vo (nI d) (f1 + 1) (nI k) hO nO ta tu = m_X5_setOut_2 may vo (nI d) f1 (nI (k + 1)) hO nO ta tu →
        (∀ (k49 : Int32 → Int32 → Int32 → Int32 → (Nat → Int32) → (Nat → Int32) → (Nat → Int32) → (Nat → Int32) → (Nat → Int32) → (Nat → Int32) → (Nat → Int32) → Int32 → Int32 → Int32 → Option (Int32 × ((Nat → Int32) × (Nat → Int32) × (Nat → Int32) × (Nat → Int32) × (Nat → Int32) × (Nat → Int32) × (Nat → Int32) × Int32 × Int32 × Int32))) (v2 v3 v4 : Int32) (wb : Nat → Int32) (ak rs : Int32), m_X8_winter_67 k49 lu mm mv (f2 + 1) v2 v3 v4 (nI d) (nI k) be bo du go su ti wb ak (nI d) rs = m_X8_winter_67 k49 lu mm mv f2 v2 v3 v4 (nI d) (nI (k + 1)) be bo du go su ti wb ak (nI d) rs) → 
        ∃ (nO' hO' tu' ta' be' bo' du' : Nat → Int32), m_X5_setOut_2 may vo (nI d) (f1 + 1) (nI k) hO nO ta tu = some (hO', nO', ta', tu') ∧ SEA (fun _ => d) d nO' hO' ho tu' ta' be' bo' du' go su ti ∧
      ∀ (k49 : Int32 → Int32 → Int32 → Int32 → (Nat → Int32) → (Nat → Int32) → (Nat → Int32) → (Nat → Int32) → (Nat → Int32) → (Nat → Int32) → (Nat → Int32) → Int32 → Int32 → Int32 → Option (Int32 × ((Nat → Int32) × (Nat → Int32) × (Nat → Int32) × (Nat → Int32) × (Nat → Int32) × (Nat → Int32) × (Nat → Int32) × Int32 × Int32 × Int32))) (v2 v3 v4 : Int32) (wb : Nat → Int32) (ak rs : Int32), m_X8_winter_67 k49 lu mm mv (f2 + 1) v2 v3 v4 (nI d) (nI k) be bo du go su ti wb ak (nI d) rs = m_X8_winter_163 k49 lu mm mv 1000000 v2 v3 v4 (nI d) 0 be' bo' du' go su ti wb ak (nI d) rs := by
      intro e1 e2
      obtain ⟨x1, x2, x3, x4, x5, x6, x7, g1, g2, g3⟩ := ih (k + 1) (by omega) f1 f2 (by omega) (by omega) nO hO tu ta be bo du S
      exact ⟨x1, x2, x3, x4, x5, x6, x7, e1.trans g1, g2, fun k49 v2 v3 v4 wb ak rs => (e2 k49 v2 v3 v4 wb ak rs).trans (g3 k49 v2 v3 v4 wb ak rs)⟩
    -- the check passes it over
    have skipM : (su k = 0 → be k = -6 → 0 < y → q = -6) → ∀ (k49 : Int32 → Int32 → Int32 → Int32 → (Nat → Int32) → (Nat → Int32) → (Nat → Int32) → (Nat → Int32) → (Nat → Int32) → (Nat → Int32) → (Nat → Int32) → Int32 → Int32 → Int32 → Option (Int32 × ((Nat → Int32) × (Nat → Int32) × (Nat → Int32) × (Nat → Int32) × (Nat → Int32) × (Nat → Int32) × (Nat → Int32) × Int32 × Int32 × Int32))) (v2 v3 v4 : Int32) (wb : Nat → Int32) (ak rs : Int32), m_X8_winter_67 k49 lu mm mv (f2 + 1) v2 v3 v4 (nI d) (nI k) be bo du go su ti wb ak (nI d) rs = m_X8_winter_67 k49 lu mm mv f2 v2 v3 v4 (nI d) (nI (k + 1)) be bo du go su ti wb ak (nI d) rs := by
      intro h k49 v2 v3 v4 wb ak rs
      rw [w_67s]
      unfold m_X8_winter_67b m_X8_winter_154
      simp only [i6, ck, ogl_def, nI_1]
      rw [if_neg n6, q2, ogb_some, eyv]
      by_cases c1 : su k = 0
      · rw [if_pos c1]
        by_cases c2 : (0 : Int32) ≤ be k
        · rw [if_pos c2]
        · rw [if_neg c2]
          have c3 : be k = -6 := by
            rcases S.1 k hk6 with ⟨a, b, c⟩ | ⟨a, b, c⟩
            · rcases c with c | ⟨n, hn, c, -⟩
              · exact c
              · rw [c] at c2; exact absurd (nI_pos' (by omega)) c2
            · exact c
          by_cases c4 : y = 0
          · have : nI y ≤ 0 := by rw [c4]; decide
            rw [if_pos this]
          · rw [if_neg (nI_nle (by omega) (by omega)), h c1 c3 (by omega), if_pos (by decide)]
      · rw [if_neg c1]
    have skipC : (0 < y → nO k = -6 → q = -6) → m_X5_setOut_2 may vo (nI d) (f1 + 1) (nI k) hO nO ta tu = m_X5_setOut_2 may vo (nI d) f1 (nI (k + 1)) hO nO ta tu := by
      intro h
      rw [so_2s]
      unfold m_X5_setOut_2b m_X5_setOut_48 m_X5_setOut_50 m_X5_setOut_67
      rw [if_neg n6, at_N vo hk6 (by omega), ogb_some, ey]
      by_cases c4 : y = 0
      · have : nI y ≤ 0 := by rw [c4]; decide
        rw [if_pos this, if_pos rfl, ogl_def, nI_1]
      · rw [if_neg (nI_nle (by omega) (by omega)), at_N nO hk6 (by omega), ogb_some]
        by_cases c5 : nO k = -6
        · rw [if_pos c5, q1, ogb_some, if_pos (h (by omega) c5), ogl_def, nI_1]
        · rw [if_neg c5, if_pos rfl, ogl_def, nI_1]
    rcases S.1 k hk6 with ⟨a, b, c⟩ | ⟨a, b, c⟩
    · rcases c with c | ⟨n, hn, c, c2⟩
      · by_cases y0 : y = 0
        · exact skip (skipC (fun h => absurd y0 (by omega))) (skipM (fun _ _ h => absurd y0 (by omega)))
        · rcases q3 with e | ⟨n, hn, e, e1, e2⟩
          · exact skip (skipC (fun _ _ => e)) (skipM (fun _ _ _ => e))
          · subst e
            obtain ⟨x1, x2, x3, x4, x5, x6, x7, g1, g2, g3⟩ := ih (k + 1) (by omega) f1 f2 (by omega) (by omega) _ _ _ _ _ _ _ (S.sail (k := y) hk6 hn a c e2 e1 (by omega) (by omega))
            refine ⟨x1, x2, x3, x4, x5, x6, x7, Eq.trans ?_ g1, g2, fun k49 v2 v3 v4 wb ak rs => Eq.trans ?_ (g3 k49 v2 v3 v4 wb ak rs)⟩
            · rw [so_2s]
              unfold m_X5_setOut_2b m_X5_setOut_50 m_X5_setOut_67
              rw [if_neg n6, at_N vo hk6 (by omega), ogb_some, ey, if_neg (nI_nle (by omega) (by omega)), at_N nO hk6 (by omega), ogb_some, b, c, if_pos rfl, q1, ogb_some, if_neg (nI_n6 (by omega))]
              unfold m_X4_sail
              rw [put_N _ _ hk6 (by omega), ogb_some, put_N _ _ hn (by omega), ogb_some, put_N _ _ hn (by omega), ogb_some, put_N _ _ hn (by omega), ogb_some, ogb_some, ogl_def, nI_1, nI_add]
            · rw [w_67s]
              unfold m_X8_winter_67b m_X8_winter_154
              simp only [i6, ck, ogl_def, nI_1]
              rw [if_neg n6, q2, ogb_some, eyv, if_pos a, c, if_neg (by decide), if_neg (nI_nle (by omega) (by omega)), if_neg (nI_pos (by omega)), ogi_N hn (by omega), ogi_N hn (by omega), cl_N (show n < 2 ^ 31 by omega), nI_add]
      · exact skip (skipC (fun _ h => absurd (c.symm.trans (b.symm.trans h)) (nI_n6 (by omega)))) (skipM (fun _ h _ => absurd (c.symm.trans h) (nI_n6 (by omega))))
    · exact skip (skipC (fun _ h => absurd (b.symm.trans h) (by decide))) (skipM (fun h _ _ => absurd (a.symm.trans h) (by decide)))
