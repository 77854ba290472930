-- the storm, the days, the ends
theorem st_4s (lu : Nat → Int32) (dy : Int32) (n : Nat) (a b : Int32) (x y z : Nat → Int32) : m_X5_storm_4 lu dy (n + 1) a b x y z = m_X5_storm_4b (m_X5_storm_4 lu dy n) lu dy a b x y z := rfl
theorem isName_m6 : m_X7_isName (-6) = some 0 := by decide
theorem isName_m7 : m_X7_isName (-7) = some 0 := by decide
set_option maxHeartbeats 1000000 in
theorem storm_run {d : Nat} {lu ll mm mv : Nat → Int32} (hL : eqN 5 lu ll) {ho ta ti du : Nat → Int32} : ∀ (m k : Nat), k + m = 6 → ∀ (f1 f2 : Nat), m < f1 → m < f2 → ∀ (nO hO tu be bo go su : Nat → Int32) (x : Int32), SEA (fun _ => d) d nO hO ho tu ta be bo du go su ti →
    ∃ (nO' hO' tu' be' bo' go' su' : Nat → Int32) (x' : Int32), m_X5_storm_4 lu (nI d) f1 x (nI k) hO nO tu = some (x', (hO', nO', tu')) ∧ SEA (fun _ => d) d nO' hO' ho tu' ta be' bo' du go' su' ti ∧
      ∀ (k49 : Int32 → Int32 → Int32 → Int32 → (Nat → Int32) → (Nat → Int32) → (Nat → Int32) → (Nat → Int32) → (Nat → Int32) → (Nat → Int32) → (Nat → Int32) → Int32 → Int32 → Int32 → Option (Int32 × ((Nat → Int32) × (Nat → Int32) × (Nat → Int32) × (Nat → Int32) × (Nat → Int32) × (Nat → Int32) × (Nat → Int32) × Int32 × Int32 × Int32))) (v2 v3 : Int32) (wb : Nat → Int32) (ak rs : Int32), m_X8_winter_163 k49 ll mm mv f2 v2 v3 x (nI d) (nI k) be bo du go su ti wb ak (nI d) rs = k49 v2 v3 x' (nI (d + 1)) be' bo' du go' su' ti wb ak (nI d) rs := by
  intro m
  induction m with
  | zero =>
    intro k hk f1 f2 h1 h2 nO hO tu be bo go su x S
    obtain ⟨f1, rfl⟩ : ∃ z, f1 = z + 1 := ⟨f1 - 1, by omega⟩
    obtain ⟨f2, rfl⟩ : ∃ z, f2 = z + 1 := ⟨f2 - 1, by omega⟩
    have : k = 6 := by omega
    subst this
    refine ⟨nO, hO, tu, be, bo, go, su, x, ?_, S, fun k49 v2 v3 wb ak rs => ?_⟩
    · rw [st_4s]; unfold m_X5_storm_4b; rw [if_pos (by decide)]
    · rw [w_163s]; unfold m_X8_winter_163b; rw [if_pos (by decide), ogl_def, nI_1]
  | succ m ih =>
    intro k hk f1 f2 h1 h2 nO hO tu be bo go su x S
    obtain ⟨f1, rfl⟩ : ∃ z, f1 = z + 1 := ⟨f1 - 1, by omega⟩
    obtain ⟨f2, rfl⟩ : ∃ z, f2 = z + 1 := ⟨f2 - 1, by omega⟩
    have hk6 : k < 6 := by omega
    have n6 : ¬ (6 : Int32) ≤ nI k := by rw [l6, nI_leI (by omega) (by omega)]; omega
    have ck : (nI k).toNatClampNeg = k := cl_N (by omega)
    have i6 : ∀ {α : Type} (z : Option α), ogi (nI k) 6 z = z := fun z => ogi_N hk6 (by omega)
    have skip : be k = -6 → m_X7_isName (nO k) = some 0 → ∃ (nO' hO' tu' be' bo' go' su' : Nat → Int32) (x' : Int32), m_X5_storm_4 lu (nI d) (f1 + 1) x (nI k) hO nO tu = some (x', (hO', nO', tu')) ∧ SEA (fun _ => d) d nO' hO' ho tu' ta be' bo' du go' su' ti ∧
      ∀ (k49 : Int32 → Int32 → Int32 → Int32 → (Nat → Int32) → (Nat → Int32) → (Nat → Int32) → (Nat → Int32) → (Nat → Int32) → (Nat → Int32) → (Nat → Int32) → Int32 → Int32 → Int32 → Option (Int32 × ((Nat → Int32) × (Nat → Int32) × (Nat → Int32) × (Nat → Int32) × (Nat → Int32) × (Nat → Int32) × (Nat → Int32) × Int32 × Int32 × Int32))) (v2 v3 : Int32) (wb : Nat → Int32) (ak rs : Int32), m_X8_winter_163 k49 ll mm mv (f2 + 1) v2 v3 x (nI d) (nI k) be bo du go su ti wb ak (nI d) rs = k49 v2 v3 x' (nI (d + 1)) be' bo' du go' su' ti wb ak (nI d) rs := by
      intro e1 e2
      obtain ⟨x1, x2, x3, x4, x5, x6, x7, x8, g1, g2, g3⟩ := ih (k + 1) (by omega) f1 f2 (by omega) (by omega) nO hO tu be bo go su x S
      refine ⟨x1, x2, x3, x4, x5, x6, x7, x8, Eq.trans ?_ g1, g2, fun k49 v2 v3 wb ak rs => Eq.trans ?_ (g3 k49 v2 v3 wb ak rs)⟩
      · rw [st_4s]
        unfold m_X5_storm_4b m_X5_storm_73
        rw [if_neg n6, at_N nO hk6 (by omega), ogb_some, e2, ogb_some, if_pos rfl, ogl_def, nI_1]
      · rw [w_163s]
        unfold m_X8_winter_163b m_X8_winter_221
        simp only [i6, ck, ogl_def, nI_1]
        rw [if_neg n6, e1, if_pos (by decide)]
    rcases S.1 k hk6 with ⟨a, b, c⟩ | ⟨a, b, c⟩
    · rcases c with c | ⟨n, hn, c, c2⟩
      · exact skip c (by rw [b, c]; exact isName_m6)
      · have cn : (nI n).toNatClampNeg = n := cl_N (by omega)
        have i5 : ∀ {α : Type} (z : Option α), ogi (nI n) 5 z = z := fun z => ogi_N hn (by omega)
        have e2 : m_X7_isName (nO k) = some 1 := by rw [b, c]; exact isName_N hn
        have eL : ll n = lu n := (hL n hn).symm
        obtain ⟨y, ey⟩ : ∃ y, y = (75 * x + 74) - (75 * x + 74) / 65537 * 65537 := ⟨_, rfl⟩
        by_cases q : (10 - lu n) ≤ y - y / 100 * 100
        · obtain ⟨x1, x2, x3, x4, x5, x6, x7, x8, g1, g2, g3⟩ := ih (k + 1) (by omega) f1 f2 (by omega) (by omega) nO hO tu be bo go su y S
          refine ⟨x1, x2, x3, x4, x5, x6, x7, x8, Eq.trans ?_ g1, g2, fun k49 v2 v3 wb ak rs => Eq.trans ?_ (g3 k49 v2 v3 wb ak rs)⟩
          · rw [st_4s]
            unfold m_X5_storm_4b m_X5_storm_73
            rw [if_neg n6, at_N nO hk6 (by omega), ogb_some, e2, ogb_some, if_neg (by decide), ogl_def, ← ey, b, c, at_N lu hn (by omega), ogb_some, if_pos q, ogl_def, nI_1]
          · rw [w_163s]
            unfold m_X8_winter_163b m_X8_winter_221
            simp only [i6, ck, ogl_def, nI_1]
            rw [if_neg n6, c, if_neg (nI_pos (by omega)), ← ey, i5, cn, eL, if_pos q]
        · obtain ⟨x1, x2, x3, x4, x5, x6, x7, x8, g1, g2, g3⟩ := ih (k + 1) (by omega) f1 f2 (by omega) (by omega) _ _ _ _ _ _ _ y (S.drown hk6 hn c2 c)
          refine ⟨x1, x2, x3, x4, x5, x6, x7, x8, Eq.trans ?_ g1, g2, fun k49 v2 v3 wb ak rs => Eq.trans ?_ (g3 k49 v2 v3 wb ak rs)⟩
          · have hO_n : hO n = nI k := by
              rcases S.2.1 n hn with ⟨-, e, -⟩ | ⟨-, -, e, -⟩
              · rw [e, c2]
              · exact absurd (c2.symm.trans e) (nI_n6 (by omega))
            rw [st_4s]
            unfold m_X5_storm_4b m_X5_storm_73
            rw [if_neg n6, at_N nO hk6 (by omega), ogb_some, e2, ogb_some, if_neg (by decide), ogl_def, ← ey, b, c, at_N lu hn (by omega), ogb_some, if_neg q]
            unfold m_X4_drown
            rw [at_N hO hn (by omega), ogb_some, hO_n, put_N _ _ hk6 (by omega), ogb_some, put_N _ _ hn (by omega), ogb_some, put_N _ _ hn (by omega), ogb_some, ogb_some, ogl_def, nI_1]
          · rw [w_163s]
            unfold m_X8_winter_163b m_X8_winter_221
            simp only [i6, ck, ogl_def, nI_1]
            rw [if_neg n6, c, if_neg (nI_pos (by omega)), ← ey, i5, cn, eL, if_neg q]
            unfold m_X8_drown
            simp only [i5, cn, c2, i6, ck, nar1]
            rw [if_neg (nI_pos (by omega)), ogb_some]
    · exact skip c (by rw [b]; exact isName_m7)
theorem ps_12s (lu may vo : Nat → Int32) (n : Nat) (a b d : Int32) (x y z w v : Nat → Int32) (e : Int32) : m_X5_pass_12 lu may vo (n + 1) a b d x y z w v e = m_X5_pass_12b (m_X5_pass_12 lu may vo n) lu may vo a b d x y z w v e := rfl
theorem w_49s (ll mm mv : Nat → Int32) (n : Nat) (v2 v3 v4 v5 : Int32) (a b d e f g h : Nat → Int32) (x y z : Int32) : m_X8_winter_49 ll mm mv (n + 1) v2 v3 v4 v5 a b d e f g h x y z = m_X8_winter_49b (m_X8_winter_49 ll mm mv n) ll mm mv v2 v3 v4 v5 a b d e f g h x y z := rfl
/-- at a day's start: the first day, or the day before is over -/
def DAY (d : Nat) (day : Int32) (nO hO ho tu ta be bo du go su ti : Nat → Int32) : Prop :=
  (d = 0 ∧ day = nI 0 ∧ (∀ n, n < 5 → hO n = -6) ∧ SEA (fun _ => 0) 0 nO hO ho tu ta be bo du go su ti) ∨ (∃ e, d = e + 1 ∧ day = nI e ∧ SEA (fun _ => e) e nO hO ho tu ta be bo du go su ti)
theorem dawn_0 (tu ho hO nO : Nat → Int32) (h0 : ∀ n, n < 5 → hO n = -6) (day v : Int32) : m_X4_dawn tu ho hO nO day v = some (ho, hO, nO, v) := by
  have run : ∀ (m k : Nat), k + m = 5 → ∀ f, m < f → m_X4_dawn_7 tu f v (nI k) ho hO nO v = some (ho, hO, nO, v) := by
    intro m
    induction m with
    | zero =>
      intro k hk f hf
      obtain ⟨f, rfl⟩ : ∃ z, f = z + 1 := ⟨f - 1, by omega⟩
      rw [dawn_7s]
      unfold m_X4_dawn_7b
      rw [if_pos (by rw [l5, nI_leI (by omega) (by omega)]; omega)]
    | succ m ih =>
      intro k hk f hf
      obtain ⟨f, rfl⟩ : ∃ z, f = z + 1 := ⟨f - 1, by omega⟩
      rw [dawn_7s]
      unfold m_X4_dawn_7b m_X4_dawn_67
      rw [if_neg (by rw [l5, nI_leI (by omega) (by omega)]; omega), ogi_N (show k < 5 by omega) (by omega), cl_N (by omega), h0 k (by omega), isHull_m6, ogb_some, if_pos rfl, ogl_def, nI_1]
      exact ih (k + 1) (by omega) f (by omega)
  exact run 5 0 (by omega) 1000000 (by omega)
set_option maxHeartbeats 1000000 in
theorem days_run {D : Nat} (hD : D ≤ 60) {may mm vo mv lu ll : Nat → Int32} (hM : eqN 6 may mm) (hV : eqN 6 vo mv) (hL : eqN 5 lu ll) (hR : rng 6 9 vo) (v3 : Int32) : ∀ (m d : Nat), d + m = D → 1 ≤ d + m → ∀ (f1 f2 : Nat), m < f1 → m < f2 → ∀ (nO hO ho tu ta be bo du go su ti wb : Nat → Int32) (x day ak rs : Int32), DAY d day nO hO ho tu ta be bo du go su ti →
    ∃ (nO' hO' ho' tu' ta' be' bo' du' go' su' ti' wb' : Nat → Int32) (day' : Int32) (e : Nat), m_X5_pass_12 lu may vo f1 (nI D) x (nI d) ho hO nO ta tu day = some (ho', hO', nO', ta', tu', day') ∧ SEA (fun _ => e) e nO' hO' ho' tu' ta' be' bo' du' go' su' ti' ∧
      m_X8_winter_49 ll mm mv f2 (nI D) v3 x (nI d) be bo du go su ti wb ak day rs = m_X8_winter_245 ll mm mv 1000000 v3 0 0 0 0 be' bo' du' go' su' ti' wb' ak day' rs := by
  intro m
  induction m with
  | zero =>
    intro d hd h1D f1 f2 h1 h2 nO hO ho tu ta be bo du go su ti wb x day ak rs Y
    obtain ⟨f1, rfl⟩ : ∃ z, f1 = z + 1 := ⟨f1 - 1, by omega⟩
    obtain ⟨f2, rfl⟩ : ∃ z, f2 = z + 1 := ⟨f2 - 1, by omega⟩
    rcases Y with ⟨e, -⟩ | ⟨e, he, hday, S⟩
    · omega
    · refine ⟨nO, hO, ho, tu, ta, be, bo, du, go, su, ti, wb, day, e, ?_, S, ?_⟩
      · rw [ps_12s]; unfold m_X5_pass_12b; rw [if_pos (by rw [nI_leI (by omega) (by omega)]; omega)]
      · rw [w_49s]; unfold m_X8_winter_49b; rw [if_pos (by rw [nI_leI (by omega) (by omega)]; omega)]
  | succ m ih =>
    intro d hd h1D f1 f2 h1 h2 nO hO ho tu ta be bo du go su ti wb x day ak rs Y
    obtain ⟨f1, rfl⟩ : ∃ z, f1 = z + 1 := ⟨f1 - 1, by omega⟩
    obtain ⟨f2, rfl⟩ : ∃ z, f2 = z + 1 := ⟨f2 - 1, by omega⟩
    have nD : ¬ nI D ≤ nI d := by rw [nI_leI (by omega) (by omega)]; omega
    -- the dawn of both
    have HD : ∃ (nO1 hO1 ho1 be1 bo1 ti1 wb1 : Nat → Int32), m_X4_dawn tu ho hO nO day (nI d) = some (ho1, hO1, nO1, nI d) ∧ SEA (fun _ => d) d nO1 hO1 ho1 tu ta be1 bo1 du go su ti1 ∧ m_X8_winter_49 ll mm mv (f2 + 1) (nI D) v3 x (nI d) be bo du go su ti wb ak day rs = m_X8_winter_67 (m_X8_winter_49 ll mm mv f2) ll mm mv 1000000 (nI D) v3 x (nI d) 0 be1 bo1 du go su ti1 wb1 ak (nI d) rs := by
      rcases Y with ⟨rfl, rfl, h0, S⟩ | ⟨e, rfl, rfl, S⟩
      · refine ⟨nO, hO, ho, be, bo, ti, wb, dawn_0 tu ho hO nO h0 _ _, S, ?_⟩
        rw [w_49s]
        unfold m_X8_winter_49b m_X8_winter_64
        rw [if_neg nD, if_pos (by decide)]
      · obtain ⟨nO', hO', ho', be', bo', ti', g1, g2, S'⟩ := dawn_run (show e < 900000 by omega) tu ta du go su ak 5 0 (by omega) 1000000 1000000 (by omega) (by omega) nO hO ho be bo ti (fun _ => e) (fun n h => absurd h (by omega)) (fun _ => Nat.le_refl e) S
        obtain ⟨wb', hwb⟩ := keepWho_ok bo' (nI (e + 1)) ak wb
        refine ⟨nO', hO', ho', be', bo', ti', wb', g1, S', ?_⟩
        have nx : m_X8_nextDay du ak be bo ti wb (nI e) = some (be', bo', ti', wb', nI (e + 1)) := by
          unfold m_X8_nextDay
          rw [ogl_def, nI_1]
          refine (g2 wb).trans ?_
          rw [hwb, ogb_some]
        rw [w_49s]
        unfold m_X8_winter_49b m_X8_winter_64
        rw [if_neg nD, if_neg (nI_nle (by omega) (by omega)), nx, ogb_some]
    obtain ⟨nO1, hO1, ho1, be1, bo1, ti1, wb1, a1, S1, a2⟩ := HD
    obtain ⟨nO2, hO2, tu2, ta2, be2, bo2, du2, b1, S2, b2⟩ := out_run (lu := ll) (show d < 100 by omega) hM hV hR 6 0 (by omega) 1000000 1000000 (by omega) (by omega) nO1 hO1 tu ta be1 bo1 du S1
    obtain ⟨nO3, hO3, tu3, be3, bo3, go3, su3, x3, c1, S3, c2⟩ := storm_run (mm := mm) (mv := mv) hL 6 0 (by omega) 1000000 1000000 (by omega) (by omega) nO2 hO2 tu2 be2 bo2 go su x S2
    obtain ⟨nO4, hO4, ho4, tu4, ta4, be4, bo4, du4, go4, su4, ti4, wb4, day4, e4, d1, S4, d2⟩ := ih (d + 1) (by omega) (by omega) f1 f2 (by omega) (by omega) nO3 hO3 ho1 tu3 ta2 be3 bo3 du2 go3 su3 ti1 wb1 x3 (nI d) ak rs (Or.inr ⟨d, rfl, rfl, S3⟩)
    refine ⟨nO4, hO4, ho4, tu4, ta4, be4, bo4, du4, go4, su4, ti4, wb4, day4, e4, ?_, S4, ?_⟩
    · have so : m_X5_setOut may vo (nI d) hO1 nO1 ta tu = some (hO2, nO2, ta2, tu2) := b1
      have st : m_X5_storm lu (nI d) hO2 nO2 tu2 x = some (x3, (hO3, nO3, tu3)) := c1
      rw [ps_12s]
      unfold m_X5_pass_12b
      rw [if_neg nD, a1, ogb_some, so, ogb_some, st, ogb_some, ogl_def, nI_1]
      exact d1
    · have z : (0 : Int32) = nI 0 := rfl
      rw [a2, z, b2 (m_X8_winter_49 ll mm mv f2) (nI D) v3 x wb1 ak rs, z, c2 (m_X8_winter_49 ll mm mv f2) (nI D) v3 wb1 ak rs]
      exact d2
theorem dH_4s (nO : Nat → Int32) (n : Nat) (a b : Int32) : m_X4_drownedHulls_4 nO (n + 1) a b = m_X4_drownedHulls_4b (m_X4_drownedHulls_4 nO n) nO a b := rfl
theorem dN_4s (hO : Nat → Int32) (n : Nat) (a b : Int32) : m_X4_drownedNames_4 hO (n + 1) a b = m_X4_drownedNames_4b (m_X4_drownedNames_4 hO n) hO a b := rfl
theorem aH_4s (ho : Nat → Int32) (n : Nat) (a b : Int32) : m_X4_allHomes_4 ho (n + 1) a b = m_X4_allHomes_4b (m_X4_allHomes_4 ho n) ho a b := rfl
theorem w_245s (ll mm mv : Nat → Int32) (n : Nat) (v3 v5 v6 v7 v8 : Int32) (a b d e f g h : Nat → Int32) (x y z : Int32) : m_X8_winter_245 ll mm mv (n + 1) v3 v5 v6 v7 v8 a b d e f g h x y z = m_X8_winter_245b (m_X8_winter_245 ll mm mv n) ll mm mv v3 v5 v6 v7 v8 a b d e f g h x y z := rfl
theorem w_281s (ll mm mv : Nat → Int32) (n : Nat) (v3 v5 v6 v7 v8 : Int32) (a b d e f g h : Nat → Int32) (x y z : Int32) : m_X8_winter_281 ll mm mv (n + 1) v3 v5 v6 v7 v8 a b d e f g h x y z = m_X8_winter_281b (m_X8_winter_281 ll mm mv n) ll mm mv v3 v5 v6 v7 v8 a b d e f g h x y z := rfl
theorem hulls_run {e : Nat} {ll mm mv nO hO ho tu ta be bo du go su ti : Nat → Int32} (S : SEA (fun _ => e) e nO hO ho tu ta be bo du go su ti) : ∀ (m k : Nat), k + m = 6 → ∀ (f1 f2 : Nat), m < f1 → m < f2 → ∀ acc : Int32, ∃ r, m_X4_drownedHulls_4 nO f1 acc (nI k) = some r ∧ ∀ (v3 v6 v7 : Int32) (wb : Nat → Int32) (ak day rs : Int32), m_X8_winter_245 ll mm mv f2 v3 acc v6 v7 (nI k) be bo du go su ti wb ak day rs = m_X8_winter_281 ll mm mv 1000000 v3 r v6 v7 0 be bo du go su ti wb ak day rs := by
  intro m
  induction m with
  | zero =>
    intro k hk f1 f2 h1 h2 acc
    obtain ⟨f1, rfl⟩ : ∃ z, f1 = z + 1 := ⟨f1 - 1, by omega⟩
    obtain ⟨f2, rfl⟩ : ∃ z, f2 = z + 1 := ⟨f2 - 1, by omega⟩
    have : k = 6 := by omega
    subst this
    refine ⟨acc, ?_, fun v3 v6 v7 wb ak day rs => ?_⟩
    · rw [dH_4s]; unfold m_X4_drownedHulls_4b; rw [if_pos (by decide)]
    · rw [w_245s]; unfold m_X8_winter_245b; rw [if_pos (by decide)]
  | succ m ih =>
    intro k hk f1 f2 h1 h2 acc
    obtain ⟨f1, rfl⟩ : ∃ z, f1 = z + 1 := ⟨f1 - 1, by omega⟩
    obtain ⟨f2, rfl⟩ : ∃ z, f2 = z + 1 := ⟨f2 - 1, by omega⟩
    have hk6 : k < 6 := by omega
    have n6 : ¬ (6 : Int32) ≤ nI k := by rw [l6, nI_leI (by omega) (by omega)]; omega
    have ck : (nI k).toNatClampNeg = k := cl_N (by omega)
    have i6 : ∀ {α : Type} (z : Option α), ogi (nI k) 6 z = z := fun z => ogi_N hk6 (by omega)
    have go_ : ∀ a2 : Int32, (¬ nO k = -7 ∧ su k = 0 ∧ acc + 0 = a2 ∧ acc = a2) ∨ (nO k = -7 ∧ ¬ su k = 0 ∧ acc + 1 = a2) → ∃ r, m_X4_drownedHulls_4 nO (f1 + 1) acc (nI k) = some r ∧ ∀ (v3 v6 v7 : Int32) (wb : Nat → Int32) (ak day rs : Int32), m_X8_winter_245 ll mm mv (f2 + 1) v3 acc v6 v7 (nI k) be bo du go su ti wb ak day rs = m_X8_winter_281 ll mm mv 1000000 v3 r v6 v7 0 be bo du go su ti wb ak day rs := by
      intro a2 h
      obtain ⟨r, g1, g2⟩ := ih (k + 1) (by omega) f1 f2 (by omega) (by omega) a2
      refine ⟨r, Eq.trans ?_ g1, fun v3 v6 v7 wb ak day rs => Eq.trans ?_ (g2 v3 v6 v7 wb ak day rs)⟩
      · rw [dH_4s]
        unfold m_X4_drownedHulls_4b m_X4_drownedHulls_24
        simp only [i6, ck, ogl_def, nI_1]
        rw [if_neg n6]
        rcases h with ⟨h, -, -, h4⟩ | ⟨h, -, h4⟩
        · rw [if_neg h, h4]
        · rw [if_pos h, h4]
      · rw [w_245s]
        unfold m_X8_winter_245b m_X8_winter_269
        simp only [i6, ck, ogl_def, nI_1]
        rw [if_neg n6]
        rcases h with ⟨-, h, h4, -⟩ | ⟨-, h, h4⟩
        · rw [if_pos h, h4]
        · rw [if_neg h, h4]
    have a0 : acc + 0 = acc := by simp
    rcases S.1 k hk6 with ⟨a, b, c⟩ | ⟨a, b, c⟩
    · refine go_ acc (Or.inl ⟨?_, a, a0, rfl⟩)
      rw [b]
      rcases c with c | ⟨n, hn, c, -⟩
      · rw [c]; decide
      · rw [c]; exact nI_n7 (by omega)
    · exact go_ (acc + 1) (Or.inr ⟨b, by rw [a]; decide, rfl⟩)
theorem names_run {e : Nat} {ll mm mv nO hO ho tu ta be bo du go su ti : Nat → Int32} (S : SEA (fun _ => e) e nO hO ho tu ta be bo du go su ti) : ∀ (m k : Nat), k + m = 5 → ∀ (f1 f2 f3 : Nat), m < f1 → m < f2 → m < f3 → ∀ acc ac2 : Int32, ∃ r r2, m_X4_drownedNames_4 hO f1 acc (nI k) = some r ∧ m_X4_allHomes_4 ho f2 ac2 (nI k) = some r2 ∧ ∀ (v3 v5 : Int32) (wb : Nat → Int32) (ak day rs : Int32), m_X8_winter_281 ll mm mv f3 v3 v5 acc ac2 (nI k) be bo du go su ti wb ak day rs = some ((if v3 = 0 then v5 else if v3 = 1 then r else r2), be, bo, du, go, su, ti, wb, ak, day, rs) := by
  intro m
  induction m with
  | zero =>
    intro k hk f1 f2 f3 h1 h2 h3 acc ac2
    obtain ⟨f1, rfl⟩ : ∃ z, f1 = z + 1 := ⟨f1 - 1, by omega⟩
    obtain ⟨f2, rfl⟩ : ∃ z, f2 = z + 1 := ⟨f2 - 1, by omega⟩
    obtain ⟨f3, rfl⟩ : ∃ z, f3 = z + 1 := ⟨f3 - 1, by omega⟩
    have : k = 5 := by omega
    subst this
    refine ⟨acc, ac2, ?_, ?_, fun v3 v5 wb ak day rs => ?_⟩
    · rw [dN_4s]; unfold m_X4_drownedNames_4b; rw [if_pos (by decide)]
    · rw [aH_4s]; unfold m_X4_allHomes_4b; rw [if_pos (by decide)]
    · rw [w_281s]; unfold m_X8_winter_281b; rw [if_pos (by decide)]
      by_cases c1 : v3 = 0
      · rw [if_pos c1, if_pos c1]
      · rw [if_neg c1, if_neg c1]
        by_cases c2 : v3 = 1
        · rw [if_pos c2, if_pos c2]
        · rw [if_neg c2, if_neg c2]
  | succ m ih =>
    intro k hk f1 f2 f3 h1 h2 h3 acc ac2
    obtain ⟨f1, rfl⟩ : ∃ z, f1 = z + 1 := ⟨f1 - 1, by omega⟩
    obtain ⟨f2, rfl⟩ : ∃ z, f2 = z + 1 := ⟨f2 - 1, by omega⟩
    obtain ⟨f3, rfl⟩ : ∃ z, f3 = z + 1 := ⟨f3 - 1, by omega⟩
    have hk5 : k < 5 := by omega
    have n5 : ¬ (5 : Int32) ≤ nI k := by rw [l5, nI_leI (by omega) (by omega)]; omega
    have ck : (nI k).toNatClampNeg = k := cl_N (by omega)
    have i5 : ∀ {α : Type} (z : Option α), ogi (nI k) 5 z = z := fun z => ogi_N hk5 (by omega)
    have eh : ho k = ti k := S.2.2 k hk5
    have go_ : ∀ a2 : Int32, (¬ hO k = -7 ∧ go k = 0 ∧ acc ||| 0 = a2 ∧ acc = a2) ∨ (hO k = -7 ∧ ¬ go k = 0 ∧ acc ||| ((1 : Int32) <<< ((nI k) &&& 31)) = a2) → ∃ r r2, m_X4_drownedNames_4 hO (f1 + 1) acc (nI k) = some r ∧ m_X4_allHomes_4 ho (f2 + 1) ac2 (nI k) = some r2 ∧ ∀ (v3 v5 : Int32) (wb : Nat → Int32) (ak day rs : Int32), m_X8_winter_281 ll mm mv (f3 + 1) v3 v5 acc ac2 (nI k) be bo du go su ti wb ak day rs = some ((if v3 = 0 then v5 else if v3 = 1 then r else r2), be, bo, du, go, su, ti, wb, ak, day, rs) := by
      intro a2 h
      obtain ⟨r, r2, g1, g2, g3⟩ := ih (k + 1) (by omega) f1 f2 f3 (by omega) (by omega) (by omega) a2 (ac2 + ho k)
      refine ⟨r, r2, Eq.trans ?_ g1, Eq.trans ?_ g2, fun v3 v5 wb ak day rs => Eq.trans ?_ (g3 v3 v5 wb ak day rs)⟩
      · rw [dN_4s]
        unfold m_X4_drownedNames_4b m_X4_drownedNames_26
        simp only [i5, ck, ogl_def, nI_1]
        rw [if_neg n5]
        rcases h with ⟨h, -, -, h4⟩ | ⟨h, -, h4⟩
        · rw [if_neg h, h4]
        · rw [if_pos h, h4]
      · rw [aH_4s]
        unfold m_X4_allHomes_4b
        rw [if_neg n5, i5, ck, ogl_def, ogl_def, nI_1]
      · rw [w_281s]
        unfold m_X8_winter_281b m_X8_winter_307
        simp only [i5, ck, ogl_def, nI_1]
        rw [if_neg n5, eh]
        rcases h with ⟨-, h, h4, -⟩ | ⟨-, h, h4⟩
        · rw [if_pos h, h4]
        · rw [if_neg h, h4]
    have a0 : acc ||| 0 = acc := by first | exact Int32.or_zero | simp
    rcases S.2.1 k hk5 with ⟨a, b, c⟩ | ⟨a, b, c, -⟩
    · refine go_ acc (Or.inl ⟨?_, a, a0, rfl⟩)
      rw [b]
      rcases c with c | ⟨h, t, hh, c, -⟩
      · rw [c]; decide
      · rw [c]; exact nI_n7 (by omega)
    · exact go_ _ (Or.inr ⟨b, by rw [a]; decide, rfl⟩)
