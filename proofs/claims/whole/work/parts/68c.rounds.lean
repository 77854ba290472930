-- the check's rounds
set_option maxHeartbeats 1000000 in
theorem sb_hull {may mm w w' rk rk' : Nat → Int32} (hm : rng 6 31 may) (hEm : eqN 6 may mm) (hw : rng 30 99 w) (hEw : eqN 30 w w') (hr : ∀ j, j < 5 → rowOK (rk j)) (hEr : eqN 5 rk rk') {H N : Nat} (hH : H < 64) (hN : N < 32) {A : Nat → Nat → Bool} {bst hds rf : Nat → Int32} (J : JS (chz may H N) w rk A hds bst) (hF : RFS A rf) {h : Nat} (hh : h < 6) (v3 v4 : Int32) :
    ((∀ (k71 : K71) (k82 : K82), m_X8_stable_96 k71 k82 mm rk' w' 1000000 (nI H) (nI N) v3 v4 (nI h) (-6) 0 bst hds rf = k82 (nI H) (nI N) v3 v4 (nI (h + 1)) bst hds rf) ∧ (bst h = -6 → ∀ n, n < 5 → (chz may H N h).testBit n = true → A h n = true)) ∨
    ∃ (A' : Nat → Nat → Bool) (bst' hds' rf' : Nat → Int32), (∀ (k71 : K71) (k82 : K82), m_X8_stable_96 k71 k82 mm rk' w' 1000000 (nI H) (nI N) v3 v4 (nI h) (-6) 0 bst hds rf = k82 (nI H) (nI N) v3 1 (nI (h + 1)) bst' hds' rf') ∧ JS (chz may H N) w rk A' hds' bst' ∧ RFS A' rf' ∧ caz A' = caz A + 1 ∧ ENDz (chz may H N) w rk A A' := by
  have start : ∀ (k71 : K71) (k82 : K82), m_X8_stable_96 k71 k82 mm rk' w' 1000000 (nI H) (nI N) v3 v4 (nI h) (-6) 0 bst hds rf = m_X8_stable_96b k71 k82 (m_X8_stable_96 k71 k82 mm rk' w' 0) mm rk' w' (nI H) (nI N) v3 v4 (nI h) (fvz w h (fun n => decide (bst h = -6) && qz (chz may H N) A h n) 5) 5 bst hds rf := fun k71 k82 => sb_fav hm hEm hw hEw hH hN J hF hh k71 k82 v3 v4 5 0 (by omega) 1000000 (by omega)
  have five : (5 : Int32) ≤ 5 := by decide
  have i6 : ∀ {α : Type} (z : Option α), ogi (nI h) 6 z = z := fun z => ogi_N hh (by omega)
  obtain ⟨R, hR, eR, bR⟩ := hF h hh
  rcases fvz_is w h (fun n => decide (bst h = -6) && qz (chz may H N) A h n) 5 (by omega) with ⟨e, no⟩ | ⟨n, hn, ev, qn, fv⟩
  · refine Or.inl ⟨fun k71 k82 => ?_, fun eb n hn hc => ?_⟩
    · rw [start, e]
      unfold m_X8_stable_96b m_X8_stable_264
      rw [if_pos five, if_pos (by decide), ogl_def, nI_1]
    · have := no n hn
      simp only [eb, decide_eq_true_eq, decide_true, Bool.true_and] at this
      unfold qz at this
      rw [hc, Bool.true_and] at this
      cases hA : A h n
      · rw [hA] at this; exact absurd this (by decide)
      · rfl
  · have qn2 : (decide (bst h = -6) && qz (chz may H N) A h n) = true := qn
    rw [Bool.and_eq_true, decide_eq_true_eq] at qn2
    have X : NXT (chz may H N) w A bst h n := NXT_of hh hn qn2.1 qn2.2 (fun x hx qx nx => fv x hx (by show (decide (bst h = -6) && qz (chz may H N) A h x) = true; rw [decide_eq_true qn2.1, qx]; rfl) nx)
    have cs := caz_step hh hn X.2.2.2.2.1
    have hF' := RFS_step hF (h := h) hn hR bR
    have en : ENDz (chz may H N) w rk A (asz A h n) := fun T hT nT JT FT S => SUB_step J X JT FT S
    have i5 : ∀ {α : Type} (z : Option α), ogi (nI n) 5 z = z := fun z => ogi_N hn (by omega)
    right
    rcases J.2.2.1 n hn with ⟨e, -⟩ | ⟨o, ho, eo, ea, f⟩
    · refine ⟨asz A h n, _, _, _, fun k71 k82 => ?_, JS_new J X e, hF', cs, en⟩
      rw [start, ev]
      unfold m_X8_stable_96b m_X8_stable_246 m_X8_stable_264
      simp only [i6, i5, cl_N (show h < 2 ^ 31 by omega), cl_N (show n < 2 ^ 31 by omega), ogl_def, nI_1]
      rw [if_pos five, if_neg (nI_pos (by omega)), e, (npref_no rk rk' (nI n) (nI h)).2, ogb_some, if_neg (by decide), if_pos (by decide), eR, sbt_N hR hn]
    · have i6o : ∀ {α : Type} (z : Option α), ogi (nI o) 6 z = z := fun z => ogi_N ho (by omega)
      have noh : o ≠ h := by
        rcases J.2.2.2 h hh with ⟨-, g⟩ | ⟨m, hm, e, -⟩
        · intro c; exact g n hn (by rw [eo, c])
        · exact absurd (e.symm.trans X.2.2.1) (nI_n6 (by omega))
      by_cases lt : plz rk n h < plz rk n o
      · refine ⟨asz A h n, _, _, _, fun k71 k82 => ?_, JS_swap J X ho eo lt, hF', cs, en⟩
        rw [start, ev]
        unfold m_X8_stable_96b m_X8_stable_246 m_X8_stable_264
        simp only [i6, i5, cl_N (show h < 2 ^ 31 by omega), cl_N (show n < 2 ^ 31 by omega), ogl_def, nI_1]
        rw [if_pos five, if_neg (nI_pos (by omega)), eo, (npref_N hr hEr hn hh ho).2, ogb_some, decide_eq_true lt, if_neg (by decide), if_neg (nI_pos (by omega)), i6o, cl_N (show o < 2 ^ 31 by omega), eR, sbt_N hR hn]
      · have inj := (place_N hr hEr hn ho).2.2.2 h hh
        have lt2 : plz rk n o < plz rk n h := by
          rcases Nat.lt_trichotomy (plz rk n o) (plz rk n h) with z | z | z
          · exact z
          · exact absurd (inj z.symm).symm noh
          · exact absurd z lt
        refine ⟨asz A h n, _, _, _, fun k71 k82 => ?_, JS_stay J X ho eo lt2, hF', cs, en⟩
        rw [start, ev]
        unfold m_X8_stable_96b m_X8_stable_264
        simp only [i6, i5, cl_N (show h < 2 ^ 31 by omega), cl_N (show n < 2 ^ 31 by omega), ogl_def, nI_1]
        rw [if_pos five, if_neg (nI_pos (by omega)), eo, (npref_N hr hEr hn hh ho).2, ogb_some, decide_eq_false lt, if_pos (show (if false = true then (1 : Int32) else 0) = 0 from rfl), eR, sbt_N hR hn]
theorem sb_round {may mm w w' rk rk' : Nat → Int32} (hm : rng 6 31 may) (hEm : eqN 6 may mm) (hw : rng 30 99 w) (hEw : eqN 30 w w') (hr : ∀ j, j < 5 → rowOK (rk j)) (hEr : eqN 5 rk rk') {H N : Nat} (hH : H < 64) (hN : N < 32) (v3 : Int32) : ∀ (m h : Nat), h + m = 6 → ∀ f, m < f → ∀ (A : Nat → Nat → Bool) (bst hds rf : Nat → Int32) (v4 : Int32), JS (chz may H N) w rk A hds bst → RFS A rf →
    ((∀ k71 : K71, m_X8_stable_82 k71 mm rk' w' f (nI H) (nI N) v3 v4 (nI h) bst hds rf = k71 (nI H) (nI N) v3 v4 bst hds rf) ∧ ∀ i, h ≤ i → i < 6 → bst i = -6 → ∀ n, n < 5 → (chz may H N i).testBit n = true → A i n = true) ∨
    ∃ (A' : Nat → Nat → Bool) (bst' hds' rf' : Nat → Int32), (∀ k71 : K71, m_X8_stable_82 k71 mm rk' w' f (nI H) (nI N) v3 v4 (nI h) bst hds rf = k71 (nI H) (nI N) v3 1 bst' hds' rf') ∧ JS (chz may H N) w rk A' hds' bst' ∧ RFS A' rf' ∧ caz A < caz A' ∧ ENDz (chz may H N) w rk A A' := by
  intro m
  induction m with
  | zero =>
    intro h hh f hf A bst hds rf v4 J hF
    obtain ⟨f, rfl⟩ : ∃ z, f = z + 1 := ⟨f - 1, by omega⟩
    refine Or.inl ⟨fun k71 => ?_, fun i h1 h2 => absurd h2 (by omega)⟩
    rw [sb_82s]; unfold m_X8_stable_82b
    rw [if_pos (by rw [l6, nI_leI (by omega) (by omega)]; omega)]
  | succ m ih =>
    intro h hh f hf A bst hds rf v4 J hF
    obtain ⟨f, rfl⟩ : ∃ z, f = z + 1 := ⟨f - 1, by omega⟩
    have h6 : h < 6 := by omega
    have n6 : ¬ (6 : Int32) ≤ nI h := by rw [l6, nI_leI (by omega) (by omega)]; omega
    have unf : ∀ k71 : K71, m_X8_stable_82 k71 mm rk' w' (f + 1) (nI H) (nI N) v3 v4 (nI h) bst hds rf = m_X8_stable_96 k71 (m_X8_stable_82 k71 mm rk' w' f) mm rk' w' 1000000 (nI H) (nI N) v3 v4 (nI h) (-6) 0 bst hds rf := by
      intro k71
      rw [sb_82s]; unfold m_X8_stable_82b
      rw [if_neg n6]
    rcases sb_hull hm hEm hw hEw hr hEr hH hN J hF h6 v3 v4 with ⟨e1, e2⟩ | ⟨A1, b1, d1, r1, e1, J1, F1, c1, E1⟩
    · rcases ih (h + 1) (by omega) f (by omega) A bst hds rf v4 J hF with ⟨g1, g2⟩ | ⟨A2, b2, d2, r2, g1, J2, F2, c2, E2⟩
      · refine Or.inl ⟨fun k71 => (unf k71).trans ((e1 k71 _).trans (g1 k71)), fun i h1 h2 => ?_⟩
        by_cases z : i = h
        · rw [z]; exact e2
        · exact g2 i (by omega) h2
      · exact Or.inr ⟨A2, b2, d2, r2, fun k71 => (unf k71).trans ((e1 k71 _).trans (g1 k71)), J2, F2, c2, E2⟩
    · rcases ih (h + 1) (by omega) f (by omega) A1 b1 d1 r1 1 J1 F1 with ⟨g1, g2⟩ | ⟨A2, b2, d2, r2, g1, J2, F2, c2, E2⟩
      · exact Or.inr ⟨A1, b1, d1, r1, fun k71 => (unf k71).trans ((e1 k71 _).trans (g1 k71)), J1, F1, by omega, E1⟩
      · exact Or.inr ⟨A2, b2, d2, r2, fun k71 => (unf k71).trans ((e1 k71 _).trans (g1 k71)), J2, F2, by omega, fun T hT nT JT FT S => E2 T hT nT JT FT (E1 T hT nT JT FT S)⟩
theorem sb_while {may mm w w' rk rk' : Nat → Int32} (hm : rng 6 31 may) (hEm : eqN 6 may mm) (hw : rng 30 99 w) (hEw : eqN 30 w w') (hr : ∀ j, j < 5 → rowOK (rk j)) (hEr : eqN 5 rk rk') {H N : Nat} (hH : H < 64) (hN : N < 32) (v3 : Int32) : ∀ (m : Nat), ∀ f, m + 1 < f → ∀ (A : Nat → Nat → Bool) (bst hds rf : Nat → Int32), 30 ≤ caz A + m → JS (chz may H N) w rk A hds bst → RFS A rf →
    ∃ (A' : Nat → Nat → Bool) (bst' hds' rf' : Nat → Int32), m_X8_stable_71 mm rk' w' f (nI H) (nI N) v3 1 bst hds rf = ogb (m_X8_toldOf bst' w' v3) (fun q => some (q, (bst', hds', rf'))) ∧ JS (chz may H N) w rk A' hds' bst' ∧ FINz (chz may H N) A' bst' ∧ ENDz (chz may H N) w rk A A' := by
  have round : ∀ (f : Nat) (A : Nat → Nat → Bool) (bst hds rf : Nat → Int32), JS (chz may H N) w rk A hds bst → RFS A rf →
      (∃ (A' : Nat → Nat → Bool) (bst' hds' rf' : Nat → Int32), m_X8_stable_71 mm rk' w' (f + 2) (nI H) (nI N) v3 1 bst hds rf = ogb (m_X8_toldOf bst' w' v3) (fun q => some (q, (bst', hds', rf'))) ∧ JS (chz may H N) w rk A' hds' bst' ∧ FINz (chz may H N) A' bst' ∧ ENDz (chz may H N) w rk A A') ∨
      ∃ (A' : Nat → Nat → Bool) (bst' hds' rf' : Nat → Int32), m_X8_stable_71 mm rk' w' (f + 2) (nI H) (nI N) v3 1 bst hds rf = m_X8_stable_71 mm rk' w' (f + 1) (nI H) (nI N) v3 1 bst' hds' rf' ∧ JS (chz may H N) w rk A' hds' bst' ∧ RFS A' rf' ∧ caz A < caz A' ∧ ENDz (chz may H N) w rk A A' := by
    intro f A bst hds rf J hF
    have z0' : (0 : Int32) = nI 0 := rfl
    have unf : m_X8_stable_71 mm rk' w' (f + 2) (nI H) (nI N) v3 1 bst hds rf = m_X8_stable_82 (m_X8_stable_71 mm rk' w' (f + 1)) mm rk' w' 1000000 (nI H) (nI N) v3 0 (nI 0) bst hds rf := by
      rw [sb_71s]; unfold m_X8_stable_71b
      rw [if_neg (by decide)]
      rfl
    rcases sb_round hm hEm hw hEw hr hEr hH hN v3 6 0 (by omega) 1000000 (by omega) A bst hds rf 0 J hF with ⟨g1, g2⟩ | ⟨A2, b2, d2, r2, g1, J2, F2, c2, E2⟩
    · refine Or.inl ⟨A, bst, hds, rf, ?_, J, fun h hh e n hn hc => g2 h (by omega) hh e n hn hc, fun T hT nT _ _ S => S⟩
      refine unf.trans ((g1 (m_X8_stable_71 mm rk' w' (f + 1))).trans ?_)
      rw [sb_71s]; unfold m_X8_stable_71b
      rw [if_pos rfl]
    · exact Or.inr ⟨A2, b2, d2, r2, unf.trans (g1 (m_X8_stable_71 mm rk' w' (f + 1))), J2, F2, c2, E2⟩
  intro m
  induction m with
  | zero =>
    intro f hf A bst hds rf hc J hF
    obtain ⟨f, rfl⟩ : ∃ z, f = z + 2 := ⟨f - 2, by omega⟩
    rcases round f A bst hds rf J hF with h | ⟨A2, b2, d2, r2, -, -, -, c2, -⟩
    · exact h
    · have := caz_le A2
      omega
  | succ m ih =>
    intro f hf A bst hds rf hc J hF
    obtain ⟨f, rfl⟩ : ∃ z, f = z + 2 := ⟨f - 2, by omega⟩
    rcases round f A bst hds rf J hF with h | ⟨A2, b2, d2, r2, g1, J2, F2, c2, E2⟩
    · exact h
    · obtain ⟨A3, b3, d3, r3, p1, p2, p3, p4⟩ := ih (f + 1) (by omega) A2 b2 d2 r2 (by omega) J2 F2
      exact ⟨A3, b3, d3, r3, g1.trans p1, p2, p3, fun T hT nT JT FT S => p4 T hT nT JT FT (E2 T hT nT JT FT S)⟩
-- at the start nobody has asked
def noz : Nat → Nat → Bool := fun _ _ => false
theorem JS_0 (ch : Nat → Nat) (w rk hO nO : Nat → Int32) : JS ch w rk noz (cst (-6) 5 hO) (cst (-6) 6 nO) := by
  refine ⟨fun h n _ _ e => absurd e (by unfold noz; decide), fun h n m _ _ _ e => absurd e (by unfold noz; decide), fun n hn => Or.inl ⟨cst_lt hn, fun _ _ => rfl⟩, fun h hh => Or.inl ⟨cst_lt hh, fun n hn => ?_⟩⟩
  rw [cst_lt hn]
  exact fun e => nI_n6 (by omega) e.symm
theorem sb_14s (mm rk w : Nat → Int32) (n : Nat) (a b c d : Int32) (x y z : Nat → Int32) : m_X8_stable_14 mm rk w (n + 1) a b c d x y z = m_X8_stable_14b (m_X8_stable_14 mm rk w n) mm rk w a b c d x y z := rfl
theorem sb_47s (mm rk w : Nat → Int32) (n : Nat) (a b c d : Int32) (x y z : Nat → Int32) : m_X8_stable_47 mm rk w (n + 1) a b c d x y z = m_X8_stable_47b (m_X8_stable_47 mm rk w n) mm rk w a b c d x y z := rfl
theorem sb_47 (mm rk w : Nat → Int32) (a b c : Int32) (x y z : Nat → Int32) : ∀ i, i ≤ 5 → ∀ fuel, 5 - i < fuel → m_X8_stable_47 mm rk w fuel a b c (nI i) x (prg (fun _ => -6) y i) z = m_X8_stable_71 mm rk w 1000000 a b c 1 x (cst (-6) 5 y) z := by
  refine loop_up (fun fuel i => m_X8_stable_47 mm rk w fuel a b c (nI i) x (prg (fun _ => -6) y i) z = m_X8_stable_71 mm rk w 1000000 a b c 1 x (cst (-6) 5 y) z) 5 (fun fuel => ?_) (fun fuel i hi ih => ?_)
  · rw [sb_47s]; unfold m_X8_stable_47b
    rw [if_pos (by decide)]
    rfl
  · rw [sb_47s]; unfold m_X8_stable_47b
    rw [if_neg (by rw [l5, nI_leI (by omega) (by omega)]; omega), ogi_N hi (by omega), ogl_def, nI_1, cl_N (by omega), prg_s (fun _ => -6)]
    exact ih
theorem sb_14 (mm rk w : Nat → Int32) (a b c : Int32) (x y z : Nat → Int32) : ∀ i, i ≤ 6 → ∀ fuel, 6 - i < fuel → m_X8_stable_14 mm rk w fuel a b c (nI i) (prg (fun _ => -6) x i) y (prg (fun _ => 0) z i) = m_X8_stable_71 mm rk w 1000000 a b c 1 (cst (-6) 6 x) (cst (-6) 5 y) (cst 0 6 z) := by
  refine loop_up (fun fuel i => m_X8_stable_14 mm rk w fuel a b c (nI i) (prg (fun _ => -6) x i) y (prg (fun _ => 0) z i) = m_X8_stable_71 mm rk w 1000000 a b c 1 (cst (-6) 6 x) (cst (-6) 5 y) (cst 0 6 z)) 6 (fun fuel => ?_) (fun fuel i hi ih => ?_)
  · rw [sb_14s]; unfold m_X8_stable_14b
    rw [if_pos (by decide)]
    have h := sb_47 mm rk w a b c (prg (fun _ => -6) x 6) y (prg (fun _ => 0) z 6) 0 (by omega) 1000000 (by omega)
    rw [prg_0] at h
    exact h
  · rw [sb_14s]; unfold m_X8_stable_14b
    rw [if_neg (by rw [l6, nI_leI (by omega) (by omega)]; omega), ogi_N hi (by omega), ogi_N hi (by omega), ogl_def, nI_1, cl_N (by omega), prg_s (fun _ => -6), prg_s (fun _ => 0)]
    exact ih
def enc (f : Nat → Int32) (h : Nat) : Nat := if f h = -6 then 5 else (f h).toNatClampNeg
theorem enc_N {ch : Nat → Nat} {w rk : Nat → Int32} {A : Nat → Nat → Bool} {hO nO : Nat → Int32} (J : JS ch w rk A hO nO) {h : Nat} (hh : h < 6) : enc nO h < 6 ∧ nO h = gve (enc nO) h := by
  unfold gve enc
  rcases J.2.2.2 h hh with ⟨e, -⟩ | ⟨n, hn, e, -⟩
  · rw [if_pos e, if_pos rfl]
    exact ⟨by omega, e⟩
  · rw [if_neg (by rw [e]; exact nI_n6 (by omega)), e, cl_N (by omega), if_neg (by omega)]
    exact ⟨by omega, rfl⟩
