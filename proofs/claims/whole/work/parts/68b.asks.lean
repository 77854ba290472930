-- the class asks
def qz (ch : Nat → Nat) (A : Nat → Nat → Bool) (h : Nat) : Nat → Bool := fun n => (ch h).testBit n && !A h n
def LFT (ch : Nat → Nat) (A : Nat → Nat → Bool) (lf : Nat → Int32) : Prop := ∀ h, h < 6 → ∃ L, L < 32 ∧ lf h = nI L ∧ ∀ n, n < 5 → L.testBit n = qz ch A h n
theorem fv_5s (lf w : Nat → Int32) (n : Nat) (a b c : Int32) : m_X1_favourite_5 lf w (n + 1) a b c = m_X1_favourite_5b (m_X1_favourite_5 lf w n) lf w a b c := rfl
theorem fvz_rg (w : Nat → Int32) (h : Nat) (q : Nat → Bool) (t : Nat) (ht : t ≤ 5) : fvz w h q t = -6 ∨ ∃ m, m < t ∧ fvz w h q t = nI m := by
  rcases fvz_is w h q t ht with ⟨e, -⟩ | ⟨m, hm, e, -⟩
  · exact Or.inl e
  · exact Or.inr ⟨m, hm, e⟩
theorem pref_fv {w w' : Nat → Int32} (hw : rng 30 99 w) (hE : eqN 30 w w') {h t : Nat} (q : Nat → Bool) (hh : h < 6) (ht : t < 5) : m_X1_hullPrefers w (nI h) (nI t) (fvz w h q t) = some (flg2 (decide (fvz w h q t = -6) || lkz w h t (fvz w h q t).toNatClampNeg)) ∧ m_X8_likes w' (nI h) (nI t) (fvz w h q t) = some (flg2 (decide (fvz w h q t = -6) || lkz w h t (fvz w h q t).toNatClampNeg)) := by
  rcases fvz_rg w h q t (by omega) with e | ⟨m, hm, e⟩
  · rw [e, decide_eq_true rfl, Bool.true_or]
    exact prefs_no w w' _ _
  · rw [e, decide_eq_false (nI_n6 (by omega)), Bool.false_or, cl_N (by omega)]
    exact prefs_N hw hE hh ht (by omega)
theorem fav_N {ch : Nat → Nat} {A : Nat → Nat → Bool} {lf w : Nat → Int32} (hw : rng 30 99 w) (hL : LFT ch A lf) {h : Nat} (hh : h < 6) : m_X1_favourite lf w (nI h) = some (fvz w h (qz ch A h) 5) := by
  obtain ⟨L, hL32, eL, bL⟩ := hL h hh
  have run : ∀ (m n : Nat), n + m = 5 → ∀ f, m < f → m_X1_favourite_5 lf w f (nI h) (fvz w h (qz ch A h) n) (nI n) = some (fvz w h (qz ch A h) 5) := by
    intro m
    induction m with
    | zero =>
      intro n hn f hf
      obtain ⟨f, rfl⟩ : ∃ z, f = z + 1 := ⟨f - 1, by omega⟩
      have : n = 5 := by omega
      subst this
      rw [fv_5s]; unfold m_X1_favourite_5b; rw [if_pos (by decide)]
    | succ m ih =>
      intro n hn f hf
      obtain ⟨f, rfl⟩ : ∃ z, f = z + 1 := ⟨f - 1, by omega⟩
      have hn5 : n < 5 := by omega
      have hi := ih (n + 1) (by omega) f (by omega)
      rw [fvz_s] at hi
      rw [fv_5s]
      unfold m_X1_favourite_5b m_X1_favourite_37
      rw [if_neg (by rw [l5, nI_leI (by omega) (by omega)]; omega), at_N lf hh (by omega), ogb_some, eL, hb7 (by omega) (by omega), ogb_some, bL n hn5, (pref_fv hw (fun _ _ => rfl : eqN 30 w w) (qz ch A h) hh hn5).1]
      simp only [ogb_some, ogl_def, nI_1]
      generalize (decide (fvz w h (qz ch A h) n = -6) || lkz w h n (fvz w h (qz ch A h) n).toNatClampNeg) = B at *
      generalize qz ch A h n = Q at *
      cases Q
      · exact hi
      · cases B
        · exact hi
        · exact hi
  exact run 5 0 (by omega) 1000000 (by omega)
theorem fa_2s (lf nO : Nat → Int32) (n : Nat) (a : Int32) : m_X1_firstAsking_2 lf nO (n + 1) a = m_X1_firstAsking_2b (m_X1_firstAsking_2 lf nO n) lf nO a := rfl
theorem fa_N (lf nO : Nat → Int32) : (∃ h, h < 6 ∧ m_X1_firstAsking lf nO = some (nI h) ∧ nO h = -6 ∧ lf h ≠ 0) ∨ (m_X1_firstAsking lf nO = some (-6) ∧ ∀ h, h < 6 → nO h = -6 → lf h = 0) := by
  have run : ∀ (m t : Nat), t + m = 6 → ∀ f, m < f → (∀ h, h < t → nO h = -6 → lf h = 0) → (∃ h, h < 6 ∧ m_X1_firstAsking_2 lf nO f (nI t) = some (nI h) ∧ nO h = -6 ∧ lf h ≠ 0) ∨ (m_X1_firstAsking_2 lf nO f (nI t) = some (-6) ∧ ∀ h, h < 6 → nO h = -6 → lf h = 0) := by
    intro m
    induction m with
    | zero =>
      intro t ht f hf hn
      obtain ⟨f, rfl⟩ : ∃ z, f = z + 1 := ⟨f - 1, by omega⟩
      have : t = 6 := by omega
      subst this
      refine Or.inr ⟨?_, hn⟩
      rw [fa_2s]; unfold m_X1_firstAsking_2b; rw [if_pos (by decide)]
    | succ m ih =>
      intro t ht f hf hn
      obtain ⟨f, rfl⟩ : ∃ z, f = z + 1 := ⟨f - 1, by omega⟩
      have ht6 : t < 6 := by omega
      have next : (nO t = -6 → lf t = 0) → _ := fun h0 => ih (t + 1) (by omega) f (by omega) (fun h hh e => by
        by_cases z : h = t
        · subst z; exact h0 e
        · exact hn h (by omega) e)
      rw [fa_2s]
      unfold m_X1_firstAsking_2b m_X1_firstAsking_30
      rw [if_neg (by rw [l6, nI_leI (by omega) (by omega)]; omega), ogi_N ht6 (by omega), ogi_N ht6 (by omega), cl_N (by omega), ogl_def, nI_1]
      by_cases c1 : nO t = -6
      · rw [if_pos c1]
        by_cases c2 : lf t = 0
        · rw [if_pos c2]; exact next (fun _ => c2)
        · rw [if_neg c2]; exact Or.inl ⟨t, ht6, rfl, c1, c2⟩
      · rw [if_neg c1]; exact next (fun e => absurd e c1)
  exact run 6 0 (by omega) 1000000 (by omega) (fun h hh => absurd hh (by omega))
theorem LFT_step {ch : Nat → Nat} {A : Nat → Nat → Bool} {lf : Nat → Int32} (hL : LFT ch A lf) {h n L : Nat} (hh : h < 6) (hn : n < 5) (hL32 : L < 32) (bL : ∀ n, n < 5 → L.testBit n = qz ch A h n) : LFT ch (asz A h n) (upd lf h (nI (clr L n))) := by
  intro a ha
  by_cases q : a = h
  · subst q
    refine ⟨clr L n, clr_lt hL32 hn, upd_s _ _ _, fun m hm => ?_⟩
    rw [clr_bit hL32 hn hm, bL m hm]
    unfold qz asz
    rw [decide_eq_true rfl, Bool.true_and]
    cases (ch a).testBit m <;> cases A a m <;> cases decide (m = n) <;> rfl
  · obtain ⟨L2, h1, h2, h3⟩ := hL a ha
    refine ⟨L2, h1, by rw [upd_n _ _ q]; exact h2, fun m hm => ?_⟩
    rw [h3 m hm]
    unfold qz asz
    rw [decide_eq_false q, Bool.false_and, Bool.or_false]
def ENDz (ch : Nat → Nat) (w rk : Nat → Int32) (A A' : Nat → Nat → Bool) : Prop := ∀ (T : Nat → Nat → Bool) (hT nT : Nat → Int32), JS ch w rk T hT nT → FINz ch T nT → SUBz A T → SUBz A' T
theorem NXT_of {ch : Nat → Nat} {w : Nat → Int32} {A : Nat → Nat → Bool} {nO : Nat → Int32} {h m : Nat} (hh : h < 6) (hm : m < 5) (e : nO h = -6) (qm : qz ch A h m = true) (f : ∀ x, x < 5 → qz ch A h x = true → x ≠ m → lkz w h m x = true) : NXT ch w A nO h m := by
  unfold qz at qm f
  rw [Bool.and_eq_true] at qm
  have z : A h m = false := by
    have := qm.2
    cases hA : A h m
    · rfl
    · rw [hA] at this; exact absurd this (by decide)
  refine ⟨hh, hm, e, qm.1, z, fun x hx cx ax nx => f x hx ?_ nx⟩
  rw [cx, ax]
  rfl
theorem af_N {ch : Nat → Nat} {w rk rk' : Nat → Int32} {A : Nat → Nat → Bool} {lf hO nO : Nat → Int32} (hr : ∀ j, j < 5 → rowOK (rk j)) (hE : eqN 5 rk rk') (J : JS ch w rk A hO nO) (hL : LFT ch A lf) {h n : Nat} (X : NXT ch w A nO h n) :
    ∃ hO' lf' nO', m_X1_askFor rk hO lf nO (nI h) (nI n) = some (hO', lf', nO') ∧ JS ch w rk (asz A h n) hO' nO' ∧ LFT ch (asz A h n) lf' := by
  have hh := X.1
  have hn := X.2.1
  obtain ⟨L, hL32, eL, bL⟩ := hL h hh
  have hL' := LFT_step hL hh hn hL32 bL
  unfold m_X1_askFor
  rw [at_N lf hh (by omega), ogb_some, eL, clr_N hL32 hn, put_N _ _ hh (by omega), ogb_some, at_N hO hn (by omega), ogb_some]
  rcases J.2.2.1 n hn with ⟨e, -⟩ | ⟨o, ho, eo, ea, f⟩
  · rw [e, (npref_no rk rk' (nI n) (nI h)).1, ogb_some, if_neg (by decide), if_pos rfl]
    unfold m_X1_askFor_58 m_X1_give
    rw [put_N _ _ hh (by omega), ogb_some, put_N _ _ hn (by omega), ogb_some, ogb_some]
    exact ⟨_, _, _, rfl, JS_new J X e, hL'⟩
  · rw [eo, (npref_N hr hE hn hh ho).1, ogb_some]
    have noh : o ≠ h := by
      rcases J.2.2.2 h hh with ⟨-, g⟩ | ⟨m, hm, e, -⟩
      · intro c; exact g n hn (by rw [eo, c])
      · exact absurd (e.symm.trans X.2.2.1) (nI_n6 (by omega))
    by_cases lt : plz rk n h < plz rk n o
    · rw [decide_eq_true lt, if_pos rfl, if_neg (by decide), if_neg (nI_n6 (by omega)), put_N _ _ ho (by omega), ogb_some]
      unfold m_X1_askFor_58 m_X1_give
      rw [put_N _ _ hh (by omega), ogb_some, put_N _ _ hn (by omega), ogb_some, ogb_some]
      exact ⟨_, _, _, rfl, JS_swap J X ho eo lt, hL'⟩
    · have inj := (place_N hr hE hn ho).2.2.2 h hh
      have lt2 : plz rk n o < plz rk n h := by
        rcases Nat.lt_trichotomy (plz rk n o) (plz rk n h) with z | z | z
        · exact z
        · exact absurd (inj z.symm).symm noh
        · exact absurd z lt
      rw [decide_eq_false lt, if_neg (show ¬ (false = true) by decide), if_pos rfl]
      exact ⟨_, _, _, rfl, JS_stay J X ho eo lt2, hL'⟩
theorem fs_13s (cA rk w : Nat → Int32) (n : Nat) (a : Int32) (x y z : Nat → Int32) : m_X1_findStable_13 cA rk w (n + 1) a x y z = m_X1_findStable_13b (m_X1_findStable_13 cA rk w n) cA rk w a x y z := rfl
theorem fs_run {ch : Nat → Nat} {cA w rk rk' : Nat → Int32} (hw : rng 30 99 w) (hr : ∀ j, j < 5 → rowOK (rk j)) (hE : eqN 5 rk rk') : ∀ (m t : Nat), t + m = 30 → ∀ f, m < f → ∀ (A : Nat → Nat → Bool) (hO lf nO : Nat → Int32), t ≤ caz A → JS ch w rk A hO nO → LFT ch A lf →
    ∃ (hO' lf' nO' : Nat → Int32) (A' : Nat → Nat → Bool), m_X1_findStable_13 cA rk w f (nI t) hO lf nO = some (hO', lf', nO') ∧ JS ch w rk A' hO' nO' ∧ FINz ch A' nO' ∧ ENDz ch w rk A A' := by
  have l30 : (30 : Int32) = nI 30 := rfl
  intro m
  induction m with
  | zero =>
    intro t ht f hf A hO lf nO hc J hL
    obtain ⟨f, rfl⟩ : ∃ z, f = z + 1 := ⟨f - 1, by omega⟩
    have hl := caz_le A
    refine ⟨hO, lf, nO, A, ?_, J, fun h hh _ n hn _ => caz_full (by omega) hh hn, fun T hT nT _ _ S => S⟩
    rw [fs_13s]; unfold m_X1_findStable_13b
    rw [if_pos (by rw [l30, nI_leI (by omega) (by omega)]; omega)]
  | succ m ih =>
    intro t ht f hf A hO lf nO hc J hL
    obtain ⟨f, rfl⟩ : ∃ z, f = z + 1 := ⟨f - 1, by omega⟩
    rw [fs_13s]; unfold m_X1_findStable_13b
    rw [if_neg (by rw [l30, nI_leI (by omega) (by omega)]; omega)]
    rcases fa_N lf nO with ⟨h, hh, e1, e2, e3⟩ | ⟨e1, e2⟩
    · rw [e1, ogb_some, if_neg (nI_n6 (by omega)), fav_N hw hL hh, ogb_some]
      obtain ⟨L, hL32, eL, bL⟩ := hL h hh
      rcases fvz_is w h (qz ch A h) 5 (by omega) with ⟨-, no⟩ | ⟨n, hn, ev, qn, fv⟩
      · have : L = 0 := bits0 hL32 (fun m hm => by rw [bL m hm]; exact no m hm)
        rw [this] at eL
        exact absurd eL e3
      · have X : NXT ch w A nO h n := NXT_of hh hn e2 qn fv
        obtain ⟨hO1, lf1, nO1, g1, J1, hL1⟩ := af_N hr hE J hL X
        have cs := caz_step hh hn X.2.2.2.2.1
        obtain ⟨hO2, lf2, nO2, A2, p1, p2, p3, p4⟩ := ih (t + 1) (by omega) f (by omega) (asz A h n) hO1 lf1 nO1 (by omega) J1 hL1
        rw [ev, g1, ogb_some, ogl_def, nI_1]
        exact ⟨hO2, lf2, nO2, A2, p1, p2, p3, fun T hT nT JT FT S => p4 T hT nT JT FT (SUB_step J X JT FT S)⟩
    · rw [e1, ogb_some, if_pos rfl]
      refine ⟨hO, lf, nO, A, rfl, J, fun h hh e n hn hc => ?_, fun T hT nT _ _ S => S⟩
      obtain ⟨L, hL32, eL, bL⟩ := hL h hh
      have z := e2 h hh e
      rw [eL] at z
      have L0 : L = 0 := by
        rcases Nat.eq_zero_or_pos L with q | q
        · exact q
        · exact absurd z (nI_ne0 q (by omega))
      have b := bL n hn
      rw [L0, Nat.zero_testBit] at b
      unfold qz at b
      rw [hc, Bool.true_and] at b
      cases hA : A h n
      · rw [hA] at b; exact absurd b (by decide)
      · rfl
-- the check asks
theorem hasc_all : ∀ X R : Fin 32, ∀ n : Fin 5, m_X8_has (nI X.val &&& (nI R.val ^^^ (-1))) (nI n.val) = some (if X.val.testBit n.val && !R.val.testBit n.val then 1 else 0) := by decide +kernel
theorem hasc {X R n : Nat} (hX : X < 32) (hR : R < 32) (hn : n < 5) : m_X8_has (nI X &&& (nI R ^^^ (-1))) (nI n) = some (if X.testBit n && !R.testBit n then 1 else 0) := hasc_all ⟨X, hX⟩ ⟨R, hR⟩ ⟨n, hn⟩
def RFS (A : Nat → Nat → Bool) (rf : Nat → Int32) : Prop := ∀ h, h < 6 → ∃ R, R < 32 ∧ rf h = nI R ∧ ∀ n, n < 5 → R.testBit n = A h n
theorem RFS_step {A : Nat → Nat → Bool} {rf : Nat → Int32} (hF : RFS A rf) {h n R : Nat} (hn : n < 5) (hR : R < 32) (bR : ∀ n, n < 5 → R.testBit n = A h n) : RFS (asz A h n) (upd rf h (nI (sbt R n))) := by
  intro a ha
  by_cases q : a = h
  · subst q
    refine ⟨sbt R n, sbt_lt hR hn, upd_s _ _ _, fun m hm => ?_⟩
    rw [sbt_bit hR hn hm, bR m hm]
    unfold asz
    rw [decide_eq_true rfl, Bool.true_and]
  · obtain ⟨R2, h1, h2, h3⟩ := hF a ha
    refine ⟨R2, h1, by rw [upd_n _ _ q]; exact h2, fun m hm => ?_⟩
    rw [h3 m hm]
    unfold asz
    rw [decide_eq_false q, Bool.false_and, Bool.or_false]
def K71 := Int32 → Int32 → Int32 → Int32 → (Nat → Int32) → (Nat → Int32) → (Nat → Int32) → Option (Int32 × ((Nat → Int32) × (Nat → Int32) × (Nat → Int32)))
def K82 := Int32 → Int32 → Int32 → Int32 → Int32 → (Nat → Int32) → (Nat → Int32) → (Nat → Int32) → Option (Int32 × ((Nat → Int32) × (Nat → Int32) × (Nat → Int32)))
theorem sb_96s (k71 : K71) (k82 : K82) (mm rk w : Nat → Int32) (n : Nat) (a b c d e f g : Int32) (x y z : Nat → Int32) : m_X8_stable_96 k71 k82 mm rk w (n + 1) a b c d e f g x y z = m_X8_stable_96b k71 k82 (m_X8_stable_96 k71 k82 mm rk w n) mm rk w a b c d e f g x y z := rfl
theorem sb_82s (k71 : K71) (mm rk w : Nat → Int32) (n : Nat) (a b c d e : Int32) (x y z : Nat → Int32) : m_X8_stable_82 k71 mm rk w (n + 1) a b c d e x y z = m_X8_stable_82b k71 (m_X8_stable_82 k71 mm rk w n) mm rk w a b c d e x y z := rfl
theorem sb_71s (mm rk w : Nat → Int32) (n : Nat) (a b c d : Int32) (x y z : Nat → Int32) : m_X8_stable_71 mm rk w (n + 1) a b c d x y z = m_X8_stable_71b (m_X8_stable_71 mm rk w n) mm rk w a b c d x y z := rfl
theorem sb_fav {may mm w w' rk rk' : Nat → Int32} (hm : rng 6 31 may) (hEm : eqN 6 may mm) (hw : rng 30 99 w) (hEw : eqN 30 w w') {H N : Nat} (hH : H < 64) (hN : N < 32) {A : Nat → Nat → Bool} {bst hds rf : Nat → Int32} (J : JS (chz may H N) w rk A hds bst) (hF : RFS A rf) {h : Nat} (hh : h < 6) (k71 : K71) (k82 : K82) (v3 v4 : Int32) :
    ∀ (m n : Nat), n + m = 5 → ∀ f, m < f → m_X8_stable_96 k71 k82 mm rk' w' f (nI H) (nI N) v3 v4 (nI h) (fvz w h (fun n => decide (bst h = -6) && qz (chz may H N) A h n) n) (nI n) bst hds rf = m_X8_stable_96 k71 k82 mm rk' w' 1 (nI H) (nI N) v3 v4 (nI h) (fvz w h (fun n => decide (bst h = -6) && qz (chz may H N) A h n) 5) 5 bst hds rf := by
  obtain ⟨R, hR, eR, bR⟩ := hF h hh
  have em : mm h = nI (nV may h) ∧ nV may h ≤ 31 := by
    rw [← hEm _ hh]
    exact nV_of (by omega) hm hh
  obtain ⟨em, em31⟩ := em
  have hX : N &&& nV may h < 32 := and_lt hN
  intro m
  induction m with
  | zero =>
    intro n hn f hf
    obtain ⟨f, rfl⟩ : ∃ z, f = z + 1 := ⟨f - 1, by omega⟩
    have : n = 5 := by omega
    subst this
    have e1 := sb_96s k71 k82 mm rk' w' f (nI H) (nI N) v3 v4 (nI h) (fvz w h (fun n => decide (bst h = -6) && qz (chz may H N) A h n) 5) (nI 5) bst hds rf
    have e2 := sb_96s k71 k82 mm rk' w' 0 (nI H) (nI N) v3 v4 (nI h) (fvz w h (fun n => decide (bst h = -6) && qz (chz may H N) A h n) 5) 5 bst hds rf
    refine e1.trans (Eq.trans ?_ e2.symm)
    unfold m_X8_stable_96b
    rw [if_pos (show (5 : Int32) ≤ nI 5 by decide), if_pos (show (5 : Int32) ≤ 5 by decide)]
  | succ m ih =>
    intro n hn f hf
    obtain ⟨f, rfl⟩ : ∃ z, f = z + 1 := ⟨f - 1, by omega⟩
    have hn5 : n < 5 := by omega
    have hi := ih (n + 1) (by omega) f (by omega)
    rw [fvz_s] at hi
    refine Eq.trans ?_ hi
    have i6 : ∀ {α : Type} (z : Option α), ogi (nI h) 6 z = z := fun z => ogi_N hh (by omega)
    rw [sb_96s]
    unfold m_X8_stable_96b m_X8_stable_152 m_X8_stable_153 m_X8_stable_178 m_X8_stable_180
    simp only [i6, cl_N (show h < 2 ^ 31 by omega), ogl_def, nI_1]
    rw [if_neg (by rw [l5, nI_leI (by omega) (by omega)]; omega), hb8 hH hh, em, fa_and, eR, hasc hX hR hn5, (pref_fv hw hEw _ hh hn5).2, bR n hn5, Nat.testBit_and]
    simp only [ogb_some]
    have eq1 : (decide (bst h = -6) && qz (chz may H N) A h n) = (decide (bst h = -6) && ((H.testBit h && ((nV may h).testBit n && N.testBit n)) && !A h n)) := by
      unfold qz
      rw [chz_bit]
    rw [eq1]
    have fr : (bst h = -6 ∧ ¬ (0 : Int32) ≤ bst h) ∨ (¬ bst h = -6 ∧ (0 : Int32) ≤ bst h) := by
      rcases J.2.2.2 h hh with ⟨e, -⟩ | ⟨x, hx, e, -⟩
      · exact Or.inl ⟨e, by rw [e]; decide⟩
      · exact Or.inr ⟨by rw [e]; exact nI_n6 (by omega), by rw [e]; exact nI_pos' (by omega)⟩
    generalize (decide (fvz w h (fun n => decide (bst h = -6) && qz (chz may H N) A h n) n = -6) || lkz w h n (fvz w h (fun n => decide (bst h = -6) && qz (chz may H N) A h n) n).toNatClampNeg) = B
    generalize fvz w h (fun n => decide (bst h = -6) && qz (chz may H N) A h n) n = V
    generalize H.testBit h = b1
    generalize N.testBit n = b2
    generalize (nV may h).testBit n = b3
    generalize A h n = b4
    unfold flg2
    rcases fr with ⟨f1, f2⟩ | ⟨f1, f2⟩
    · rw [decide_eq_true f1, if_neg f2]
      cases b1 <;> cases b2 <;> cases b3 <;> cases b4 <;> cases B <;> rfl
    · rw [decide_eq_false f1, if_pos f2]
      cases b1 <;> rfl
