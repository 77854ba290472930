-- the class's rows of best gains
def RW (ch : Nat → Nat) (w b : Nat → Int32) (h : Nat) : Prop := ∀ F, F < 32 → b (h * 32 + F) = nI (Bst ch w (6 - h) F)
theorem gain_N {ch : Nat → Nat} {w b : Nat → Int32} (hw : rng 30 99 w) {h F n : Nat} (hh : h < 6) (hF : F < 32) (hn : n < 5) (R : RW ch w b (h + 1)) : m_X1_gain b w (nI h) (nI n) (nI F) = some (nI (1000 + wz w h n + Bst ch w (5 - h) (clr F n))) := by
  have hc := clr_lt hF hn
  have l32 : (32 : Int32) = nI 32 := rfl
  have l1000 : (1000 : Int32) = nI 1000 := rfl
  unfold m_X1_gain
  rw [(worth_N hw hh hn).1, ogb_some, clr_N hF hn, nI_1, l32, pk_mul, nI_add, at_N b (show (h + 1) * 32 + clr F n < 224 by omega) (by omega), ogb_some, R _ hc, l1000, nI_add, nI_add, show 6 - (h + 1) = 5 - h by omega]
theorem bg_19s (b cA w : Nat → Int32) (n : Nat) (x y z v : Int32) : m_X1_bestGain_19 b cA w (n + 1) x y z v = m_X1_bestGain_19b (m_X1_bestGain_19 b cA w n) b cA w x y z v := rfl
theorem bg_N {ch : Nat → Nat} {w b cA : Nat → Int32} (hw : rng 30 99 w) (hA : ∀ j, j < 6 → cA j = nI (ch j)) (hL : ∀ j, j < 6 → ch j < 32) {h F : Nat} (hh : h < 6) (hF : F < 32) (R : RW ch w b (h + 1)) : m_X1_bestGain b cA w (nI h) (nI F) = some (nI (Bst ch w (6 - h) F)) := by
  have l32 : (32 : Int32) = nI 32 := rfl
  have e6 : 6 - h = (5 - h) + 1 := by omega
  have e5 : 5 - (5 - h) = h := by omega
  have bnd : ∀ n, n ≤ 5 → bfm (Bst ch w (5 - h) F) (fun n => 1000 + wz w h n + Bst ch w (5 - h) (clr F n)) (fun n => (ch h).testBit n && F.testBit n) n < 100000 := by
    intro n hn
    rcases bfm_or (Bst ch w (5 - h) F) (fun n => 1000 + wz w h n + Bst ch w (5 - h) (clr F n)) (fun n => (ch h).testBit n && F.testBit n) n with e | ⟨i, hi, -, e⟩
    · rw [e]
      have := Bst_le hw ch (5 - h) (by omega) F hF
      omega
    · rw [e]
      have h1 := Bst_le hw ch (5 - h) (by omega) (clr F i) (clr_lt hF (by omega))
      have h2 := (worth_N hw hh (show i < 5 by omega)).2.1
      show 1000 + wz w h i + Bst ch w (5 - h) (clr F i) < _
      omega
  have run : ∀ (m n : Nat), n + m = 5 → ∀ f, m < f → m_X1_bestGain_19 b cA w f (nI h) (nI F) (nI (bfm (Bst ch w (5 - h) F) (fun n => 1000 + wz w h n + Bst ch w (5 - h) (clr F n)) (fun n => (ch h).testBit n && F.testBit n) n)) (nI n) = some (nI (bfm (Bst ch w (5 - h) F) (fun n => 1000 + wz w h n + Bst ch w (5 - h) (clr F n)) (fun n => (ch h).testBit n && F.testBit n) 5)) := by
    intro m
    induction m with
    | zero =>
      intro n hn f hf
      obtain ⟨f, rfl⟩ : ∃ z, f = z + 1 := ⟨f - 1, by omega⟩
      have : n = 5 := by omega
      subst this
      rw [bg_19s]; unfold m_X1_bestGain_19b; rw [if_pos (by decide)]
    | succ m ih =>
      intro n hn f hf
      obtain ⟨f, rfl⟩ : ∃ z, f = z + 1 := ⟨f - 1, by omega⟩
      have hn5 : n < 5 := by omega
      have hi := ih (n + 1) (by omega) f (by omega)
      have b1 := bnd n (by omega)
      have b2 := bnd (n + 1) (by omega)
      rw [bg_19s]
      unfold m_X1_bestGain_19b m_X1_bestGain_56
      rw [if_neg (by rw [l5, nI_leI (by omega) (by omega)]; omega), at_N cA hh (by omega), ogb_some, hA h hh, fa_and, hb7 (show ch h &&& F < 64 by have := and_lt (B := F) (hL h hh); omega) (by omega), ogb_some, Nat.testBit_and]
      by_cases q : ((ch h).testBit n && F.testBit n) = true
      · rw [if_pos q, if_neg (by decide), gain_N hw hh hF hn5 R, ogb_some, ogl_def, ogl_def, nI_1]
        rw [bfm_s, if_pos q] at hi b2
        have em : (if nI (bfm (Bst ch w (5 - h) F) (fun n => 1000 + wz w h n + Bst ch w (5 - h) (clr F n)) (fun n => (ch h).testBit n && F.testBit n) n) < nI (1000 + wz w h n + Bst ch w (5 - h) (clr F n)) then nI (1000 + wz w h n + Bst ch w (5 - h) (clr F n)) else nI (bfm (Bst ch w (5 - h) F) (fun n => 1000 + wz w h n + Bst ch w (5 - h) (clr F n)) (fun n => (ch h).testBit n && F.testBit n) n)) = nI (max (bfm (Bst ch w (5 - h) F) (fun n => 1000 + wz w h n + Bst ch w (5 - h) (clr F n)) (fun n => (ch h).testBit n && F.testBit n) n) (1000 + wz w h n + Bst ch w (5 - h) (clr F n))) := by
          generalize bfm (Bst ch w (5 - h) F) (fun n => 1000 + wz w h n + Bst ch w (5 - h) (clr F n)) (fun n => (ch h).testBit n && F.testBit n) n = x at *
          have b3 : max x (1000 + wz w h n + Bst ch w (5 - h) (clr F n)) < 100000 := b2
          generalize 1000 + wz w h n + Bst ch w (5 - h) (clr F n) = y at *
          by_cases c : x < y
          · rw [if_pos (nI_lt c (by omega))]; congr 1; omega
          · rw [if_neg (nI_nlt (by omega) (by omega))]; congr 1; omega
        rw [em]
        exact hi
      · rw [if_neg q, if_pos rfl, ogl_def, nI_1]
        rw [bfm_s, if_neg q] at hi
        exact hi
  have hr := run 5 0 (by omega) 1000000 (by omega)
  unfold m_X1_bestGain
  rw [nI_1, l32, pk_mul, nI_add, at_N b (show (h + 1) * 32 + F < 224 by omega) (by omega), ogb_some, R F hF, show 6 - (h + 1) = 5 - h by omega, e6, Bst_s, e5]
  exact hr
def RWs (ch : Nat → Nat) (w b : Nat → Int32) (h0 : Nat) : Prop := ∀ h, h0 ≤ h → h ≤ 6 → RW ch w b h
theorem fm_8s (k2 : Int32 → Int32 → (Nat → Int32) → (Nat → Int32) → (Nat → Int32) → Option ((Nat → Int32) × (Nat → Int32) × (Nat → Int32))) (cA w : Nat → Int32) (n : Nat) (x y z : Int32) (b hO nO : Nat → Int32) : m_X1_findMost_8 k2 cA w (n + 1) x y z b hO nO = m_X1_findMost_8b k2 (m_X1_findMost_8 k2 cA w n) cA w x y z b hO nO := rfl
theorem fm_8 {ch : Nat → Nat} {w cA : Nat → Int32} (hw : rng 30 99 w) (hA : ∀ j, j < 6 → cA j = nI (ch j)) (hL : ∀ j, j < 6 → ch j < 32) {h : Nat} (hh : h < 6) (v1 : Int32) (hO nO : Nat → Int32) : ∀ (m i : Nat), i + m = 32 → ∀ f, m < f → ∀ b : Nat → Int32, RWs ch w b (h + 1) → (∀ F, F < i → b (h * 32 + F) = nI (Bst ch w (6 - h) F)) →
    ∃ b', RWs ch w b' h ∧ ∀ k2, m_X1_findMost_8 k2 cA w f v1 (nI h) (nI i) b hO nO = k2 v1 (nI h + (-1)) b' hO nO := by
  have l32 : (32 : Int32) = nI 32 := rfl
  intro m
  induction m with
  | zero =>
    intro i hi f hf b R P
    obtain ⟨f, rfl⟩ : ∃ z, f = z + 1 := ⟨f - 1, by omega⟩
    refine ⟨b, fun h' h1 h2 => ?_, fun k2 => ?_⟩
    · by_cases e : h' = h
      · subst e; exact fun F hF => P F (by omega)
      · exact R h' (by omega) h2
    · rw [fm_8s]; unfold m_X1_findMost_8b
      rw [if_pos (by rw [l32, nI_leI (by omega) (by omega)]; omega), ogl_def]
  | succ m ih =>
    intro i hi f hf b R P
    obtain ⟨f, rfl⟩ : ∃ z, f = z + 1 := ⟨f - 1, by omega⟩
    obtain ⟨b', h1, h2⟩ := ih (i + 1) (by omega) f (by omega) (upd b (h * 32 + i) (nI (Bst ch w (6 - h) i))) (fun h' a1 a2 F hF => by
      rw [upd_n _ _ (by omega)]
      exact R h' a1 a2 F hF) (fun F hF => by
      by_cases e : F = i
      · subst e; exact upd_s _ _ _
      · rw [upd_n _ _ (by omega)]; exact P F (by omega))
    refine ⟨b', h1, fun k2 => ?_⟩
    rw [fm_8s]
    unfold m_X1_findMost_8b
    rw [if_neg (by rw [l32, nI_leI (by omega) (by omega)]; omega), bg_N hw hA hL hh (by omega) (R (h + 1) (by omega) (by omega)), ogb_some, l32, pk_mul, nI_add, put_N _ _ (show h * 32 + i < 224 by omega) (by omega), ogb_some, ogl_def, nI_1]
    exact h2 k2
theorem fm_2s (cA w : Nat → Int32) (n : Nat) (x y : Int32) (b hO nO : Nat → Int32) : m_X1_findMost_2 cA w (n + 1) x y b hO nO = m_X1_findMost_2b (m_X1_findMost_2 cA w n) cA w x y b hO nO := rfl
theorem fm_2 {ch : Nat → Nat} {w cA : Nat → Int32} (hw : rng 30 99 w) (hA : ∀ j, j < 6 → cA j = nI (ch j)) (hL : ∀ j, j < 6 → ch j < 32) (v1 : Int32) (hO nO : Nat → Int32) : ∀ (m : Nat), m ≤ 6 → ∀ f, m < f → ∀ (v : Int32), v = nI m + (-1) → ∀ b : Nat → Int32, RWs ch w b m →
    ∃ b', RWs ch w b' 0 ∧ m_X1_findMost_2 cA w f v1 v b hO nO = m_X1_findMost_49 cA w 1000000 v1 0 b' hO nO := by
  intro m
  induction m with
  | zero =>
    intro _ f hf v hv b R
    obtain ⟨f, rfl⟩ : ∃ z, f = z + 1 := ⟨f - 1, by omega⟩
    refine ⟨b, R, ?_⟩
    rw [fm_2s]; unfold m_X1_findMost_2b
    rw [if_pos (by rw [hv]; decide)]
  | succ m ih =>
    intro hm f hf v hv b R
    obtain ⟨f, rfl⟩ : ∃ z, f = z + 1 := ⟨f - 1, by omega⟩
    rw [pk_m1] at hv
    subst hv
    obtain ⟨b1, R1, e1⟩ := fm_8 hw hA hL (show m < 6 by omega) v1 hO nO 32 0 (by omega) 1000000 (by omega) b R (fun F hF => absurd hF (by omega))
    obtain ⟨b2, R2, e2⟩ := ih (by omega) f (by omega) _ rfl b1 R1
    refine ⟨b2, R2, ?_⟩
    rw [fm_2s]; unfold m_X1_findMost_2b
    rw [if_neg (nI_pos (by omega))]
    exact (e1 _).trans e2
theorem fb_2s (b cA w : Nat → Int32) (n : Nat) (x y z : Int32) : m_X1_firstOfBest_2 b cA w (n + 1) x y z = m_X1_firstOfBest_2b (m_X1_firstOfBest_2 b cA w n) b cA w x y z := rfl
theorem fst_eq (p : Nat → Bool) {t : Nat} (ht : t ≤ 5) (hn : ∀ i, i < t → p i = false) (hy : t < 5 → p t = true) : fa_first p 5 = t := by
  have hl := fa_first_le p 5
  rcases Nat.lt_or_ge (fa_first p 5) t with h | h
  · have y := fa_first_yes p 5 (by omega)
    rw [hn _ h] at y
    exact absurd y (by decide)
  · by_cases e : fa_first p 5 = t
    · exact e
    · have := fa_first_no p 5 t (by omega)
      rw [hy (by omega)] at this
      exact absurd this (by decide)
theorem fb_N {ch : Nat → Nat} {w b cA : Nat → Int32} (hw : rng 30 99 w) (hA : ∀ j, j < 6 → cA j = nI (ch j)) (hL : ∀ j, j < 6 → ch j < 32) {h F : Nat} (hh : h < 6) (hF : F < 32) (R : RWs ch w b 0) : m_X1_firstOfBest b cA w (nI h) (nI F) = some (if fn ch w (5 - h) F = 5 then -6 else nI (fn ch w (5 - h) F)) := by
  have l32 : (32 : Int32) = nI 32 := rfl
  have e6 : 6 - h = (5 - h) + 1 := by omega
  have e5 : 5 - (5 - h) = h := by omega
  have run : ∀ (m t : Nat), t + m = 5 → (∀ i, i < t → fq ch w (5 - h) F i = false) → ∀ f, m < f → m_X1_firstOfBest_2 b cA w f (nI h) (nI F) (nI t) = some (if fn ch w (5 - h) F = 5 then -6 else nI (fn ch w (5 - h) F)) := by
    intro m
    induction m with
    | zero =>
      intro t ht hn f hf
      obtain ⟨f, rfl⟩ : ∃ z, f = z + 1 := ⟨f - 1, by omega⟩
      have : t = 5 := by omega
      subst this
      have ef : fn ch w (5 - h) F = 5 := fst_eq _ (by omega) hn (fun h => absurd h (by omega))
      rw [fb_2s]; unfold m_X1_firstOfBest_2b; rw [if_pos (by decide), ef, if_pos rfl]
    | succ m ih =>
      intro t ht hn f hf
      obtain ⟨f, rfl⟩ : ∃ z, f = z + 1 := ⟨f - 1, by omega⟩
      have ht5 : t < 5 := by omega
      have next : fq ch w (5 - h) F t = false → m_X1_firstOfBest_2 b cA w f (nI h) (nI F) (nI (t + 1)) = some (if fn ch w (5 - h) F = 5 then -6 else nI (fn ch w (5 - h) F)) := fun hf0 => ih (t + 1) (by omega) (fun i hi => by
        by_cases e : i = t
        · rw [e]; exact hf0
        · exact hn i (by omega)) f (by omega)
      have hb1 := Bst_le hw ch (6 - h) (by omega) F hF
      have hb2 := Bst_le hw ch (5 - h) (by omega) (clr F t) (clr_lt hF ht5)
      have hb3 := (worth_N hw hh ht5).2.1
      rw [fb_2s]
      unfold m_X1_firstOfBest_2b m_X1_firstOfBest_53
      rw [if_neg (by rw [l5, nI_leI (by omega) (by omega)]; omega), at_N cA hh (by omega), ogb_some, hA h hh, fa_and, hb7 (show ch h &&& F < 64 by have := and_lt (B := F) (hL h hh); omega) (by omega), ogb_some, Nat.testBit_and]
      by_cases q : ((ch h).testBit t && F.testBit t) = true
      · rw [if_pos q, if_neg (by decide), gain_N hw hh hF ht5 (R (h + 1) (by omega) (by omega)), ogb_some, l32, pk_mul, nI_add, at_N b (show h * 32 + F < 224 by omega) (by omega), ogb_some, R h (by omega) (by omega) F hF]
        by_cases z : 1000 + wz w h t + Bst ch w (5 - h) (clr F t) = Bst ch w (6 - h) F
        · have fy : fq ch w (5 - h) F t = true := by
            unfold fq
            rw [e5, q, ← e6, decide_eq_true z]
            rfl
          have ef : fn ch w (5 - h) F = t := fst_eq _ (by omega) hn (fun _ => fy)
          rw [if_pos (by rw [z]), ef, if_neg (by omega)]
        · have fy : fq ch w (5 - h) F t = false := by
            unfold fq
            rw [e5, ← e6, decide_eq_false z, Bool.and_false]
          rw [if_neg (by rw [nI_eq (by omega) (by omega)]; exact z), ogl_def, nI_1]
          exact next fy
      · have fy : fq ch w (5 - h) F t = false := by
          unfold fq
          rw [e5, Bool.eq_false_iff.mpr q, Bool.false_and]
        rw [if_neg q, if_pos rfl, ogl_def, nI_1]
        exact next fy
  exact run 5 0 (by omega) (fun i hi => absurd hi (by omega)) 1000000 (by omega)
theorem fm_49s (cA w : Nat → Int32) (n : Nat) (x y : Int32) (b hO nO : Nat → Int32) : m_X1_findMost_49 cA w (n + 1) x y b hO nO = m_X1_findMost_49b (m_X1_findMost_49 cA w n) cA w x y b hO nO := rfl
theorem fm_49 {ch : Nat → Nat} {w b cA : Nat → Int32} (hw : rng 30 99 w) (hA : ∀ j, j < 6 → cA j = nI (ch j)) (hL : ∀ j, j < 6 → ch j < 32) (R : RWs ch w b 0) : ∀ (j : Nat), j ≤ 6 → ∀ F, F < 32 → ∀ f, j < f → ∀ v, v = nI (6 - j) → ∀ hO nO : Nat → Int32, (∀ i, i < 6 → 6 - j ≤ i → nO i = -6) →
    ∃ hO' nO', m_X1_findMost_49 cA w f (nI F) v b hO nO = some (b, hO', nO') ∧ ∀ i, i < 6 → (i < 6 - j → nO' i = nO i) ∧ (6 - j ≤ i → nO' i = gv (grd ch w j F) i) := by
  intro j
  induction j with
  | zero =>
    intro _ F hF f hf v hv hO nO h6
    obtain ⟨f, rfl⟩ : ∃ z, f = z + 1 := ⟨f - 1, by omega⟩
    refine ⟨hO, nO, ?_, fun i hi => ⟨fun _ => rfl, fun h => absurd h (by omega)⟩⟩
    rw [fm_49s]; unfold m_X1_findMost_49b
    rw [if_pos (by rw [hv]; decide)]
  | succ j ih =>
    intro hj F hF f hf v hv hO nO h6
    obtain ⟨f, rfl⟩ : ∃ z, f = z + 1 := ⟨f - 1, by omega⟩
    have hl := fn_le ch w j F
    have eh : 6 - (j + 1) = 5 - j := by omega
    have hh : 5 - j < 6 := by omega
    have ej : 5 - (5 - j) = j := by omega
    have e1 : 5 - j + 1 = 6 - j := by omega
    rw [eh] at hv h6 ⊢
    subst hv
    have et := dg_top (n := fn ch w j F) (s := grd ch w j (if fn ch w j F = 5 then F else clr F (fn ch w j F))) (j := j) (by omega) (by omega) (grd_lt ch w j _)
    have el : ∀ i, 6 - j ≤ i → i < 6 → dg (grd ch w (j + 1) F) i = dg (grd ch w j (if fn ch w j F = 5 then F else clr F (fn ch w j F))) i := fun i h1 h2 => by rw [grd_s]; exact dg_low (by omega) h2
    rw [← grd_s] at et
    have fb := fb_N hw hA hL hh hF R
    rw [ej] at fb
    rw [fm_49s]
    unfold m_X1_findMost_49b m_X1_findMost_86
    rw [if_neg (by rw [l6, nI_leI (by omega) (by omega)]; omega), fb, ogb_some]
    by_cases q : fn ch w j F = 5
    · rw [if_pos q, if_pos rfl, ogl_def, nI_1, e1]
      rw [if_pos q] at el
      obtain ⟨hO', nO', g1, g2⟩ := ih (by omega) F hF f (by omega) _ rfl hO nO (fun i hi h => h6 i hi (by omega))
      refine ⟨hO', nO', g1, fun i hi => ⟨fun h => (g2 i hi).1 (by omega), fun h => ?_⟩⟩
      by_cases z : i = 5 - j
      · subst z
        rw [(g2 _ hi).1 (by omega), h6 _ hi (by omega)]
        unfold gv
        rw [et, if_pos q]
      · rw [(g2 i hi).2 (by omega)]
        unfold gv
        rw [el i (by omega) hi]
    · have hn5 : fn ch w j F < 5 := by omega
      rw [if_neg q, if_neg (nI_n6 (by omega))]
      unfold m_X1_give
      rw [put_N _ _ hh (by omega), ogb_some, put_N _ _ hn5 (by omega), ogb_some, ogb_some, clr_N hF hn5, ogl_def, ogl_def, nI_1, e1]
      rw [if_neg q] at el
      obtain ⟨hO', nO', g1, g2⟩ := ih (by omega) _ (clr_lt hF hn5) f (by omega) _ rfl (upd hO (fn ch w j F) (nI (5 - j))) (upd nO (5 - j) (nI (fn ch w j F))) (fun i hi h => by rw [upd_n _ _ (by omega)]; exact h6 i hi (by omega))
      refine ⟨hO', nO', g1, fun i hi => ⟨fun h => by rw [(g2 i hi).1 (by omega), upd_n _ _ (by omega)], fun h => ?_⟩⟩
      by_cases z : i = 5 - j
      · subst z
        rw [(g2 _ hi).1 (by omega), upd_s]
        unfold gv
        rw [et, if_neg q]
      · rw [(g2 i hi).2 (by omega)]
        unfold gv
        rw [el i (by omega) hi]
