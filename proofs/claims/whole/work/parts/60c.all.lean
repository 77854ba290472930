-- all ways gone through
def okw (rr : Nat → Int32) : Nat → Bool := fun C => decide (rr C = -6)
def bitw (x : Int32) : Int32 := if x < 0 then 0 else (1 : Int32) <<< (x &&& 31)
def orb (rr ss : Nat → Int32) : Nat → Int32
  | 0 => 0
  | n + 1 => if okw rr n then orb rr ss n ||| bitw (ss n) else orb rr ss n
theorem ff_s (p : Nat → Bool) (n : Nat) : fa_first p (n + 1) = if fa_first p n < n then fa_first p n else if p n then n else n + 1 := rfl
theorem cnt_ff (p : Nat → Bool) : ∀ n, fa_cnt p n = 0 ↔ ¬ fa_first p n < n
  | 0 => ⟨fun _ => Nat.lt_irrefl 0, fun _ => rfl⟩
  | n + 1 => by
    have ih := cnt_ff p n
    have hl := fa_first_le p n
    rw [ff_s, fa_cnt]
    by_cases h : fa_first p n < n
    · rw [if_pos h]
      constructor
      · intro h2; exact absurd h (ih.mp (by omega))
      · intro h2; omega
    · rw [if_neg h]
      by_cases q : p n = true
      · rw [if_pos q, if_pos q]
        constructor
        · intro h2; omega
        · intro h2; omega
      · rw [if_neg q, if_neg q]
        have := ih.mpr h
        constructor
        · intro _; omega
        · intro _; omega
def JC (K : Prop) (G : Nat) (rr ss : Nat → Int32) (C : Nat) (fi : Nat → Int32) (be wa : Int32) : Prop :=
  wa = nI (fa_cnt (okw rr) C) ∧ (fa_first (okw rr) C < C → ∀ g, g < G → fi g = nI (dgt G (fa_first (okw rr) C) g)) ∧ (¬ fa_first (okw rr) C < C → ∀ g, g < 4 → fi g = -6) ∧ (K → be = orb rr ss C)
theorem JC_ok {K : Prop} {G C : Nat} {rr ss fi wr : Nat → Int32} {be be' wa : Int32} (J : JC K G rr ss C fi be wa) (hG : G ≤ 4) (hC : C < 1296) (ok : rr C = -6) (hb : K → be' = be ||| bitw (ss C)) (hw : ∀ g, g < G → wr g = nI (dgt G C g)) :
    JC K G rr ss (C + 1) (if wa = 0 then (fun j => if j < 4 then wr j else fi j) else fi) be' (wa + 1) := by
  obtain ⟨j1, j2, j3, j4⟩ := J
  have hp : okw rr C = true := by unfold okw; exact decide_eq_true ok
  have hl := fa_cnt_le (okw rr) C
  have hcf := cnt_ff (okw rr) C
  refine ⟨?_, ?_, ?_, ?_⟩
  · rw [fa_cnt_yes hp, j1, nI_1]
  · intro h g hg
    rw [ff_s] at h ⊢
    by_cases q : fa_first (okw rr) C < C
    · have : ¬ wa = 0 := by
        rw [j1]
        exact nI_ne0 (Nat.pos_of_ne_zero (fun e => hcf.mp e q)) (by omega)
      rw [if_neg this, if_pos q]
      exact j2 q g hg
    · have : wa = 0 := by rw [j1, hcf.mpr q]; rfl
      rw [if_pos this, if_neg q, if_pos hp]
      show (if g < 4 then wr g else fi g) = _
      rw [if_pos (by omega)]
      exact hw g hg
  · intro h
    rw [ff_s] at h
    by_cases q : fa_first (okw rr) C < C
    · rw [if_pos q] at h; exact absurd (by omega) h
    · rw [if_neg q, if_pos hp] at h; exact absurd (by omega) h
  · intro k
    show be' = if okw rr C then orb rr ss C ||| bitw (ss C) else orb rr ss C
    rw [if_pos hp, hb k, j4 k]
theorem JC_no {K : Prop} {G C : Nat} {rr ss fi : Nat → Int32} {be wa : Int32} (J : JC K G rr ss C fi be wa) (no : rr C ≠ -6) : JC K G rr ss (C + 1) fi be wa := by
  obtain ⟨j1, j2, j3, j4⟩ := J
  have hp : okw rr C = false := by unfold okw; exact decide_eq_false no
  have hp2 : ¬ okw rr C = true := by rw [hp]; decide
  refine ⟨?_, ?_, ?_, ?_⟩
  · rw [fa_cnt_no hp]; exact j1
  · intro h g hg
    rw [ff_s] at h ⊢
    by_cases q : fa_first (okw rr) C < C
    · rw [if_pos q]; exact j2 q g hg
    · rw [if_neg q, if_neg hp2] at h; exact absurd h (by omega)
  · intro h
    rw [ff_s] at h
    by_cases q : fa_first (okw rr) C < C
    · rw [if_pos q] at h; exact absurd (by omega) h
    · exact j3 q
  · intro k
    show be = if okw rr C then orb rr ss C ||| bitw (ss C) else orb rr ss C
    rw [if_neg hp2]; exact j4 k
theorem JC_skip {K : Prop} {G : Nat} {rr ss fi : Nat → Int32} {be wa : Int32} : ∀ (d C : Nat), JC K G rr ss C fi be wa → (∀ X, C ≤ X → X < C + d → rr X ≠ -6) → JC K G rr ss (C + d) fi be wa := by
  intro d
  induction d with
  | zero => intro C J _; exact J
  | succ d ih =>
    intro C J h
    have := ih (C + 1) (JC_no J (h C (Nat.le_refl C) (by omega))) (fun X h1 h2 => h X (by omega) (by omega))
    rw [show C + 1 + d = C + (d + 1) by omega] at this
    exact this
theorem keep_N (wr fi : Nat → Int32) (se be wa : Int32) : ∃ be', m_X6_keepWay wr se fi be wa = some (if wa = 0 then (fun j => if j < 4 then wr j else fi j) else fi, be', wa + 1) ∧ (RG se → be' = be ||| bitw se) := by
  have key : ∀ fi2 : Nat → Int32, ∃ be', m_X6_keepWay_18 wr se fi2 be wa = some (fi2, be', wa + 1) ∧ (RG se → be' = be ||| bitw se) := by
    intro fi2
    unfold m_X6_keepWay_18
    rw [ogl_def]
    rcases isHull_cases se with ⟨j, hj, rfl, h7, -⟩ | ⟨h7, -, hr⟩
    · rw [h7, ogb_some, if_neg (by decide), ogl_def]
      refine ⟨_, rfl, fun _ => ?_⟩
      unfold bitw
      rw [if_neg (nI_pos (by omega))]
    · rw [h7, ogb_some, if_pos rfl]
      refine ⟨_, rfl, fun rg => ?_⟩
      have e : se = -6 := by
        rcases rg with e | ⟨h, hh, rfl⟩
        · exact e
        · rcases hr with hr | hr
          · exact absurd hr (nI_pos (by omega))
          · rw [nI_leI (by omega) (by omega)] at hr; omega
      subst e
      unfold bitw
      rw [if_pos (by decide)]
      first | exact Int32.or_zero.symm | simp
  unfold m_X6_keepWay
  by_cases c : wa = 0
  · obtain ⟨be', h1, h2⟩ := key (fun j => if j < 4 then wr j else fi j)
    refine ⟨be', ?_, h2⟩
    rw [if_pos c, if_pos c, copyRow_N (by omega), ogb_some]
    exact h1
  · obtain ⟨be', h1, h2⟩ := key fi
    exact ⟨be', by rw [if_neg c, if_neg c]; exact h1, h2⟩
theorem try_31s (ds hs ks ns may : Nat → Int32) (aN aD pp : Int32) (n : Nat) (v1 v2 : Int32) (fi wr ho hO nO ta tu : Nat → Int32) (be gm se wa wy dy : Int32) : m_X6_tryAll_31 ds hs ks ns may aN aD pp (n + 1) v1 v2 fi wr ho hO nO ta tu be gm se wa wy dy = m_X6_tryAll_31b (m_X6_tryAll_31 ds hs ks ns may aN aD pp n) ds hs ks ns may aN aD pp v1 v2 fi wr ho hO nO ta tu be gm se wa wy dy := rfl
theorem try_run {K : Prop} {nm c G : Nat} {ak : Int32} {mp mm ds hs ks ns may : Nat → Int32} {aN aD pp : Int32} {rr ss : Nat → Int32} (W : WAYS K nm c G ak mp mm ds hs ks ns may aN aD pp rr ss) (hG : G ≤ 4) :
    ∀ (m C t f : Nat), 6 ^ G ≤ C + m → C < 6 ^ G → t ≤ C → m < f → ∀ (fi wr ho hO nO ta tu : Nat → Int32) (be gm se wa wy dy : Int32), (∀ g, g < G → wr g = nI (dgt G C g)) → JC K G rr ss C fi be wa →
      ∃ (fi' wr' ho' hO' nO' ta' tu' : Nat → Int32) (be' gm' se' wa' wy' dy' : Int32), m_X6_tryAll_31 ds hs ks ns may aN aD pp f 1 (nI t) fi wr ho hO nO ta tu be gm se wa wy dy = some (fi', wr', ho', hO', nO', ta', tu', be', gm', se', wa', wy', dy') ∧ JC K G rr ss (6 ^ G) fi' be' wa' := by
  have hN := (pw6 hG).1
  intro m
  induction m with
  | zero => intro C t f h1 h2; exact absurd h2 (by omega)
  | succ m ih =>
    intro C t f h1 h2 ht hf fi wr ho hO nO ta tu be gm se wa wy dy hw J
    obtain ⟨f, rfl⟩ : ∃ z, f = z + 1 := ⟨f - 1, by omega⟩
    obtain ⟨f0, ef0⟩ : ∃ z, f = z + 1 := ⟨f - 1, by omega⟩
    obtain ⟨-, hrg, -, tl⟩ := W C h2
    obtain ⟨ho', hO', nO', ta', tu', g2, se', wy', dy', e1, hg2, s1, s2⟩ := tl wr hw nO hO ho tu ta gm se wy dy
    have out : ∀ (v2 : Int32) (fi wr ho hO nO ta tu : Nat → Int32) (be gm se wa wy dy : Int32), m_X6_tryAll_31 ds hs ks ns may aN aD pp f 0 v2 fi wr ho hO nO ta tu be gm se wa wy dy = some (fi, wr, ho, hO, nO, ta, tu, be, gm, se, wa, wy, dy) := by
      intro v2 fi wr ho hO nO ta tu be gm se wa wy dy
      rw [ef0, try_31s]
      unfold m_X6_tryAll_31b
      rw [if_pos rfl]
    -- behind the judging of one way
    have behind : ∀ (fi2 : Nat → Int32) (be2 wa2 : Int32), JC K G rr ss (min (nxt G g2 C) (6 ^ G)) fi2 be2 wa2 → ∃ (fi' wr' ho'' hO'' nO'' ta'' tu'' : Nat → Int32) (be' gm' se'' wa' wy'' dy'' : Int32), m_X6_tryAll_55 (m_X6_tryAll_31 ds hs ks ns may aN aD pp f) ds hs ks ns may aN aD pp (nI t) fi2 wr ho' hO' nO' ta' tu' be2 (nI g2) se' wa2 wy' dy' = some (fi', wr', ho'', hO'', nO'', ta'', tu'', be', gm', se'', wa', wy'', dy'') ∧ JC K G rr ss (6 ^ G) fi' be' wa' := by
      intro fi2 be2 wa2 J2
      unfold m_X6_tryAll_55
      obtain ⟨w', tw⟩ := turn_N hG hg2 h2 hw
      have hgt := nxt_gt G g2 C
      rcases tw with ⟨hN2, q1, q2⟩ | ⟨hN2, q1⟩
      · rw [q1, ogb_some, ogl_def, nI_1]
        rw [Nat.min_eq_left (by omega)] at J2
        exact ih (nxt G g2 C) (t + 1) f (by omega) hN2 (by omega) (by omega) fi2 w' ho' hO' nO' ta' tu' be2 (nI g2) se' wa2 wy' dy' q2 J2
      · rw [q1, ogb_some, ogl_def, nI_1]
        rw [Nat.min_eq_right hN2] at J2
        exact ⟨_, _, _, _, _, _, _, _, _, _, _, _, _, out _ _ _ _ _ _ _ _ _ _ _ _ _ _, J2⟩
    rw [try_31s]
    unfold m_X6_tryAll_31b
    have hle : ¬ (1296 : Int32) ≤ nI t := by
      have : (1296 : Int32) = nI 1296 := rfl
      rw [this, nI_leI (by omega) (by omega)]; omega
    rw [if_neg (by decide), if_neg hle, e1, ogb_some]
    by_cases ok : rr C = -6
    · obtain ⟨s3, s4⟩ := s1 ok
      obtain ⟨be', k1, k2⟩ := keep_N wr fi se' be wa
      rw [if_pos ok, k1, ogb_some]
      refine behind _ _ _ ?_
      rw [s3, nxt_full, Nat.min_eq_left (by omega)]
      exact JC_ok J hG (by omega) ok (fun k => by rw [k2 (by rw [s4 k]; exact hrg k ok), s4 k]) hw
    · rw [if_neg ok]
      refine behind _ _ _ ?_
      have hgt := nxt_gt G g2 C
      have e : min (nxt G g2 C) (6 ^ G) = C + (min (nxt G g2 C) (6 ^ G) - C) := by omega
      rw [e]
      refine JC_skip _ C J (fun X hX1 hX2 => ?_)
      exact s2 ok X (by omega) (fun g hg => nxt_same hg2 hX1 (by omega) hg)
theorem dgt_0 (G g : Nat) : dgt G 0 g = 0 := by unfold dgt; rw [Nat.zero_div]
theorem try_N {K : Prop} {nm c G : Nat} {ak : Int32} {mp mm ds hs ks ns may : Nat → Int32} {aN aD pp : Int32} {rr ss : Nat → Int32} (W : WAYS K nm c G ak mp mm ds hs ks ns may aN aD pp rr ss) (hG : G ≤ 4) (fi wr ho hO nO ta tu : Nat → Int32) (be gm se wa wy dy : Int32) :
      ∃ (fi' wr' ho' hO' nO' ta' tu' : Nat → Int32) (be' gm' se' wa' wy' dy' : Int32), m_X6_tryAll ds hs ks ns may aN aD pp fi wr ho hO nO ta tu be gm se wa wy dy = some (fi', wr', ho', hO', nO', ta', tu', be', gm', se', wa', wy', dy') ∧ JC K G rr ss (6 ^ G) fi' be' wa' := by
  have hN := pw6 hG
  unfold m_X6_tryAll
  rw [fill_N (by omega), ogb_some, fill_N (by omega), ogb_some]
  refine try_run W hG (6 ^ G) 0 0 1000000 (by omega) (by omega) (by omega) (by omega) _ _ ho hO nO ta tu 0 gm se 0 wy dy (fun g hg => ?_) ⟨rfl, fun h => absurd h (by unfold fa_first; omega), fun _ g hg => if_pos hg, fun _ => rfl⟩
  rw [dgt_0]
  exact if_pos (by omega)
