-- the check's ways
theorem codes_4s (mp : Nat → Int32) (c : Int32) (n : Nat) (a b : Int32) : m_X8_codes_4 mp c (n + 1) a b = m_X8_codes_4b (m_X8_codes_4 mp c n) mp c a b := rfl
theorem codes_run {sg mp : Nat → Int32} {c : Nat} (hc : c ≤ 48) (hS : eqN 48 sg mp) (hG : cnt sg 63 c ≤ 4) : ∀ (m k : Nat), k + m = cnt sg 63 c → ∀ f, m < f → m_X8_codes_4 mp (nI c) f (nI (6 ^ k)) (nI k) = some (nI (6 ^ cnt sg 63 c)) := by
  intro m
  induction m with
  | zero =>
    intro k hk f hf
    obtain ⟨f, rfl⟩ : ∃ z, f = z + 1 := ⟨f - 1, by omega⟩
    rw [codes_4s]
    unfold m_X8_codes_4b
    have e : k = cnt sg 63 c := by omega
    rw [opens_N hc hS, ogb_some, if_pos (by rw [nI_leI (by omega) (by omega)]; omega), e]
  | succ m ih =>
    intro k hk f hf
    obtain ⟨f, rfl⟩ : ∃ z, f = z + 1 := ⟨f - 1, by omega⟩
    rw [codes_4s]
    unfold m_X8_codes_4b
    rw [opens_N hc hS, ogb_some, if_neg (by rw [nI_leI (by omega) (by omega)]; omega), ogl_def, ogl_def, nI_1, l6, pk_mul, ← Nat.pow_succ]
    exact ih (k + 1) (by omega) f (by omega)
theorem codes_N {sg mp : Nat → Int32} {c : Nat} (hc : c ≤ 48) (hS : eqN 48 sg mp) (hG : cnt sg 63 c ≤ 4) : m_X8_codes mp (nI c) = some (nI (6 ^ cnt sg 63 c)) := by
  have h := codes_run hc hS hG (cnt sg 63 c) 0 (by omega) 1000000 (by omega)
  exact h
theorem in_G {G : Nat} (hG : G ≤ 4) (v : Int32) : m_X8_in v 0 (nI G - 1) = some (if v < 0 then 0 else if nI G ≤ v then 0 else 1) := by
  unfold m_X8_in
  by_cases h : v < 0
  · rw [if_pos h, if_pos h]
  · rw [if_neg h, if_neg h]
    obtain ⟨j, hj, rfl⟩ := nI_of h
    by_cases z : G = 0
    · subst z
      have e : nI 0 - 1 = -1 := by decide
      have n1 : (-1 : Int32) < nI j := by
        rw [fa_lt, nI_toInt hj]
        have : (-1 : Int32).toInt = -1 := by decide
        omega
      rw [e, if_pos n1, if_pos (by rw [nI_leI (by omega) hj]; omega)]
    · rw [l1, pk_sub (by omega)]
      by_cases q : G ≤ j
      · rw [if_pos (by rw [nI_ltI (by omega) hj]; omega), if_pos (by rw [nI_leI (by omega) hj]; omega)]
      · rw [if_neg (by rw [nI_ltI (by omega) hj]; omega), if_neg (by rw [nI_leI (by omega) hj]; omega)]
theorem fl_95s (mm mp : Nat → Int32) (c ak : Int32) (n : Nat) (v1 v4 v5 : Int32) (a b d e f g h : Nat → Int32) (x y : Int32) : m_X8_filled_95 mm mp c ak (n + 1) v1 v4 v5 a b d e f g h x y = m_X8_filled_95b (m_X8_filled_95 mm mp c ak n) mm mp c ak v1 v4 v5 a b d e f g h x y := rfl
theorem fl_95 (mm mp : Nat → Int32) (c ak : Int32) {G F j : Nat} (hG : G ≤ 4) (hF : F < 1296) (a b d e f g h : Nat → Int32) (x y : Int32) : ∀ (m k : Nat), j + m = k → k < G → ∀ fu, m < fu → m_X8_filled_95 mm mp c ak fu (nI j) (nI (F / 6 ^ (G - 1 - k))) (nI k) a b d e f g h x y = some (nI (dgt G F j), a, b, d, e, f, g, h, x, y) := by
  intro m
  induction m with
  | zero =>
    intro k hk hkG fu hfu
    obtain ⟨fu, rfl⟩ : ∃ z, fu = z + 1 := ⟨fu - 1, by omega⟩
    have : k = j := by omega
    subst this
    have dl : F / 6 ^ (G - 1 - k) < 2 ^ 31 := Nat.lt_of_le_of_lt (Nat.div_le_self _ _) (by omega)
    rw [fl_95s]
    unfold m_X8_filled_95b
    rw [if_pos (by rw [nI_leI (by omega) (by omega)]; omega), l6, pk_rem dl (by omega) (by omega)]
    rfl
  | succ m ih =>
    intro k hk hkG fu hfu
    obtain ⟨fu, rfl⟩ : ∃ z, fu = z + 1 := ⟨fu - 1, by omega⟩
    have dl : F / 6 ^ (G - 1 - k) < 2 ^ 31 := Nat.lt_of_le_of_lt (Nat.div_le_self _ _) (by omega)
    obtain ⟨k, rfl⟩ : ∃ z, k = z + 1 := ⟨k - 1, by omega⟩
    have ed : F / 6 ^ (G - 1 - (k + 1)) / 6 = F / 6 ^ (G - 1 - k) := by
      rw [Nat.div_div_eq_div_mul, ← Nat.pow_succ]
      congr 2
      omega
    rw [fl_95s]
    unfold m_X8_filled_95b
    rw [if_neg (by rw [nI_leI (by omega) (by omega)]; omega), ogl_def, ogl_def, l6, pk_div dl (by omega) (by omega), pk_m1, ed]
    exact ih k (by omega) (by omega) fu (by omega)
def fAns (G : Nat) (rr : Nat → Int32) (v : Int32) : Int32 := if v = -1 then nI (fa_cnt (okw rr) (6 ^ G)) else if fa_first (okw rr) (6 ^ G) < 6 ^ G then (if v < 0 then -6 else if nI G ≤ v then -6 else nI (dgt G (fa_first (okw rr) (6 ^ G)) v.toNatClampNeg)) else -6
def fI (rr : Nat → Int32) (C : Nat) : Int32 := if fa_first (okw rr) C < C then nI (fa_first (okw rr) C) else -6
theorem fl_18s (mm mp : Nat → Int32) (c ak : Int32) (n : Nat) (v1 v2 v3 v4 : Int32) (a b d e f g h : Nat → Int32) (x y : Int32) : m_X8_filled_18 mm mp c ak (n + 1) v1 v2 v3 v4 a b d e f g h x y = m_X8_filled_18b (m_X8_filled_18 mm mp c ak n) mm mp c ak v1 v2 v3 v4 a b d e f g h x y := rfl
theorem fl_run {K : Prop} {nm c G : Nat} {ak : Int32} {sg mp mm ds hs ks ns may : Nat → Int32} {aN aD pp : Int32} {rr ss : Nat → Int32} (W : WAYS K nm c G ak mp mm ds hs ks ns may aN aD pp rr ss) (hG : G ≤ 4) (hGe : cnt sg 63 c = G) (hc : c ≤ 48) (hS : eqN 48 sg mp) (v : Int32) :
    ∀ (m C f : Nat), C + m = 6 ^ G → m < f → ∀ (be bo du go su ti wb : Nat → Int32) (md rs : Int32), ∃ s, m_X8_filled_18 mm mp (nI c) ak f v (nI (fa_cnt (okw rr) C)) (fI rr C) (nI C) be bo du go su ti wb md rs = some (fAns G rr v, s) := by
  have hN := pw6 hG
  have hcd : m_X8_codes mp (nI c) = some (nI (6 ^ G)) := by rw [← hGe]; exact codes_N hc hS (by omega)
  have hop : m_X8_opens mp (nI c) = some (nI G) := by rw [← hGe]; exact opens_N hc hS
  intro m
  induction m with
  | zero =>
    intro C f h1 hf be bo du go su ti wb md rs
    obtain ⟨f, rfl⟩ : ∃ z, f = z + 1 := ⟨f - 1, by omega⟩
    have eC : C = 6 ^ G := by omega
    rw [fl_18s]
    unfold m_X8_filled_18b fAns
    rw [hcd, ogb_some, if_pos (by rw [nI_leI (by omega) (by omega)]; omega), ← eC]
    by_cases c1 : v = -1
    · rw [if_pos c1, if_pos c1]; exact ⟨_, rfl⟩
    · rw [if_neg c1, if_neg c1]
      unfold fI
      by_cases c2 : fa_first (okw rr) C < C
      · rw [if_pos c2, if_pos c2, if_neg (nI_pos (by omega)), hop, ogb_some, in_G hG, ogb_some]
        by_cases c3 : v < 0
        · rw [if_pos c3, if_pos c3, if_pos rfl]; exact ⟨_, rfl⟩
        · rw [if_neg c3, if_neg c3]
          by_cases c4 : nI G ≤ v
          · rw [if_pos c4, if_pos c4, if_pos rfl]; exact ⟨_, rfl⟩
          · rw [if_neg c4, if_neg c4, if_neg (by decide), ogb_some, ogl_def]
            obtain ⟨j, hj, rfl⟩ := rng_of (by omega) c3 c4
            rw [l1, pk_sub (by omega), cl_N (by omega)]
            have h := fl_95 mm mp (nI c) ak (F := fa_first (okw rr) C) (j := j) hG (by omega) be bo du go su ti wb md rs (G - 1 - j) (G - 1) (by omega) (by omega) 1000000 (by omega)
            rw [Nat.sub_self, Nat.pow_zero, Nat.div_one] at h
            exact ⟨_, h⟩
      · rw [if_neg c2, if_neg c2, if_pos (by decide)]; exact ⟨_, rfl⟩
  | succ m ih =>
    intro C f h1 hf be bo du go su ti wb md rs
    obtain ⟨f, rfl⟩ : ∃ z, f = z + 1 := ⟨f - 1, by omega⟩
    have hC : C < 6 ^ G := by omega
    obtain ⟨hr, -, gl, -⟩ := W C hC
    obtain ⟨x1, x2, x3, x4, x5, x6, x7, x8, x9, e1, -⟩ := gl be bo du go su ti wb md rs
    rw [fl_18s]
    unfold m_X8_filled_18b m_X8_filled_46 m_X8_filled_50
    rw [hcd, ogb_some, if_neg (by rw [nI_leI (by omega) (by omega)]; omega), e1, ogb_some]
    by_cases ok : rr C = -6
    · have hp : okw rr C = true := by unfold okw; exact decide_eq_true ok
      have n6 : ¬ (0 : Int32) ≤ rr C := by rw [ok]; decide
      have ec : nI (fa_cnt (okw rr) C) + 1 = nI (fa_cnt (okw rr) (C + 1)) := by rw [nI_1, fa_cnt_yes hp]
      rw [if_neg n6]
      by_cases c2 : fa_first (okw rr) C < C
      · have ef : fI rr (C + 1) = fI rr C := by
          unfold fI
          rw [ff_s, if_pos c2, if_pos c2, if_pos (by omega)]
        have ge : (0 : Int32) ≤ fI rr C := by unfold fI; rw [if_pos c2]; exact nI_pos' (by omega)
        rw [if_pos ge, ogl_def, ogl_def, nI_1 C, ec, ← ef]
        exact ih (C + 1) f (by omega) (by omega) x1 x2 x3 x4 x5 x6 x7 x8 x9
      · have ef : fI rr (C + 1) = nI C := by
          unfold fI
          rw [ff_s, if_neg c2, if_pos hp, if_pos (by omega)]
        have ge : ¬ (0 : Int32) ≤ fI rr C := by unfold fI; rw [if_neg c2]; decide
        rw [if_neg ge, ogl_def, ogl_def, nI_1 C, ec, ← ef]
        exact ih (C + 1) f (by omega) (by omega) x1 x2 x3 x4 x5 x6 x7 x8 x9
    · have hp : okw rr C = false := by unfold okw; exact decide_eq_false ok
      have hp2 : ¬ okw rr C = true := by rw [hp]; decide
      obtain ⟨q, hq, eq⟩ : ∃ q, q < 1000 ∧ rr C = nI q := by
        rcases hr with e | e
        · exact absurd e ok
        · exact e
      have n6 : (0 : Int32) ≤ rr C := by rw [eq]; exact nI_pos' (by omega)
      have ef : fI rr (C + 1) = fI rr C := by
        unfold fI
        rw [ff_s]
        by_cases c2 : fa_first (okw rr) C < C
        · rw [if_pos c2, if_pos c2, if_pos (by omega)]
        · rw [if_neg c2, if_neg c2, if_neg hp2, if_neg (by omega)]
      rw [if_pos n6, ogl_def, nI_1, ← ef, ← fa_cnt_no hp]
      exact ih (C + 1) f (by omega) (by omega) x1 x2 x3 x4 x5 x6 x7 x8 x9
theorem co_46s (mm mp : Nat → Int32) (c : Int32) (n : Nat) (v1 v2 v3 v4 : Int32) (a b d e f g h : Nat → Int32) (x y z : Int32) : m_X8_could_46 mm mp c (n + 1) v1 v2 v3 v4 a b d e f g h x y z = m_X8_could_46b (m_X8_could_46 mm mp c n) mm mp c v1 v2 v3 v4 a b d e f g h x y z := rfl
def cAns (G : Nat) (rr ss : Nat → Int32) : Int32 := if fa_cnt (okw rr) (6 ^ G) = 0 then -3 else orb rr ss (6 ^ G)
def flg (rr : Nat → Int32) (C : Nat) : Int32 := if fa_cnt (okw rr) C = 0 then 0 else 1
theorem co_run {K : Prop} (kk : K) {nm c G : Nat} {ak : Int32} {sg mp mm ds hs ks ns may : Nat → Int32} {aN aD pp : Int32} {rr ss : Nat → Int32} (W : WAYS K nm c G ak mp mm ds hs ks ns may aN aD pp rr ss) (hnm : nm < 5) (hG : G ≤ 4) (hGe : cnt sg 63 c = G) (hc : c ≤ 48) (hS : eqN 48 sg mp) :
    ∀ (m C f : Nat), C + m = 6 ^ G → m < f → ∀ (be bo du go su ti wb : Nat → Int32) (md rs : Int32), ∃ s, m_X8_could_46 mm mp (nI c) f (nI nm) (orb rr ss C) (flg rr C) (nI C) be bo du go su ti wb ak md rs = some (cAns G rr ss, s) := by
  have hN := pw6 hG
  have hcd : m_X8_codes mp (nI c) = some (nI (6 ^ G)) := by rw [← hGe]; exact codes_N hc hS (by omega)
  intro m
  induction m with
  | zero =>
    intro C f h1 hf be bo du go su ti wb md rs
    obtain ⟨f, rfl⟩ : ∃ z, f = z + 1 := ⟨f - 1, by omega⟩
    have eC : C = 6 ^ G := by omega
    rw [co_46s]
    unfold m_X8_could_46b cAns flg
    rw [hcd, ogb_some, if_pos (by rw [nI_leI (by omega) (by omega)]; omega), ← eC]
    by_cases c1 : fa_cnt (okw rr) C = 0
    · rw [if_pos c1, if_pos c1, if_pos rfl]; exact ⟨_, rfl⟩
    · rw [if_neg c1, if_neg c1, if_neg (by decide)]; exact ⟨_, rfl⟩
  | succ m ih =>
    intro C f h1 hf be bo du go su ti wb md rs
    obtain ⟨f, rfl⟩ : ∃ z, f = z + 1 := ⟨f - 1, by omega⟩
    have hC : C < 6 ^ G := by omega
    obtain ⟨hr, hrg, gl, -⟩ := W C hC
    obtain ⟨x1, x2, x3, x4, x5, x6, x7, x8, x9, e1, e2⟩ := gl be bo du go su ti wb md rs
    rw [co_46s]
    unfold m_X8_could_46b m_X8_could_89 m_X8_could_91
    rw [hcd, ogb_some, if_neg (by rw [nI_leI (by omega) (by omega)]; omega), e1, ogb_some]
    by_cases ok : rr C = -6
    · have hp : okw rr C = true := by unfold okw; exact decide_eq_true ok
      have n6 : ¬ (0 : Int32) ≤ rr C := by rw [ok]; decide
      have ef : flg rr (C + 1) = 1 := by unfold flg; rw [fa_cnt_yes hp, if_neg (by omega)]
      have eo : orb rr ss (C + 1) = orb rr ss C ||| bitw (ss C) := by
        show (if okw rr C then orb rr ss C ||| bitw (ss C) else orb rr ss C) = _
        rw [if_pos hp]
      rw [if_neg n6, ogi_N hnm (by omega), ogi_N hnm (by omega), cl_N (by omega)]
      have h := ih (C + 1) f (by omega) (by omega) x1 x2 x3 x4 x5 x6 x7 x8 x9
      rw [ef, eo] at h
      unfold bitw at h
      rw [← e2 kk ok] at h
      by_cases q : x7 nm < 0
      · rw [if_pos q] at h ⊢
        rw [ogl_def, ogl_def, nI_1]
        exact h
      · rw [if_neg q] at h ⊢
        rw [ogl_def, ogl_def, nI_1]
        exact h
    · have hp : okw rr C = false := by unfold okw; exact decide_eq_false ok
      have hp2 : ¬ okw rr C = true := by rw [hp]; decide
      obtain ⟨q, hq, eq⟩ : ∃ q, q < 1000 ∧ rr C = nI q := by
        rcases hr with e | e
        · exact absurd e ok
        · exact e
      have n6 : (0 : Int32) ≤ rr C := by rw [eq]; exact nI_pos' (by omega)
      have ef : flg rr (C + 1) = flg rr C := by unfold flg; rw [fa_cnt_no hp]
      have eo : orb rr ss (C + 1) = orb rr ss C := by
        show (if okw rr C then orb rr ss C ||| bitw (ss C) else orb rr ss C) = _
        rw [if_neg hp2]
      have h := ih (C + 1) f (by omega) (by omega) x1 x2 x3 x4 x5 x6 x7 x8 x9
      rw [ef, eo] at h
      rw [if_pos n6, ogl_def, nI_1]
      exact h
