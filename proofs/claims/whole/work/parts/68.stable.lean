-- stable givings: what any order of asking comes to
def JS (ch : Nat → Nat) (w rk : Nat → Int32) (A : Nat → Nat → Bool) (hO nO : Nat → Int32) : Prop :=
  (∀ h n, h < 6 → n < 5 → A h n = true → (ch h).testBit n = true) ∧
  (∀ h n m, h < 6 → n < 5 → m < 5 → A h n = true → (ch h).testBit m = true → lkz w h m n = true → A h m = true) ∧
  (∀ n, n < 5 → (hO n = -6 ∧ ∀ h, h < 6 → A h n = false) ∨ ∃ o, o < 6 ∧ hO n = nI o ∧ A o n = true ∧ ∀ h, h < 6 → A h n = true → h ≠ o → plz rk n o < plz rk n h) ∧
  (∀ h, h < 6 → (nO h = -6 ∧ ∀ n, n < 5 → hO n ≠ nI h) ∨ ∃ n, n < 5 ∧ nO h = nI n ∧ hO n = nI h ∧ ∀ m, m < 5 → hO m = nI h → m = n)
def FINz (ch : Nat → Nat) (A : Nat → Nat → Bool) (nO : Nat → Int32) : Prop := ∀ h, h < 6 → nO h = -6 → ∀ n, n < 5 → (ch h).testBit n = true → A h n = true
def asz (A : Nat → Nat → Bool) (h n : Nat) : Nat → Nat → Bool := fun a b => A a b || (decide (a = h) && decide (b = n))
theorem asz_yes (A : Nat → Nat → Bool) (h n : Nat) : asz A h n h n = true := by unfold asz; rw [decide_eq_true rfl, decide_eq_true rfl]; simp
theorem asz_old {A : Nat → Nat → Bool} {h n a b : Nat} (e : A a b = true) : asz A h n a b = true := by unfold asz; rw [e]; rfl
theorem asz_inv {A : Nat → Nat → Bool} {h n a b : Nat} (e : asz A h n a b = true) : A a b = true ∨ (a = h ∧ b = n) := by
  unfold asz at e
  rw [Bool.or_eq_true, Bool.and_eq_true, decide_eq_true_eq, decide_eq_true_eq] at e
  exact e
theorem asz_name {A : Nat → Nat → Bool} {h n a b : Nat} (hb : b ≠ n) : asz A h n a b = A a b := by
  unfold asz
  rw [decide_eq_false hb, Bool.and_false, Bool.or_false]
theorem lk_asym {w : Nat → Int32} {h m n : Nat} (a : lkz w h m n = true) (b : lkz w h n m = true) : False := by
  unfold lkz at a b
  rw [decide_eq_true_eq] at a b
  omega
theorem lk_trans {w : Nat → Int32} {h m n o : Nat} (a : lkz w h m n = true) (b : lkz w h n o = true) : lkz w h m o = true := by
  unfold lkz at a b ⊢
  rw [decide_eq_true_eq] at a b ⊢
  omega
theorem lk_tot {w : Nat → Int32} {h m n : Nat} (ne : m ≠ n) (a : ¬ lkz w h m n = true) : lkz w h n m = true := by
  unfold lkz at a ⊢
  rw [decide_eq_true_eq] at a ⊢
  omega
/-- hull h may ask name n next -/
def NXT (ch : Nat → Nat) (w : Nat → Int32) (A : Nat → Nat → Bool) (nO : Nat → Int32) (h n : Nat) : Prop :=
  h < 6 ∧ n < 5 ∧ nO h = -6 ∧ (ch h).testBit n = true ∧ A h n = false ∧ ∀ m, m < 5 → (ch h).testBit m = true → A h m = false → m ≠ n → lkz w h n m = true
theorem JS_12 {ch : Nat → Nat} {w rk : Nat → Int32} {A : Nat → Nat → Bool} {hO nO : Nat → Int32} {h n : Nat} (J : JS ch w rk A hO nO) (X : NXT ch w A nO h n) :
    (∀ a b, a < 6 → b < 5 → asz A h n a b = true → (ch a).testBit b = true) ∧ (∀ a b m, a < 6 → b < 5 → m < 5 → asz A h n a b = true → (ch a).testBit m = true → lkz w a m b = true → asz A h n a m = true) := by
  obtain ⟨j1, j2, j3, j4⟩ := J
  obtain ⟨hh, hn, x1, x2, x3, x4⟩ := X
  refine ⟨fun a b ha hb e => ?_, fun a b m ha hb hm e hc hl => ?_⟩
  · rcases asz_inv e with e | ⟨rfl, rfl⟩
    · exact j1 a b ha hb e
    · exact x2
  · rcases asz_inv e with e | ⟨rfl, rfl⟩
    · exact asz_old (j2 a b m ha hb hm e hc hl)
    · by_cases q : A a m = true
      · exact asz_old q
      · by_cases z : m = b
        · subst z
          exact (lk_asym hl hl).elim
        · exact (lk_asym hl (x4 m hm hc (Bool.eq_false_iff.mpr q) z)).elim
theorem JS_new {ch : Nat → Nat} {w rk : Nat → Int32} {A : Nat → Nat → Bool} {hO nO : Nat → Int32} {h n : Nat} (J : JS ch w rk A hO nO) (X : NXT ch w A nO h n) (e6 : hO n = -6) : JS ch w rk (asz A h n) (upd hO n (nI h)) (upd nO h (nI n)) := by
  obtain ⟨k1, k2⟩ := JS_12 J X
  obtain ⟨j1, j2, j3, j4⟩ := J
  obtain ⟨hh, hn, x1, x2, x3, x4⟩ := X
  have free : ∀ m, m < 5 → hO m ≠ nI h := by
    rcases j4 h hh with ⟨-, f⟩ | ⟨m, hm, e, -⟩
    · exact f
    · exact absurd (e.symm.trans x1) (nI_n6 (by omega))
  refine ⟨k1, k2, fun b hb => ?_, fun a ha => ?_⟩
  · by_cases q : b = n
    · subst q
      rw [upd_s]
      refine Or.inr ⟨h, hh, rfl, asz_yes A h b, fun y hy ey ny => ?_⟩
      rcases j3 b hb with ⟨-, no⟩ | ⟨o, ho, eo, -⟩
      · rcases asz_inv ey with ey | ⟨e1, -⟩
        · rw [no y hy] at ey; exact absurd ey (by decide)
        · exact absurd e1 ny
      · exact absurd (eo.symm.trans e6) (nI_n6 (by omega))
    · rw [upd_n _ _ q]
      rcases j3 b hb with ⟨e, no⟩ | ⟨o, ho, eo, ea, f⟩
      · exact Or.inl ⟨e, fun y hy => by rw [asz_name q]; exact no y hy⟩
      · exact Or.inr ⟨o, ho, eo, by rw [asz_name q]; exact ea, fun y hy ey ny => f y hy (by rw [asz_name q] at ey; exact ey) ny⟩
  · by_cases q : a = h
    · subst q
      rw [upd_s]
      refine Or.inr ⟨n, hn, rfl, upd_s _ _ _, fun m hm e => ?_⟩
      by_cases z : m = n
      · exact z
      · rw [upd_n _ _ z] at e; exact absurd e (free m hm)
    · rw [upd_n _ _ q]
      rcases j4 a ha with ⟨e, f⟩ | ⟨m, hm, e1, e2, e3⟩
      · refine Or.inl ⟨e, fun m hm => ?_⟩
        by_cases z : m = n
        · subst z; rw [upd_s, Ne, nI_eq (by omega) (by omega)]; omega
        · rw [upd_n _ _ z]; exact f m hm
      · have zn : m ≠ n := fun z => by rw [z, e6] at e2; exact nI_n6 (by omega) e2.symm
        refine Or.inr ⟨m, hm, e1, by rw [upd_n _ _ zn]; exact e2, fun m' hm' e => ?_⟩
        by_cases z : m' = n
        · subst z; rw [upd_s, nI_eq (by omega) (by omega)] at e; omega
        · rw [upd_n _ _ z] at e; exact e3 m' hm' e
theorem JS_swap {ch : Nat → Nat} {w rk : Nat → Int32} {A : Nat → Nat → Bool} {hO nO : Nat → Int32} {h n o : Nat} (J : JS ch w rk A hO nO) (X : NXT ch w A nO h n) (ho : o < 6) (eo : hO n = nI o) (lt : plz rk n h < plz rk n o) : JS ch w rk (asz A h n) (upd hO n (nI h)) (upd (upd nO o (-6)) h (nI n)) := by
  obtain ⟨k1, k2⟩ := JS_12 J X
  obtain ⟨j1, j2, j3, j4⟩ := J
  obtain ⟨hh, hn, x1, x2, x3, x4⟩ := X
  have free : ∀ m, m < 5 → hO m ≠ nI h := by
    rcases j4 h hh with ⟨-, f⟩ | ⟨m, hm, e, -⟩
    · exact f
    · exact absurd (e.symm.trans x1) (nI_n6 (by omega))
  have noh : o ≠ h := fun e => free n hn (by rw [eo, e])
  refine ⟨k1, k2, fun b hb => ?_, fun a ha => ?_⟩
  · by_cases q : b = n
    · subst q
      rw [upd_s]
      refine Or.inr ⟨h, hh, rfl, asz_yes A h b, fun y hy ey ny => ?_⟩
      rcases j3 b hb with ⟨e, -⟩ | ⟨o2, ho2, eo2, ea, f⟩
      · exact absurd (eo.symm.trans e) (nI_n6 (by omega))
      · have : o2 = o := (nI_eq (by omega) (by omega)).mp (eo2.symm.trans eo)
        subst this
        rcases asz_inv ey with ey | ⟨e1, -⟩
        · by_cases z : y = o2
          · rw [z]; exact lt
          · have := f y hy ey z
            omega
        · exact absurd e1 ny
    · rw [upd_n _ _ q]
      rcases j3 b hb with ⟨e, no⟩ | ⟨o, ho, eo, ea, f⟩
      · exact Or.inl ⟨e, fun y hy => by rw [asz_name q]; exact no y hy⟩
      · exact Or.inr ⟨o, ho, eo, by rw [asz_name q]; exact ea, fun y hy ey ny => f y hy (by rw [asz_name q] at ey; exact ey) ny⟩
  · by_cases q : a = h
    · subst q
      rw [upd_s]
      refine Or.inr ⟨n, hn, rfl, upd_s _ _ _, fun m hm e => ?_⟩
      by_cases z : m = n
      · exact z
      · rw [upd_n _ _ z] at e; exact absurd e (free m hm)
    · rw [upd_n _ _ q]
      by_cases q2 : a = o
      · subst q2
        rw [upd_s]
        refine Or.inl ⟨rfl, fun m hm => ?_⟩
        by_cases z : m = n
        · subst z; rw [upd_s, Ne, nI_eq (by omega) (by omega)]; omega
        · rw [upd_n _ _ z]
          intro e
          rcases j4 a ha with ⟨-, f⟩ | ⟨m2, hm2, -, -, e3⟩
          · exact f m hm e
          · have a1 := e3 m hm e
            have a2 := e3 n hn eo
            omega
      · rw [upd_n _ _ q2]
        rcases j4 a ha with ⟨e, f⟩ | ⟨m, hm, e1, e2, e3⟩
        · refine Or.inl ⟨e, fun m hm => ?_⟩
          by_cases z : m = n
          · subst z; rw [upd_s, Ne, nI_eq (by omega) (by omega)]; omega
          · rw [upd_n _ _ z]; exact f m hm
        · have zn : m ≠ n := fun z => by
            rw [z, eo] at e2
            exact q2 ((nI_eq (by omega) (by omega)).mp e2).symm
          refine Or.inr ⟨m, hm, e1, by rw [upd_n _ _ zn]; exact e2, fun m' hm' e => ?_⟩
          by_cases z : m' = n
          · subst z; rw [upd_s, nI_eq (by omega) (by omega)] at e; omega
          · rw [upd_n _ _ z] at e; exact e3 m' hm' e
theorem JS_stay {ch : Nat → Nat} {w rk : Nat → Int32} {A : Nat → Nat → Bool} {hO nO : Nat → Int32} {h n o : Nat} (J : JS ch w rk A hO nO) (X : NXT ch w A nO h n) (ho : o < 6) (eo : hO n = nI o) (lt : plz rk n o < plz rk n h) : JS ch w rk (asz A h n) hO nO := by
  obtain ⟨k1, k2⟩ := JS_12 J X
  obtain ⟨j1, j2, j3, j4⟩ := J
  obtain ⟨hh, hn, x1, x2, x3, x4⟩ := X
  refine ⟨k1, k2, fun b hb => ?_, j4⟩
  by_cases q : b = n
  · subst q
    rcases j3 b hb with ⟨e, -⟩ | ⟨o2, ho2, eo2, ea, f⟩
    · exact absurd (eo.symm.trans e) (nI_n6 (by omega))
    · have : o2 = o := (nI_eq (by omega) (by omega)).mp (eo2.symm.trans eo)
      subst this
      refine Or.inr ⟨o2, ho2, eo2, asz_old ea, fun y hy ey ny => ?_⟩
      rcases asz_inv ey with ey | ⟨e1, -⟩
      · exact f y hy ey ny
      · rw [e1]; exact lt
  · rcases j3 b hb with ⟨e, no⟩ | ⟨o, ho, eo, ea, f⟩
    · exact Or.inl ⟨e, fun y hy => by rw [asz_name q]; exact no y hy⟩
    · exact Or.inr ⟨o, ho, eo, by rw [asz_name q]; exact ea, fun y hy ey ny => f y hy (by rw [asz_name q] at ey; exact ey) ny⟩
def SUBz (A T : Nat → Nat → Bool) : Prop := ∀ h n, h < 6 → n < 5 → A h n = true → T h n = true
/-- what is asked next is asked in every end -/
theorem SUB_step {ch : Nat → Nat} {w rk : Nat → Int32} {A T : Nat → Nat → Bool} {hO nO hT nT : Nat → Int32} {h n : Nat} (J : JS ch w rk A hO nO) (X : NXT ch w A nO h n) (JT : JS ch w rk T hT nT) (FT : FINz ch T nT) (S : SUBz A T) : SUBz (asz A h n) T := by
  obtain ⟨j1, j2, j3, j4⟩ := J
  obtain ⟨t1, t2, t3, t4⟩ := JT
  obtain ⟨hh, hn, x1, x2, x3, x4⟩ := X
  have key : T h n = true := by
    rcases Bool.eq_false_or_eq_true (T h n) with q | q
    · exact q
    · exfalso
      have back : ∀ m, m < 5 → T h m = true → A h m = true := by
        intro m hm e
        rcases Bool.eq_false_or_eq_true (A h m) with z | z
        · exact z
        · exfalso
          have nm : m ≠ n := fun c => by rw [c, q] at e; exact absurd e (by decide)
          have := t2 h m n hh hm hn e x2 (x4 m hm (t1 h m hh hm e) z nm)
          rw [q] at this
          exact absurd this (by decide)
      have free : ∀ m, m < 5 → hO m ≠ nI h := by
        rcases j4 h hh with ⟨-, f⟩ | ⟨m, hm, e, -⟩
        · exact f
        · exact absurd (e.symm.trans x1) (nI_n6 (by omega))
      rcases t4 h hh with ⟨e, -⟩ | ⟨m, hm, e1, e2, -⟩
      · have := FT h hh e n hn x2
        rw [q] at this
        exact absurd this (by decide)
      · have hold : T h m = true ∧ ∀ y, y < 6 → T y m = true → y ≠ h → plz rk m h < plz rk m y := by
          rcases t3 m hm with ⟨e, -⟩ | ⟨o, ho, eo, ea, f⟩
          · exact absurd (e2.symm.trans e) (nI_n6 (by omega))
          · have : o = h := (nI_eq (by omega) (by omega)).mp (eo.symm.trans e2)
            subst this
            exact ⟨ea, f⟩
        have am := back m hm hold.1
        rcases j3 m hm with ⟨-, no⟩ | ⟨o, ho, eo, ea, f⟩
        · rw [no h hh] at am; exact absurd am (by decide)
        · have no : o ≠ h := fun c => free m hm (by rw [eo, c])
          have a1 := f h hh am (fun c => no c.symm)
          have a2 := hold.2 o ho (S o m ho hm ea) no
          omega
  intro a b ha hb e
  rcases asz_inv e with e | ⟨rfl, rfl⟩
  · exact S a b ha hb e
  · exact key
theorem JS_same {ch : Nat → Nat} {w rk : Nat → Int32} {A T : Nat → Nat → Bool} {hO nO hT nT : Nat → Int32} (J : JS ch w rk A hO nO) (JT : JS ch w rk T hT nT) (S1 : SUBz A T) (S2 : SUBz T A) : ∀ h, h < 6 → nO h = nT h := by
  obtain ⟨j1, j2, j3, j4⟩ := J
  obtain ⟨t1, t2, t3, t4⟩ := JT
  have eh : ∀ n, n < 5 → hO n = hT n := by
    intro n hn
    rcases j3 n hn with ⟨e, no⟩ | ⟨o, ho, eo, ea, f⟩
    · rcases t3 n hn with ⟨e', -⟩ | ⟨o', ho', eo', ea', -⟩
      · rw [e, e']
      · have := S2 o' n ho' hn ea'
        rw [no o' ho'] at this; exact absurd this (by decide)
    · rcases t3 n hn with ⟨-, no'⟩ | ⟨o', ho', eo', ea', f'⟩
      · have := S1 o n ho hn ea
        rw [no' o ho] at this; exact absurd this (by decide)
      · by_cases z : o = o'
        · rw [eo, eo', z]
        · have a1 := f o' ho' (S2 o' n ho' hn ea') (fun c => z c.symm)
          have a2 := f' o ho (S1 o n ho hn ea) z
          omega
  intro h hh
  rcases j4 h hh with ⟨e, f⟩ | ⟨n, hn, e1, e2, e3⟩
  · rcases t4 h hh with ⟨e', -⟩ | ⟨n', hn', -, e2', -⟩
    · rw [e, e']
    · exact absurd ((eh n' hn').trans e2') (f n' hn')
  · rcases t4 h hh with ⟨-, f'⟩ | ⟨n', hn', e1', e2', -⟩
    · exact absurd ((eh n hn).symm.trans e2) (f' n hn)
    · have := e3 n' hn' ((eh n' hn').trans e2')
      rw [e1, e1', this]
-- how much has been asked
def caz (A : Nat → Nat → Bool) : Nat := fa_cnt (fun i => A (i / 5) (i % 5)) 30
theorem cnt_flip {p q : Nat → Bool} {i : Nat} (hi : p i = false) (hq : q i = true) (ho : ∀ j, j ≠ i → q j = p j) : ∀ n, i < n → fa_cnt q n = fa_cnt p n + 1 := by
  intro n
  induction n with
  | zero => intro h; exact absurd h (by omega)
  | succ n ih =>
    intro h
    by_cases e : n = i
    · subst e
      rw [fa_cnt_yes hq, fa_cnt_no hi, fa_cnt_cong (fun k hk => ho k (by omega))]
    · have := ih (by omega)
      show fa_cnt q n + (if q n then 1 else 0) = fa_cnt p n + (if p n then 1 else 0) + 1
      rw [ho n e, this]
      omega
theorem caz_step {A : Nat → Nat → Bool} {h n : Nat} (hh : h < 6) (hn : n < 5) (e : A h n = false) : caz (asz A h n) = caz A + 1 := by
  unfold caz
  refine cnt_flip (i := h * 5 + n) ?_ ?_ (fun j hj => ?_) 30 (by omega)
  · show A ((h * 5 + n) / 5) ((h * 5 + n) % 5) = false
    rw [show (h * 5 + n) / 5 = h by omega, show (h * 5 + n) % 5 = n by omega]
    exact e
  · show asz A h n ((h * 5 + n) / 5) ((h * 5 + n) % 5) = true
    rw [show (h * 5 + n) / 5 = h by omega, show (h * 5 + n) % 5 = n by omega]
    exact asz_yes A h n
  · show asz A h n (j / 5) (j % 5) = A (j / 5) (j % 5)
    unfold asz
    by_cases q : j / 5 = h
    · rw [decide_eq_false (show ¬ j % 5 = n by omega), Bool.and_false, Bool.or_false]
    · rw [decide_eq_false q, Bool.false_and, Bool.or_false]
theorem cnt_full (p : Nat → Bool) : ∀ n, fa_cnt p n = n → ∀ i, i < n → p i = true
  | 0, _, i, h => absurd h (by omega)
  | n + 1, e, i, h => by
    have hl := fa_cnt_le p n
    have e2 : fa_cnt p n + (if p n then 1 else 0) = n + 1 := e
    by_cases q : p n = true
    · rw [if_pos q] at e2
      by_cases z : i = n
      · rw [z]; exact q
      · exact cnt_full p n (by omega) i (by omega)
    · rw [if_neg q] at e2; omega
theorem caz_full {A : Nat → Nat → Bool} (e : caz A = 30) {h n : Nat} (hh : h < 6) (hn : n < 5) : A h n = true := by
  have := cnt_full _ 30 e (h * 5 + n) (by omega)
  have t : A ((h * 5 + n) / 5) ((h * 5 + n) % 5) = true := this
  rw [show (h * 5 + n) / 5 = h by omega, show (h * 5 + n) % 5 = n by omega] at t
  exact t
theorem caz_le (A : Nat → Nat → Bool) : caz A ≤ 30 := fa_cnt_le _ 30
-- the favourite of a hull
def fvz (w : Nat → Int32) (h : Nat) (q : Nat → Bool) : Nat → Int32
  | 0 => -6
  | n + 1 => if q n && (decide (fvz w h q n = -6) || lkz w h n (fvz w h q n).toNatClampNeg) then nI n else fvz w h q n
theorem fvz_s (w : Nat → Int32) (h : Nat) (q : Nat → Bool) (n : Nat) : fvz w h q (n + 1) = if q n && (decide (fvz w h q n = -6) || lkz w h n (fvz w h q n).toNatClampNeg) then nI n else fvz w h q n := rfl
theorem fvz_is (w : Nat → Int32) (h : Nat) (q : Nat → Bool) : ∀ t, t ≤ 5 → (fvz w h q t = -6 ∧ ∀ x, x < t → q x = false) ∨ ∃ m, m < t ∧ fvz w h q t = nI m ∧ q m = true ∧ ∀ x, x < t → q x = true → x ≠ m → lkz w h m x = true := by
  intro t
  induction t with
  | zero => intro _; exact Or.inl ⟨rfl, fun x hx => absurd hx (by omega)⟩
  | succ t ih =>
    intro ht
    rw [fvz_s]
    rcases ih (by omega) with ⟨e, no⟩ | ⟨m, hm, e, qm, f⟩
    · rw [e, decide_eq_true rfl, Bool.true_or, Bool.and_true]
      by_cases c : q t = true
      · rw [if_pos c]
        refine Or.inr ⟨t, by omega, rfl, c, fun x hx qx nx => ?_⟩
        rw [no x (by omega)] at qx; exact absurd qx (by decide)
      · rw [if_neg c]
        refine Or.inl ⟨rfl, fun x hx => ?_⟩
        by_cases z : x = t
        · rw [z]; exact Bool.eq_false_iff.mpr c
        · exact no x (by omega)
    · rw [e, decide_eq_false (nI_n6 (by omega)), Bool.false_or, cl_N (by omega)]
      by_cases c : (q t && lkz w h t m) = true
      · rw [if_pos c]
        rw [Bool.and_eq_true] at c
        refine Or.inr ⟨t, by omega, rfl, c.1, fun x hx qx nx => ?_⟩
        by_cases z : x = m
        · rw [z]; exact c.2
        · exact lk_trans c.2 (f x (by omega) qx z)
      · rw [if_neg c]
        refine Or.inr ⟨m, by omega, rfl, qm, fun x hx qx nx => ?_⟩
        by_cases z : x = t
        · subst z
          rw [qx, Bool.true_and] at c
          exact lk_tot nx c
        · exact f x (by omega) qx nx
