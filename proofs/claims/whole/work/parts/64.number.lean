-- a giving told by a number
def ed (d : Nat) : Nat := if d = 0 then 5 else d - 1
def cdN (g : Nat) : Nat → Nat
  | 0 => 0
  | k + 1 => cdN g k + ed (dig g k) * 6 ^ k
def dok (g : Nat) : Nat → Bool
  | 0 => true
  | k + 1 => dok g k && decide (dig g k ≤ 5)
theorem dok_all (g : Nat) : ∀ k, dok g k = true ↔ ∀ j, j < k → dig g j ≤ 5
  | 0 => ⟨fun _ j h => absurd h (by omega), fun _ => rfl⟩
  | k + 1 => by
    show (dok g k && decide (dig g k ≤ 5)) = true ↔ _
    rw [Bool.and_eq_true, dok_all g k, decide_eq_true_eq]
    constructor
    · rintro ⟨h1, h2⟩ j hj
      by_cases q : j = k
      · rw [q]; exact h2
      · exact h1 j (by omega)
    · intro h
      exact ⟨fun j hj => h j (by omega), h k (by omega)⟩
theorem six {x0 x1 x2 x3 x4 x5 c : Nat} (h0 : x0 < 6) (h1 : x1 < 6) (h2 : x2 < 6) (h3 : x3 < 6) (h4 : x4 < 6) (h5 : x5 < 6) (hc : c = x0 + 6 * x1 + 36 * x2 + 216 * x3 + 1296 * x4 + 7776 * x5) : c < 46656 ∧ c / 6 ^ 0 % 6 = x0 ∧ c / 6 ^ 1 % 6 = x1 ∧ c / 6 ^ 2 % 6 = x2 ∧ c / 6 ^ 3 % 6 = x3 ∧ c / 6 ^ 4 % 6 = x4 ∧ c / 6 ^ 5 % 6 = x5 := by
  have p0 : 6 ^ 0 = 1 := rfl
  have p1 : 6 ^ 1 = 6 := rfl
  have p2 : 6 ^ 2 = 36 := rfl
  have p3 : 6 ^ 3 = 216 := rfl
  have p4 : 6 ^ 4 = 1296 := rfl
  have p5 : 6 ^ 5 = 7776 := rfl
  rw [p0, p1, p2, p3, p4, p5]
  refine ⟨by omega, by omega, by omega, by omega, by omega, by omega, by omega⟩
theorem cd_dg {g : Nat} (h : ∀ j, j < 6 → dig g j ≤ 5) : cdN g 6 < 46656 ∧ ∀ k, k < 6 → dg (cdN g 6) (5 - k) = ed (dig g k) := by
  have e : cdN g 6 = 0 + ed (dig g 0) * 6 ^ 0 + ed (dig g 1) * 6 ^ 1 + ed (dig g 2) * 6 ^ 2 + ed (dig g 3) * 6 ^ 3 + ed (dig g 4) * 6 ^ 4 + ed (dig g 5) * 6 ^ 5 := rfl
  have b : ∀ j, j < 6 → ed (dig g j) < 6 := by
    intro j hj
    have := h j hj
    unfold ed
    by_cases q : dig g j = 0
    · rw [if_pos q]; omega
    · rw [if_neg q]; omega
  obtain ⟨a, a0, a1, a2, a3, a4, a5⟩ := six (c := cdN g 6) (b 0 (by omega)) (b 1 (by omega)) (b 2 (by omega)) (b 3 (by omega)) (b 4 (by omega)) (b 5 (by omega)) (by rw [e]; omega)
  refine ⟨a, fun k hk => ?_⟩
  rw [← dg_at _ hk]
  match k, hk with
  | 0, _ => exact a0
  | 1, _ => exact a1
  | 2, _ => exact a2
  | 3, _ => exact a3
  | 4, _ => exact a4
  | 5, _ => exact a5
  | n + 6, h => omega
-- the check reads the number
theorem num_23s (mm : Nat → Int32) (n : Nat) (a b c d e f h : Int32) (g : Nat → Int32) : m_X8_layNumber_23 mm (n + 1) a b c d e f h g = m_X8_layNumber_23b (m_X8_layNumber_23 mm n) mm a b c d e f h g := rfl
theorem num_bad (mm : Nat → Int32) (H N : Int32) (g : Nat → Int32) : ∀ (m : Nat) (v : Int32), v = nI m + (-1) → m < 100 → ∀ f, m < f → ∀ a b c : Int32, m_X8_layNumber_23 mm f H N a b c 0 v g = some (0, g) := by
  intro m
  induction m with
  | zero =>
    intro v hv _ f hf a b c
    obtain ⟨f, rfl⟩ : ∃ z, f = z + 1 := ⟨f - 1, by omega⟩
    rw [num_23s]
    unfold m_X8_layNumber_23b
    rw [if_pos (by rw [hv]; decide), if_pos rfl]
  | succ m ih =>
    intro v hv hm f hf a b c
    obtain ⟨f, rfl⟩ : ∃ z, f = z + 1 := ⟨f - 1, by omega⟩
    rw [pk_m1] at hv
    subst hv
    rw [num_23s]
    unfold m_X8_layNumber_23b m_X8_layNumber_61 m_X8_layNumber_62 m_X8_layNumber_79
    rw [if_neg (nI_pos (by omega)), ogl_def, ogl_def, if_pos rfl]
    have go : ∀ a b c : Int32, m_X8_layNumber_23 mm f H N a b c 0 (nI m + (-1)) g = some (0, g) := fun a b c => ih _ rfl (by omega) f (by omega) a b c
    by_cases q : a - a / 10 * 10 = 0
    · rw [if_pos q]
      simp only [ogl_def]
      exact go _ _ _
    · rw [if_neg q]
      simp only [ogl_def]
      exact go _ _ _
theorem in_05 {d : Nat} (hd : d < 100) : m_X8_in (nI d) 0 5 = some (if d ≤ 5 then 1 else 0) := by
  unfold m_X8_in
  rw [if_neg (nI_pos (by omega))]
  by_cases q : d ≤ 5
  · rw [if_neg (by rw [l5, nI_ltI (by omega) (by omega)]; omega), if_pos q]
  · rw [if_pos (by rw [l5, nI_ltI (by omega) (by omega)]; omega), if_neg q]
theorem num_run (mm : Nat → Int32) (H N : Int32) (gv0 : Nat → Int32) {g : Nat} (hg : g < 2 ^ 31) : ∀ (m k : Nat), k + m = 6 → ∀ f, m < f → ∀ v, v = nI m + (-1) →
    m_X8_layNumber_23 mm f H N (nI (g / 10 ^ k)) (nI (cdN g k)) (nI (6 ^ k)) (flg2 (dok g k)) v gv0 = (if dok g 6 then (if g / 10 ^ 6 = 0 then ogb (m_X8_layGiving mm gv0 (nI (cdN g 6)) H N) (fun q => if q.1 = 0 then some (0, q.2) else some (1, q.2)) else some (0, gv0)) else some (0, gv0)) := by
  intro m
  induction m with
  | zero =>
    intro k hk f hf v hv
    obtain ⟨f, rfl⟩ : ∃ z, f = z + 1 := ⟨f - 1, by omega⟩
    have : k = 6 := by omega
    subst this
    have hb : g / 10 ^ 6 < 2 ^ 31 := Nat.lt_of_le_of_lt (Nat.div_le_self _ _) hg
    rw [num_23s]
    unfold m_X8_layNumber_23b
    rw [if_pos (by rw [hv]; decide)]
    cases hD : dok g 6
    · rfl
    · rw [if_neg (show ¬ flg2 true = 0 by decide), if_pos rfl]
      by_cases q : g / 10 ^ 6 = 0
      · rw [if_pos (by rw [q]; rfl), if_pos q]
      · rw [if_neg (nI_ne0 (by omega) hb), if_neg q]
  | succ m ih =>
    intro k hk f hf v hv
    obtain ⟨f, rfl⟩ : ∃ z, f = z + 1 := ⟨f - 1, by omega⟩
    have hb : g / 10 ^ k < 2 ^ 31 := Nat.lt_of_le_of_lt (Nat.div_le_self _ _) hg
    have hdl := dig_lt g k
    have er : nI (g / 10 ^ k % 10) = nI (dig g k) := rfl
    rw [pk_m1] at hv
    subst hv
    rw [num_23s]
    unfold m_X8_layNumber_23b m_X8_layNumber_61 m_X8_layNumber_62 m_X8_layNumber_79
    rw [if_neg (nI_pos (by omega)), rem10 hb, div10 hb, ogl_def, ogl_def, divp, er]
    have e1 : dok g (k + 1) = (dok g k && decide (dig g k ≤ 5)) := rfl
    have e2 : cdN g (k + 1) = cdN g k + ed (dig g k) * 6 ^ k := rfl
    have hi := ih (k + 1) (by omega) f (by omega) _ rfl
    -- the code's next figure
    have code : ∀ (s0 : Int32), (if nI (dig g k) = 0 then ogl (nI (cdN g k) + 5 * nI (6 ^ k)) (fun (v5_83 : Int32) => ogl (nI (6 ^ k) * 6) (fun (v6_90 : Int32) => ogl (nI m + (-1)) (fun (v8_92 : Int32) => m_X8_layNumber_23 mm f H N (nI (g / 10 ^ (k + 1))) v5_83 v6_90 s0 v8_92 gv0))) else ogl (nI (cdN g k) + (nI (dig g k) - 1) * nI (6 ^ k)) (fun (v5_83 : Int32) => ogl (nI (6 ^ k) * 6) (fun (v6_90 : Int32) => ogl (nI m + (-1)) (fun (v8_92 : Int32) => m_X8_layNumber_23 mm f H N (nI (g / 10 ^ (k + 1))) v5_83 v6_90 s0 v8_92 gv0)))) = m_X8_layNumber_23 mm f H N (nI (g / 10 ^ (k + 1))) (nI (cdN g (k + 1))) (nI (6 ^ (k + 1))) s0 (nI m + (-1)) gv0 := by
      intro s0
      rw [e2]
      unfold ed
      by_cases q : dig g k = 0
      · rw [if_pos (by rw [q]; rfl), if_pos q, ogl_def, ogl_def, ogl_def, l5, l6, pk_mul, pk_mul, nI_add, ← Nat.pow_succ]
      · rw [if_neg (nI_ne0 (by omega) (by omega)), if_neg q, ogl_def, ogl_def, ogl_def, l1, l6, pk_sub (by omega), pk_mul, pk_mul, nI_add, ← Nat.pow_succ]
    cases hD : dok g k
    · have : dok g (k + 1) = false := by rw [e1, hD]; rfl
      rw [if_pos (show flg2 false = 0 from rfl)]
      refine (code 0).trans ?_
      rw [this] at hi
      exact hi
    · rw [if_neg (show ¬ flg2 true = 0 by decide), in_05 (by omega), ogb_some]
      by_cases q : dig g k ≤ 5
      · have : dok g (k + 1) = true := by rw [e1, hD, decide_eq_true q]; rfl
        rw [if_pos q, if_neg (by decide)]
        refine (code 1).trans ?_
        rw [this] at hi
        exact hi
      · have : dok g (k + 1) = false := by rw [e1, hD, decide_eq_false q]; rfl
        rw [if_neg q, if_pos rfl]
        refine (code 0).trans ?_
        rw [this] at hi
        exact hi
theorem num_N {may mm : Nat → Int32} (hm : rng 6 31 may) (hE : eqN 6 may mm) {H N : Nat} (hH : H < 64) (hN : N < 32) (gv0 : Nat → Int32) (v : Int32) :
    ((∃ g, g < 1000000 ∧ v = nI g ∧ dok g 6 = true) ∧ ∃ g, v = nI g ∧ g < 1000000 ∧ dok g 6 = true ∧ m_X8_layNumber mm gv0 v (nI H) (nI N) = some (flg2 (okZ (chz may H N) (cdN g 6) 6), gz (cdN g 6) 6 gv0)) ∨ ((¬ ∃ g, g < 1000000 ∧ v = nI g ∧ dok g 6 = true) ∧ m_X8_layNumber mm gv0 v (nI H) (nI N) = some (0, gv0)) := by
  unfold m_X8_layNumber m_X8_layNumber_18
  have z5 : (5 : Int32) = nI 6 + (-1) := by decide
  by_cases h : v < 0
  · rw [if_pos h]
    refine Or.inr ⟨?_, num_bad mm (nI H) (nI N) gv0 6 5 z5 (by omega) 1000000 (by omega) v 0 1⟩
    rintro ⟨g, hg, rfl, -⟩
    exact nI_pos (by omega) h
  · rw [if_neg h]
    obtain ⟨g, hg, rfl⟩ := nI_of h
    have R := num_run mm (nI H) (nI N) gv0 hg 6 0 (by omega) 1000000 (by omega) 5 z5
    rw [Nat.pow_zero, Nat.div_one] at R
    have R2 : m_X8_layNumber_23 mm 1000000 (nI H) (nI N) (nI g) 0 1 1 5 gv0 = _ := R
    rw [R2]
    have uniq : ∀ g2, g2 < 1000000 → nI g = nI g2 → g = g2 := fun g2 h2 e => (nI_eq hg (by omega)).mp e
    by_cases hD : dok g 6 = true
    · rw [if_pos hD]
      by_cases q : g / 10 ^ 6 = 0
      · have hg6 : g < 1000000 := by
          have := Nat.div_eq_zero_iff.mp q
          omega
        rw [if_pos q, lay_N hm hE hH hN (by have := (cd_dg ((dok_all g 6).mp hD)).1; omega), ogb_some]
        refine Or.inl ⟨⟨g, hg6, rfl, hD⟩, g, rfl, hg6, hD, ?_⟩
        cases okZ (chz may H N) (cdN g 6) 6 <;> rfl
      · rw [if_neg q]
        refine Or.inr ⟨?_, rfl⟩
        rintro ⟨g2, h2, e, -⟩
        have := uniq g2 h2 e
        subst this
        exact q (Nat.div_eq_of_lt (by omega))
    · rw [if_neg hD]
      refine Or.inr ⟨?_, rfl⟩
      rintro ⟨g2, h2, e, d2⟩
      have := uniq g2 h2 e
      subst this
      exact hD d2
-- the class takes the number
theorem tk_16s (ch : Nat → Int32) (n : Nat) (a b : Int32) (x y : Nat → Int32) : m_X1_takes_16 ch (n + 1) a b x y = m_X1_takes_16b (m_X1_takes_16 ch n) ch a b x y := rfl
theorem name_hi {d : Nat} (h5 : 5 ≤ d) (hd : d < 100) : m_X7_isName (nI d) = some 0 := by
  unfold m_X7_isName
  rw [if_neg (nI_pos (by omega)), if_pos (by rw [l5, nI_leI (by omega) (by omega)]; omega)]
/-- one figure taken -/
theorem tk_step {cA : Nat → Int32} {ch : Nat → Nat} (hA : ∀ j, j < 6 → cA j = nI (ch j)) (hL : ∀ j, j < 6 → ch j < 32) {g k : Nat} (hg : g < 1000000) (hk : k < 6) (f : Nat) (hO nO : Nat → Int32) :
    m_X1_takes_16 cA (f + 1) (nI (g / 10 ^ k)) (nI (5 - k)) hO nO =
      if dig g k = 0 then m_X1_takes_16 cA f (nI (g / 10 ^ (k + 1))) (nI (5 - k) + (-1)) hO nO
      else if 5 < dig g k then some (0, (hO, nO)) else if (ch (5 - k)).testBit (dig g k - 1) = true then (if hO (dig g k - 1) = -6 then m_X1_takes_16 cA f (nI (g / 10 ^ (k + 1))) (nI (5 - k) + (-1)) (upd hO (dig g k - 1) (nI (5 - k))) (upd nO (5 - k) (nI (dig g k - 1))) else some (0, (hO, nO))) else some (0, (hO, nO)) := by
  have hb : g / 10 ^ k < 2 ^ 31 := Nat.lt_of_le_of_lt (Nat.div_le_self _ _) (by omega)
  have hdl := dig_lt g k
  have er : nI (g / 10 ^ k % 10) = nI (dig g k) := rfl
  have hh : 5 - k < 6 := by omega
  rw [tk_16s]
  unfold m_X1_takes_16b m_X1_takes_84
  rw [if_neg (nI_pos (by omega)), rem10 hb, div10 hb, divp, ogl_def, ogl_def, er]
  by_cases q : dig g k = 0
  · rw [if_pos q, q, if_neg (by decide), ogl_def]
  · rw [if_neg q, l1, pk_sub (by omega), if_pos (nI_pos' (by omega))]
    by_cases c5 : 5 < dig g k
    · rw [if_pos c5, name_hi (by omega) (by omega), ogb_some, if_pos rfl]
    · rw [if_neg c5, isName_N (show dig g k - 1 < 5 by omega), ogb_some, if_neg (by decide), ogi_N hh (by omega), cl_N (show 5 - k < 2 ^ 31 by omega), hA _ hh, hb7 (by have := hL _ hh; omega) (by omega), ogb_some]
      by_cases cb : (ch (5 - k)).testBit (dig g k - 1) = true
      · rw [if_pos cb, if_pos cb, if_neg (by decide), ogi_N (show dig g k - 1 < 5 by omega) (by omega), cl_N (by omega)]
        by_cases ch6 : hO (dig g k - 1) = -6
        · rw [if_pos ch6, if_pos ch6]
          unfold m_X1_give
          rw [put_N _ _ hh (by omega), ogb_some, put_N _ _ (show dig g k - 1 < 5 by omega) (by omega), ogb_some, ogb_some, ogl_def]
        · rw [if_neg ch6, if_neg ch6]
      · rw [if_neg cb, if_neg cb, if_pos rfl]
theorem tk_bad {cA : Nat → Int32} {ch : Nat → Nat} (hA : ∀ j, j < 6 → cA j = nI (ch j)) (hL : ∀ j, j < 6 → ch j < 32) {g k0 : Nat} (hg : g < 1000000) (h0 : k0 < 6) (hb : 5 < dig g k0) : ∀ (m k : Nat), k + m = k0 → ∀ f, m < f → ∀ v, v = nI (5 - k) → ∀ hO nO : Nat → Int32, ∃ s, m_X1_takes_16 cA f (nI (g / 10 ^ k)) v hO nO = some (0, s) := by
  intro m
  induction m with
  | zero =>
    intro k hk f hf v hv hO nO
    obtain ⟨f, rfl⟩ : ∃ z, f = z + 1 := ⟨f - 1, by omega⟩
    have : k = k0 := by omega
    subst this
    rw [hv, tk_step hA hL hg (by omega), if_neg (by omega), if_pos hb]
    exact ⟨_, rfl⟩
  | succ m ih =>
    intro k hk f hf v hv hO nO
    obtain ⟨f, rfl⟩ : ∃ z, f = z + 1 := ⟨f - 1, by omega⟩
    rw [hv, tk_step hA hL hg (by omega)]
    have hv2 : nI (5 - k) + (-1) = nI (5 - (k + 1)) := by rw [show 5 - k = 5 - (k + 1) + 1 by omega, pk_m1]
    by_cases q : dig g k = 0
    · rw [if_pos q]; exact ih (k + 1) (by omega) f (by omega) _ hv2 _ _
    · rw [if_neg q]
      by_cases c5 : 5 < dig g k
      · rw [if_pos c5]; exact ⟨_, rfl⟩
      · rw [if_neg c5]
        by_cases cb : (ch (5 - k)).testBit (dig g k - 1) = true
        · rw [if_pos cb]
          by_cases c6 : hO (dig g k - 1) = -6
          · rw [if_pos c6]; exact ih (k + 1) (by omega) f (by omega) _ hv2 _ _
          · rw [if_neg c6]; exact ⟨_, rfl⟩
        · rw [if_neg cb]; exact ⟨_, rfl⟩
/-- the class's givings so far -/
def GVN (c k : Nat) (hO nO : Nat → Int32) : Prop := (∀ j, j < 6 → nO j = if 6 ≤ j + k then gv c j else -6) ∧ ∀ n, n < 5 → hO n = hd c n k
theorem tk_run {cA : Nat → Int32} {ch : Nat → Nat} (hA : ∀ j, j < 6 → cA j = nI (ch j)) (hL : ∀ j, j < 6 → ch j < 32) {g c : Nat} (hg : g < 1000000) (h5 : ∀ k, k < 6 → dig g k ≤ 5) (hc : ∀ k, k < 6 → dg c (5 - k) = ed (dig g k)) : ∀ (m k : Nat), k + m = 6 → ∀ f, m < f → ∀ v, v = nI m + (-1) → ∀ hO nO : Nat → Int32, okZ ch c k = true → GVN c k hO nO →
    (okZ ch c 6 = true ∧ ∃ hO' nO', m_X1_takes_16 cA f (nI (g / 10 ^ k)) v hO nO = some (1, (hO', nO')) ∧ GVN c 6 hO' nO') ∨ (okZ ch c 6 = false ∧ ∃ s, m_X1_takes_16 cA f (nI (g / 10 ^ k)) v hO nO = some (0, s)) := by
  intro m
  induction m with
  | zero =>
    intro k hk f hf v hv hO nO ok G
    obtain ⟨f, rfl⟩ : ∃ z, f = z + 1 := ⟨f - 1, by omega⟩
    have : k = 6 := by omega
    subst this
    refine Or.inl ⟨ok, hO, nO, ?_, G⟩
    rw [tk_16s]
    unfold m_X1_takes_16b
    rw [if_pos (by rw [hv]; decide)]
  | succ m ih =>
    intro k hk f hf v hv hO nO ok G
    obtain ⟨f, rfl⟩ : ∃ z, f = z + 1 := ⟨f - 1, by omega⟩
    have hk6 : k < 6 := by omega
    rw [pk_m1] at hv
    have hv1 : v = nI (5 - k) := by rw [hv, show m = 5 - k by omega]
    have hv2 : nI (5 - k) + (-1) = nI m + (-1) := by rw [show m = 5 - k by omega]
    obtain ⟨G1, G2⟩ := G
    have e1 : okZ ch c (k + 1) = (okZ ch c k && (decide (dg c (5 - k) = 5) || ((ch (5 - k)).testBit (dg c (5 - k)) && !(seN c k).testBit (dg c (5 - k))))) := rfl
    have e2 : ∀ n, hd c n (k + 1) = if dg c (5 - k) = n then nI (5 - k) else hd c n k := fun n => rfl
    have bad : okZ ch c (k + 1) = false → okZ ch c 6 = false := fun h => by
      have := okZ_mono h m
      rw [show k + 1 + m = 6 by omega] at this
      exact this
    rw [hv1, tk_step hA hL hg hk6]
    have hc6 := hc k hk6
    have hd5 := h5 k hk6
    by_cases q : dig g k = 0
    · have d5 : dg c (5 - k) = 5 := by rw [hc6]; unfold ed; rw [if_pos q]
      rw [if_pos q]
      refine ih (k + 1) (by omega) f (by omega) _ hv2 hO nO (by rw [e1, ok, decide_eq_true d5]; rfl) ⟨fun j hj => ?_, fun n hn => ?_⟩
      · rw [G1 j hj]
        by_cases w : 6 ≤ j + k
        · rw [if_pos w, if_pos (by omega)]
        · rw [if_neg w]
          by_cases w2 : 6 ≤ j + (k + 1)
          · have : j = 5 - k := by omega
            rw [if_pos w2, this]
            unfold gv
            rw [if_pos d5]
          · rw [if_neg w2]
      · rw [e2, if_neg (by omega)]; exact G2 n hn
    · have dd : dg c (5 - k) = dig g k - 1 := by rw [hc6]; unfold ed; rw [if_neg q]
      have d5 : ¬ dg c (5 - k) = 5 := by omega
      rw [if_neg q, if_neg (by omega), ← dd]
      rw [decide_eq_false d5, Bool.false_or, ok, Bool.true_and] at e1
      by_cases cb : (ch (5 - k)).testBit (dg c (5 - k)) = true
      · rw [if_pos cb]
        rw [cb, Bool.true_and] at e1
        have sh := seN_hd (c := c) (show dg c (5 - k) < 5 by omega) k
        by_cases c6 : hO (dg c (5 - k)) = -6
        · have s0 : (seN c k).testBit (dg c (5 - k)) = false := by
            rw [← Bool.not_eq_true, sh, ← G2 _ (by omega)]
            exact fun h => h c6
          rw [s0] at e1
          rw [if_pos c6]
          refine ih (k + 1) (by omega) f (by omega) _ hv2 _ _ e1 ⟨fun j hj => ?_, fun n hn => ?_⟩
          · by_cases w : j = 5 - k
            · subst w
              rw [upd_s, if_pos (by omega)]
              unfold gv
              rw [if_neg d5]
            · rw [upd_n _ _ w, G1 j hj]
              by_cases w2 : 6 ≤ j + k
              · rw [if_pos w2, if_pos (by omega)]
              · rw [if_neg w2, if_neg (by omega)]
          · rw [e2]
            by_cases w : dg c (5 - k) = n
            · rw [if_pos w, w, upd_s]
            · rw [if_neg w, upd_n _ _ (fun e => w e.symm)]; exact G2 n hn
        · have s1 : (seN c k).testBit (dg c (5 - k)) = true := by
            rw [sh, ← G2 _ (by omega)]
            exact c6
          rw [s1] at e1
          rw [if_neg c6]
          exact Or.inr ⟨bad e1, _, rfl⟩
      · have cb2 : (ch (5 - k)).testBit (dg c (5 - k)) = false := Bool.eq_false_iff.mpr cb
        rw [cb2, Bool.false_and] at e1
        rw [if_neg cb]
        exact Or.inr ⟨bad e1, _, rfl⟩
