-- the class fits voyages within a limit
def oz (may : Nat → Int32) (N h : Nat) : Nat := nV may h &&& N
theorem ft_s (may vo : Nat → Int32) (d : Nat) (x y : Nat → Int32) (a b c : Int32) : m_X0_fits may vo (d + 1) x y a b c = m_X0_fitsB may vo (m_X0_fits may vo d) x y a b c := rfl
theorem ft_55s (may vo : Nat → Int32) (rec : (Nat → Int32) → (Nat → Int32) → Int32 → Int32 → Int32 → Option (Int32 × ((Nat → Int32) × (Nat → Int32)))) (n : Nat) (a b c d e f : Int32) (x y : Nat → Int32) : m_X0_fits_55 may vo rec (n + 1) a b c d e f x y = m_X0_fits_55b (m_X0_fits_55 may vo rec n) may vo rec a b c d e f x y := rfl
def FTR (o v : Nat → Nat) (lim j : Nat) (b : Nat → Nat) (busy nm : Nat → Int32) (x : Option (Int32 × ((Nat → Int32) × (Nat → Int32)))) : Prop :=
  ((∀ c, feV o v lim c j b = false) ∧ ∃ busy' nm', x = some (0, (busy', nm')) ∧ (∀ n, n < 5 → busy' n = busy n) ∧ ∀ i, i < 6 → nm' i = nm i) ∨
  ∃ s, s < 5 ^ j ∧ feV o v lim s j b = true ∧ (∀ c, c % 5 ^ j < s → feV o v lim c j b = false) ∧ ∃ busy' nm', x = some (1, (busy', nm')) ∧ ∀ i, i < 6 → (i < 6 - j → nm' i = nm i) ∧ (6 - j ≤ i → nm' i = gvv v s i)
set_option maxHeartbeats 1000000 in
theorem fits_N {may vo : Nat → Int32} (hm : rng 6 31 may) (hv : rng 6 9 vo) {N lim : Nat} (hN : N < 32) (hl : lim < 1000) : ∀ j, j ≤ 6 → ∀ dep, j < dep → ∀ (b : Nat → Nat) (busy nm : Nat → Int32), (∀ n, n < 5 → b n ≤ lim) → (∀ n, n < 5 → busy n = nI (b n)) → (∀ i, i < 6 → 6 - j ≤ i → nm i = -6) →
    FTR (oz may N) (nV vo) lim j b busy nm (m_X0_fits may vo dep busy nm (nI N) (nI lim) (nI (6 - j))) := by
  intro j
  induction j with
  | zero =>
    intro _ dep hd b busy nm hb hB h6
    obtain ⟨dep, rfl⟩ : ∃ z, dep = z + 1 := ⟨dep - 1, by omega⟩
    refine Or.inr ⟨0, by decide, rfl, fun c h => absurd h (by omega), busy, nm, ?_, fun i hi => ⟨fun _ => rfl, fun h => absurd h (by omega)⟩⟩
    have h6' : m_X7_isHull (nI (6 - 0)) = some 0 := by decide
    rw [ft_s]; unfold m_X0_fitsB
    rw [h6', ogb_some, if_pos rfl]
  | succ j ih =>
    intro hj dep hd b busy nm hb hB h6
    obtain ⟨dep, rfl⟩ : ∃ z, dep = z + 1 := ⟨dep - 1, by omega⟩
    have eh : 6 - (j + 1) = 5 - j := by omega
    have hh : 5 - j < 6 := by omega
    have e1 : 5 - j + 1 = 6 - j := by omega
    obtain ⟨ev, hv9⟩ := nV_of (by omega) hv hh
    obtain ⟨em, hm31⟩ := nV_of (by omega) hm hh
    have ho : oz may N (5 - j) < 32 := and_lt (by omega)
    rw [eh] at h6 ⊢
    rw [ft_s]
    unfold m_X0_fitsB
    rw [isHull_N hh, ogb_some, if_neg (by decide), at_N vo hh (by omega), ogb_some, ev]
    have split : ∀ c, c % 5 ^ (j + 1) = c % 5 ^ j + 5 ^ j * dv c (5 - j) := fun c => by rw [Nat.mod_pow_succ, dv_at c (by omega)]
    have hp : 0 < 5 ^ j := Nat.pow_pos (by omega)
    by_cases q : nV vo (5 - j) = 0
    · rw [if_pos (by rw [q]; rfl), nI_1, e1]
      rcases ih (by omega) dep (by omega) b busy nm hb hB (fun i hi h => h6 i hi (by omega)) with ⟨f1, bz, nz, f2, f3, f4⟩ | ⟨s, s1, s2, s3, bz, nz, f2, f3⟩
      · left
        refine ⟨fun c => by rw [feV_s, if_pos q, f1 c, Bool.and_false], bz, nz, ?_, f3, f4⟩
        rw [f2, ogb_some, ogy_ok (Or.inl rfl)]
      · right
        have d0 : dv s (5 - j) = 0 := by
          have := dv_top (n := 0) (s := s) (j := j) (by omega) (by omega) s1
          rw [Nat.zero_mul, Nat.zero_add] at this
          exact this
        refine ⟨s, by rw [Nat.pow_succ]; omega, by rw [feV_s, if_pos q, d0, s2]; rfl, fun c hc => ?_, bz, nz, ?_, fun i hi => ⟨fun h => (f3 i hi).1 (by omega), fun h => ?_⟩⟩
        · rw [split] at hc
          have dz : dv c (5 - j) = 0 := by
            rcases Nat.eq_zero_or_pos (dv c (5 - j)) with z | z
            · exact z
            · have := Nat.mul_le_mul_left (5 ^ j) z
              omega
          rw [dz, Nat.mul_zero, Nat.add_zero] at hc
          rw [feV_s, if_pos q, s3 c hc, Bool.and_false]
        · rw [f2, ogb_some, ogy_ok (Or.inr rfl)]
        · by_cases z : i = 5 - j
          · subst z
            rw [(f3 _ hi).1 (by omega), h6 _ hi (by omega)]
            unfold gvv
            rw [if_pos q]
          · exact (f3 i hi).2 (by omega)
    · have l31 : ∀ x, x < 32 → x < 64 := fun x h => by omega
      rw [if_neg (nI_ne0 (by omega) (by omega)), at_N may hh (by omega), ogb_some, em, fa_and, ogl_def]
      have loop : ∀ (m n : Nat), n + m = 5 → ∀ f, m < f → ∀ busyc nmc : Nat → Int32, (∀ x, x < 5 → busyc x = nI (b x)) → (∀ i, i < 6 → i ≠ 5 - j → nmc i = nm i) → (∀ c, dv c (5 - j) < n → feV (oz may N) (nV vo) lim c (j + 1) b = false) →
          FTR (oz may N) (nV vo) lim (j + 1) b busy nm (m_X0_fits_55 may vo (m_X0_fits may vo dep) f (nI N) (nI lim) (nI (5 - j)) (nI (nV vo (5 - j))) (nI (oz may N (5 - j))) (nI n) busyc nmc) := by
        intro m
        induction m with
        | zero =>
          intro n hn f hf busyc nmc hBc hNc hno
          obtain ⟨f, rfl⟩ : ∃ z, f = z + 1 := ⟨f - 1, by omega⟩
          have : n = 5 := by omega
          subst this
          refine Or.inl ⟨fun c => hno c (dv_lt c _), busyc, upd nmc (5 - j) (-6), ?_, fun x hx => by rw [hBc x hx, hB x hx], fun i hi => ?_⟩
          · rw [ft_55s]; unfold m_X0_fits_55b
            rw [if_pos (by decide), put_N _ _ hh (by omega), ogb_some]
          · by_cases z : i = 5 - j
            · subst z; rw [upd_s, h6 _ hi (by omega)]
            · rw [upd_n _ _ z]; exact hNc i hi z
        | succ m ihm =>
          intro n hn f hf busyc nmc hBc hNc hno
          obtain ⟨f, rfl⟩ : ∃ z, f = z + 1 := ⟨f - 1, by omega⟩
          have hn5 : n < 5 := by omega
          have hbn := hb n hn5
          have next : ∀ busy2 nm2 : Nat → Int32, (∀ x, x < 5 → busy2 x = nI (b x)) → (∀ i, i < 6 → i ≠ 5 - j → nm2 i = nm i) → (∀ c, dv c (5 - j) = n → feV (oz may N) (nV vo) lim c (j + 1) b = false) → FTR (oz may N) (nV vo) lim (j + 1) b busy nm (m_X0_fits_55 may vo (m_X0_fits may vo dep) f (nI N) (nI lim) (nI (5 - j)) (nI (nV vo (5 - j))) (nI (oz may N (5 - j))) (nI (n + 1)) busy2 nm2) := fun busy2 nm2 a1 a2 a3 => ihm (n + 1) (by omega) f (by omega) busy2 nm2 a1 a2 (fun c hc => by
            by_cases z : dv c (5 - j) = n
            · exact a3 c z
            · exact hno c (by omega))
          rw [ft_55s]
          unfold m_X0_fits_55b m_X0_fits_140
          rw [if_neg (by rw [l5, nI_leI (by omega) (by omega)]; omega), at_N busyc hn5 (by omega), ogb_some, hb7 (l31 _ ho) (by omega), ogb_some, hBc n hn5, nI_add]
          by_cases cb : (oz may N (5 - j)).testBit n = true
          · rw [if_pos cb, if_neg (by decide)]
            by_cases cl : lim < b n + nV vo (5 - j)
            · rw [if_pos (nI_lt cl (by omega)), ogl_def, nI_1]
              refine next busyc nmc hBc hNc (fun c hc => ?_)
              rw [feV_s, if_neg q, hc, decide_eq_false (by omega), Bool.and_false, Bool.false_and]
            · rw [if_neg (nI_nlt (by omega) (by omega)), put_N _ _ hn5 (by omega), ogb_some, put_N _ _ hh (by omega), ogb_some, nI_1, e1]
              have hb2 : ∀ x, x < 5 → upN b n (b n + nV vo (5 - j)) x ≤ lim := by
                intro x hx
                unfold upN
                by_cases z : x = n
                · rw [if_pos z]; omega
                · rw [if_neg z]; exact hb x hx
              have hB2 : ∀ x, x < 5 → upd busyc n (nI (b n + nV vo (5 - j))) x = nI (upN b n (b n + nV vo (5 - j)) x) := by
                intro x hx
                unfold upN
                by_cases z : x = n
                · subst z; rw [upd_s, if_pos rfl]
                · rw [upd_n _ _ z, if_neg z]; exact hBc x hx
              rcases ih (by omega) dep (by omega) _ (upd busyc n (nI (b n + nV vo (5 - j)))) (upd nmc (5 - j) (nI n)) hb2 hB2 (fun i hi h => by rw [upd_n _ _ (by omega), hNc i hi (by omega)]; exact h6 i hi (by omega)) with ⟨f1, bz, nz, f2, f3, f4⟩ | ⟨s, s1, s2, s3, bz, nz, f2, f3⟩
              · rw [f2, ogb_some, if_pos rfl, put_N _ _ hn5 (by omega), ogb_some, ogl_def, nI_1]
                refine next _ _ (fun x hx => ?_) (fun i hi hne => ?_) (fun c hc => ?_)
                · by_cases z : x = n
                  · subst z; rw [upd_s]
                  · rw [upd_n _ _ z]; exact (f3 x hx).trans ((upd_n _ _ z).trans (hBc x hx))
                · exact (f4 i hi).trans ((upd_n _ _ hne).trans (hNc i hi hne))
                · rw [feV_s, if_neg q, hc, f1 c, Bool.and_false]
              · right
                have et := dv_top (n := n) (s := s) (j := j) (by omega) hn5 s1
                refine ⟨n * 5 ^ j + s, ?_, ?_, fun c hc => ?_, bz, nz, ?_, fun i hi => ⟨fun h => ?_, fun h => ?_⟩⟩
                · have := Nat.mul_le_mul_right (5 ^ j) (show n ≤ 4 by omega)
                  rw [Nat.pow_succ]
                  omega
                · rw [feV_s, if_neg q, et, cb, decide_eq_true (by omega), fe_cong (c := n * 5 ^ j + s) (c' := s) j (by omega) (fun h h1 h2 => dv_low (by omega) h2), s2]
                  rfl
                · rw [split, Nat.mul_comm (5 ^ j)] at hc
                  have hm1 := Nat.mod_lt c hp
                  rcases Nat.lt_trichotomy (dv c (5 - j)) n with z | z | z
                  · exact hno c z
                  · rw [z] at hc
                    rw [feV_s, if_neg q, z, s3 c (by omega), Bool.and_false]
                  · have := Nat.mul_le_mul_right (5 ^ j) z
                    rw [Nat.succ_mul] at this
                    omega
                · rw [f2, ogb_some, if_neg (show ¬ (1 : Int32) = 0 by decide)]
                · rw [(f3 i hi).1 (by omega), upd_n _ _ (by omega)]; exact hNc i hi (by omega)
                · by_cases z : i = 5 - j
                  · subst z
                    rw [(f3 _ hi).1 (by omega), upd_s]
                    unfold gvv
                    rw [if_neg q, et]
                  · rw [(f3 i hi).2 (by omega)]
                    unfold gvv
                    rw [dv_low (by omega) hi]
          · rw [if_neg cb, if_pos rfl, ogl_def, nI_1]
            refine next busyc nmc hBc hNc (fun c hc => ?_)
            rw [feV_s, if_neg q, hc, Bool.eq_false_iff.mpr cb, Bool.false_and, Bool.false_and]
      have L := loop 5 0 (by omega) 1000000 (by omega) busy nm hB (fun _ _ _ => rfl) (fun c h => absurd h (by omega))
      rw [← eh]
      rw [eh]
      exact L
