-- all ways: what a log told depends on
theorem hull_dep {wr hs : Nat → Int32} {g : Nat} {v : Int32} {x : Int32 × Int32} (hg : g < 1000000000) (h : m_X6_hullAt wr hs (nI g) v = some x) :
    (x.2 = nI g ∧ ∀ wr', m_X6_hullAt wr' hs (nI g) v = some x) ∨ (x.2 = nI (g + 1) ∧ ∀ wr' : Nat → Int32, wr g = wr' g → m_X6_hullAt wr' hs (nI g) v = some x) := by
  obtain ⟨q, hq⟩ := at_tot 48 hs v
  have un : ∀ w : Nat → Int32, m_X6_hullAt w hs (nI g) v = if q = -1 then ogb (m_X7_at 4 w (nI g)) (fun z => some (z, nI (g + 1))) else some (q, nI g) := by
    intro w
    unfold m_X6_hullAt
    rw [hq, ogb_some, ogl_def, nI_1, l1, pk_sub (by omega), show g + 1 - 1 = g by omega]
  rw [un] at h
  by_cases e : q = -1
  · rw [if_pos e] at h
    right
    by_cases g4 : g < 4
    · rw [at_N wr g4 (by omega), ogb_some] at h
      cases h
      refine ⟨rfl, fun wr' hw => ?_⟩
      rw [un, if_pos e, at_N wr' g4 (by omega), ogb_some, hw]
    · have far : ∀ w : Nat → Int32, m_X7_at 4 w (nI g) = some 0 := by
        intro w
        unfold m_X7_at
        rw [if_neg (nI_pos (by omega)), if_pos (by rw [ofN, nI_leI (by omega) (by omega)]; omega)]
      rw [far, ogb_some] at h
      cases h
      refine ⟨rfl, fun wr' hw => ?_⟩
      rw [un, if_pos e, far, ogb_some]
  · rw [if_neg e] at h
    cases h
    refine Or.inl ⟨rfl, fun wr' => ?_⟩
    rw [un, if_neg e]
theorem part_dep {wr ds hs ks ns may : Nat → Int32} {aN aD : Int32} {ho hO nO ta tu : Nat → Int32} {g : Nat} {seen day v : Int32} {x : Int32 × ((Nat → Int32) × (Nat → Int32) × (Nat → Int32) × (Nat → Int32) × (Nat → Int32) × Int32 × Int32 × Int32)} (hg : g < 1000000000) (h : m_X6_tellPart wr ds hs ks ns may aN aD ho hO nO ta tu (nI g) seen day v = some x) :
    (x.2.2.2.2.2.2.1 = nI g ∧ ∀ wr', m_X6_tellPart wr' ds hs ks ns may aN aD ho hO nO ta tu (nI g) seen day v = some x) ∨ (x.2.2.2.2.2.2.1 = nI (g + 1) ∧ ∀ wr' : Nat → Int32, wr g = wr' g → m_X6_tellPart wr' ds hs ks ns may aN aD ho hO nO ta tu (nI g) seen day v = some x) := by
  obtain ⟨q, hq⟩ := at_tot 48 ks v
  obtain ⟨nn, hnn⟩ := at_tot 48 ns v
  obtain ⟨dd, hdd⟩ := at_tot 48 ds v
  unfold m_X6_tellPart at h ⊢
  simp only [hq, ogb_some] at h ⊢
  by_cases e1 : q = 1
  · simp only [if_pos e1] at h ⊢
    refine Or.inl ⟨?_, fun _ => h⟩
    rw [hnn, ogb_some] at h
    cases hd : m_X6_tellDrown day hO nO tu nn with
    | none => rw [hd] at h; cases h
    | some z => rw [hd, ogb_some] at h; cases h; rfl
  · simp only [if_neg e1] at h ⊢
    by_cases e2 : q = 2
    · simp only [if_pos e2] at h ⊢
      refine Or.inl ⟨?_, fun _ => h⟩
      cases hl : m_X6_look hO ta tu aN aD day seen with
      | none => rw [hl] at h; cases h
      | some z =>
        rw [hl, ogb_some] at h
        cases hd : m_X4_dawn tu ho hO nO day (day + 1) with
        | none => rw [hd] at h; cases h
        | some y => rw [hd, ogb_some] at h; cases h; rfl
    · simp only [if_neg e2] at h ⊢
      cases hh : m_X6_hullAt wr hs (nI g) v with
      | none => rw [hh] at h; cases h
      | some z =>
        rw [hh, ogb_some] at h
        have ez : x.2.2.2.2.2.2.1 = z.2 := by
          rw [hnn, ogb_some, hdd, ogb_some] at h
          cases ht : m_X6_tellSail may day hO nO ta tu z.1 nn dd with
          | none => rw [ht] at h; cases h
          | some y => rw [ht, ogb_some] at h; cases h; rfl
        rcases hull_dep hg hh with ⟨a, b⟩ | ⟨a, b⟩
        · refine Or.inl ⟨ez.trans a, fun wr' => ?_⟩
          rw [b wr', ogb_some]
          exact h
        · refine Or.inr ⟨ez.trans a, fun wr' hw => ?_⟩
          rw [b wr' hw, ogb_some]
          exact h
theorem tell_dep {wr ds hs ks ns may : Nat → Int32} {aN aD pp : Int32} : ∀ (f : Nat) (v : Int32) (ho hO nO ta tu : Nat → Int32) (g : Nat) (seen why day : Int32) (x : Int32 × ((Nat → Int32) × (Nat → Int32) × (Nat → Int32) × (Nat → Int32) × (Nat → Int32) × Int32 × Int32 × Int32 × Int32)), g + f < 1000000000 →
    m_X6_tell_25 wr ds hs ks ns may aN aD pp f v ho hO nO ta tu (nI g) seen why day = some x →
    ∃ g2, x.2.2.2.2.2.2.1 = nI g2 ∧ g ≤ g2 ∧ g2 < 1000000000 ∧ ∀ wr' : Nat → Int32, (∀ i, i < g2 → wr i = wr' i) → m_X6_tell_25 wr' ds hs ks ns may aN aD pp f v ho hO nO ta tu (nI g) seen why day = some x := by
  intro f
  induction f with
  | zero => intro v ho hO nO ta tu g seen why day x hg h; cases h
  | succ f ih =>
    intro v ho hO nO ta tu g seen why day x hg h
    have hend : ∀ y, m_X6_tell_66 wr ds hs ks ns may aN aD pp ho hO nO ta tu (nI g) seen why day = some y → y.2.2.2.2.2.2.1 = nI g ∧ ∀ wr' : Nat → Int32, m_X6_tell_66 wr' ds hs ks ns may aN aD pp ho hO nO ta tu (nI g) seen why day = some y := by
      intro y hy
      refine ⟨?_, fun _ => hy⟩
      unfold m_X6_tell_66 at hy
      cases hl : m_X6_look hO ta tu aN aD day seen with
      | none => rw [hl] at hy; cases hy
      | some z => rw [hl, ogb_some] at hy; cases hy; rfl
    simp only [tell_25s] at h ⊢
    unfold m_X6_tell_25b at h ⊢
    by_cases c1 : pp ≤ v
    · simp only [if_pos c1] at h ⊢
      obtain ⟨a, b⟩ := hend x h
      exact ⟨g, a, Nat.le_refl g, by omega, fun wr' _ => b wr'⟩
    · simp only [if_neg c1] at h ⊢
      by_cases c2 : (48 : Int32) ≤ v
      · simp only [if_pos c2] at h ⊢
        obtain ⟨a, b⟩ := hend x h
        exact ⟨g, a, Nat.le_refl g, by omega, fun wr' _ => b wr'⟩
      · simp only [if_neg c2] at h ⊢
        cases ht : m_X6_tellPart wr ds hs ks ns may aN aD ho hO nO ta tu (nI g) seen day v with
        | none => rw [ht] at h; cases h
        | some q =>
          rw [ht, ogb_some] at h
          obtain ⟨g1, eg, hg1, hd⟩ : ∃ g1, q.2.2.2.2.2.2.1 = nI g1 ∧ (g1 = g ∨ g1 = g + 1) ∧ ∀ wr' : Nat → Int32, (∀ i, i < g1 → wr i = wr' i) → m_X6_tellPart wr' ds hs ks ns may aN aD ho hO nO ta tu (nI g) seen day v = some q := by
            rcases part_dep (by omega) ht with ⟨a, b⟩ | ⟨a, b⟩
            · exact ⟨g, a, Or.inl rfl, fun wr' _ => b wr'⟩
            · exact ⟨g + 1, a, Or.inr rfl, fun wr' hw => b wr' (hw g (by omega))⟩
          by_cases c3 : q.1 = 0
          · rw [if_pos c3, ogl_def, eg] at h
            obtain ⟨g2, x1, x2, x3, x4⟩ := ih _ _ _ _ _ _ g1 _ _ _ x (by omega) h
            refine ⟨g2, x1, by omega, x3, fun wr' hw => ?_⟩
            rw [hd wr' (fun i hi => hw i (by omega)), ogb_some, if_pos c3, ogl_def, eg]
            exact x4 wr' hw
          · rw [if_neg c3] at h
            cases h
            refine ⟨g1, eg, by omega, by omega, fun wr' hw => ?_⟩
            rw [hd wr' hw, ogb_some, if_neg c3]
theorem tell_pre {wr ds hs ks ns may : Nat → Int32} {aN aD pp : Int32} {ho hO nO ta tu : Nat → Int32} {gm seen why day : Int32} {x : Int32 × ((Nat → Int32) × (Nat → Int32) × (Nat → Int32) × (Nat → Int32) × (Nat → Int32) × Int32 × Int32 × Int32 × Int32)} (h : m_X6_tell wr ds hs ks ns may aN aD pp ho hO nO ta tu gm seen why day = some x) :
    ∃ g2, x.2.2.2.2.2.2.1 = nI g2 ∧ g2 < 1000000000 ∧ ∀ wr' : Nat → Int32, (∀ i, i < g2 → wr i = wr' i) → m_X6_tell wr' ds hs ks ns may aN aD pp ho hO nO ta tu gm seen why day = some x := by
  unfold m_X6_tell at h ⊢
  simp only [calm_N, ogb_some] at h ⊢
  have z : (0 : Int32) = nI 0 := rfl
  obtain ⟨g2, a, -, b, c⟩ := tell_dep 1000000 0 _ _ _ _ _ 0 (-6) 0 0 x (by omega) h
  exact ⟨g2, a, b, c⟩
-- the results by the number of a way
def z0 : Nat → Int32 := fun _ => 0
noncomputable def wayT (ds hs ks ns may : Nat → Int32) (aN aD pp : Int32) (G C : Nat) := m_X6_tell (fun g => nI (dgt G C g)) ds hs ks ns may aN aD pp z0 z0 z0 z0 z0 0 0 0 0
noncomputable def wayR (ds hs ks ns may : Nat → Int32) (aN aD pp : Int32) (G C : Nat) : Int32 := ((wayT ds hs ks ns may aN aD pp G C).map (fun q => q.1)).getD 0
noncomputable def wayS (ds hs ks ns may : Nat → Int32) (aN aD pp : Int32) (G C : Nat) : Int32 := ((wayT ds hs ks ns may aN aD pp G C).map (fun q => q.2.2.2.2.2.2.2.1)).getD 0
def WAYS (K : Prop) (nm c G : Nat) (ak : Int32) (mp mm ds hs ks ns may : Nat → Int32) (aN aD pp : Int32) (rr ss : Nat → Int32) : Prop :=
  ∀ C, C < 6 ^ G → (rr C = -6 ∨ ∃ q, q < 1000 ∧ rr C = nI q) ∧ (K → rr C = -6 → RG (ss C)) ∧
    (∀ (be bo du go su ti wb : Nat → Int32) (md rs : Int32), ∃ (be' bo' du' go' su' ti' wb' : Nat → Int32) (d' rs' : Int32), m_X8_goLog mm mp (nI c) ak be bo du go su ti wb md rs (nI C) = some (rr C, be', bo', du', go', su', ti', wb', d', rs') ∧ (K → rr C = -6 → wb' nm = ss C)) ∧
    (∀ wr : Nat → Int32, (∀ g, g < G → wr g = nI (dgt G C g)) → ∀ (nO hO ho tu ta : Nat → Int32) (gm seen why day : Int32), ∃ (ho' hO' nO' ta' tu' : Nat → Int32) (g2 : Nat) (seen' why' day' : Int32), m_X6_tell wr ds hs ks ns may aN aD pp ho hO nO ta tu gm seen why day = some (rr C, ho', hO', nO', ta', tu', nI g2, seen', why', day') ∧ g2 ≤ G ∧ (rr C = -6 → g2 = G ∧ (K → seen' = ss C)) ∧ (rr C ≠ -6 → ∀ X, X < 6 ^ G → (∀ g, g < g2 → dgt G X g = dgt G C g) → rr X ≠ -6))
theorem ways_N {K : Prop} {a nm c P : Nat} {sg : Nat → Int32} {aN aD ak : Int32} (hK : HK K a nm aN aD ak) (ha : K → a ≤ cnt sg 46 c) (hc : c ≤ 48) {mp ds hs ks ns may mm : Nat → Int32} (hS : eqN 48 sg mp) (hPI : PI sg c 0 P ds hs ks ns) (hG : cnt sg 63 c ≤ 4) (hM : eqN 6 may mm) :
    ∃ rr ss : Nat → Int32, WAYS K nm c (cnt sg 63 c) ak mp mm ds hs ks ns may aN aD (nI P) rr ss := by
  have hP48 : P ≤ 48 := by have := hPI.2.1; omega
  obtain ⟨G, hGe⟩ : ∃ G, cnt sg 63 c = G := ⟨_, rfl⟩
  rw [hGe] at hG ⊢
  have h1296 : ∀ {C}, C < 6 ^ G → C < 1296 := fun {C} h => Nat.lt_of_lt_of_le h (pw6 hG).1
  have base : ∀ C, C < 6 ^ G → ∀ (be bo du go su ti wb : Nat → Int32) (md rs : Int32), (wayR ds hs ks ns may aN aD (nI P) G C = -6 ∨ ∃ q, q < 1000 ∧ wayR ds hs ks ns may aN aD (nI P) G C = nI q) ∧ (K → wayR ds hs ks ns may aN aD (nI P) G C = -6 → RG (wayS ds hs ks ns may aN aD (nI P) G C)) ∧ ∃ (be' bo' du' go' su' ti' wb' : Nat → Int32) (d' rs' : Int32), m_X8_goLog mm mp (nI c) ak be bo du go su ti wb md rs (nI C) = some (wayR ds hs ks ns may aN aD (nI P) G C, be', bo', du', go', su', ti', wb', d', rs') ∧ (K → wayR ds hs ks ns may aN aD (nI P) G C = -6 → wb' nm = wayS ds hs ks ns may aN aD (nI P) G C) := by
    intro C hC be bo du go su ti wb md rs
    obtain ⟨r, x1, x2, x3, x4, x5, x6, x7, x8, x9, x10, x11, x12, s1, s2, s3, d2, g2, t1, t2, t3⟩ := tell_go (wr := fun g => nI (dgt G C g)) hK hc hS hPI (by omega) hM (h1296 hC) (fun g _ => by rw [hGe]) z0 z0 z0 z0 z0 be bo du go su ti wb 0 0 0 0 md rs
    have eR : wayR ds hs ks ns may aN aD (nI P) G C = r := by unfold wayR wayT; rw [t1]; rfl
    have eS : wayS ds hs ks ns may aN aD (nI P) G C = s1 := by unfold wayS wayT; rw [t1]; rfl
    rw [eR, eS]
    refine ⟨?_, ?_, x6, x7, x8, x9, x10, x11, x12, _, _, t2, ?_⟩
    · rcases t3 with ⟨e, -⟩ | ⟨q, hq, e, -⟩
      · exact Or.inl e
      · exact Or.inr ⟨q, by omega, e⟩
    · intro kk e
      rcases t3 with ⟨-, -, hd, -, hw⟩ | ⟨q, hq, e2, -⟩
      · obtain ⟨w1, w2⟩ := hw kk (by rw [hd]; exact ha kk)
        rw [w1]; exact w2
      · exact absurd (e2.symm.trans e) (nI_n6 (by omega))
    · intro kk e
      rcases t3 with ⟨-, -, hd, -, hw⟩ | ⟨q, hq, e2, -⟩
      · exact (hw kk (by rw [hd]; exact ha kk)).1.symm
      · exact absurd (e2.symm.trans e) (nI_n6 (by omega))
  have tells : ∀ C, C < 6 ^ G → ∀ wr : Nat → Int32, (∀ g, g < G → wr g = nI (dgt G C g)) → ∀ (nO hO ho tu ta : Nat → Int32) (gm seen why day : Int32), ∃ (ho' hO' nO' ta' tu' : Nat → Int32) (g2 : Nat) (seen' why' day' : Int32), m_X6_tell wr ds hs ks ns may aN aD (nI P) ho hO nO ta tu gm seen why day = some (wayR ds hs ks ns may aN aD (nI P) G C, ho', hO', nO', ta', tu', nI g2, seen', why', day') ∧ g2 ≤ G ∧ (wayR ds hs ks ns may aN aD (nI P) G C = -6 → g2 = G ∧ (K → seen' = wayS ds hs ks ns may aN aD (nI P) G C)) := by
    intro C hC wr hw nO hO ho tu ta gm seen why day
    obtain ⟨-, -, y1, y2, y3, y4, y5, y6, y7, y8, y9, e1, e2⟩ := base C hC z0 z0 z0 z0 z0 z0 z0 0 0
    obtain ⟨r, x1, x2, x3, x4, x5, x6, x7, x8, x9, x10, x11, x12, s1, s2, s3, d2, g2, t1, t2, t3⟩ := tell_go (wr := wr) hK hc hS hPI (by omega) hM (h1296 hC) (fun g hg => by rw [hGe] at hg ⊢; exact hw g hg) nO hO ho tu ta z0 z0 z0 z0 z0 z0 z0 gm seen why day 0 0
    rw [e1] at t2
    have er : wayR ds hs ks ns may aN aD (nI P) G C = r := by injection t2 with t2; injection t2
    have ew : y7 = x12 := by injection t2 with t2; injection t2 with _ t2; injection t2 with _ t2; injection t2 with _ t2; injection t2 with _ t2; injection t2 with _ t2; injection t2 with _ t2; injection t2 with _ t2; injection t2
    rw [er] at e2 ⊢
    refine ⟨_, _, _, _, _, g2, s1, s2, _, t1, ?_, fun e => ?_⟩
    · rcases t3 with ⟨-, e, -⟩ | ⟨q, hq, -, -, e⟩
      · omega
      · omega
    · rcases t3 with ⟨-, e3, hd, -, hw⟩ | ⟨q, hq, e3, -, -⟩
      · refine ⟨by omega, fun kk => ?_⟩
        rw [(hw kk (by rw [hd]; exact ha kk)).1, ← ew]
        exact e2 kk e
      · exact absurd (e3.symm.trans e) (nI_n6 (by omega))
  refine ⟨wayR ds hs ks ns may aN aD (nI P) G, wayS ds hs ks ns may aN aD (nI P) G, fun C hC => ⟨(base C hC z0 z0 z0 z0 z0 z0 z0 0 0).1, (base C hC z0 z0 z0 z0 z0 z0 z0 0 0).2.1, fun be bo du go su ti wb md rs => (base C hC be bo du go su ti wb md rs).2.2, fun wr hw nO hO ho tu ta gm seen why day => ?_⟩⟩
  obtain ⟨x1, x2, x3, x4, x5, g2, s1, s2, d2, t1, t2, t3⟩ := tells C hC wr hw nO hO ho tu ta gm seen why day
  refine ⟨x1, x2, x3, x4, x5, g2, s1, s2, d2, t1, t2, t3, fun ne X hX hd => ?_⟩
  obtain ⟨g3, p1, p2, p3⟩ := tell_pre t1
  have eg : g3 = g2 := (nI_eq (by omega) (by omega)).mp p1.symm
  subst eg
  have q1 := p3 (fun i => if i < g3 then wr i else nI (dgt G X i)) (fun i hi => by simp only [if_pos hi])
  obtain ⟨y1, y2, y3, y4, y5, g4, u1, u2, u3, w1, -, -⟩ := tells X hX (fun i => if i < g3 then wr i else nI (dgt G X i)) (fun g hg => by
    by_cases q : g < g3
    · simp only [if_pos q]; rw [hw g hg, hd g q]
    · simp only [if_neg q]) nO hO ho tu ta gm seen why day
  rw [q1] at w1
  have er : wayR ds hs ks ns may aN aD (nI P) G C = wayR ds hs ks ns may aN aD (nI P) G X := by injection w1 with w1; injection w1
  rw [← er]
  exact ne
