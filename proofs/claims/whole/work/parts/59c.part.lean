-- parts of a log told: the class and the check
def LR (K : Prop) (a nm d : Nat) (nO hO ho tu ta be bo du go su ti wb : Nat → Int32) (seen : Int32) : Prop :=
  SEA (fun _ => d) d nO hO ho tu ta be bo du go su ti ∧ (K → (∀ n, n < 5 → (d < a → wb n = -6) ∧ (d = a → wb n = bear hO tu ta d n)) ∧ (a < d → seen = wb nm ∧ RG (wb nm)))
def HK (K : Prop) (a nm : Nat) (aN aD ak : Int32) : Prop := K → aD = nI a ∧ ak = nI a ∧ aN = nI nm ∧ nm < 5 ∧ a < 900000
theorem at_tot (n : Nat) (f : Nat → Int32) (v : Int32) : ∃ x, m_X7_at n f v = some x := by
  unfold m_X7_at
  by_cases h1 : v < 0
  · exact ⟨_, if_pos h1⟩
  · rw [if_neg h1]
    by_cases h2 : (Int32.ofNat n) ≤ v
    · exact ⟨_, if_pos h2⟩
    · rw [if_neg h2]
      unfold ogi
      by_cases h3 : v < 0 ∨ n ≤ v.toNatClampNeg
      · rcases h3 with h3 | h3
        · exact absurd h3 h1
        · obtain ⟨j, hj, rfl⟩ := nI_of h1
          rw [cl_N hj] at h3
          by_cases hn : n < 2 ^ 31
          · exact absurd (nI_le h3 hj) h2
          · omega
      · exact ⟨_, if_neg h3⟩
theorem look_N {K : Prop} {a nm d : Nat} {aN aD ak : Int32} (hK : HK K a nm aN aD ak) (hd : d < 900000) (hO tu ta : Nat → Int32) (seen : Int32) : ∃ sv, m_X6_look hO ta tu aN aD (nI d) seen = some sv ∧ (K → (d = a → sv = bear hO tu ta d nm) ∧ (d ≠ a → sv = seen)) := by
  unfold m_X6_look
  by_cases q : nI d = aD
  · rw [if_pos q]
    have tot : ∃ x, m_X4_bearer hO ta tu (nI d) aN = some x := by
      unfold m_X4_bearer
      obtain ⟨x, hx⟩ := at_tot 5 hO aN
      obtain ⟨y, hy⟩ := at_tot 5 tu aN
      obtain ⟨z, hz⟩ := at_tot 5 ta aN
      rw [hx, ogb_some, hy, ogb_some, hz, ogb_some]
      by_cases c1 : x = -7
      · rw [if_pos c1]
        by_cases c2 : y = nI d
        · exact ⟨_, if_pos c2⟩
        · exact ⟨_, if_neg c2⟩
      · exact ⟨_, if_neg c1⟩
    obtain ⟨x, hx⟩ := tot
    refine ⟨x, by rw [hx, ogb_some], fun k => ⟨fun e => ?_, fun ne => ?_⟩⟩
    · obtain ⟨k1, k2, k3, k4, k5⟩ := hK k
      rw [k3, bearer_N _ _ _ _ k4] at hx
      exact (Option.some.inj hx).symm
    · obtain ⟨k1, k2, k3, k4, k5⟩ := hK k
      rw [k1] at q
      exact absurd ((nI_eq (by omega) (by omega)).mp q) ne
  · rw [if_neg q]
    refine ⟨seen, rfl, fun k => ⟨fun e => ?_, fun _ => rfl⟩⟩
    obtain ⟨k1, k2, k3, k4, k5⟩ := hK k
    subst e
    exact absurd k1.symm q
theorem part_dot {K : Prop} {a nm d p k c : Nat} {aN aD ak : Int32} (hK : HK K a nm aN aD ak) (hd : d < 800000) (hp : p < 48) (hk : k < 48) (hkc : k < c) (hc : c ≤ 48) {sg mp ds hs ks ns wr may mm nO hO ho tu ta be bo du go su ti wb : Nat → Int32} {seen : Int32} (es : mp k = sg k) (h46 : sg k = 46) (hks : ks p = 2)
    (L : LR K a nm d nO hO ho tu ta be bo du go su ti wb seen) (gm : Int32) :
    ∃ (nO' hO' ho' be' bo' ti' wb' : Nat → Int32) (seen' : Int32), m_X6_tellPart wr ds hs ks ns may aN aD ho hO nO ta tu gm seen (nI d) (nI p) = some (0, ho', hO', nO', ta, tu, gm, seen', nI (d + 1)) ∧ LR K a nm (d + 1) nO' hO' ho' tu ta be' bo' du go su ti' wb' seen' ∧
      ∀ (k32 : Int32 → Int32 → Int32 → Int32 → (Nat → Int32) → (Nat → Int32) → (Nat → Int32) → (Nat → Int32) → (Nat → Int32) → (Nat → Int32) → (Nat → Int32) → Int32 → Int32 → Option (Int32 × ((Nat → Int32) × (Nat → Int32) × (Nat → Int32) × (Nat → Int32) × (Nat → Int32) × (Nat → Int32) × (Nat → Int32) × Int32 × Int32))) (code by_ rs : Int32), m_X8_goLog_32b k32 mm mp (nI c) ak code by_ (nI k) (nI p) be bo du go su ti wb (nI d) rs = k32 code by_ (nI (k + 1)) (nI (p + 1)) be' bo' du go su ti' wb' (nI (d + 1)) rs := by
  obtain ⟨S, W⟩ := L
  obtain ⟨sv, hsv, hsk⟩ := look_N hK (show d < 900000 by omega) hO tu ta seen
  obtain ⟨nO', hO', ho', be', bo', ti', g1, g2, S'⟩ := dawn_run (show d < 900000 by omega) tu ta du go su ak 5 0 (by omega) 1000000 1000000 (by omega) (by omega) nO hO ho be bo ti (fun _ => d) (fun n h => absurd h (by omega)) (fun _ => Nat.le_refl d) S
  have dawn : m_X4_dawn tu ho hO nO (nI d) (nI (d + 1)) = some (ho', hO', nO', nI (d + 1)) := g1
  obtain ⟨wb', hwb⟩ := keepWho_ok bo' (nI (d + 1)) ak wb
  have next : m_X8_nextDay du ak be bo ti wb (nI d) = some (be', bo', ti', wb', nI (d + 1)) := by
    have h := g2 wb
    rw [hwb, ogb_some] at h
    unfold m_X8_nextDay
    rw [ogl_def, nI_1]
    exact h
  refine ⟨nO', hO', ho', be', bo', ti', wb', sv, ?_, ⟨S', fun kk => ?_⟩, fun k32 code by_ rs => ?_⟩
  · unfold m_X6_tellPart
    rw [at_N ks hp (by omega), ogb_some, hks, if_neg (by decide), if_pos rfl, hsv, ogb_some, nI_1, dawn, ogb_some]
  · obtain ⟨w1, w2⟩ := W kk
    obtain ⟨k1, k2, k3, k4, k5⟩ := hK kk
    obtain ⟨v1, v2⟩ := hsk kk
    have ne : d + 1 ≠ a → wb' = wb := by
      intro hne
      rw [k2] at hwb
      rw [keepWho_ne bo' (by rw [nI_eq (by omega) (by omega)]; exact hne) wb] at hwb
      exact (Option.some.inj hwb).symm
    refine ⟨fun n hn => ⟨fun hlt => ?_, fun e => ?_⟩, fun hlt => ?_⟩
    · rw [ne (by omega)]; exact (w1 n hn).1 (by omega)
    · have e2 : wb' = keep bo' wb := by
        rw [k2, ← e, keepWho_eq] at hwb
        exact (Option.some.inj hwb).symm
      have w6 := (w1 n hn).1 (by omega)
      rw [e2]
      unfold keep bear
      rw [if_pos hn]
      rcases S'.2.1 n hn with ⟨x1, x2, x3⟩ | ⟨x1, x2, x3, -⟩
      · rw [x2]
        rcases x3 with x3 | ⟨h, t, y1, y2, -⟩
        · rw [x3, if_pos (by decide), if_neg (by decide)]; exact w6
        · rw [y2, if_neg (nI_pos (by omega)), if_neg (nI_n7 (by omega))]
      · rw [x2, x3, if_pos (by decide), if_pos rfl]
        rcases S.2.1 n hn with ⟨z1, -⟩ | ⟨-, -, -, t, ht, z2, -⟩
        · rw [z1] at x1; exact absurd x1 (by decide)
        · rw [z2, if_neg (by rw [nI_eq (by omega) (by omega)]; omega)]; exact w6
    · rw [ne (by omega)]
      by_cases q : d = a
      · rw [v1 q, (w1 nm k4).2 q]; exact ⟨rfl, SEA_bear S k4⟩
      · rw [v2 q]; exact w2 (by omega)
  · unfold m_X8_goLog_32b m_X8_goLog_267
    rw [if_neg (by rw [nI_leI (by omega) (by omega)]; omega), ogi_N hk (by omega), ogl_def, cl_N (by omega), es, if_pos h46, next, ogb_some, ogl_def, ogl_def, nI_1, nI_1]
theorem part_bang {K : Prop} {a nm d p k c n : Nat} {aN aD ak : Int32} (hK : HK K a nm aN aD ak) (hd : d < 800000) (hp : p < 48) (hk : k + 1 < 48) (hkc : k < c) (hc : c ≤ 48) {sg mp ds hs ks ns wr may mm nO hO ho tu ta be bo du go su ti wb : Nat → Int32} {seen : Int32} (es : mp k = sg k) (es1 : mp (k + 1) = sg (k + 1)) (h33 : sg k = 33) (hks : ks p = 1) (hn : n < 5) (hns : ns p = nI n) (hsn : sg (k + 1) = nI (97 + n))
    (L : LR K a nm d nO hO ho tu ta be bo du go su ti wb seen) (gm : Int32) :
    ∃ r : Int32, (r = 0 ∧ ∃ (nO' hO' tu' be' bo' go' su' : Nat → Int32), m_X6_tellPart wr ds hs ks ns may aN aD ho hO nO ta tu gm seen (nI d) (nI p) = some (0, ho, hO', nO', ta, tu', gm, seen, nI d) ∧ LR K a nm d nO' hO' ho tu' ta be' bo' du go' su' ti wb seen ∧
      ∀ (k32 : Int32 → Int32 → Int32 → Int32 → (Nat → Int32) → (Nat → Int32) → (Nat → Int32) → (Nat → Int32) → (Nat → Int32) → (Nat → Int32) → (Nat → Int32) → Int32 → Int32 → Option (Int32 × ((Nat → Int32) × (Nat → Int32) × (Nat → Int32) × (Nat → Int32) × (Nat → Int32) × (Nat → Int32) × (Nat → Int32) × Int32 × Int32))) (code by_ rs : Int32), m_X8_goLog_32b k32 mm mp (nI c) ak code by_ (nI k) (nI p) be bo du go su ti wb (nI d) rs = k32 code by_ (nI (k + 2)) (nI (p + 1)) be' bo' du go' su' ti wb (nI d) 0) ∨
    ((r = 3 ∨ r = 4) ∧ m_X6_tellPart wr ds hs ks ns may aN aD ho hO nO ta tu gm seen (nI d) (nI p) = some (r, ho, hO, nO, ta, tu, gm, seen, nI d) ∧ ∀ (k32 : Int32 → Int32 → Int32 → Int32 → (Nat → Int32) → (Nat → Int32) → (Nat → Int32) → (Nat → Int32) → (Nat → Int32) → (Nat → Int32) → (Nat → Int32) → Int32 → Int32 → Option (Int32 × ((Nat → Int32) × (Nat → Int32) × (Nat → Int32) × (Nat → Int32) × (Nat → Int32) × (Nat → Int32) × (Nat → Int32) × Int32 × Int32))) (code by_ rs : Int32), m_X8_goLog_32b k32 mm mp (nI c) ak code by_ (nI k) (nI p) be bo du go su ti wb (nI d) rs = some (nI p, be, bo, du, go, su, ti, wb, nI d, r)) := by
  obtain ⟨S, W⟩ := L
  have c1 : (nI k).toNatClampNeg = k := cl_N (by omega)
  have c2 : (nI (k + 1)).toNatClampNeg = k + 1 := cl_N (by omega)
  have c3 : (nI n).toNatClampNeg = n := cl_N (by omega)
  have n46 : ¬ sg k = 46 := by rw [h33]; decide
  have e97 : nI (97 + n) - 97 = nI n := by
    have : (97 : Int32) = nI 97 := rfl
    rw [this, pk_sub (by omega), show 97 + n - 97 = n by omega]
  have tp : ∀ (q : Int32 × ((Nat → Int32) × (Nat → Int32) × (Nat → Int32))), m_X6_tellDrown (nI d) hO nO tu (nI n) = some q → m_X6_tellPart wr ds hs ks ns may aN aD ho hO nO ta tu gm seen (nI d) (nI p) = some (q.1, ho, q.2.1, q.2.2.1, ta, q.2.2.2, gm, seen, nI d) := by
    intro q hq
    unfold m_X6_tellPart
    rw [at_N ks hp (by omega), ogb_some, hks, if_pos rfl, at_N ns hp (by omega), ogb_some, hns, hq, ogb_some]
  have md : ∀ (k32 : Int32 → Int32 → Int32 → Int32 → (Nat → Int32) → (Nat → Int32) → (Nat → Int32) → (Nat → Int32) → (Nat → Int32) → (Nat → Int32) → (Nat → Int32) → Int32 → Int32 → Option (Int32 × ((Nat → Int32) × (Nat → Int32) × (Nat → Int32) × (Nat → Int32) × (Nat → Int32) × (Nat → Int32) × (Nat → Int32) × Int32 × Int32))) (code by_ rs : Int32), m_X8_goLog_32b k32 mm mp (nI c) ak code by_ (nI k) (nI p) be bo du go su ti wb (nI d) rs = (if go n = 0 then (if 0 ≤ bo n then m_X8_goLog_115 k32 mm mp (nI c) ak code by_ (nI k) (nI p) (nI n) 0 be bo du go su ti wb (nI d) rs else m_X8_goLog_115 k32 mm mp (nI c) ak code by_ (nI k) (nI p) (nI n) 4 be bo du go su ti wb (nI d) rs) else m_X8_goLog_115 k32 mm mp (nI c) ak code by_ (nI k) (nI p) (nI n) 3 be bo du go su ti wb (nI d) rs) := by
    intro k32 code by_ rs
    unfold m_X8_goLog_32b
    rw [if_neg (by rw [nI_leI (by omega) (by omega)]; omega), ogi_N (show k < 48 by omega) (by omega), ogl_def, c1, es, if_neg n46, if_pos h33, nI_1, ogi_N hk (by omega), ogl_def, c2, es1, hsn, e97, ogi_N hn (by omega), ogi_N hn (by omega), c3]
  have wd : m_X4_whyNotDrown hO (nI n) = (if hO n = -7 then some 3 else if hO n = -6 then some 4 else some 0) := by
    unfold m_X4_whyNotDrown
    rw [at_N hO hn (by omega), ogb_some, ogb_some]
  have failTD : ∀ r : Int32, (r = 3 ∨ r = 4) → m_X4_whyNotDrown hO (nI n) = some r → m_X6_tellDrown (nI d) hO nO tu (nI n) = some (r, hO, nO, tu) := by
    intro r hr hw
    unfold m_X6_tellDrown
    rw [hw, ogb_some, if_neg (by rcases hr with rfl | rfl <;> decide)]
  rcases S.2.1 n hn with ⟨x1, x2, x3⟩ | ⟨x1, x2, x3, x4⟩
  · rcases x3 with x3 | ⟨h, t, y1, y2, y3, y4, y5, y6, y7, y8⟩
    · refine ⟨4, Or.inr ⟨Or.inr rfl, ?_, fun k32 code by_ rs => ?_⟩⟩
      · exact tp _ (failTD 4 (Or.inr rfl) (by rw [wd, x2, x3, if_neg (by decide), if_pos rfl]))
      · rw [md, x1, x3, if_pos rfl, if_neg (by decide)]
        unfold m_X8_goLog_115
        rw [if_neg (by decide)]
    · have hw : m_X4_whyNotDrown hO (nI n) = some 0 := by rw [wd, x2, y2, if_neg (nI_n7 (by omega)), if_neg (nI_n6 (by omega))]
      have hdr : m_X4_drown (nI d) hO nO tu (nI n) = some (upd hO n (-7), upd nO h (-7), upd tu n (nI d)) := by
        unfold m_X4_drown
        rw [at_N hO hn (by omega), ogb_some, x2, y2, put_N nO _ y1 (by omega), ogb_some, put_N hO _ hn (by omega), ogb_some, put_N tu _ hn (by omega), ogb_some]
      have htd : m_X6_tellDrown (nI d) hO nO tu (nI n) = some (0, upd hO n (-7), upd nO h (-7), upd tu n (nI d)) := by
        unfold m_X6_tellDrown
        rw [hw, ogb_some, if_pos rfl, hdr, ogb_some]
      have ch : (nI h).toNatClampNeg = h := cl_N (by omega)
      have nar : vp_nar .boolean 1 = 1 := nar1
      have hmd : m_X8_drown be bo go su (nI n) = some (upd be h (-6), upd bo n (-6), upd go n 1, upd su h 1) := by
        unfold m_X8_drown
        simp only [ogi_N hn (show 5 < 2 ^ 31 by omega), c3, y2, ch, ogi_N y1 (show 6 < 2 ^ 31 by omega), nar, if_neg (nI_pos (show h < 2 ^ 31 by omega))]
      refine ⟨0, Or.inl ⟨rfl, upd nO h (-7), upd hO n (-7), upd tu n (nI d), upd be h (-6), upd bo n (-6), upd go n 1, upd su h 1, tp _ htd, ⟨S.drown y1 hn y2 y3, fun kk => ?_⟩, fun k32 code by_ rs => ?_⟩⟩
      · obtain ⟨w1, w2⟩ := W kk
        refine ⟨fun n' hn' => ⟨(w1 n' hn').1, fun e => ?_⟩, w2⟩
        rw [(w1 n' hn').2 e]
        unfold bear
        by_cases q : n' = n
        · subst q
          rw [upd_s, upd_s, if_pos rfl, if_pos rfl, x2, y2, if_neg (nI_n7 (by omega)), y4]
        · rw [upd_n _ _ q, upd_n _ _ q]
      · rw [md, x1, y2, if_pos rfl, if_pos (nI_pos' (by omega))]
        unfold m_X8_goLog_115 m_X8_goLog_267
        rw [if_pos (by decide), hmd, ogb_some, ogl_def, ogl_def, nI_1, l2, nI_add]
  · refine ⟨3, Or.inr ⟨Or.inl rfl, ?_, fun k32 code by_ rs => ?_⟩⟩
    · exact tp _ (failTD 3 (Or.inl rfl) (by rw [wd, x2, if_pos rfl]))
    · rw [md, x1, if_neg (by decide)]
      unfold m_X8_goLog_115
      rw [if_neg (by decide)]
theorem part_sail {K : Prop} {a nm d p k c n h x : Nat} {aN aD ak : Int32} (hK : HK K a nm aN aD ak) (hd : d < 800000) (hp : p < 48) (hk : k + 2 < 48) (hkc : k < c) (hc : c ≤ 48) {sg mp ds hs ks ns wr may mm nO hO ho tu ta be bo du go su ti wb : Nat → Int32} {seen : Int32} (es : mp k = sg k) (es1 : mp (k + 1) = sg (k + 1)) (es2 : mp (k + 2) = sg (k + 2)) (n46 : ¬ sg k = 46) (n33 : ¬ sg k = 33) (hks : ks p = 0) (hn : n < 5) (hns : ns p = nI n) (hsn : sg (k + 1) = nI (97 + n)) (hx1 : 1 ≤ x) (hx9 : x ≤ 9) (hds : ds p = nI x) (hsd : sg (k + 2) = nI (48 + x)) (hh : h < 6)
    (hM : eqN 6 may mm) (L : LR K a nm d nO hO ho tu ta be bo du go su ti wb seen) (gm gm2 : Int32) (hull : m_X6_hullAt wr hs gm (nI p) = some (nI h, gm2)) (code by_ by2 : Int32)
    (mh : ∀ (k32 : Int32 → Int32 → Int32 → Int32 → (Nat → Int32) → (Nat → Int32) → (Nat → Int32) → (Nat → Int32) → (Nat → Int32) → (Nat → Int32) → (Nat → Int32) → Int32 → Int32 → Option (Int32 × ((Nat → Int32) × (Nat → Int32) × (Nat → Int32) × (Nat → Int32) × (Nat → Int32) × (Nat → Int32) × (Nat → Int32) × Int32 × Int32))) (rs : Int32), (if sg k = 63 then ogn (by_ = 0) (m_X8_goLog_161 k32 mm mp (nI c) ak code by_ (nI k) (nI p) (sg k) ((code / by_) - (code / by_) / 6 * 6) be bo du go su ti wb (nI d) rs) else m_X8_goLog_161 k32 mm mp (nI c) ak code by_ (nI k) (nI p) (sg k) (sg k - 65) be bo du go su ti wb (nI d) rs) = m_X8_goLog_183 k32 mm mp (nI c) ak code (nI k) (nI p) (nI h) by2 be bo du go su ti wb (nI d) rs) :
    ∃ r : Int32, (r = 0 ∧ ∃ (nO' hO' tu' ta' be' bo' du' wb' : Nat → Int32), m_X6_tellPart wr ds hs ks ns may aN aD ho hO nO ta tu gm seen (nI d) (nI p) = some (0, ho, hO', nO', ta', tu', gm2, seen, nI d) ∧ LR K a nm d nO' hO' ho tu' ta' be' bo' du' go su ti wb' seen ∧
      ∀ (k32 : Int32 → Int32 → Int32 → Int32 → (Nat → Int32) → (Nat → Int32) → (Nat → Int32) → (Nat → Int32) → (Nat → Int32) → (Nat → Int32) → (Nat → Int32) → Int32 → Int32 → Option (Int32 × ((Nat → Int32) × (Nat → Int32) × (Nat → Int32) × (Nat → Int32) × (Nat → Int32) × (Nat → Int32) × (Nat → Int32) × Int32 × Int32))) (rs : Int32), m_X8_goLog_32b k32 mm mp (nI c) ak code by_ (nI k) (nI p) be bo du go su ti wb (nI d) rs = k32 code by2 (nI (k + 3)) (nI (p + 1)) be' bo' du' go su ti wb' (nI d) 0) ∨
    ((r = 1 ∨ r = 2 ∨ r = 3 ∨ r = 4 ∨ r = 5) ∧ m_X6_tellPart wr ds hs ks ns may aN aD ho hO nO ta tu gm seen (nI d) (nI p) = some (r, ho, hO, nO, ta, tu, gm2, seen, nI d) ∧ ∀ (k32 : Int32 → Int32 → Int32 → Int32 → (Nat → Int32) → (Nat → Int32) → (Nat → Int32) → (Nat → Int32) → (Nat → Int32) → (Nat → Int32) → (Nat → Int32) → Int32 → Int32 → Option (Int32 × ((Nat → Int32) × (Nat → Int32) × (Nat → Int32) × (Nat → Int32) × (Nat → Int32) × (Nat → Int32) × (Nat → Int32) × Int32 × Int32))) (rs : Int32), m_X8_goLog_32b k32 mm mp (nI c) ak code by_ (nI k) (nI p) be bo du go su ti wb (nI d) rs = some (nI p, be, bo, du, go, su, ti, wb, nI d, r)) := by
  obtain ⟨S, W⟩ := L
  have c1 : (nI k).toNatClampNeg = k := cl_N (by omega)
  have c2 : (nI (k + 1)).toNatClampNeg = k + 1 := cl_N (by omega)
  have c22 : (nI (k + 2)).toNatClampNeg = k + 2 := cl_N (by omega)
  have c3 : (nI n).toNatClampNeg = n := cl_N (by omega)
  have c4 : (nI h).toNatClampNeg = h := cl_N (by omega)
  have e97 : nI (97 + n) - 97 = nI n := by
    have : (97 : Int32) = nI 97 := rfl
    rw [this, pk_sub (by omega), show 97 + n - 97 = n by omega]
  have e48 : nI d + nI (48 + x) - 48 = nI (d + x) := by
    rw [l48, nI_add, pk_sub (by omega), show d + (48 + x) - 48 = d + x by omega]
  obtain ⟨b, hb, hl, hm⟩ := lets_N may hh hn
  have hm2 : m_X8_has (mm h) (nI n) = some b := by rw [← hM h hh]; exact hm
  obtain ⟨r, hr, w1, w2, w3⟩ := why_sim S hh hn hb hm2
  have md : ∀ (k32 : Int32 → Int32 → Int32 → Int32 → (Nat → Int32) → (Nat → Int32) → (Nat → Int32) → (Nat → Int32) → (Nat → Int32) → (Nat → Int32) → (Nat → Int32) → Int32 → Int32 → Option (Int32 × ((Nat → Int32) × (Nat → Int32) × (Nat → Int32) × (Nat → Int32) × (Nat → Int32) × (Nat → Int32) × (Nat → Int32) × Int32 × Int32))) (rs : Int32), m_X8_goLog_32b k32 mm mp (nI c) ak code by_ (nI k) (nI p) be bo du go su ti wb (nI d) rs = m_X8_goLog_183 k32 mm mp (nI c) ak code (nI k) (nI p) (nI h) by2 be bo du go su ti wb (nI d) rs := by
    intro k32 rs
    rw [← mh k32 rs]
    unfold m_X8_goLog_32b
    rw [if_neg (by rw [nI_leI (by omega) (by omega)]; omega), ogi_N (show k < 48 by omega) (by omega), ogl_def, c1, es, if_neg n46, if_neg n33]
  have tp : ∀ (q : Int32 × ((Nat → Int32) × (Nat → Int32) × (Nat → Int32) × (Nat → Int32))), m_X6_tellSail may (nI d) hO nO ta tu (nI h) (nI n) (nI x) = some q → m_X6_tellPart wr ds hs ks ns may aN aD ho hO nO ta tu gm seen (nI d) (nI p) = some (q.1, ho, q.2.1, q.2.2.1, q.2.2.2.1, q.2.2.2.2, gm2, seen, nI d) := by
    intro q hq
    unfold m_X6_tellPart
    rw [at_N ks hp (by omega), ogb_some, hks, if_neg (by decide), if_neg (by decide), hull, ogb_some, at_N ns hp (by omega), ogb_some, at_N ds hp (by omega), ogb_some, hns, hds, hq, ogb_some]
  by_cases r0 : r = 0
  · subst r0
    obtain ⟨z1, z2, z3, z4⟩ := w3 rfl
    have hsail : m_X4_sail (nI d) hO nO ta tu (nI h) (nI n) (nI x) = some (upd hO n (nI h), upd nO h (nI n), upd ta n (nI h), upd tu n (nI (d + x))) := by
      unfold m_X4_sail
      rw [put_N nO _ hh (by omega), ogb_some, put_N hO _ hn (by omega), ogb_some, put_N ta _ hn (by omega), ogb_some, nI_add, put_N tu _ hn (by omega), ogb_some]
    have hts : m_X6_tellSail may (nI d) hO nO ta tu (nI h) (nI n) (nI x) = some (0, upd hO n (nI h), upd nO h (nI n), upd ta n (nI h), upd tu n (nI (d + x))) := by
      unfold m_X6_tellSail
      rw [hl, ogb_some, w1, ogb_some, if_pos rfl, hsail, ogb_some]
    obtain ⟨wb', hwb⟩ := keepWho_ok (upd bo n (nI h)) (nI d) ak wb
    have S' := S.sail hh hn z1 z2 z3 z4 hx1 (show d + x < 1000000 by omega)
    refine ⟨0, Or.inl ⟨rfl, upd nO h (nI n), upd hO n (nI h), upd tu n (nI (d + x)), upd ta n (nI h), upd be h (nI n), upd bo n (nI h), upd du n (nI (d + x)), wb', tp _ hts, ⟨S', fun kk => ?_⟩, fun k32 rs => ?_⟩⟩
    · obtain ⟨u1, u2⟩ := W kk
      obtain ⟨k1, k2, k3, k4, k5⟩ := hK kk
      have ne : d ≠ a → wb' = wb := by
        intro hne
        rw [k2] at hwb
        rw [keepWho_ne _ (by rw [nI_eq (by omega) (by omega)]; exact hne) wb] at hwb
        exact (Option.some.inj hwb).symm
      refine ⟨fun n' hn' => ⟨fun hlt => ?_, fun e => ?_⟩, fun hlt => ?_⟩
      · rw [ne (by omega)]; exact (u1 n' hn').1 hlt
      · have e2 : wb' = keep (upd bo n (nI h)) wb := by
          rw [k2, ← e, keepWho_eq] at hwb
          exact (Option.some.inj hwb).symm
        have u6 := (u1 n' hn').2 e
        rw [e2]
        unfold keep
        rw [if_pos hn']
        by_cases q : n' = n
        · subst q
          unfold bear
          rw [upd_s, upd_s, if_neg (nI_pos (by omega)), if_neg (nI_n7 (by omega))]
        · rw [upd_n _ _ q]
          have eb : bear (upd hO n (nI h)) (upd tu n (nI (d + x))) (upd ta n (nI h)) d n' = bear hO tu ta d n' := by
            unfold bear
            rw [upd_n _ _ q, upd_n _ _ q, upd_n _ _ q]
          rw [eb]
          rcases S.2.1 n' hn' with ⟨x1, x2, x3⟩ | ⟨x1, x2, x3, -⟩
          · rcases x3 with x3 | ⟨h2, t, y1, y2, -⟩
            · rw [x3, if_pos (by decide)]; exact u6
            · rw [y2, if_neg (nI_pos (by omega))]
              unfold bear
              rw [x2, y2, if_neg (nI_n7 (by omega))]
          · rw [x3, if_pos (by decide)]; exact u6
      · rw [ne (by omega)]; exact u2 hlt
    · rw [md]
      unfold m_X8_goLog_183 m_X8_goLog_267
      simp only [l1, l2, l3, nI_add, ogi_N (show k + 1 < 48 by omega) (show 48 < 2 ^ 31 by omega), ogi_N hk (show 48 < 2 ^ 31 by omega), ogl_def, c2, c22, es1, es2, hsn, hsd, e97, w2, ogb_some, c3, c4, ogi_N hh (show 6 < 2 ^ 31 by omega), ogi_N hn (show 5 < 2 ^ 31 by omega), hwb]
      rw [if_pos (by decide)]
      have e48' : nI (d + (48 + x)) - 48 = nI (d + x) := by rw [l48, pk_sub (by omega), show d + (48 + x) - 48 = d + x by omega]
      rw [e48']
  · have hr5 : r = 1 ∨ r = 2 ∨ r = 3 ∨ r = 4 ∨ r = 5 := by
      rcases hr with q | q
      · exact absurd q r0
      · exact q
    have hts : m_X6_tellSail may (nI d) hO nO ta tu (nI h) (nI n) (nI x) = some (r, hO, nO, ta, tu) := by
      unfold m_X6_tellSail
      rw [hl, ogb_some, w1, ogb_some, if_neg r0]
    refine ⟨r, Or.inr ⟨hr5, tp _ hts, fun k32 rs => ?_⟩⟩
    rw [md]
    unfold m_X8_goLog_183
    rw [l1, nI_add, ogi_N (show k + 1 < 48 by omega) (by omega), ogl_def, c2, es1, hsn, e97, w2, ogb_some, if_neg (by rcases hr5 with rfl | rfl | rfl | rfl | rfl <;> decide)]
