-- a log told from a part on, side by side
theorem ppos_mono (sg : Nat → Int32) : ∀ {a b : Nat}, a ≤ b → ppos sg a ≤ ppos sg b := by
  intro a b h
  induction b with
  | zero => have : a = 0 := by omega
            subst this; exact Nat.le_refl _
  | succ b ih =>
    by_cases q : a = b + 1
    · subst q; exact Nat.le_refl _
    · have := ih (by omega)
      show ppos sg a ≤ ppos sg b + plen (sg (ppos sg b))
      omega
theorem plen_dot {s : Int32} (h : s = 46) : plen s = 1 := by unfold plen; rw [if_pos h]
theorem plen_bang {s : Int32} (h : s = 33) : plen s = 2 := by unfold plen; rw [h, if_neg (by decide), if_pos rfl]
theorem plen_sail {s : Int32} (h : isH s) : plen s = 3 := by unfold plen; rw [if_neg h.1, if_neg h.2.1]
theorem isN_n {s : Int32} (h : isN s) : ¬ s = 46 ∧ ¬ s = 63 := ⟨fun e => by rw [e] at h; exact h.1 (by decide), fun e => by rw [e] at h; exact h.1 (by decide)⟩
theorem isD_n {s : Int32} (h : isD s) : ¬ s = 46 ∧ ¬ s = 63 := ⟨fun e => by rw [e] at h; exact h.1 (by decide), fun e => by rw [e] at h; exact absurd h.2 (by decide)⟩
theorem cnt_1 (sg : Nat → Int32) (x : Int32) (k : Nat) : cnt sg x (k + 1) = cnt sg x k + (if sg k = x then 1 else 0) := rfl
theorem cnt_mono (sg : Nat → Int32) (x : Int32) : ∀ {a b : Nat}, a ≤ b → cnt sg x a ≤ cnt sg x b := by
  intro a b h
  induction b with
  | zero => have : a = 0 := by omega
            subst this; exact Nat.le_refl _
  | succ b ih =>
    by_cases q : a = b + 1
    · subst q; exact Nat.le_refl _
    · have := ih (by omega)
      rw [cnt_1]
      omega
theorem tell_25s (wr ds hs ks ns may : Nat → Int32) (aN aD pp : Int32) (n : Nat) (v : Int32) (a b c d e : Nat → Int32) (g s w x : Int32) : m_X6_tell_25 wr ds hs ks ns may aN aD pp (n + 1) v a b c d e g s w x = m_X6_tell_25b (m_X6_tell_25 wr ds hs ks ns may aN aD pp n) wr ds hs ks ns may aN aD pp v a b c d e g s w x := rfl
theorem go_32s (mm mp : Nat → Int32) (c ak : Int32) (n : Nat) (v1 v2 v3 v4 : Int32) (a b d e f g h : Nat → Int32) (x y : Int32) : m_X8_goLog_32 mm mp c ak (n + 1) v1 v2 v3 v4 a b d e f g h x y = m_X8_goLog_32b (m_X8_goLog_32 mm mp c ak n) mm mp c ak v1 v2 v3 v4 a b d e f g h x y := rfl
theorem pw6 {e : Nat} (h : e ≤ 4) : 6 ^ e ≤ 1296 ∧ 1 ≤ 6 ^ e := by
  have : e = 0 ∨ e = 1 ∨ e = 2 ∨ e = 3 ∨ e = 4 := by omega
  rcases this with rfl | rfl | rfl | rfl | rfl <;> decide
def dgt (G C g : Nat) : Nat := C / 6 ^ (G - 1 - g) % 6
theorem tell_run {K : Prop} {a nm c P C : Nat} {aN aD ak : Int32} (hK : HK K a nm aN aD ak) (hc : c ≤ 48) {sg mp ds hs ks ns wr may mm : Nat → Int32} (hS : eqN 48 sg mp) (hPI : PI sg c 0 P ds hs ks ns) (hG : cnt sg 63 c ≤ 4) (hM : eqN 6 may mm) (hC : C < 1296) (hwr : ∀ g, g < cnt sg 63 c → wr g = nI (dgt (cnt sg 63 c) C g)) :
    ∀ (m p : Nat), p + m = P → ∀ (f1 f2 : Nat), m < f1 → m < f2 → ∀ (nO hO ho tu ta be bo du go su ti wb : Nat → Int32) (seen why rs : Int32), LR K a nm (cnt sg 46 (ppos sg p)) nO hO ho tu ta be bo du go su ti wb seen →
      ∃ (r : Int32) (nO' hO' ho' tu' ta' be' bo' du' go' su' ti' wb' : Nat → Int32) (seen' why' rs' : Int32) (d2 g2 : Nat),
        m_X6_tell_25 wr ds hs ks ns may aN aD (nI P) f1 (nI p) ho hO nO ta tu (nI (cnt sg 63 (ppos sg p))) seen why (nI (cnt sg 46 (ppos sg p))) = some (r, ho', hO', nO', ta', tu', nI g2, seen', why', nI d2) ∧
        m_X8_goLog_32 mm mp (nI c) ak f2 (nI C) (nI (6 ^ (cnt sg 63 c - 1 - cnt sg 63 (ppos sg p)))) (nI (ppos sg p)) (nI p) be bo du go su ti wb (nI (cnt sg 46 (ppos sg p))) rs = some (r, be', bo', du', go', su', ti', wb', nI d2, rs') ∧
        ((r = -6 ∧ g2 = cnt sg 63 c ∧ d2 = cnt sg 46 c ∧ SEA (fun _ => d2) d2 nO' hO' ho' tu' ta' be' bo' du' go' su' ti' ∧ (K → a ≤ d2 → seen' = wb' nm ∧ RG (wb' nm))) ∨ (∃ q, q < P ∧ r = nI q ∧ why' = rs' ∧ g2 ≤ cnt sg 63 c)) := by
  obtain ⟨I1, I2, I3⟩ := hPI
  have hPc : c = ppos sg P := by
    rcases I3 with ⟨-, e⟩ | ⟨e, -⟩ | ⟨e, -⟩ | ⟨e, -⟩
    · exact e
    · exact absurd e (by omega)
    · exact absurd e (by omega)
    · exact absurd e (by omega)
  intro m
  induction m with
  | zero =>
    intro p hp f1 f2 h1 h2 nO hO ho tu ta be bo du go su ti wb seen why rs L
    obtain ⟨f1, rfl⟩ : ∃ z, f1 = z + 1 := ⟨f1 - 1, by omega⟩
    obtain ⟨f2, rfl⟩ : ∃ z, f2 = z + 1 := ⟨f2 - 1, by omega⟩
    have : p = P := by omega
    subst this
    rw [← hPc] at L ⊢
    have hd : cnt sg 46 c < 900000 := by have := cnt_le sg 46 c; omega
    obtain ⟨sv, hsv, hsk⟩ := look_N hK hd hO tu ta seen
    refine ⟨-6, nO, hO, ho, tu, ta, be, bo, du, go, su, ti, wb, sv, why, rs, cnt sg 46 c, cnt sg 63 c, ?_, ?_, Or.inl ⟨rfl, rfl, rfl, L.1, fun kk ha => ?_⟩⟩
    · rw [tell_25s]
      unfold m_X6_tell_25b m_X6_tell_66
      rw [if_pos (by rw [nI_leI (by omega) (by omega)]; omega), hsv, ogb_some]
    · rw [go_32s]
      unfold m_X8_goLog_32b
      rw [if_pos (by rw [nI_leI (by omega) (by omega)]; omega)]
    · obtain ⟨w1, w2⟩ := L.2 kk
      obtain ⟨k1, k2, k3, k4, k5⟩ := hK kk
      obtain ⟨v1, v2⟩ := hsk kk
      by_cases q : cnt sg 46 c = a
      · rw [v1 q, (w1 nm k4).2 q]; exact ⟨rfl, SEA_bear L.1 k4⟩
      · rw [v2 q]; exact w2 (by omega)
  | succ m ih =>
    intro p hp f1 f2 h1 h2 nO hO ho tu ta be bo du go su ti wb seen why rs L
    obtain ⟨f1, rfl⟩ : ∃ z, f1 = z + 1 := ⟨f1 - 1, by omega⟩
    obtain ⟨f2, rfl⟩ : ∃ z, f2 = z + 1 := ⟨f2 - 1, by omega⟩
    have hpP : p < P := by omega
    have hp48 : p < 48 := by omega
    obtain ⟨ok, dk, dn, dh⟩ := I1 p hpP
    have hend : ppos sg (p + 1) ≤ c := by rw [hPc]; exact ppos_mono sg (by omega)
    have epos : ppos sg (p + 1) = ppos sg p + plen (sg (ppos sg p)) := rfl
    generalize hk : ppos sg p = k at *
    have hd : cnt sg 46 k < 800000 := by have := cnt_le sg 46 k; omega
    -- how both go on, or stop
    have stepC : ∀ (q : Int32 × ((Nat → Int32) × (Nat → Int32) × (Nat → Int32) × (Nat → Int32) × (Nat → Int32) × Int32 × Int32 × Int32)), m_X6_tellPart wr ds hs ks ns may aN aD ho hO nO ta tu (nI (cnt sg 63 k)) seen (nI (cnt sg 46 k)) (nI p) = some q → m_X6_tell_25 wr ds hs ks ns may aN aD (nI P) (f1 + 1) (nI p) ho hO nO ta tu (nI (cnt sg 63 k)) seen why (nI (cnt sg 46 k)) = (if q.1 = 0 then m_X6_tell_25 wr ds hs ks ns may aN aD (nI P) f1 (nI (p + 1)) q.2.1 q.2.2.1 q.2.2.2.1 q.2.2.2.2.1 q.2.2.2.2.2.1 q.2.2.2.2.2.2.1 q.2.2.2.2.2.2.2.1 q.1 q.2.2.2.2.2.2.2.2 else some (nI p, q.2.1, q.2.2.1, q.2.2.2.1, q.2.2.2.2.1, q.2.2.2.2.2.1, q.2.2.2.2.2.2.1, q.2.2.2.2.2.2.2.1, q.1, q.2.2.2.2.2.2.2.2)) := by
      intro q hq
      rw [tell_25s]
      unfold m_X6_tell_25b
      rw [if_neg (by rw [nI_leI (by omega) (by omega)]; omega), if_neg (by rw [l48, nI_leI (by omega) (by omega)]; omega), hq, ogb_some, ogl_def, nI_1]
    rcases ok with o46 | ⟨o33, oN⟩ | ⟨oH, oN, oD⟩
    · have pl := plen_dot o46
      have hks : ks p = 2 := by rw [dk]; unfold pkd; rw [if_pos o46]
      obtain ⟨a1, a2, a3, a4, a5, a6, a7, sv, e1, e2, e3⟩ := part_dot (wr := wr) (may := may) (mm := mm) (mp := mp) (ds := ds) (hs := hs) (ns := ns) hK hd hp48 (show k < 48 by omega) (show k < c by omega) hc (hS k (by omega)).symm o46 hks L (nI (cnt sg 63 k))
      have e63 : cnt sg 63 (ppos sg (p + 1)) = cnt sg 63 k := by rw [epos, pl, cnt_1, if_neg (by rw [o46]; decide)]; omega
      have e46 : cnt sg 46 (ppos sg (p + 1)) = cnt sg 46 k + 1 := by rw [epos, pl, cnt_1, if_pos o46]
      obtain ⟨r, x1, x2, x3, x4, x5, x6, x7, x8, x9, x10, x11, x12, s1, s2, s3, d2, g2, g1, gg, g3⟩ := ih (p + 1) (by omega) f1 f2 (by omega) (by omega) a1 a2 a3 tu ta a4 a5 du go su a6 a7 sv 0 rs (by rw [e46]; exact e2)
      refine ⟨r, x1, x2, x3, x4, x5, x6, x7, x8, x9, x10, x11, x12, s1, s2, s3, d2, g2, ?_, ?_, g3⟩
      · rw [stepC _ e1, if_pos rfl]
        rw [e63, e46] at g1
        exact g1
      · rw [go_32s, e3]
        rw [e63, e46, epos, pl] at gg
        exact gg
    · have pl := plen_bang o33
      have hks : ks p = 1 := by rw [dk]; unfold pkd; rw [o33]; decide
      obtain ⟨n, hn, en⟩ := sN oN
      have hns : ns p = nI n := by
        rcases dn with q | q
        · rw [o33] at q; exact absurd q (by decide)
        · have e97 : (97 : Int32) = nI 97 := rfl
          rw [q, en, e97, pk_sub (by omega), show 97 + n - 97 = n by omega]
      have nN := isN_n oN
      have e63 : cnt sg 63 (ppos sg (p + 1)) = cnt sg 63 k := by rw [epos, pl, cnt_1, cnt_1, if_neg nN.2, if_neg (by rw [o33]; decide)]; omega
      have e46 : cnt sg 46 (ppos sg (p + 1)) = cnt sg 46 k := by rw [epos, pl, cnt_1, cnt_1, if_neg nN.1, if_neg (by rw [o33]; decide)]; omega
      obtain ⟨r, hr⟩ := part_bang (wr := wr) (may := may) (mm := mm) (mp := mp) (ds := ds) (hs := hs) hK hd hp48 (show k + 1 < 48 by omega) (show k < c by omega) hc (hS k (by omega)).symm (hS (k + 1) (by omega)).symm o33 hks hn hns en L (nI (cnt sg 63 k))
      rcases hr with ⟨rfl, a1, a2, a3, a4, a5, a6, a7, e1, e2, e3⟩ | ⟨hr, e1, e3⟩
      · obtain ⟨r, x1, x2, x3, x4, x5, x6, x7, x8, x9, x10, x11, x12, s1, s2, s3, d2, g2, g1, gg, g3⟩ := ih (p + 1) (by omega) f1 f2 (by omega) (by omega) a1 a2 ho a3 ta a4 a5 du a6 a7 ti wb seen 0 0 (by rw [e46]; exact e2)
        refine ⟨r, x1, x2, x3, x4, x5, x6, x7, x8, x9, x10, x11, x12, s1, s2, s3, d2, g2, ?_, ?_, g3⟩
        · rw [stepC _ e1, if_pos rfl]
          rw [e63, e46] at g1
          exact g1
        · rw [go_32s, e3]
          rw [e63, e46, epos, pl] at gg
          exact gg
      · have r0 : ¬ r = 0 := by rcases hr with rfl | rfl <;> decide
        refine ⟨nI p, nO, hO, ho, tu, ta, be, bo, du, go, su, ti, wb, seen, r, r, cnt sg 46 k, cnt sg 63 k, ?_, ?_, Or.inr ⟨p, hpP, rfl, rfl, ?_⟩⟩
        · rw [stepC _ e1, if_neg r0]
        · rw [go_32s, e3]
        · exact cnt_mono sg 63 (by omega)
    · have pl := plen_sail oH
      have n46 := oH.1
      have n33 := oH.2.1
      have hks : ks p = 0 := by rw [dk]; unfold pkd; rw [if_neg n46, if_neg n33]
      obtain ⟨n, hn, en⟩ := sN oN
      obtain ⟨x, hx1, hx9, ex⟩ := sD oD
      obtain ⟨hh1, hh2⟩ := dh oH
      have hns : ns p = nI n := by
        rcases dn with q | q
        · exact absurd q n46
        · have e97 : (97 : Int32) = nI 97 := rfl
          rw [q, en, e97, pk_sub (by omega), show 97 + n - 97 = n by omega]
      have hds : ds p = nI x := by rw [hh2, ex, l48, pk_sub (by omega), show 48 + x - 48 = x by omega]
      have nN := isN_n oN
      have nD := isD_n oD
      have c63 : cnt sg 63 (ppos sg (p + 1)) = cnt sg 63 k + (if sg k = 63 then 1 else 0) := by
        rw [epos, pl, cnt_1, cnt_1, cnt_1, if_neg nN.2, if_neg nD.2]; omega
      have e46 : cnt sg 46 (ppos sg (p + 1)) = cnt sg 46 k := by rw [epos, pl, cnt_1, cnt_1, cnt_1, if_neg nN.1, if_neg nD.1, if_neg n46]; omega
      have gle : cnt sg 63 (ppos sg (p + 1)) ≤ cnt sg 63 c := cnt_mono sg 63 hend
      -- the hull, and the check's share of the code
      have HULL : ∃ h, h < 6 ∧ m_X6_hullAt wr hs (nI (cnt sg 63 k)) (nI p) = some (nI h, nI (cnt sg 63 (ppos sg (p + 1)))) ∧
          ∀ (k32 : Int32 → Int32 → Int32 → Int32 → (Nat → Int32) → (Nat → Int32) → (Nat → Int32) → (Nat → Int32) → (Nat → Int32) → (Nat → Int32) → (Nat → Int32) → Int32 → Int32 → Option (Int32 × ((Nat → Int32) × (Nat → Int32) × (Nat → Int32) × (Nat → Int32) × (Nat → Int32) × (Nat → Int32) × (Nat → Int32) × Int32 × Int32))) (rs : Int32), (if sg k = 63 then ogn (nI (6 ^ (cnt sg 63 c - 1 - cnt sg 63 k)) = 0) (m_X8_goLog_161 k32 mm mp (nI c) ak (nI C) (nI (6 ^ (cnt sg 63 c - 1 - cnt sg 63 k))) (nI k) (nI p) (sg k) ((nI C / nI (6 ^ (cnt sg 63 c - 1 - cnt sg 63 k))) - (nI C / nI (6 ^ (cnt sg 63 c - 1 - cnt sg 63 k))) / 6 * 6) be bo du go su ti wb (nI (cnt sg 46 k)) rs) else m_X8_goLog_161 k32 mm mp (nI c) ak (nI C) (nI (6 ^ (cnt sg 63 c - 1 - cnt sg 63 k))) (nI k) (nI p) (sg k) (sg k - 65) be bo du go su ti wb (nI (cnt sg 46 k)) rs) = m_X8_goLog_183 k32 mm mp (nI c) ak (nI C) (nI k) (nI p) (nI h) (nI (6 ^ (cnt sg 63 c - 1 - cnt sg 63 (ppos sg (p + 1))))) be bo du go su ti wb (nI (cnt sg 46 k)) rs := by
        by_cases s63 : sg k = 63
        · rw [if_pos s63] at c63
          have gl : cnt sg 63 k < cnt sg 63 c := by omega
          have hw := hwr _ gl
          have h6 : dgt (cnt sg 63 c) C (cnt sg 63 k) < 6 := Nat.mod_lt _ (by omega)
          have b1 := pw6 (show cnt sg 63 c - 1 - cnt sg 63 k ≤ 4 by omega)
          refine ⟨_, h6, ?_, fun k32 rs => ?_⟩
          · unfold m_X6_hullAt
            rw [at_N hs hp48 (by omega), ogb_some, hh1]
            unfold hOf
            rw [if_pos s63, if_pos rfl, ogl_def, nI_1, l1, pk_sub (by omega), show cnt sg 63 k + 1 - 1 = cnt sg 63 k by omega, at_N wr (by omega) (by omega), ogb_some, hw, c63]
          · have nz : ¬ nI (6 ^ (cnt sg 63 c - 1 - cnt sg 63 k)) = 0 := nI_ne0 (by omega) (by omega)
            have dv : nI C / nI (6 ^ (cnt sg 63 c - 1 - cnt sg 63 k)) = nI (C / 6 ^ (cnt sg 63 c - 1 - cnt sg 63 k)) := pk_div (by omega) (by omega) (by omega)
            have dl : C / 6 ^ (cnt sg 63 c - 1 - cnt sg 63 k) < 2 ^ 31 := Nat.lt_of_le_of_lt (Nat.div_le_self _ _) (by omega)
            have rm : nI (C / 6 ^ (cnt sg 63 c - 1 - cnt sg 63 k)) - nI (C / 6 ^ (cnt sg 63 c - 1 - cnt sg 63 k)) / 6 * 6 = nI (dgt (cnt sg 63 c) C (cnt sg 63 k)) := pk_rem (d := 6) dl (by omega) (by omega)
            rw [if_pos s63, ogn_ok nz, dv, rm]
            unfold m_X8_goLog_161 m_X8_goLog_182
            rw [if_pos s63]
            by_cases q : cnt sg 63 c - 1 - cnt sg 63 k = 0
            · rw [c63, q, show cnt sg 63 c - 1 - (cnt sg 63 k + 1) = 0 by omega, Nat.pow_zero, if_pos (by decide)]
            · have e6 : 6 ^ (cnt sg 63 c - 1 - cnt sg 63 k) = 6 ^ (cnt sg 63 c - 1 - (cnt sg 63 k + 1)) * 6 := by
                rw [← Nat.pow_succ]; congr 1; omega
              have b2 := pw6 (show cnt sg 63 c - 1 - (cnt sg 63 k + 1) ≤ 4 by omega)
              have nle : ¬ nI (6 ^ (cnt sg 63 c - 1 - cnt sg 63 k)) ≤ 1 := by rw [l1, nI_leI (by omega) (by omega)]; omega
              have d6 : nI (6 ^ (cnt sg 63 c - 1 - cnt sg 63 k)) / 6 = nI (6 ^ (cnt sg 63 c - 1 - (cnt sg 63 k + 1))) := by
                rw [l6, pk_div (by omega) (by omega) (by omega)]
                congr 1
                omega
              rw [if_neg nle, d6, c63]
        · rw [if_neg s63] at c63
          rcases oH.2.2 with q | ⟨q1, q2⟩
          · exact absurd q s63
          obtain ⟨h, hh, eh⟩ := sH q1 q2
          have e65 : sg k - 65 = nI h := by
            have : (65 : Int32) = nI 65 := rfl
            rw [eh, this, pk_sub (by omega), show 65 + h - 65 = h by omega]
          refine ⟨h, hh, ?_, fun k32 rs => ?_⟩
          · have nm1 : ¬ nI h = -1 := by
              intro e
              have := nI_pos (show h < 2 ^ 31 by omega)
              rw [e] at this
              exact this (by decide)
            unfold m_X6_hullAt
            rw [at_N hs hp48 (by omega), ogb_some, hh1]
            unfold hOf
            rw [if_neg s63, e65, if_neg nm1, c63, Nat.add_zero]
          · rw [if_neg s63, e65]
            unfold m_X8_goLog_161 m_X8_goLog_182
            rw [if_neg s63, c63, Nat.add_zero]
      obtain ⟨h, hh, hull, mh⟩ := HULL
      obtain ⟨r, hr⟩ := part_sail (wr := wr) (mp := mp) (ds := ds) (hs := hs) (aN := aN) (aD := aD) hK hd hp48 (show k + 2 < 48 by omega) (show k < c by omega) hc (hS k (by omega)).symm (hS (k + 1) (by omega)).symm (hS (k + 2) (by omega)).symm n46 n33 hks hn hns en hx1 hx9 hds ex hh hM L (nI (cnt sg 63 k)) _ hull (nI C) (nI (6 ^ (cnt sg 63 c - 1 - cnt sg 63 k))) _ mh
      rcases hr with ⟨rfl, a1, a2, a3, a4, a5, a6, a7, a8, e1, e2, e3⟩ | ⟨hr, e1, e3⟩
      · obtain ⟨r, x1, x2, x3, x4, x5, x6, x7, x8, x9, x10, x11, x12, s1, s2, s3, d2, g2, g1, gg, g3⟩ := ih (p + 1) (by omega) f1 f2 (by omega) (by omega) a1 a2 ho a3 a4 a5 a6 a7 go su ti a8 seen 0 0 (by rw [e46]; exact e2)
        refine ⟨r, x1, x2, x3, x4, x5, x6, x7, x8, x9, x10, x11, x12, s1, s2, s3, d2, g2, ?_, ?_, g3⟩
        · rw [stepC _ e1, if_pos rfl]
          rw [e46] at g1
          exact g1
        · rw [go_32s, e3]
          rw [e46, epos, pl] at gg
          rw [epos, pl]
          exact gg
      · have r0 : ¬ r = 0 := by rcases hr with rfl | rfl | rfl | rfl | rfl <;> decide
        refine ⟨nI p, nO, hO, ho, tu, ta, be, bo, du, go, su, ti, wb, seen, r, r, cnt sg 46 k, cnt sg 63 (ppos sg (p + 1)), ?_, ?_, Or.inr ⟨p, hpP, rfl, rfl, gle⟩⟩
        · rw [stepC _ e1, if_neg r0]
        · rw [go_32s, e3]

