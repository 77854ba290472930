-- from the start of a log on
def cst (v : Int32) (n : Nat) (f : Nat → Int32) : Nat → Int32 := prg (fun _ => v) f n
theorem cst_lt {v : Int32} {n j : Nat} {f : Nat → Int32} (h : j < n) : cst v n f j = v := prg_lt h
theorem calm_N (ho hO nO ta tu : Nat → Int32) (d : Int32) : m_X4_calm ho hO nO ta tu d = some (cst 0 5 ho, cst (-6) 5 hO, cst (-6) 6 nO, cst (-6) 5 ta, cst 0 5 tu, 0) := by
  unfold m_X4_calm
  rw [fill_prg (show 6 ≤ 100000 by omega), ogb_some, fill_prg (show 5 ≤ 100000 by omega), ogb_some, fill_prg (show 5 ≤ 100000 by omega), ogb_some, fill_prg (show 5 ≤ 100000 by omega), ogb_some, fill_prg (show 5 ≤ 100000 by omega), ogb_some]
  rfl
theorem nar0 : vp_nar .boolean 0 = 0 := by decide
theorem begin_41 (be bo du go su ti wb : Nat → Int32) (d rs : Int32) : ∀ i, i ≤ 5 → ∀ fuel, 5 - i < fuel → m_X8_beginLog_41 fuel (nI i) be (prg (fun _ => -6) bo i) (prg (fun _ => 0) du i) (prg (fun _ => 0) go i) su (prg (fun _ => 0) ti i) (prg (fun _ => -6) wb i) d rs = some (be, cst (-6) 5 bo, cst 0 5 du, cst 0 5 go, su, cst 0 5 ti, cst (-6) 5 wb, d, rs) := by
  refine loop_up (fun fuel i => m_X8_beginLog_41 fuel (nI i) be (prg (fun _ => -6) bo i) (prg (fun _ => 0) du i) (prg (fun _ => 0) go i) su (prg (fun _ => 0) ti i) (prg (fun _ => -6) wb i) d rs = some (be, cst (-6) 5 bo, cst 0 5 du, cst 0 5 go, su, cst 0 5 ti, cst (-6) 5 wb, d, rs)) 5 (fun fuel => ?_) (fun fuel i hi ih => ?_)
  · show m_X8_beginLog_41b (m_X8_beginLog_41 fuel) (nI 5) _ _ _ _ _ _ _ _ _ = _
    unfold m_X8_beginLog_41b
    rw [if_pos (by decide)]
    rfl
  · show m_X8_beginLog_41b (m_X8_beginLog_41 fuel) (nI i) _ _ _ _ _ _ _ _ _ = _
    unfold m_X8_beginLog_41b
    rw [if_neg (by rw [l5, nI_leI (by omega) (by omega)]; omega)]
    simp only [ogi_N hi (show 5 < 2 ^ 31 by omega), ogl_def, nI_1, cl_N (show i < 2 ^ 31 by omega), nar0]
    rw [prg_s (fun _ => -6), prg_s (fun _ => 0), prg_s (fun _ => 0), prg_s (fun _ => 0), prg_s (fun _ => -6)]
    exact ih
theorem begin_12 (be bo du go su ti wb : Nat → Int32) (d rs : Int32) : ∀ i, i ≤ 6 → ∀ fuel, 6 - i < fuel → m_X8_beginLog_12 fuel (nI i) (prg (fun _ => -6) be i) bo du go (prg (fun _ => 0) su i) ti wb d rs = some (cst (-6) 6 be, cst (-6) 5 bo, cst 0 5 du, cst 0 5 go, cst 0 6 su, cst 0 5 ti, cst (-6) 5 wb, d, rs) := by
  refine loop_up (fun fuel i => m_X8_beginLog_12 fuel (nI i) (prg (fun _ => -6) be i) bo du go (prg (fun _ => 0) su i) ti wb d rs = some (cst (-6) 6 be, cst (-6) 5 bo, cst 0 5 du, cst 0 5 go, cst 0 6 su, cst 0 5 ti, cst (-6) 5 wb, d, rs)) 6 (fun fuel => ?_) (fun fuel i hi ih => ?_)
  · show m_X8_beginLog_12b (m_X8_beginLog_12 fuel) (nI 6) _ _ _ _ _ _ _ _ _ = _
    unfold m_X8_beginLog_12b
    rw [if_pos (by decide)]
    have h := begin_41 (prg (fun _ => -6) be 6) bo du go (prg (fun _ => 0) su 6) ti wb d rs 0 (by omega) 1000000 (by omega)
    rw [prg_0, prg_0, prg_0, prg_0, prg_0] at h
    exact h
  · show m_X8_beginLog_12b (m_X8_beginLog_12 fuel) (nI i) _ _ _ _ _ _ _ _ _ = _
    unfold m_X8_beginLog_12b
    rw [if_neg (by rw [l6, nI_leI (by omega) (by omega)]; omega)]
    simp only [ogi_N hi (show 6 < 2 ^ 31 by omega), ogl_def, nI_1, cl_N (show i < 2 ^ 31 by omega), nar0]
    rw [prg_s (fun _ => -6), prg_s (fun _ => 0)]
    exact ih
theorem begin_N (be bo du go su ti wb : Nat → Int32) (d rs : Int32) : m_X8_beginLog be bo du go su ti wb d rs = some (cst (-6) 6 be, cst (-6) 5 bo, cst 0 5 du, cst 0 5 go, cst 0 6 su, cst 0 5 ti, cst (-6) 5 wb, 0, 0) := by
  have h := begin_12 be bo du go su ti wb 0 0 0 (by omega) 1000000 (by omega)
  rw [prg_0, prg_0] at h
  exact h
theorem LR_0 {K : Prop} {a nm : Nat} {aN aD ak : Int32} (hK : HK K a nm aN aD ak) (nO hO ho tu ta be bo du go su ti wb : Nat → Int32) : LR K a nm 0 (cst (-6) 6 nO) (cst (-6) 5 hO) (cst 0 5 ho) (cst 0 5 tu) (cst (-6) 5 ta) (cst (-6) 6 be) (cst (-6) 5 bo) (cst 0 5 du) (cst 0 5 go) (cst 0 6 su) (cst 0 5 ti) (cst (-6) 5 wb) (-6) := by
  refine ⟨⟨fun h hh => Or.inl ⟨cst_lt hh, ?_, Or.inl (cst_lt hh)⟩, fun n hn => Or.inl ⟨cst_lt hn, ?_, Or.inl (cst_lt hn)⟩, fun n hn => ?_⟩, fun kk => ⟨fun n hn => ⟨fun _ => cst_lt hn, fun _ => ?_⟩, fun h => absurd h (by omega)⟩⟩
  · rw [cst_lt hh, cst_lt hh]
  · rw [cst_lt hn, cst_lt hn]
  · rw [cst_lt hn, cst_lt hn]
  · unfold bear
    rw [cst_lt hn, cst_lt hn, if_neg (by decide)]
theorem go_8s (mm mp : Nat → Int32) (c ak : Int32) (n : Nat) (v1 v2 v3 : Int32) (a b d e f g h : Nat → Int32) (x y : Int32) : m_X8_goLog_8 mm mp c ak (n + 1) v1 v2 v3 a b d e f g h x y = m_X8_goLog_8b (m_X8_goLog_8 mm mp c ak n) mm mp c ak v1 v2 v3 a b d e f g h x y := rfl
theorem go_by {sg mp mm : Nat → Int32} {c : Nat} {ak : Int32} (hc : c ≤ 48) (hS : eqN 48 sg mp) (hG : cnt sg 63 c ≤ 4) (code : Int32) (be bo du go su ti wb : Nat → Int32) (d rs : Int32) : ∀ (m k : Nat), k + m = 4 → 1 ≤ k → (k ≤ cnt sg 63 c ∨ k = 1) → ∀ f, m < f → m_X8_goLog_8 mm mp (nI c) ak f code (nI (6 ^ (k - 1))) (nI k) be bo du go su ti wb d rs = m_X8_goLog_32 mm mp (nI c) ak 1000000 code (nI (6 ^ (cnt sg 63 c - 1))) 0 0 be bo du go su ti wb d rs := by
  intro m
  induction m with
  | zero =>
    intro k hk h1 h2 f hf
    obtain ⟨f, rfl⟩ : ∃ z, f = z + 1 := ⟨f - 1, by omega⟩
    rw [go_8s]
    unfold m_X8_goLog_8b
    have : cnt sg 63 c - 1 = k - 1 := by omega
    rw [opens_N hc hS, ogb_some, if_pos (by rw [nI_leI (by omega) (by omega)]; omega), this]
  | succ m ih =>
    intro k hk h1 h2 f hf
    obtain ⟨f, rfl⟩ : ∃ z, f = z + 1 := ⟨f - 1, by omega⟩
    rw [go_8s]
    unfold m_X8_goLog_8b
    rw [opens_N hc hS, ogb_some]
    by_cases q : cnt sg 63 c ≤ k
    · have : cnt sg 63 c - 1 = k - 1 := by omega
      rw [if_pos (by rw [nI_leI (by omega) (by omega)]; exact q), this]
    · rw [if_neg (by rw [nI_leI (by omega) (by omega)]; exact q), ogl_def, ogl_def, nI_1, l6, pk_mul, ← Nat.pow_succ, show (k - 1).succ = k + 1 - 1 by omega]
      exact ih (k + 1) (by omega) (by omega) (Or.inl (by omega)) f (by omega)
/-- a log told by the class and gone through by the check -/
theorem tell_go {K : Prop} {a nm c P C : Nat} {aN aD ak : Int32} (hK : HK K a nm aN aD ak) (hc : c ≤ 48) {sg mp ds hs ks ns wr may mm : Nat → Int32} (hS : eqN 48 sg mp) (hPI : PI sg c 0 P ds hs ks ns) (hG : cnt sg 63 c ≤ 4) (hM : eqN 6 may mm) (hC : C < 1296) (hwr : ∀ g, g < cnt sg 63 c → wr g = nI (dgt (cnt sg 63 c) C g))
    (nO hO ho tu ta be bo du go su ti wb : Nat → Int32) (gm seen why day md rs : Int32) :
    ∃ (r : Int32) (nO' hO' ho' tu' ta' be' bo' du' go' su' ti' wb' : Nat → Int32) (seen' why' rs' : Int32) (d2 g2 : Nat),
        m_X6_tell wr ds hs ks ns may aN aD (nI P) ho hO nO ta tu gm seen why day = some (r, ho', hO', nO', ta', tu', nI g2, seen', why', nI d2) ∧
        m_X8_goLog mm mp (nI c) ak be bo du go su ti wb md rs (nI C) = some (r, be', bo', du', go', su', ti', wb', nI d2, rs') ∧
        ((r = -6 ∧ g2 = cnt sg 63 c ∧ d2 = cnt sg 46 c ∧ SEA (fun _ => d2) d2 nO' hO' ho' tu' ta' be' bo' du' go' su' ti' ∧ (K → a ≤ d2 → seen' = wb' nm ∧ RG (wb' nm))) ∨ (∃ q, q < P ∧ r = nI q ∧ why' = rs' ∧ g2 ≤ cnt sg 63 c)) := by
  obtain ⟨r, x1, x2, x3, x4, x5, x6, x7, x8, x9, x10, x11, x12, s1, s2, s3, d2, g2, e1, e2, e3⟩ := tell_run hK hc hS hPI hG hM hC hwr P 0 (by omega) 1000000 1000000 (by have := hPI.2.1; omega) (by have := hPI.2.1; omega) _ _ _ _ _ _ _ _ _ _ _ _ (-6) 0 0 (LR_0 hK nO hO ho tu ta be bo du go su ti wb)
  refine ⟨r, x1, x2, x3, x4, x5, x6, x7, x8, x9, x10, x11, x12, s1, s2, s3, d2, g2, ?_, ?_, e3⟩
  · unfold m_X6_tell
    rw [calm_N, ogb_some]
    exact e1
  · have hb := go_by (mm := mm) (ak := ak) hc hS hG (nI C) (cst (-6) 6 be) (cst (-6) 5 bo) (cst 0 5 du) (cst 0 5 go) (cst 0 6 su) (cst 0 5 ti) (cst (-6) 5 wb) 0 0 3 1 (by omega) (by omega) (Or.inr rfl) 1000000 (by omega)
    unfold m_X8_goLog
    rw [begin_N, ogb_some]
    exact hb.trans e2
