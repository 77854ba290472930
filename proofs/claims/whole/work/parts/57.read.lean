-- the pad read: the class's reading and the check's fault, side by side
def plen (s : Int32) : Nat := if s = 46 then 1 else if s = 33 then 2 else 3
def ppos (sg : Nat → Int32) : Nat → Nat
  | 0 => 0
  | p + 1 => ppos sg p + plen (sg (ppos sg p))
def pkd (s : Int32) : Int32 := if s = 46 then 2 else if s = 33 then 1 else 0
def isH (s : Int32) : Prop := s ≠ 46 ∧ s ≠ 33 ∧ (s = 63 ∨ (¬ s < 65 ∧ ¬ 70 < s))
def hOf (s : Int32) : Int32 := if s = 63 then -1 else s - 65
def isN (s : Int32) : Prop := ¬ s < 97 ∧ s ≤ 101
def isD (s : Int32) : Prop := ¬ s < 49 ∧ s ≤ 57
def okP (sg : Nat → Int32) (k : Nat) : Prop := sg k = 46 ∨ (sg k = 33 ∧ isN (sg (k + 1))) ∨ (isH (sg k) ∧ isN (sg (k + 1)) ∧ isD (sg (k + 2)))
def decP (sg : Nat → Int32) (k : Nat) (ds hs ks ns : Nat → Int32) (p : Nat) : Prop := ks p = pkd (sg k) ∧ (sg k = 46 ∨ ns p = sg (k + 1) - 97) ∧ (isH (sg k) → hs p = hOf (sg k) ∧ ds p = sg (k + 2) - 48)
def cnt (sg : Nat → Int32) (x : Int32) : Nat → Nat
  | 0 => 0
  | i + 1 => cnt sg x i + (if sg i = x then 1 else 0)
theorem cnt_le (sg : Nat → Int32) (x : Int32) : ∀ i, cnt sg x i ≤ i
  | 0 => Nat.le_refl 0
  | i + 1 => by
    have := cnt_le sg x i
    unfold cnt
    split <;> omega
def PI (sg : Nat → Int32) (i aw p : Nat) (ds hs ks ns : Nat → Int32) : Prop :=
  (∀ q, q < p → okP sg (ppos sg q) ∧ decP sg (ppos sg q) ds hs ks ns q) ∧ p ≤ i ∧
  ((aw = 0 ∧ i = ppos sg p) ∨ (aw = 1 ∧ i = ppos sg p + 1 ∧ isH (sg (ppos sg p)) ∧ hs p = hOf (sg (ppos sg p))) ∨ (aw = 3 ∧ i = ppos sg p + 1 ∧ sg (ppos sg p) = 33) ∨
    (aw = 2 ∧ i = ppos sg p + 2 ∧ isH (sg (ppos sg p)) ∧ hs p = hOf (sg (ppos sg p)) ∧ isN (sg (ppos sg p + 1)) ∧ ns p = sg (ppos sg p + 1) - 97))
theorem decP_upd {sg : Nat → Int32} {k q p : Nat} {ds hs ks ns : Nat → Int32} (h : decP sg k ds hs ks ns q) (hq : q < p) (a b c d : Int32) : decP sg k (upd ds p a) (upd hs p b) (upd ks p c) (upd ns p d) q ∧ decP sg k ds (upd hs p b) ks ns q ∧ decP sg k ds hs ks (upd ns p d) q ∧ decP sg k (upd ds p a) hs (upd ks p c) ns q ∧ decP sg k ds hs (upd ks p c) ns q ∧ decP sg k ds hs (upd ks p c) (upd ns p d) q := by
  have n : q ≠ p := by omega
  unfold decP at *
  simp only [upd_n _ _ n]
  exact ⟨h, h, h, h, h, h⟩
theorem in_L {v : Int32} (a b : Int32) : (¬ v < a ∧ ¬ b < v → m_X8_in v a b = some 1) ∧ (¬ (¬ v < a ∧ ¬ b < v) → m_X8_in v a b = some 0) := by
  unfold m_X8_in
  constructor
  · rintro ⟨h1, h2⟩; rw [if_neg h1, if_neg h2]
  · intro h
    by_cases h1 : v < a
    · rw [if_pos h1]
    · rw [if_neg h1]
      by_cases h2 : b < v
      · rw [if_pos h2]
      · exact absurd ⟨h1, h2⟩ h
theorem close_N (ks : Nat → Int32) (aw : Int32) {p : Nat} (hp : p < 48) (v : Int32) : m_X2_close ks aw (nI p) v = some (upd ks p v, 0, nI (p + 1)) := by
  unfold m_X2_close
  rw [put_N _ _ hp (by omega), ogb_some, ogl_def, nI_1]
theorem start_N (hs : Nat → Int32) (aw : Int32) {p : Nat} (hp : p < 48) (v : Int32) : m_X2_startsSail (nI p) hs aw v = some (1, (upd hs p v, 1)) := by
  unfold m_X2_startsSail
  rw [put_N _ _ hp (by omega), ogb_some]
def RD (sg mp : Nat → Int32) (c i aw g l p f1 f2 : Nat) (ds hs ks ns : Nat → Int32) : Prop :=
  ∃ (r : Int32) (ds' hs' ks' ns' : Nat → Int32) (aw' g' l' p' : Int32), m_X2_read_22 sg (nI c) f1 (nI i) ds hs ks ns (nI aw) (nI g) (nI l) (nI p) = some (r, ds', hs', ks', ns', aw', g', l', p') ∧ m_X8_faultOf_6 mp (nI c) f2 (nI aw) (nI g) (nI i) = some r ∧
    ((r = -6 ∧ ∃ P, p' = nI P ∧ g' = nI (cnt sg 63 c) ∧ cnt sg 63 c ≤ 4 ∧ l' = nI (cnt sg 46 c) ∧ PI sg c 0 P ds' hs' ks' ns') ∨ ∃ j, j ≤ c ∧ r = nI j)
theorem read_22s (sg : Nat → Int32) (c : Int32) (n : Nat) (v : Int32) (ds hs ks ns : Nat → Int32) (a b d e : Int32) : m_X2_read_22 sg c (n + 1) v ds hs ks ns a b d e = m_X2_read_22b (m_X2_read_22 sg c n) sg c v ds hs ks ns a b d e := rfl
theorem fault_6s (mp : Nat → Int32) (c : Int32) (n : Nat) (a b d : Int32) : m_X8_faultOf_6 mp c (n + 1) a b d = m_X8_faultOf_6b (m_X8_faultOf_6 mp c n) mp c a b d := rfl
set_option maxHeartbeats 4000000 in
theorem read_step {sg mp : Nat → Int32} {c : Nat} (hc : c ≤ 48) (hS : eqN 48 sg mp) : ∀ (d i : Nat), i + d = c → ∀ (f1 f2 aw g l p : Nat) (ds hs ks ns : Nat → Int32), d < f1 → d < f2 → aw ≤ 3 → g = cnt sg 63 i → g ≤ 4 → l = cnt sg 46 i → PI sg i aw p ds hs ks ns → RD sg mp c i aw g l p f1 f2 ds hs ks ns := by
  intro d
  induction d with
  | zero =>
    intro i hi f1 f2 aw g l p ds hs ks ns h1 h2 haw hg hg4 hl hI
    obtain ⟨f1, rfl⟩ : ∃ k, f1 = k + 1 := ⟨f1 - 1, by omega⟩
    obtain ⟨f2, rfl⟩ : ∃ k, f2 = k + 1 := ⟨f2 - 1, by omega⟩
    have : i = c := by omega
    subst this
    unfold RD
    simp only [read_22s, fault_6s]
    unfold m_X2_read_22b m_X2_read_57 m_X8_faultOf_6b
    have hle : nI i ≤ nI i := by rw [nI_leI (by omega) (by omega)]; omega
    rw [if_pos hle, if_pos hle]
    by_cases h0 : aw = 0
    · subst h0
      have z : nI 0 = 0 := rfl
      rw [if_pos z, if_pos z]
      exact ⟨_, _, _, _, _, _, _, _, _, rfl, rfl, Or.inl ⟨rfl, p, rfl, by rw [hg], by omega, by rw [hl], hI⟩⟩
    · have z : ¬ nI aw = 0 := nI_ne0 (by omega) (by omega)
      rw [if_neg z, if_neg z]
      exact ⟨_, _, _, _, _, _, _, _, _, rfl, rfl, Or.inr ⟨i, Nat.le_refl i, rfl⟩⟩
  | succ d ih =>
    intro i hi f1 f2 aw g l p ds hs ks ns h1 h2 haw hg hg4 hl hI
    obtain ⟨f1, rfl⟩ : ∃ k, f1 = k + 1 := ⟨f1 - 1, by omega⟩
    obtain ⟨f2, rfl⟩ : ∃ k, f2 = k + 1 := ⟨f2 - 1, by omega⟩
    obtain ⟨I1, I2, I3⟩ := hI
    have hp : p < 48 := by omega
    have n1 : ¬ nI c ≤ nI i := by rw [nI_leI (by omega) (by omega)]; omega
    have n2 : ¬ (48 : Int32) ≤ nI i := by rw [l48, nI_leI (by omega) (by omega)]; omega
    have hi48 : i < 48 := by omega
    have c63 : cnt sg 63 (i + 1) = cnt sg 63 i + (if sg i = 63 then 1 else 0) := rfl
    have c46 : cnt sg 46 (i + 1) = cnt sg 46 i + (if sg i = 46 then 1 else 0) := rfl
    have es : mp i = sg i := (hS i hi48).symm
    -- both loops stop here
    have stop : ∀ (q : Int32 × (Nat → Int32) × (Nat → Int32) × (Nat → Int32) × (Nat → Int32) × Int32 × Int32 × Int32 × Int32), m_X2_takes ds hs ks ns (nI aw) (nI g) (nI l) (nI p) (sg i) = some q → q.1 = 0 → m_X8_faultOf_6b (m_X8_faultOf_6 mp (nI c) f2) mp (nI c) (nI aw) (nI g) (nI i) = some (nI i) → RD sg mp c i aw g l p (f1 + 1) (f2 + 1) ds hs ks ns := by
      rintro ⟨q0, a1, a2, a3, a4, a5, a6, a7, a8⟩ hq h0 hm
      refine ⟨nI i, a1, a2, a3, a4, a5, a6, a7, a8, ?_, hm, Or.inr ⟨i, by omega, rfl⟩⟩
      rw [read_22s]
      unfold m_X2_read_22b
      rw [if_neg n1, if_neg n2, ogi_N hi48 (by omega), cl_N (by omega), hq, ogb_some, if_pos h0]
    -- both loops go on
    have go : ∀ (aw2 g2 l2 p2 : Nat) (ds2 hs2 ks2 ns2 : Nat → Int32), m_X2_takes ds hs ks ns (nI aw) (nI g) (nI l) (nI p) (sg i) = some (1, ds2, hs2, ks2, ns2, nI aw2, nI g2, nI l2, nI p2) → m_X8_faultOf_6b (m_X8_faultOf_6 mp (nI c) f2) mp (nI c) (nI aw) (nI g) (nI i) = m_X8_faultOf_6 mp (nI c) f2 (nI aw2) (nI g2) (nI (i + 1)) → aw2 ≤ 3 → g2 = cnt sg 63 (i + 1) → g2 ≤ 4 → l2 = cnt sg 46 (i + 1) → PI sg (i + 1) aw2 p2 ds2 hs2 ks2 ns2 → RD sg mp c i aw g l p (f1 + 1) (f2 + 1) ds hs ks ns := by
      intro aw2 g2 l2 p2 ds2 hs2 ks2 ns2 hq hm ha hg2 hg24 hl2 hI2
      obtain ⟨r, a1, a2, a3, a4, a5, a6, a7, a8, e1, e2, e3⟩ := ih (i + 1) (by omega) f1 f2 aw2 g2 l2 p2 ds2 hs2 ks2 ns2 (by omega) (by omega) ha hg2 hg24 hl2 hI2
      refine ⟨r, a1, a2, a3, a4, a5, a6, a7, a8, ?_, ?_, e3⟩
      · rw [read_22s]
        unfold m_X2_read_22b
        rw [if_neg n1, if_neg n2, ogi_N hi48 (by omega), cl_N (by omega), hq, ogb_some, if_neg (show ¬ (1 : Int32) = 0 by decide), ogl_def, nI_1]
        exact e1
      · rw [fault_6s, hm]; exact e2
    rcases I3 with ⟨rfl, hi0⟩ | ⟨rfl, hi1, hH, hh⟩ | ⟨rfl, hi1, h33⟩ | ⟨rfl, hi2, hH, hh, hN, hn⟩
    · -- a part begins
      have z : nI 0 = 0 := rfl
      have M : ∀ x, m_X8_faultOf_6b (m_X8_faultOf_6 mp (nI c) f2) mp (nI c) (nI 0) (nI g) (nI i) = x ↔ (if sg i = 63 then m_X8_faultOf_39 (m_X8_faultOf_6 mp (nI c) f2) mp (nI c) (nI i) (sg i) (nI g) 1 else m_X8_faultOf_39 (m_X8_faultOf_6 mp (nI c) f2) mp (nI c) (nI i) (sg i) (nI g) 0) = x := by
        intro x
        unfold m_X8_faultOf_6b
        rw [if_neg n1, ogi_N hi48 (by omega), ogl_def, cl_N (by omega), es, if_pos z]
      have T : ∀ q, m_X2_takesStart hs ks (nI 0) (nI g) (nI l) (nI p) (sg i) = some q → q.1 = 0 ∨ q.1 = 1 → m_X2_takes ds hs ks ns (nI 0) (nI g) (nI l) (nI p) (sg i) = some (q.1, ds, q.2.1, q.2.2.1, ns, q.2.2.2.1, q.2.2.2.2.1, q.2.2.2.2.2.1, q.2.2.2.2.2.2) := by
        intro q hq h01
        unfold m_X2_takes
        rw [if_pos z, hq, ogb_some, ogy_ok h01]
      have keepI : ∀ (k2 h2 : Nat → Int32), (∀ q, q < p → k2 q = ks q) → (∀ q, q < p → h2 q = hs q) → ∀ q, q < p → okP sg (ppos sg q) ∧ decP sg (ppos sg q) ds h2 k2 ns q := by
        intro k2 h2 e1 e2 q hq
        obtain ⟨a, b⟩ := I1 q hq
        refine ⟨a, ?_⟩
        unfold decP at *
        rw [e1 q hq, e2 q hq]
        exact b
      by_cases s46 : sg i = 46
      · have n63 : ¬ sg i = 63 := by rw [s46]; decide
        have tk : m_X2_takesStart hs ks (nI 0) (nI g) (nI l) (nI p) (sg i) = some (1, hs, upd ks p 2, 0, nI g, nI (l + 1), nI (p + 1)) := by
          unfold m_X2_takesStart
          rw [if_pos s46, ogl_def, close_N _ _ hp, ogb_some, nI_1]
        refine go 0 g (l + 1) (p + 1) ds hs (upd ks p 2) ns (T _ tk (Or.inr rfl)) ?_ (by omega) (by rw [c63, if_neg n63]; omega) hg4 (by rw [c46, if_pos s46]; omega) ⟨?_, by omega, Or.inl ⟨rfl, ?_⟩⟩
        · rw [M, if_neg n63]
          unfold m_X8_faultOf_39 m_X8_faultOf_79 m_X8_faultOf_84 m_X8_faultOf_109 m_X8_faultOf_156
          rw [ogl_def, if_pos s46, if_pos s46, if_neg (by decide), ogl_def, nI_1]
          have : nI g + 0 = nI g := Int32.add_zero _
          rw [this]
          rfl
        · intro q hq
          by_cases e : q = p
          · subst e
            rw [← hi0]
            exact ⟨Or.inl s46, by unfold pkd; rw [upd_s, if_pos s46], Or.inl s46, fun hh => absurd s46 hh.1⟩
          · exact keepI _ _ (fun q hq => upd_n _ _ (by omega)) (fun _ _ => rfl) q (by omega)
        · show i + 1 = ppos sg p + plen (sg (ppos sg p))
          rw [← hi0]; unfold plen; rw [if_pos s46]
      by_cases s33 : sg i = 33
      · have n63 : ¬ sg i = 63 := by rw [s33]; decide
        have tk : m_X2_takesStart hs ks (nI 0) (nI g) (nI l) (nI p) (sg i) = some (1, hs, ks, 3, nI g, nI l, nI p) := by
          unfold m_X2_takesStart
          rw [if_neg s46, if_pos s33]
        refine go 3 g l p ds hs ks ns (T _ tk (Or.inr rfl)) ?_ (by omega) (by rw [c63, if_neg n63]; omega) hg4 (by rw [c46, if_neg s46]; omega) ⟨I1, by omega, Or.inr (Or.inr (Or.inl ⟨rfl, by omega, by rw [← hi0]; exact s33⟩))⟩
        rw [M, if_neg n63]
        unfold m_X8_faultOf_39 m_X8_faultOf_79 m_X8_faultOf_84 m_X8_faultOf_109 m_X8_faultOf_156
        rw [ogl_def, if_neg s46, if_pos s33, if_neg s46, if_pos s33, if_neg (by decide), ogl_def, nI_1]
        have : nI g + 0 = nI g := Int32.add_zero _
        rw [this]
        rfl
      by_cases s63 : sg i = 63
      · have i8 : m_X8_in (sg i) 65 70 = some 0 := by rw [s63]; decide
        by_cases g4 : g = 4
        · subst g4
          have tk : m_X2_takesStart hs ks (nI 0) (nI 4) (nI l) (nI p) (sg i) = some (0, hs, ks, nI 0, nI 4, nI l, nI p) := by
            unfold m_X2_takesStart m_X2_takesStart_66
            rw [if_neg s46, if_neg s33, if_pos s63, if_pos (by decide), if_pos (by rw [s63]; decide)]
          refine stop _ (T _ tk (Or.inl rfl)) rfl ?_
          rw [M, if_pos s63]
          unfold m_X8_faultOf_39 m_X8_faultOf_83 m_X8_faultOf_84 m_X8_faultOf_109 m_X8_faultOf_156
          rw [ogl_def, if_neg s46, if_neg s33, i8, ogb_some, if_pos rfl, if_pos s63, if_pos (by decide), if_neg s46, if_neg s33, if_pos rfl]
        · have gl : g < 4 := by omega
          have tk : m_X2_takesStart hs ks (nI 0) (nI g) (nI l) (nI p) (sg i) = some (1, upd hs p (-1), ks, 1, nI (g + 1), nI l, nI p) := by
            unfold m_X2_takesStart
            rw [if_neg s46, if_neg s33, if_pos s63, if_neg (by rw [l4, nI_leI (by omega) (by omega)]; omega), ogl_def, start_N _ _ hp, ogb_some, ogy_ok (Or.inr rfl), nI_1]
          have hHs : isH (sg i) := ⟨s46, s33, Or.inl s63⟩
          refine go 1 (g + 1) l p ds (upd hs p (-1)) ks ns (T _ tk (Or.inr rfl)) ?_ (by omega) (by rw [c63, if_pos s63]; omega) (by omega) (by rw [c46, if_neg s46]; omega) ⟨keepI _ _ (fun _ _ => rfl) (fun q hq => upd_n _ _ (by omega)), by omega, Or.inr (Or.inl ⟨rfl, by omega, by rw [← hi0]; exact hHs, ?_⟩)⟩
          · rw [M, if_pos s63]
            unfold m_X8_faultOf_39 m_X8_faultOf_79 m_X8_faultOf_84 m_X8_faultOf_109 m_X8_faultOf_156
            rw [ogl_def, if_neg s46, if_neg s33, i8, ogb_some, if_pos rfl, if_pos s63, nI_1, if_neg (by rw [l4, nI_ltI (by omega) (by omega)]; omega), if_neg s46, if_neg s33, if_neg (by decide), ogl_def, nI_1]
            rfl
          · rw [upd_s, ← hi0]; unfold hOf; rw [if_pos s63]
      by_cases hHl : ¬ sg i < 65 ∧ ¬ 70 < sg i
      · have i8 : m_X8_in (sg i) 65 70 = some 1 := (in_L 65 70).1 hHl
        have tk : m_X2_takesStart hs ks (nI 0) (nI g) (nI l) (nI p) (sg i) = some (1, upd hs p (sg i - 65), ks, 1, nI g, nI l, nI p) := by
          unfold m_X2_takesStart m_X2_takesStart_66
          rw [if_neg s46, if_neg s33, if_neg s63, if_neg hHl.1, if_neg hHl.2, start_N _ _ hp, ogb_some, if_neg (show ¬ (1 : Int32) = 0 by decide)]
        have hHs : isH (sg i) := ⟨s46, s33, Or.inr hHl⟩
        refine go 1 g l p ds (upd hs p (sg i - 65)) ks ns (T _ tk (Or.inr rfl)) ?_ (by omega) (by rw [c63, if_neg s63]; omega) hg4 (by rw [c46, if_neg s46]; omega) ⟨keepI _ _ (fun _ _ => rfl) (fun q hq => upd_n _ _ (by omega)), by omega, Or.inr (Or.inl ⟨rfl, by omega, by rw [← hi0]; exact hHs, ?_⟩)⟩
        · rw [M, if_neg s63]
          unfold m_X8_faultOf_39 m_X8_faultOf_79 m_X8_faultOf_84 m_X8_faultOf_109 m_X8_faultOf_156
          rw [ogl_def, if_neg s46, if_neg s33, i8, ogb_some, if_neg (by decide), if_neg s46, if_neg s33, if_neg (by decide), ogl_def, nI_1]
          have : nI g + 0 = nI g := Int32.add_zero _
          rw [this]
          rfl
        · rw [upd_s, ← hi0]; unfold hOf; rw [if_neg s63]
      · have i8 : m_X8_in (sg i) 65 70 = some 0 := (in_L 65 70).2 hHl
        have tk : m_X2_takesStart hs ks (nI 0) (nI g) (nI l) (nI p) (sg i) = some (0, hs, ks, nI 0, nI g, nI l, nI p) := by
          unfold m_X2_takesStart m_X2_takesStart_66
          rw [if_neg s46, if_neg s33, if_neg s63]
          by_cases q : sg i < 65
          · rw [if_pos q]
          · rw [if_neg q, if_pos (Classical.byContradiction fun w => hHl ⟨q, w⟩)]
        refine stop _ (T _ tk (Or.inl rfl)) rfl ?_
        rw [M, if_neg s63]
        unfold m_X8_faultOf_39 m_X8_faultOf_83 m_X8_faultOf_84 m_X8_faultOf_109 m_X8_faultOf_156
        rw [ogl_def, if_neg s46, if_neg s33, i8, ogb_some, if_pos rfl, if_neg s63, if_neg s46, if_neg s33, if_pos rfl]
    · -- the name behind a hull
      have n0 : ¬ nI 1 = 0 := by decide
      have nn2 : ¬ nI 1 = 2 := by decide
      have e1 : nI 1 = 1 := rfl
      have n46 : ¬ sg i = 46 → cnt sg 46 (i + 1) = cnt sg 46 i := fun q => by rw [c46, if_neg q]; omega
      have n63 : ¬ sg i = 63 → cnt sg 63 (i + 1) = cnt sg 63 i := fun q => by rw [c63, if_neg q]; omega
      have M : m_X8_faultOf_6b (m_X8_faultOf_6 mp (nI c) f2) mp (nI c) (nI 1) (nI g) (nI i) = ogb (m_X8_in (sg i) 97 101) (fun q => m_X8_faultOf_155 (m_X8_faultOf_6 mp (nI c) f2) mp (nI c) (nI g) (nI i) q 2) := by
        unfold m_X8_faultOf_6b
        rw [if_neg n1, ogi_N hi48 (by omega), ogl_def, cl_N (by omega), es, if_neg n0, if_neg nn2]
        congr 1
      by_cases hN : isN (sg i)
      · have x46 : ¬ sg i = 46 := by intro e; rw [e] at hN; exact hN.1 (by decide)
        have x63 : ¬ sg i = 63 := by intro e; rw [e] at hN; exact hN.1 (by decide)
        have h101 : ¬ 101 < sg i := by have := hN.2; rw [Int32.le_iff_toInt_le] at this; rw [Int32.lt_iff_toInt_lt]; omega
        have tk : m_X2_takes ds hs ks ns (nI 1) (nI g) (nI l) (nI p) (sg i) = some (1, ds, hs, ks, upd ns p (sg i - 97), nI 2, nI g, nI l, nI p) := by
          unfold m_X2_takes m_X2_takesName
          rw [if_neg n0, if_neg nn2, if_neg hN.1, if_pos hN.2, put_N _ _ hp (by omega), ogb_some, if_pos e1, ogb_some, ogy_ok (Or.inr rfl)]
          rfl
        refine go 2 g l p ds hs ks (upd ns p (sg i - 97)) tk ?_ (by omega) (by rw [n63 x63]; omega) hg4 (by rw [n46 x46]; omega) ⟨?_, by omega, Or.inr (Or.inr (Or.inr ⟨rfl, by omega, hH, hh, by rw [← hi1]; exact hN, by rw [upd_s, hi1]⟩))⟩
        · rw [M, (in_L 97 101).1 ⟨hN.1, h101⟩, ogb_some]
          unfold m_X8_faultOf_155 m_X8_faultOf_156
          rw [if_neg (by decide), ogl_def, nI_1]
          rfl
        · intro q hq
          obtain ⟨a, b⟩ := I1 q hq
          refine ⟨a, ?_⟩
          unfold decP at *
          rw [upd_n _ _ (show q ≠ p by omega)]
          exact b
      · have tk : m_X2_takes ds hs ks ns (nI 1) (nI g) (nI l) (nI p) (sg i) = some (0, ds, hs, ks, ns, nI 1, nI g, nI l, nI p) := by
          unfold m_X2_takes m_X2_takesName
          rw [if_neg n0, if_neg nn2]
          by_cases q : sg i < 97
          · rw [if_pos q, ogb_some, ogy_ok (Or.inl rfl)]
          · rw [if_neg q, if_neg (fun w => hN ⟨q, w⟩), ogb_some, ogy_ok (Or.inl rfl)]
        refine stop _ tk rfl ?_
        have hx : ¬ (¬ sg i < 97 ∧ ¬ 101 < sg i) := fun w => hN ⟨w.1, by have := w.2; rw [Int32.lt_iff_toInt_lt] at this; rw [Int32.le_iff_toInt_le]; omega⟩
        rw [M, (in_L 97 101).2 hx, ogb_some]
        unfold m_X8_faultOf_155 m_X8_faultOf_156
        rw [if_pos rfl]
    · -- the name behind a !
      have n0 : ¬ nI 3 = 0 := by decide
      have nn2 : ¬ nI 3 = 2 := by decide
      have n1' : ¬ nI 3 = 1 := by decide
      have n46 : ¬ sg i = 46 → cnt sg 46 (i + 1) = cnt sg 46 i := fun q => by rw [c46, if_neg q]; omega
      have n63 : ¬ sg i = 63 → cnt sg 63 (i + 1) = cnt sg 63 i := fun q => by rw [c63, if_neg q]; omega
      have M : m_X8_faultOf_6b (m_X8_faultOf_6 mp (nI c) f2) mp (nI c) (nI 3) (nI g) (nI i) = ogb (m_X8_in (sg i) 97 101) (fun q => m_X8_faultOf_155 (m_X8_faultOf_6 mp (nI c) f2) mp (nI c) (nI g) (nI i) q 0) := by
        unfold m_X8_faultOf_6b
        rw [if_neg n1, ogi_N hi48 (by omega), ogl_def, cl_N (by omega), es, if_neg n0, if_neg nn2]
        congr 1
      by_cases hN : isN (sg i)
      · have x46 : ¬ sg i = 46 := by intro e; rw [e] at hN; exact hN.1 (by decide)
        have x63 : ¬ sg i = 63 := by intro e; rw [e] at hN; exact hN.1 (by decide)
        have h101 : ¬ 101 < sg i := by have := hN.2; rw [Int32.le_iff_toInt_le] at this; rw [Int32.lt_iff_toInt_lt]; omega
        have tk : m_X2_takes ds hs ks ns (nI 3) (nI g) (nI l) (nI p) (sg i) = some (1, ds, hs, upd ks p 1, upd ns p (sg i - 97), nI 0, nI g, nI l, nI (p + 1)) := by
          unfold m_X2_takes m_X2_takesName
          rw [if_neg n0, if_neg nn2, if_neg hN.1, if_pos hN.2, put_N _ _ hp (by omega), ogb_some, if_neg n1', close_N _ _ hp, ogb_some, ogb_some, ogy_ok (Or.inr rfl)]
          rfl
        refine go 0 g l (p + 1) ds hs (upd ks p 1) (upd ns p (sg i - 97)) tk ?_ (by omega) (by rw [n63 x63]; omega) hg4 (by rw [n46 x46]; omega) ⟨?_, by omega, Or.inl ⟨rfl, ?_⟩⟩
        · rw [M, (in_L 97 101).1 ⟨hN.1, h101⟩, ogb_some]
          unfold m_X8_faultOf_155 m_X8_faultOf_156
          rw [if_neg (by decide), ogl_def, nI_1]
          rfl
        · intro q hq
          by_cases e : q = p
          · subst e
            refine ⟨Or.inr (Or.inl ⟨h33, by rw [← hi1]; exact hN⟩), ?_, Or.inr (by rw [upd_s, hi1]), fun hh => absurd h33 hh.2.1⟩
            rw [upd_s]; unfold pkd; rw [h33]; decide
          · obtain ⟨a, b⟩ := I1 q (by omega)
            refine ⟨a, ?_⟩
            unfold decP at *
            rw [upd_n _ _ e, upd_n _ _ e]
            exact b
        · show i + 1 = ppos sg p + plen (sg (ppos sg p))
          unfold plen
          rw [h33, if_neg (by decide), if_pos rfl]
          omega
      · have tk : m_X2_takes ds hs ks ns (nI 3) (nI g) (nI l) (nI p) (sg i) = some (0, ds, hs, ks, ns, nI 3, nI g, nI l, nI p) := by
          unfold m_X2_takes m_X2_takesName
          rw [if_neg n0, if_neg nn2]
          by_cases q : sg i < 97
          · rw [if_pos q, ogb_some, ogy_ok (Or.inl rfl)]
          · rw [if_neg q, if_neg (fun w => hN ⟨q, w⟩), ogb_some, ogy_ok (Or.inl rfl)]
        refine stop _ tk rfl ?_
        have hx : ¬ (¬ sg i < 97 ∧ ¬ 101 < sg i) := fun w => hN ⟨w.1, by have := w.2; rw [Int32.lt_iff_toInt_lt] at this; rw [Int32.le_iff_toInt_le]; omega⟩
        rw [M, (in_L 97 101).2 hx, ogb_some]
        unfold m_X8_faultOf_155 m_X8_faultOf_156
        rw [if_pos rfl]
    · -- the days
      have n0 : ¬ nI 2 = 0 := by decide
      have y2 : nI 2 = 2 := rfl
      have n46 : ¬ sg i = 46 → cnt sg 46 (i + 1) = cnt sg 46 i := fun q => by rw [c46, if_neg q]; omega
      have n63 : ¬ sg i = 63 → cnt sg 63 (i + 1) = cnt sg 63 i := fun q => by rw [c63, if_neg q]; omega
      have M : m_X8_faultOf_6b (m_X8_faultOf_6 mp (nI c) f2) mp (nI c) (nI 2) (nI g) (nI i) = ogb (m_X8_in (sg i) 49 57) (fun q => m_X8_faultOf_156 (m_X8_faultOf_6 mp (nI c) f2) mp (nI c) 0 (nI g) (nI i) q) := by
        unfold m_X8_faultOf_6b
        rw [if_neg n1, ogi_N hi48 (by omega), ogl_def, cl_N (by omega), es, if_neg n0, if_pos y2]
      by_cases hD : isD (sg i)
      · have x46 : ¬ sg i = 46 := by intro e; rw [e] at hD; exact hD.1 (by decide)
        have x63 : ¬ sg i = 63 := by intro e; rw [e] at hD; exact absurd hD.2 (by decide)
        have h57 : ¬ 57 < sg i := by have := hD.2; rw [Int32.le_iff_toInt_le] at this; rw [Int32.lt_iff_toInt_lt]; omega
        have tk : m_X2_takes ds hs ks ns (nI 2) (nI g) (nI l) (nI p) (sg i) = some (1, upd ds p (sg i - 48), hs, upd ks p 0, ns, nI 0, nI g, nI l, nI (p + 1)) := by
          unfold m_X2_takes m_X2_takesDays
          rw [if_neg n0, if_pos y2, if_neg hD.1, if_pos hD.2, put_N _ _ hp (by omega), ogb_some, close_N _ _ hp, ogb_some, ogb_some, ogy_ok (Or.inr rfl)]
          rfl
        refine go 0 g l (p + 1) (upd ds p (sg i - 48)) hs (upd ks p 0) ns tk ?_ (by omega) (by rw [n63 x63]; omega) hg4 (by rw [n46 x46]; omega) ⟨?_, by omega, Or.inl ⟨rfl, ?_⟩⟩
        · rw [M, (in_L 49 57).1 ⟨hD.1, h57⟩, ogb_some]
          unfold m_X8_faultOf_156
          rw [if_neg (by decide), ogl_def, nI_1]
          rfl
        · intro q hq
          by_cases e : q = p
          · subst e
            refine ⟨Or.inr (Or.inr ⟨hH, hN, by rw [← hi2]; exact hD⟩), ?_, Or.inr hn, fun _ => ⟨hh, by rw [upd_s, hi2]⟩⟩
            rw [upd_s]; unfold pkd; rw [if_neg hH.1, if_neg hH.2.1]
          · obtain ⟨a, b⟩ := I1 q (by omega)
            refine ⟨a, ?_⟩
            unfold decP at *
            rw [upd_n _ _ e, upd_n _ _ e]
            exact b
        · show i + 1 = ppos sg p + plen (sg (ppos sg p))
          unfold plen
          rw [if_neg hH.1, if_neg hH.2.1]
          omega
      · have tk : m_X2_takes ds hs ks ns (nI 2) (nI g) (nI l) (nI p) (sg i) = some (0, ds, hs, ks, ns, nI 2, nI g, nI l, nI p) := by
          unfold m_X2_takes m_X2_takesDays
          rw [if_neg n0, if_pos y2]
          by_cases q : sg i < 49
          · rw [if_pos q, ogb_some, ogy_ok (Or.inl rfl)]
          · rw [if_neg q, if_neg (fun w => hD ⟨q, w⟩), ogb_some, ogy_ok (Or.inl rfl)]
        refine stop _ tk rfl ?_
        have hx : ¬ (¬ sg i < 49 ∧ ¬ 57 < sg i) := fun w => hD ⟨w.1, by have := w.2; rw [Int32.lt_iff_toInt_lt] at this; rw [Int32.le_iff_toInt_le]; omega⟩
        rw [M, (in_L 49 57).2 hx, ogb_some]
        unfold m_X8_faultOf_156
        rw [if_pos rfl]
/-- what the reading gives: the fault; where there is none, the parts -/
theorem read_all {sg mp : Nat → Int32} {c : Nat} (hc : c ≤ 48) (hS : eqN 48 sg mp) (ds hs ks ns : Nat → Int32) (a b d e : Int32) : ∃ (r : Int32) (ds' hs' ks' ns' : Nat → Int32) (aw' g' l' p' : Int32), m_X2_read sg (nI c) ds hs ks ns a b d e = some (r, ds', hs', ks', ns', aw', g', l', p') ∧ m_X8_faultOf mp (nI c) = some r ∧
    ((r = -6 ∧ ∃ P, p' = nI P ∧ g' = nI (cnt sg 63 c) ∧ cnt sg 63 c ≤ 4 ∧ l' = nI (cnt sg 46 c) ∧ PI sg c 0 P ds' hs' ks' ns') ∨ ∃ j, j ≤ c ∧ r = nI j) :=
  read_step hc hS c 0 (by omega) 1000000 1000000 0 0 0 0 ds hs ks ns (by omega) (by omega) (by omega) rfl (by omega) rfl ⟨fun q h => absurd h (by omega), by omega, Or.inl ⟨rfl, rfl⟩⟩
