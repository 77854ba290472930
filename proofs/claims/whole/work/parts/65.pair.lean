-- who would leave a giving
def pfz (w : Nat → Int32) (c h n : Nat) : Bool := if dg c h = 5 then true else lkz w h n (dg c h)
def npz (rk : Nat → Int32) (c n h : Nat) : Bool := if hd c n 6 = -6 then true else decide (plz rk n h < plz rk n (hd c n 6).toNatClampNeg)
theorem PF {w w' : Nat → Int32} (hw : rng 30 99 w) (hE : eqN 30 w w') {c h n : Nat} (hh : h < 6) (hn : n < 5) : m_X1_hullPrefers w (nI h) (nI n) (gv c h) = some (flg2 (pfz w c h n)) ∧ m_X8_likes w' (nI h) (nI n) (gv c h) = some (flg2 (pfz w c h n)) := by
  unfold gv pfz
  have := dg_lt c h
  by_cases q : dg c h = 5
  · rw [if_pos q, if_pos q]
    exact prefs_no w w' _ _
  · rw [if_neg q, if_neg q]
    exact prefs_N hw hE hh hn (by omega)
theorem NP {rk rk' : Nat → Int32} (hr : ∀ j, j < 5 → rowOK (rk j)) (hE : eqN 5 rk rk') {c h n : Nat} (hn : n < 5) (hh : h < 6) : m_X1_namePrefers rk (nI n) (nI h) (hd c n 6) = some (flg2 (npz rk c n h)) ∧ m_X8_likesHull rk' (nI n) (nI h) (hd c n 6) = some (flg2 (npz rk c n h)) := by
  unfold npz
  rcases hd_rg c n 6 with e | ⟨o, ho, -, e, -⟩
  · rw [if_pos e, e]
    exact npref_no rk rk' _ _
  · rw [if_neg (by rw [e]; exact nI_n6 (by omega)), e, cl_N (by omega)]
    exact npref_N hr hE hn hh ho
theorem fp_10s (k2 : Int32 → Option Int32) (cA hO nO rk w : Nat → Int32) (n : Nat) (a b : Int32) : m_X1_firstPair_10 k2 cA hO nO rk w (n + 1) a b = m_X1_firstPair_10b k2 (m_X1_firstPair_10 k2 cA hO nO rk w n) cA hO nO rk w a b := rfl
theorem fp_2s (cA hO nO rk w : Nat → Int32) (n : Nat) (a : Int32) : m_X1_firstPair_2 cA hO nO rk w (n + 1) a = m_X1_firstPair_2b (m_X1_firstPair_2 cA hO nO rk w n) cA hO nO rk w a := rfl
theorem lv_47s (k37 : Int32 → Int32 → Int32 → Int32 → (Nat → Int32) → Option (Int32 × ((Nat → Int32)))) (mm rk w : Nat → Int32) (n : Nat) (a b c d e : Int32) (g : Nat → Int32) : m_X8_leave_47 k37 mm rk w (n + 1) a b c d e g = m_X8_leave_47b k37 (m_X8_leave_47 k37 mm rk w n) mm rk w a b c d e g := rfl
theorem lv_37s (mm rk w : Nat → Int32) (n : Nat) (a b c d : Int32) (g : Nat → Int32) : m_X8_leave_37 mm rk w (n + 1) a b c d g = m_X8_leave_37b (m_X8_leave_37 mm rk w n) mm rk w a b c d g := rfl
def cnd (may rk w : Nat → Int32) (H N c h n : Nat) : Bool := (chz may H N h).testBit n && (pfz w c h n && npz rk c n h)
/-- all that both sides of a giving agree on -/
def BOTH (may mm rk rk' w w' cA hO nO g : Nat → Int32) (H N c : Nat) : Prop :=
  rng 6 31 may ∧ eqN 6 may mm ∧ rng 30 99 w ∧ eqN 30 w w' ∧ (∀ j, j < 5 → rowOK (rk j)) ∧ eqN 5 rk rk' ∧ H < 64 ∧ N < 32 ∧ (∀ j, j < 6 → cA j = nI (chz may H N j)) ∧ (∀ j, j < 6 → nO j = gv c j) ∧ (∀ n, n < 5 → hO n = hd c n 6) ∧ (∀ j, j < 6 → g j = gv c j) ∧ okZ (chz may H N) c 6 = true
theorem fp_step {may mm rk rk' w w' cA hO nO g : Nat → Int32} {H N c : Nat} (B : BOTH may mm rk rk' w w' cA hO nO g H N c) {h n : Nat} (hh : h < 6) (hn : n < 5) (k2 : Int32 → Option Int32) (f : Nat) :
    m_X1_firstPair_10 k2 cA hO nO rk w (f + 1) (nI h) (nI n) = if cnd may rk w H N c h n then some (nI (h * 5 + n)) else m_X1_firstPair_10 k2 cA hO nO rk w f (nI h) (nI (n + 1)) := by
  obtain ⟨hm, hEm, hw, hEw, hr, hEr, hH, hN, hA, hnO, hhO, hg, ok⟩ := B
  have hcl := chz_lt hm (H := H) (N := N) hh
  rw [fp_10s]
  unfold m_X1_firstPair_10b m_X1_firstPair_64 cnd
  have i6 : ∀ {α : Type} (z : Option α), ogi (nI h) 6 z = z := fun z => ogi_N hh (by omega)
  have i5 : ∀ {α : Type} (z : Option α), ogi (nI n) 5 z = z := fun z => ogi_N hn (by omega)
  simp only [i6, i5, cl_N (show h < 2 ^ 31 by omega), cl_N (show n < 2 ^ 31 by omega), ogl_def, nI_1]
  rw [if_neg (by rw [l5, nI_leI (by omega) (by omega)]; omega), hA h hh, hb7 (by omega) (by omega), ogb_some, hnO h hh, (PF hw hEw hh hn).1, hhO n hn, (NP hr hEr hn hh).1, l5, pk_mul, nI_add]
  simp only [ogb_some]
  generalize (chz may H N h).testBit n = A
  generalize pfz w c h n = F
  generalize npz rk c n h = G
  unfold flg2
  cases A <;> cases F <;> cases G <;> rfl
theorem lv_step {may mm rk rk' w w' cA hO nO g : Nat → Int32} {H N c : Nat} (B : BOTH may mm rk rk' w w' cA hO nO g H N c) {h n : Nat} (hh : h < 6) (hn : n < 5) (k37 : Int32 → Int32 → Int32 → Int32 → (Nat → Int32) → Option (Int32 × ((Nat → Int32)))) (f : Nat) (v4 : Int32) :
    m_X8_leave_47 k37 mm rk' w' (f + 1) (nI H) (nI N) v4 (nI h) (nI n) g = if cnd may rk w H N c h n then some ((if v4 = 0 then nI h else nI n), g) else m_X8_leave_47 k37 mm rk' w' f (nI H) (nI N) v4 (nI h) (nI (n + 1)) g := by
  obtain ⟨hm, hEm, hw, hEw, hr, hEr, hH, hN, hA, hnO, hhO, hg, ok⟩ := B
  have em : mm h = nI (nV may h) ∧ nV may h ≤ 31 := by
    rw [← hEm _ hh]
    exact nV_of (by omega) hm hh
  obtain ⟨em, em31⟩ := em
  rw [lv_47s]
  unfold m_X8_leave_47b m_X8_leave_95 m_X8_leave_96 m_X8_leave_151 cnd
  have i6 : ∀ {α : Type} (z : Option α), ogi (nI h) 6 z = z := fun z => ogi_N hh (by omega)
  simp only [i6, cl_N (show h < 2 ^ 31 by omega), ogl_def, nI_1]
  have hd6 := dg_lt c h
  have hlN : N &&& nV may h < 32 := and_lt hN
  rw [if_neg (by rw [l5, nI_leI (by omega) (by omega)]; omega), hb8 hH hh, ogb_some, em, fa_and, hb8 (show N &&& nV may h < 64 by omega) (show n < 6 by omega), ogb_some, hg h hh, (PF hw hEw hh hn).2, hol_N hg hn ok, ogb_some, chz_bit, Nat.testBit_and]
  simp only [ogb_some]
  rw [(NP hr hEr hn hh).2]
  simp only [ogb_some]
  have ge : gv c h = nI n → pfz w c h n = false := by
    unfold gv pfz
    by_cases q : dg c h = 5
    · rw [if_pos q]; exact fun e => absurd e.symm (nI_n6 (by omega))
    · rw [if_neg q, if_neg q]
      intro e
      have := (nI_eq (by omega) (by omega)).mp e
      rw [this]
      exact decide_eq_false (by omega)
  generalize H.testBit h = A
  generalize N.testBit n = X
  generalize (nV may h).testBit n = Y
  generalize npz rk c n h = G
  generalize pfz w c h n = F at *
  by_cases q : gv c h = nI n
  · rw [ge q, if_pos q]
    unfold flg2
    cases A <;> cases X <;> cases Y <;> rfl
  · rw [if_neg q]
    unfold flg2
    by_cases z : v4 = 0
    · rw [if_pos z, if_pos z]
      cases A <;> cases X <;> cases Y <;> cases F <;> cases G <;> rfl
    · rw [if_neg z, if_neg z]
      cases A <;> cases X <;> cases Y <;> cases F <;> cases G <;> rfl
theorem pair_in {may mm rk rk' w w' cA hO nO g : Nat → Int32} {H N c : Nat} (B : BOTH may mm rk rk' w w' cA hO nO g H N c) {h : Nat} (hh : h < 6) : ∀ (m n : Nat), n + m = 5 → ∀ (f1 f2 : Nat), m < f1 → m < f2 →
    (∃ n0, n0 < 5 ∧ (∀ k2, m_X1_firstPair_10 k2 cA hO nO rk w f1 (nI h) (nI n) = some (nI (h * 5 + n0))) ∧ ∀ (k37 : Int32 → Int32 → Int32 → Int32 → (Nat → Int32) → Option (Int32 × ((Nat → Int32)))) (v4 : Int32), m_X8_leave_47 k37 mm rk' w' f2 (nI H) (nI N) v4 (nI h) (nI n) g = some ((if v4 = 0 then nI h else nI n0), g)) ∨
    ((∀ k2, m_X1_firstPair_10 k2 cA hO nO rk w f1 (nI h) (nI n) = k2 (nI (h + 1))) ∧ ∀ (k37 : Int32 → Int32 → Int32 → Int32 → (Nat → Int32) → Option (Int32 × ((Nat → Int32)))) (v4 : Int32), m_X8_leave_47 k37 mm rk' w' f2 (nI H) (nI N) v4 (nI h) (nI n) g = k37 (nI H) (nI N) v4 (nI (h + 1)) g) := by
  intro m
  induction m with
  | zero =>
    intro n hn f1 f2 h1 h2
    obtain ⟨f1, rfl⟩ : ∃ z, f1 = z + 1 := ⟨f1 - 1, by omega⟩
    obtain ⟨f2, rfl⟩ : ∃ z, f2 = z + 1 := ⟨f2 - 1, by omega⟩
    have : n = 5 := by omega
    subst this
    refine Or.inr ⟨fun k2 => ?_, fun k37 v4 => ?_⟩
    · rw [fp_10s]; unfold m_X1_firstPair_10b; rw [if_pos (by decide), ogl_def, nI_1]
    · rw [lv_47s]; unfold m_X8_leave_47b; rw [if_pos (by decide), ogl_def, nI_1]
  | succ m ih =>
    intro n hn f1 f2 h1 h2
    obtain ⟨f1, rfl⟩ : ∃ z, f1 = z + 1 := ⟨f1 - 1, by omega⟩
    obtain ⟨f2, rfl⟩ : ∃ z, f2 = z + 1 := ⟨f2 - 1, by omega⟩
    have hn5 : n < 5 := by omega
    by_cases q : cnd may rk w H N c h n = true
    · refine Or.inl ⟨n, hn5, fun k2 => ?_, fun k37 v4 => ?_⟩
      · rw [fp_step B hh hn5, if_pos q]
      · rw [lv_step B hh hn5, if_pos q]
    · rcases ih (n + 1) (by omega) f1 f2 (by omega) (by omega) with ⟨n0, h0, e1, e2⟩ | ⟨e1, e2⟩
      · refine Or.inl ⟨n0, h0, fun k2 => ?_, fun k37 v4 => ?_⟩
        · rw [fp_step B hh hn5, if_neg q]; exact e1 k2
        · rw [lv_step B hh hn5, if_neg q]; exact e2 k37 v4
      · refine Or.inr ⟨fun k2 => ?_, fun k37 v4 => ?_⟩
        · rw [fp_step B hh hn5, if_neg q]; exact e1 k2
        · rw [lv_step B hh hn5, if_neg q]; exact e2 k37 v4
theorem pair_out {may mm rk rk' w w' cA hO nO g : Nat → Int32} {H N c : Nat} (B : BOTH may mm rk rk' w w' cA hO nO g H N c) (v4 : Int32) : ∀ (m h : Nat), h + m = 6 → ∀ (f1 f2 : Nat), m < f1 → m < f2 →
    (∃ h0 n0, h0 < 6 ∧ n0 < 5 ∧ m_X1_firstPair_2 cA hO nO rk w f1 (nI h) = some (nI (h0 * 5 + n0)) ∧ m_X8_leave_37 mm rk' w' f2 (nI H) (nI N) v4 (nI h) g = some ((if v4 = 0 then nI h0 else nI n0), g)) ∨
    (m_X1_firstPair_2 cA hO nO rk w f1 (nI h) = some (-6) ∧ m_X8_leave_37 mm rk' w' f2 (nI H) (nI N) v4 (nI h) g = some (-6, g)) := by
  intro m
  induction m with
  | zero =>
    intro h hh f1 f2 h1 h2
    obtain ⟨f1, rfl⟩ : ∃ z, f1 = z + 1 := ⟨f1 - 1, by omega⟩
    obtain ⟨f2, rfl⟩ : ∃ z, f2 = z + 1 := ⟨f2 - 1, by omega⟩
    have : h = 6 := by omega
    subst this
    refine Or.inr ⟨?_, ?_⟩
    · rw [fp_2s]; unfold m_X1_firstPair_2b; rw [if_pos (by decide)]
    · rw [lv_37s]; unfold m_X8_leave_37b; rw [if_pos (by decide)]
  | succ m ih =>
    intro h hh f1 f2 h1 h2
    obtain ⟨f1, rfl⟩ : ∃ z, f1 = z + 1 := ⟨f1 - 1, by omega⟩
    obtain ⟨f2, rfl⟩ : ∃ z, f2 = z + 1 := ⟨f2 - 1, by omega⟩
    have h6 : h < 6 := by omega
    have n6 : ¬ (6 : Int32) ≤ nI h := by rw [l6, nI_leI (by omega) (by omega)]; omega
    have z0' : (0 : Int32) = nI 0 := rfl
    rw [fp_2s, lv_37s]
    unfold m_X1_firstPair_2b m_X8_leave_37b
    rw [if_neg n6, if_neg n6, z0']
    rcases pair_in B h6 5 0 (by omega) 1000000 1000000 (by omega) (by omega) with ⟨n0, h0, e1, e2⟩ | ⟨e1, e2⟩
    · exact Or.inl ⟨h, n0, h6, h0, e1 _, e2 _ v4⟩
    · rw [e1, e2]
      exact ih (h + 1) (by omega) f1 f2 (by omega) (by omega)
