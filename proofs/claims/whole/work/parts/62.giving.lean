-- givings: bits, choice, liking, places
theorem hb_all : ∀ B : Fin 64, ∀ n : Fin 6, m_X7_hasBit (nI B.val) (nI n.val) = some (if B.val.testBit n.val then 1 else 0) ∧ m_X8_has (nI B.val) (nI n.val) = some (if B.val.testBit n.val then 1 else 0) := by decide +kernel
theorem hb7 {B n : Nat} (hB : B < 64) (hn : n < 6) : m_X7_hasBit (nI B) (nI n) = some (if B.testBit n then 1 else 0) := (hb_all ⟨B, hB⟩ ⟨n, hn⟩).1
theorem hb8 {B n : Nat} (hB : B < 64) (hn : n < 6) : m_X8_has (nI B) (nI n) = some (if B.testBit n then 1 else 0) := (hb_all ⟨B, hB⟩ ⟨n, hn⟩).2
def clr (F n : Nat) : Nat := if F.testBit n then F - 2 ^ n else F
theorem clr_all : ∀ F : Fin 32, ∀ n : Fin 5, (nI F.val &&& (((1 : Int32) <<< ((nI n.val) &&& 31)) ^^^ (-1)) = nI (clr F.val n.val) ∧ clr F.val n.val < 32) ∧ ∀ m : Fin 5, (clr F.val n.val).testBit m.val = (F.val.testBit m.val && !decide (m.val = n.val)) := by decide +kernel
theorem clr_N {F n : Nat} (hF : F < 32) (hn : n < 5) : nI F &&& (((1 : Int32) <<< ((nI n) &&& 31)) ^^^ (-1)) = nI (clr F n) := (clr_all ⟨F, hF⟩ ⟨n, hn⟩).1.1
theorem clr_lt {F n : Nat} (hF : F < 32) (hn : n < 5) : clr F n < 32 := (clr_all ⟨F, hF⟩ ⟨n, hn⟩).1.2
theorem clr_bit {F n m : Nat} (hF : F < 32) (hn : n < 5) (hm : m < 5) : (clr F n).testBit m = (F.testBit m && !decide (m = n)) := (clr_all ⟨F, hF⟩ ⟨n, hn⟩).2 ⟨m, hm⟩
def sbt (S n : Nat) : Nat := S ||| 2 ^ n
theorem sbt_all : ∀ F : Fin 32, ∀ n : Fin 5, (nI F.val ||| ((1 : Int32) <<< ((nI n.val) &&& 31)) = nI (sbt F.val n.val) ∧ sbt F.val n.val < 32) ∧ ∀ m : Fin 5, (sbt F.val n.val).testBit m.val = (F.val.testBit m.val || decide (m.val = n.val)) := by decide +kernel
theorem sbt_N {F n : Nat} (hF : F < 32) (hn : n < 5) : nI F ||| ((1 : Int32) <<< ((nI n) &&& 31)) = nI (sbt F n) := (sbt_all ⟨F, hF⟩ ⟨n, hn⟩).1.1
theorem sbt_lt {F n : Nat} (hF : F < 32) (hn : n < 5) : sbt F n < 32 := (sbt_all ⟨F, hF⟩ ⟨n, hn⟩).1.2
theorem sbt_bit {F n m : Nat} (hF : F < 32) (hn : n < 5) (hm : m < 5) : (sbt F n).testBit m = (F.testBit m || decide (m = n)) := (sbt_all ⟨F, hF⟩ ⟨n, hn⟩).2 ⟨m, hm⟩
theorem bits0_all : ∀ F : Fin 32, (∀ m : Fin 5, F.val.testBit m.val = false) → F.val = 0 := by decide +kernel
theorem bits0 {F : Nat} (hF : F < 32) (h : ∀ m, m < 5 → F.testBit m = false) : F = 0 := bits0_all ⟨F, hF⟩ (fun m => h m.val m.isLt)
theorem and_lt {A B : Nat} (hA : A < 32) : A &&& B < 32 := Nat.lt_of_le_of_lt Nat.and_le_left hA
def nV (f : Nat → Int32) (j : Nat) : Nat := (f j).toNatClampNeg
theorem nV_of {n M : Nat} {f : Nat → Int32} (hM : M < 2 ^ 31) (h : rng n M f) {j : Nat} (hj : j < n) : f j = nI (nV f j) ∧ nV f j ≤ M := by
  obtain ⟨k, hk, e⟩ := h j hj
  have : nV f j = k := by unfold nV; rw [e]; exact cl_N (by omega)
  rw [this]
  exact ⟨e, hk⟩
/-- the names that a hull may get -/
def chz (may : Nat → Int32) (H N j : Nat) : Nat := if H.testBit j then nV may j &&& N else 0
theorem chz_lt {may : Nat → Int32} (hm : rng 6 31 may) {H N j : Nat} (hj : j < 6) : chz may H N j < 32 := by
  unfold chz
  by_cases c : H.testBit j = true
  · rw [if_pos c]; exact and_lt (by have := (nV_of (by omega) hm hj).2; omega)
  · rw [if_neg c]; omega
theorem open_2s (may : Nat → Int32) (n : Nat) (a b c : Int32) (x y z : Nat → Int32) : m_X1_open_2 may (n + 1) a b c x y z = m_X1_open_2b (m_X1_open_2 may n) may a b c x y z := rfl
theorem open_N {may : Nat → Int32} (hm : rng 6 31 may) {H N : Nat} (hH : H < 64) (hN : N < 32) (cf hO nO : Nat → Int32) : m_X1_open may cf hO nO (nI H) (nI N) = some (prg (fun j => nI (chz may H N j)) cf 6, cst (-6) 5 hO, cst (-6) 6 nO) := by
  have key := loop_up (fun fuel i => m_X1_open_2 may fuel (nI H) (nI N) (nI i) (prg (fun j => nI (chz may H N j)) cf i) hO nO = some (prg (fun j => nI (chz may H N j)) cf 6, cst (-6) 5 hO, cst (-6) 6 nO)) 6
    (fun fuel => by
      rw [open_2s]
      unfold m_X1_open_2b
      rw [if_pos (by decide), fill_prg (show 6 ≤ 100000 by omega), ogb_some, fill_prg (show 5 ≤ 100000 by omega), ogb_some]
      rfl)
    (fun fuel i hi ih => by
      rw [open_2s]
      unfold m_X1_open_2b m_X1_open_38
      obtain ⟨e1, e2⟩ := nV_of (by omega) hm hi
      rw [if_neg (by rw [l6, nI_leI (by omega) (by omega)]; omega), hb7 hH hi, ogb_some]
      rw [← prg_s (fun j => nI (chz may H N j))] at ih
      have ec : chz may H N i = if H.testBit i then nV may i &&& N else 0 := rfl
      have z : (0 : Int32) = nI 0 := rfl
      simp only [ogi_N hi (show 6 < 2 ^ 31 by omega), ogl_def, nI_1, cl_N (show i < 2 ^ 31 by omega)]
      by_cases c : H.testBit i = true
      · rw [if_pos c, if_neg (by decide), at_N may hi (by omega), ogb_some, e1, fa_and]
        rw [if_pos c] at ec
        rw [← ec]
        exact ih
      · rw [if_neg c, if_pos rfl]
        rw [if_neg c] at ec
        have e0 : (0 : Int32) = nI (chz may H N i) := by rw [ec]; rfl
        rw [e0]
        exact ih)
  have h := key 0 (Nat.zero_le _) 1000000 (by omega)
  rw [prg_0] at h
  exact h
theorem bits_cases (a b : Int32) : (∃ H N, H < 64 ∧ N < 32 ∧ a = nI H ∧ b = nI N ∧ m_X7_areBits a b = some 1 ∧ m_X8_areSets a b = some 1) ∨ (m_X7_areBits a b = some 0 ∧ m_X8_areSets a b = some 0) := by
  have e : m_X8_areSets a b = m_X7_areBits a b := rfl
  have i1 : ¬ (1 : Int32) = 0 := by decide
  rw [e]
  unfold m_X7_areBits
  rcases with_cases a 63 (by omega) with ⟨H, hH, rfl, h1⟩ | ⟨h1, -⟩
  · have h1' : m_X7_isWithin (nI H) 0 63 = some 1 := h1
    rcases with_cases b 31 (by omega) with ⟨N, hN, rfl, h2⟩ | ⟨h2, -⟩
    · have h2' : m_X7_isWithin (nI N) 0 31 = some 1 := h2
      refine Or.inl ⟨H, N, by omega, by omega, rfl, rfl, ?_, ?_⟩ <;> rw [h1', ogb_some, if_neg i1, h2', ogb_some, if_neg i1]
    · have h2' : m_X7_isWithin b 0 31 = some 0 := h2
      refine Or.inr ⟨?_, ?_⟩ <;> rw [h1', ogb_some, if_neg i1, h2', ogb_some, if_pos rfl]
  · have h1' : m_X7_isWithin a 0 63 = some 0 := h1
    refine Or.inr ⟨?_, ?_⟩ <;> rw [h1', ogb_some, if_pos rfl]
-- worth and liking
def wz (w : Nat → Int32) (h n : Nat) : Nat := nV w (h * 5 + n)
theorem worth_N {w : Nat → Int32} (hw : rng 30 99 w) {h n : Nat} (hh : h < 6) (hn : n < 5) : m_X3_worthOf w (nI h) (nI n) = some (nI (wz w h n)) ∧ wz w h n ≤ 99 ∧ w (h * 5 + n) = nI (wz w h n) := by
  obtain ⟨e1, e2⟩ := nV_of (by omega) hw (show h * 5 + n < 30 by omega)
  refine ⟨?_, e2, e1⟩
  unfold m_X3_worthOf
  rw [isHull_N hh, ogb_some, if_neg (by decide), isName_N hn, ogb_some, if_neg (by decide), l5, pk_mul, nI_add, ogi_N (show h * 5 + n < 30 by omega) (by omega), cl_N (by omega), e1]
  rfl
/-- whether a hull likes name n better than o -/
def lkz (w : Nat → Int32) (h n o : Nat) : Bool := decide (wz w h o < wz w h n ∨ (wz w h n = wz w h o ∧ n < o))
theorem prefs_N {w w' : Nat → Int32} (hw : rng 30 99 w) (hE : eqN 30 w w') {h n o : Nat} (hh : h < 6) (hn : n < 5) (ho : o < 5) : m_X1_hullPrefers w (nI h) (nI n) (nI o) = some (if lkz w h n o then 1 else 0) ∧ m_X8_likes w' (nI h) (nI n) (nI o) = some (if lkz w h n o then 1 else 0) := by
  obtain ⟨a1, a2, a3⟩ := worth_N hw hh hn
  obtain ⟨b1, b2, b3⟩ := worth_N hw hh ho
  have a4 : w' (h * 5 + n) = nI (wz w h n) := by rw [← hE _ (by omega)]; exact a3
  have b4 : w' (h * 5 + o) = nI (wz w h o) := by rw [← hE _ (by omega)]; exact b3
  have ge0 : (0 : Int32) ≤ nI o := nI_pos' (by omega)
  have x1 : ∀ {b : Bool}, b = true → (if b then (1 : Int32) else 0) = 1 := fun h => if_pos h
  have x0 : ∀ {b : Bool}, b = false → (if b then (1 : Int32) else 0) = 0 := fun h => by rw [h]; rfl
  have m5 : 5 * h = h * 5 := Nat.mul_comm 5 h
  unfold m_X1_hullPrefers m_X8_likes
  rw [if_neg (nI_n6 (by omega)), a1, ogb_some, b1, ogb_some, ogl_def, if_pos ge0, l5, pk_mul, nI_add, nI_add, m5, ogi_N (show h * 5 + n < 30 by omega) (by omega), cl_N (show h * 5 + n < 2 ^ 31 by omega), ogl_def, a4, ogi_N (show h * 5 + o < 30 by omega) (by omega), cl_N (show h * 5 + o < 2 ^ 31 by omega), ogl_def, b4]
  have z : (0 : Int32) = nI 0 := rfl
  by_cases c1 : wz w h o < wz w h n
  · have L : lkz w h n o = true := decide_eq_true (Or.inl c1)
    rw [x1 L, pk_sub (by omega)]
    constructor
    · rw [if_pos (by rw [z, nI_ltI (by omega) (by omega)]; omega)]
    · rw [if_neg (by rw [nI_eq (by omega) (by omega)]; omega), if_neg (by rw [nI_leI (by omega) (by omega)]; omega)]
  · by_cases c2 : wz w h n = wz w h o
    · rw [c2, pk_sub (Nat.le_refl _), Nat.sub_self, if_neg (by decide), if_pos (show nI 0 = 0 from rfl), if_pos rfl]
      by_cases c3 : n < o
      · have L : lkz w h n o = true := decide_eq_true (Or.inr ⟨c2, c3⟩)
        rw [x1 L, if_neg (by rw [nI_leI (by omega) (by omega)]; omega)]
        exact ⟨rfl, rfl⟩
      · have L : lkz w h n o = false := decide_eq_false (fun h => by omega)
        rw [x0 L, if_pos (by rw [nI_leI (by omega) (by omega)]; omega)]
        exact ⟨rfl, rfl⟩
    · have L : lkz w h n o = false := decide_eq_false (fun h => by omega)
      have neg := pk_sneg (a := wz w h n) (b := wz w h o) (by omega) (by omega)
      have neg1 : ¬ 0 < nI (wz w h n) - nI (wz w h o) := by
        rw [fa_lt] at neg ⊢
        omega
      have neg2 : ¬ nI (wz w h n) - nI (wz w h o) = 0 := fun e => by
        rw [e] at neg
        exact absurd neg (by decide)
      rw [x0 L, if_neg neg1, if_neg neg2, if_neg (by rw [nI_eq (by omega) (by omega)]; exact c2), if_pos (by rw [nI_leI (by omega) (by omega)]; omega)]
      exact ⟨rfl, rfl⟩
theorem prefs_no (w w' : Nat → Int32) (h n : Int32) : m_X1_hullPrefers w h n (-6) = some 1 ∧ m_X8_likes w' h n (-6) = some 1 := by
  unfold m_X1_hullPrefers m_X8_likes
  exact ⟨if_pos rfl, if_neg (by decide)⟩
-- places in a rank
theorem plc_at {k h t : Nat} (hd : dig k t = h) (hu : ∀ j, j < 6 → dig k j = h → j = t) (s : Int32) : ∀ T, T ≤ 6 → t < T → plc k h s T = nI (5 - t) := by
  intro T
  induction T with
  | zero => intro _ h; exact absurd h (by omega)
  | succ T ih =>
    intro hT ht
    unfold plc
    by_cases q : dig k T = h
    · have := hu T (by omega) q
      subst this
      rw [if_pos q]
    · rw [if_neg q]
      have : t ≠ T := fun e => q (e ▸ hd)
      exact ih (by omega) (by omega)
theorem po_12s (rk : Nat → Int32) (n : Nat) (a b c : Int32) : m_X3_placeOf_12 rk (n + 1) a b c = m_X3_placeOf_12b (m_X3_placeOf_12 rk n) rk a b c := rfl
theorem po_run (rk : Nat → Int32) {k h t : Nat} (hk : k < 2 ^ 31) (hh : h < 6) (ht : t < 6) (hd : dig k t = h) (hu : ∀ j, j < 6 → dig k j = h → j = t) : ∀ (m p : Nat), p = 5 - t + m → p ≤ 5 → ∀ f, m < f → m_X3_placeOf_12 rk f (nI h) (nI (k / 10 ^ (5 - p))) (nI p) = some (nI (5 - t)) := by
  intro m
  induction m with
  | zero =>
    intro p hp hp5 f hf
    obtain ⟨f, rfl⟩ : ∃ z, f = z + 1 := ⟨f - 1, by omega⟩
    have e : 5 - p = t := by omega
    have hb : k / 10 ^ t < 2 ^ 31 := Nat.lt_of_le_of_lt (Nat.div_le_self _ _) hk
    rw [po_12s]
    unfold m_X3_placeOf_12b
    by_cases q : p = 0
    · have e5 : 5 - t = 0 := by omega
      rw [q, e5, if_pos (by decide)]
      rfl
    · have ed : nI (k / 10 ^ t % 10) = nI h := by
        have : k / 10 ^ t % 10 = h := hd
        rw [this]
      rw [if_neg (nI_nle (by omega) (by omega)), e, rem10 hb, if_pos ed, show p = 5 - t by omega]
  | succ m ih =>
    intro p hp hp5 f hf
    obtain ⟨f, rfl⟩ : ∃ z, f = z + 1 := ⟨f - 1, by omega⟩
    have hb : k / 10 ^ (5 - p) < 2 ^ 31 := Nat.lt_of_le_of_lt (Nat.div_le_self _ _) hk
    obtain ⟨p, rfl⟩ : ∃ z, p = z + 1 := ⟨p - 1, by omega⟩
    rw [po_12s]
    unfold m_X3_placeOf_12b
    have nd : ¬ nI (k / 10 ^ (5 - (p + 1)) % 10) = nI h := by
      have hm : k / 10 ^ (5 - (p + 1)) % 10 < 10 := Nat.mod_lt _ (by omega)
      rw [nI_eq (by omega) (by omega)]
      intro e
      have := hu (5 - (p + 1)) (by omega) e
      omega
    rw [if_neg (nI_nle (by omega) (by omega)), rem10 hb, if_neg nd, ogl_def, ogl_def, div10 hb, divp, pk_m1, show 5 - (p + 1) + 1 = 5 - p by omega]
    exact ih p (by omega) (by omega) f (by omega)
/-- the place of a hull with a name -/
def plz (rk : Nat → Int32) (n h : Nat) : Nat := nV (fun _ => plc (nV rk n) h (-6) 6) 0
theorem row_u {k : Nat} (H : rowP k) {h : Nat} (hh : h < 6) : ∃ t, t < 6 ∧ dig k t = h ∧ ∀ j, j < 6 → dig k j = h → j = t := by
  obtain ⟨t, ht, e⟩ := H h hh
  obtain ⟨h2, -, e2, e3⟩ := row_all H t ht
  have : h2 = h := e2.symm.trans e
  subst this
  exact ⟨t, ht, e, e3⟩
theorem place_N {rk rk' : Nat → Int32} (hr : ∀ j, j < 5 → rowOK (rk j)) (hE : eqN 5 rk rk') {n h : Nat} (hn : n < 5) (hh : h < 6) : m_X3_placeOf rk (nI n) (nI h) = some (nI (plz rk n h)) ∧ m_X8_placeIn (rk' n) (nI h) = some (nI (plz rk n h)) ∧ plz rk n h < 6 ∧ ∀ h2, h2 < 6 → plz rk n h2 = plz rk n h → h2 = h := by
  obtain ⟨k, hk, ek, hrow⟩ := hr n hn
  have ekn : nV rk n = k := by unfold nV; rw [ek]; exact cl_N (by omega)
  have R : rowP k := hrow
  have val : ∀ h, h < 6 → ∃ t, t < 6 ∧ dig k t = h ∧ plc k h (-6) 6 = nI (5 - t) ∧ plz rk n h = 5 - t ∧ ∀ j, j < 6 → dig k j = h → j = t := by
    intro h hh
    obtain ⟨t, ht, e, u⟩ := row_u R hh
    have ep := plc_at e u (-6) 6 (by omega) ht
    refine ⟨t, ht, e, ep, ?_, u⟩
    unfold plz
    rw [ekn]
    show (plc k h (-6) 6).toNatClampNeg = _
    rw [ep]
    exact cl_N (by omega)
  obtain ⟨t, ht, e, ep, ez, u⟩ := val h hh
  refine ⟨?_, ?_, by omega, fun h2 hh2 e2 => ?_⟩
  · unfold m_X3_placeOf
    rw [at_N rk hn (by omega), ogb_some, ek, ez]
    have := po_run rk (k := k) (by omega) hh ht e u t 5 (by omega) (by omega) 1000000 (by omega)
    rw [Nat.sub_self, Nat.pow_zero, Nat.div_one] at this
    exact this
  · rw [← hE n hn, ek, placeIn_N (by omega) (by omega), ep, ez]
  · obtain ⟨t2, ht2, d2, -, z2, -⟩ := val h2 hh2
    have : t2 = t := by omega
    subst this
    exact d2.symm.trans e
theorem npref_N {rk rk' : Nat → Int32} (hr : ∀ j, j < 5 → rowOK (rk j)) (hE : eqN 5 rk rk') {n h o : Nat} (hn : n < 5) (hh : h < 6) (ho : o < 6) : m_X1_namePrefers rk (nI n) (nI h) (nI o) = some (if decide (plz rk n h < plz rk n o) then 1 else 0) ∧ m_X8_likesHull rk' (nI n) (nI h) (nI o) = some (if decide (plz rk n h < plz rk n o) then 1 else 0) := by
  obtain ⟨a1, a2, a3, -⟩ := place_N hr hE hn hh
  obtain ⟨b1, b2, b3, -⟩ := place_N hr hE hn ho
  unfold m_X1_namePrefers m_X8_likesHull
  rw [if_neg (nI_n6 (by omega)), a1, ogb_some, b1, ogb_some, if_neg (nI_pos (by omega)), ogi_N hn (by omega), cl_N (show n < 2 ^ 31 by omega), a2, ogb_some, ogi_N hn (by omega), b2, ogb_some]
  by_cases c : plz rk n h < plz rk n o
  · rw [if_neg (by rw [nI_leI (by omega) (by omega)]; omega), if_pos (decide_eq_true c)]
    exact ⟨rfl, rfl⟩
  · rw [if_pos (by rw [nI_leI (by omega) (by omega)]; omega), if_neg (by rw [decide_eq_true_eq]; exact c)]
    exact ⟨rfl, rfl⟩
theorem npref_no (rk rk' : Nat → Int32) (n h : Int32) : m_X1_namePrefers rk n h (-6) = some 1 ∧ m_X8_likesHull rk' n h (-6) = some 1 := by
  unfold m_X1_namePrefers m_X8_likesHull
  exact ⟨if_pos rfl, if_pos (by decide)⟩
