-- voyages: codes, loads
def dv (c h : Nat) : Nat := c / 5 ^ (5 - h) % 5
theorem dv_lt (c h : Nat) : dv c h < 5 := Nat.mod_lt _ (by omega)
theorem dv_at (c : Nat) {k : Nat} (hk : k < 6) : c / 5 ^ k % 5 = dv c (5 - k) := by
  unfold dv
  rw [show 5 - (5 - k) = k by omega]
theorem dv_top {n s j : Nat} (hj : j ≤ 5) (hn : n < 5) (hs : s < 5 ^ j) : dv (n * 5 ^ j + s) (5 - j) = n := by
  unfold dv
  have hp : 0 < 5 ^ j := Nat.pow_pos (by omega)
  rw [show 5 - (5 - j) = j by omega, Nat.add_comm, Nat.add_mul_div_right _ _ hp, Nat.div_eq_of_lt hs, Nat.zero_add, Nat.mod_eq_of_lt hn]
theorem dv_low {n s j h : Nat} (hh : 5 < h + j) (h6 : h < 6) : dv (n * 5 ^ j + s) h = dv s h := by
  unfold dv
  have hp : 0 < 5 ^ (5 - h) := Nat.pow_pos (by omega)
  have e : 5 ^ j = 5 * 5 ^ (j - (5 - h) - 1) * 5 ^ (5 - h) := by
    rw [Nat.mul_comm 5, ← Nat.pow_succ, ← Nat.pow_add]
    congr 1
    omega
  rw [e, ← Nat.mul_assoc, Nat.add_comm, Nat.add_mul_div_right _ _ hp, ← Nat.mul_assoc, Nat.mul_comm n 5, Nat.mul_assoc, Nat.add_mul_mod_self_left]
/-- a hull may take name d: o: its names, y: its days -/
def okd (o y d : Nat) : Bool := if y = 0 then decide (d = 0) else o.testBit d
def okV (o v : Nat → Nat) (c : Nat) : Nat → Bool
  | 0 => true
  | k + 1 => okV o v c k && okd (o (5 - k)) (v (5 - k)) (dv c (5 - k))
theorem okV_s (o v : Nat → Nat) (c k : Nat) : okV o v c (k + 1) = (okV o v c k && okd (o (5 - k)) (v (5 - k)) (dv c (5 - k))) := rfl
def ldV (v : Nat → Nat) (c n : Nat) : Nat → Nat
  | 0 => 0
  | k + 1 => ldV v c n k + (if dv c (5 - k) = n then v (5 - k) else 0)
theorem ldV_s (v : Nat → Nat) (c n k : Nat) : ldV v c n (k + 1) = ldV v c n k + (if dv c (5 - k) = n then v (5 - k) else 0) := rfl
def mxV (v : Nat → Nat) (c : Nat) : Nat → Nat
  | 0 => 0
  | k + 1 => if ldV v c (dv c (5 - k)) (k + 1) ≤ mxV v c k then mxV v c k else ldV v c (dv c (5 - k)) (k + 1)
theorem mxV_s (v : Nat → Nat) (c k : Nat) : mxV v c (k + 1) = if ldV v c (dv c (5 - k)) (k + 1) ≤ mxV v c k then mxV v c k else ldV v c (dv c (5 - k)) (k + 1) := rfl
def smV (v : Nat → Nat) : Nat → Nat
  | 0 => 0
  | k + 1 => smV v k + v (5 - k)
theorem ldV_sm (v : Nat → Nat) (c n : Nat) : ∀ k, ldV v c n k ≤ smV v k
  | 0 => Nat.le_refl 0
  | k + 1 => by
    have := ldV_sm v c n k
    rw [ldV_s]
    show _ ≤ smV v k + v (5 - k)
    by_cases q : dv c (5 - k) = n
    · rw [if_pos q]; omega
    · rw [if_neg q]; omega
theorem ldV_up (v : Nat → Nat) (c n k : Nat) : ldV v c n k ≤ ldV v c n (k + 1) := by rw [ldV_s]; omega
theorem ld_mx (v : Nat → Nat) (c : Nat) : ∀ k n, ldV v c n k ≤ mxV v c k
  | 0, _ => Nat.le_refl 0
  | k + 1, n => by
    have ih := ld_mx v c k n
    rw [mxV_s]
    by_cases q : dv c (5 - k) = n
    · subst q
      by_cases z : ldV v c (dv c (5 - k)) (k + 1) ≤ mxV v c k
      · rw [if_pos z]; exact z
      · rw [if_neg z]; exact Nat.le_refl _
    · have e : ldV v c n (k + 1) = ldV v c n k := by rw [ldV_s, if_neg q]; rfl
      rw [e]
      by_cases z : ldV v c (dv c (5 - k)) (k + 1) ≤ mxV v c k
      · rw [if_pos z]; exact ih
      · rw [if_neg z]; omega
theorem mx_ld (v : Nat → Nat) (c L : Nat) : ∀ k, (∀ n, n < 5 → ldV v c n k ≤ L) → mxV v c k ≤ L
  | 0, _ => Nat.zero_le L
  | k + 1, h => by
    have ih := mx_ld v c L k (fun n hn => Nat.le_trans (ldV_up v c n k) (h n hn))
    rw [mxV_s]
    by_cases z : ldV v c (dv c (5 - k)) (k + 1) ≤ mxV v c k
    · rw [if_pos z]; exact ih
    · rw [if_neg z]; exact h _ (dv_lt c (5 - k))
theorem mx_sm (v : Nat → Nat) (c k : Nat) : mxV v c k ≤ smV v k := mx_ld v c _ k (fun n _ => ldV_sm v c n k)
/-- each hull's own days are in the load -/
theorem ld_own (v : Nat → Nat) (c : Nat) : ∀ k i, i < k → v (5 - i) ≤ ldV v c (dv c (5 - i)) k
  | 0, _, h => absurd h (by omega)
  | k + 1, i, h => by
    by_cases q : i = k
    · subst q
      rw [ldV_s, if_pos rfl]; omega
    · exact Nat.le_trans (ld_own v c k i (by omega)) (ldV_up v c _ k)
theorem v_cong {o v : Nat → Nat} {c c' : Nat} : ∀ j, j ≤ 6 → (∀ h, 6 ≤ h + j → h < 6 → dv c h = dv c' h) → okV o v c j = okV o v c' j ∧ ∀ n, ldV v c n j = ldV v c' n j := by
  intro j
  induction j with
  | zero => intro _ _; exact ⟨rfl, fun _ => rfl⟩
  | succ j ih =>
    intro hj h
    obtain ⟨i1, i2⟩ := ih (by omega) (fun h' h1 h2 => h h' (by omega) h2)
    have e := h (5 - j) (by omega) (by omega)
    refine ⟨?_, fun n => ?_⟩
    · rw [okV_s, okV_s, e, i1]
    · rw [ldV_s, ldV_s, e, i2]
/-- where every hull has a name, some code is good -/
theorem okV_ex {o v : Nat → Nat} (ho : ∀ h, h < 6 → v h ≠ 0 → ∃ d, d < 5 ∧ (o h).testBit d = true) : ∀ j, j ≤ 6 → ∃ s, s < 5 ^ j ∧ okV o v s j = true := by
  intro j
  induction j with
  | zero => intro _; exact ⟨0, by decide, rfl⟩
  | succ j ih =>
    intro hj
    obtain ⟨s, hs, ok⟩ := ih (by omega)
    have hd : ∃ d, d < 5 ∧ okd (o (5 - j)) (v (5 - j)) d = true := by
      unfold okd
      by_cases q : v (5 - j) = 0
      · exact ⟨0, by omega, by rw [if_pos q]; rfl⟩
      · obtain ⟨d, h1, h2⟩ := ho (5 - j) (by omega) q
        exact ⟨d, h1, by rw [if_neg q]; exact h2⟩
    obtain ⟨d, hd5, hd⟩ := hd
    refine ⟨d * 5 ^ j + s, ?_, ?_⟩
    · have := Nat.mul_le_mul_right (5 ^ j) (show d ≤ 4 by omega)
      rw [Nat.pow_succ]
      omega
    · rw [okV_s, dv_top (by omega) hd5 hs, hd, (v_cong (o := o) (v := v) (c := d * 5 ^ j + s) (c' := s) j (by omega) (fun h h1 h2 => dv_low (by omega) h2)).1, ok]
      rfl
-- fitting within a limit, from a hull on
def upN (b : Nat → Nat) (d x : Nat) : Nat → Nat := fun n => if n = d then x else b n
def feV (o v : Nat → Nat) (lim c : Nat) : Nat → (Nat → Nat) → Bool
  | 0, _ => true
  | j + 1, b => if v (5 - j) = 0 then decide (dv c (5 - j) = 0) && feV o v lim c j b else ((o (5 - j)).testBit (dv c (5 - j)) && decide (b (dv c (5 - j)) + v (5 - j) ≤ lim)) && feV o v lim c j (upN b (dv c (5 - j)) (b (dv c (5 - j)) + v (5 - j)))
theorem feV_s (o v : Nat → Nat) (lim c j : Nat) (b : Nat → Nat) : feV o v lim c (j + 1) b = if v (5 - j) = 0 then decide (dv c (5 - j) = 0) && feV o v lim c j b else ((o (5 - j)).testBit (dv c (5 - j)) && decide (b (dv c (5 - j)) + v (5 - j) ≤ lim)) && feV o v lim c j (upN b (dv c (5 - j)) (b (dv c (5 - j)) + v (5 - j))) := rfl
theorem feV_iff {o v : Nat → Nat} {lim c : Nat} : ∀ j (b : Nat → Nat), (∀ n, n < 5 → b n ≤ lim) → (feV o v lim c j b = true ↔ okV o v c j = true ∧ ∀ n, n < 5 → b n + ldV v c n j ≤ lim) := by
  intro j
  induction j with
  | zero =>
    intro b hb
    exact ⟨fun _ => ⟨rfl, fun n hn => hb n hn⟩, fun _ => rfl⟩
  | succ j ih =>
    intro b hb
    have hd := dv_lt c (5 - j)
    rw [feV_s, okV_s]
    unfold okd
    by_cases q : v (5 - j) = 0
    · rw [if_pos q, if_pos q, Bool.and_eq_true, Bool.and_eq_true, ih b hb]
      have e : ∀ n, ldV v c n (j + 1) = ldV v c n j := by
        intro n
        rw [ldV_s, q]
        by_cases z : dv c (5 - j) = n
        · rw [if_pos z]; rfl
        · rw [if_neg z]; rfl
      constructor
      · rintro ⟨h1, h2, h3⟩
        exact ⟨⟨h2, h1⟩, fun n hn => by rw [e]; exact h3 n hn⟩
      · rintro ⟨⟨h2, h1⟩, h3⟩
        exact ⟨h1, h2, fun n hn => by rw [← e]; exact h3 n hn⟩
    · rw [if_neg q, if_neg q, Bool.and_eq_true, Bool.and_eq_true, Bool.and_eq_true, decide_eq_true_eq]
      constructor
      · rintro ⟨⟨h1, h2⟩, h3⟩
        have hb2 : ∀ n, n < 5 → upN b (dv c (5 - j)) (b (dv c (5 - j)) + v (5 - j)) n ≤ lim := by
          intro n hn
          unfold upN
          by_cases z : n = dv c (5 - j)
          · rw [if_pos z]; exact h2
          · rw [if_neg z]; exact hb n hn
        obtain ⟨h4, h5⟩ := (ih _ hb2).mp h3
        refine ⟨⟨h4, h1⟩, fun n hn => ?_⟩
        have := h5 n hn
        rw [ldV_s]
        unfold upN at this
        by_cases z : n = dv c (5 - j)
        · subst z
          rw [if_pos rfl] at this
          rw [if_pos rfl]; omega
        · rw [if_neg z] at this
          rw [if_neg (fun e => z e.symm)]; omega
      · rintro ⟨⟨h4, h1⟩, h5⟩
        have h2 : b (dv c (5 - j)) + v (5 - j) ≤ lim := by
          have := h5 _ hd
          rw [ldV_s, if_pos rfl] at this
          omega
        have hb2 : ∀ n, n < 5 → upN b (dv c (5 - j)) (b (dv c (5 - j)) + v (5 - j)) n ≤ lim := by
          intro n hn
          unfold upN
          by_cases z : n = dv c (5 - j)
          · rw [if_pos z]; exact h2
          · rw [if_neg z]; exact hb n hn
        refine ⟨⟨h1, h2⟩, (ih _ hb2).mpr ⟨h4, fun n hn => ?_⟩⟩
        have := h5 n hn
        rw [ldV_s] at this
        unfold upN
        by_cases z : n = dv c (5 - j)
        · subst z
          rw [if_pos rfl] at this
          rw [if_pos rfl]; omega
        · rw [if_neg (fun e => z e.symm)] at this
          rw [if_neg z]; omega
theorem fe_cong {o v : Nat → Nat} {lim c c' : Nat} : ∀ j, j ≤ 6 → (∀ h, 6 ≤ h + j → h < 6 → dv c h = dv c' h) → ∀ b, feV o v lim c j b = feV o v lim c' j b := by
  intro j
  induction j with
  | zero => intro _ _ _; rfl
  | succ j ih =>
    intro hj h b
    have e := h (5 - j) (by omega) (by omega)
    have i1 := ih (by omega) (fun h' h1 h2 => h h' (by omega) h2)
    rw [feV_s, feV_s, e, i1, i1]
theorem dv_mod (c : Nat) {j h : Nat} (hh : 6 ≤ h + j) (h6 : h < 6) : dv (c % 5 ^ j) h = dv c h := by
  have := dv_low (n := c / 5 ^ j) (s := c % 5 ^ j) (j := j) (h := h) (by omega) h6
  rw [Nat.mul_comm, Nat.div_add_mod] at this
  exact this.symm
def gvv (v : Nat → Nat) (c h : Nat) : Int32 := if v h = 0 then -6 else nI (dv c h)
