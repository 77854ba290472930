-- the invariant between the class's state and the check's
def rng (n M : Nat) (f : Nat → Int32) : Prop := ∀ j, j < n → ∃ k, k ≤ M ∧ f j = nI k
def eqN (n : Nat) (f g : Nat → Int32) : Prop := ∀ j, j < n → f j = g j
def rowOK (x : Int32) : Prop := ∃ k, k ≤ 543210 ∧ x = nI k ∧ ∀ h, h < 6 → ∃ p, p < 6 ∧ k / 10 ^ p % 10 = h
def pOK (m v l r w : Nat → Int32) : Prop := rng 6 31 m ∧ rng 6 9 v ∧ rng 5 10 l ∧ (∀ j, j < 5 → rowOK (r j)) ∧ rng 30 99 w
def pEQ (m v l r w m' v' l' r' w' : Nat → Int32) : Prop := eqN 6 m m' ∧ eqN 6 v v' ∧ eqN 5 l l' ∧ eqN 5 r r' ∧ eqN 30 w w'
def off (im : Nat → Int32) (o : Nat) : Nat → Int32 := fun j => im (o + j)
def bI (b : Bool) : Int32 := if b then 1 else 0
def kI (a b : Bool) : Int32 := if a then (if b then 3 else 1) else (if b then 2 else 0)
def imOK (m v l r w im : Nat → Int32) (o : Nat) : Prop := pOK m v l r w ∧ pEQ m v l r w (off im o) (off im (o + 6)) (off im (o + 12)) (off im (o + 17)) (off im (o + 22))
def INV (xm xv xl xr xw am av al ar aw bm bv bl br bw : Nat → Int32) (kept : Int32) (sg : Nat → Int32) (cnt : Int32) (mm mv ml mr mw : Nat → Int32) (mc : Int32) (mp mi mk : Nat → Int32) : Prop :=
  pOK xm xv xl xr xw ∧ pEQ xm xv xl xr xw mm mv ml mr mw ∧
  (∃ k0 k1 : Bool, kept = kI k0 k1 ∧ mk 0 = bI k0 ∧ mk 1 = bI k1 ∧ (k0 = true → imOK am av al ar aw mi 0) ∧ (k1 = true → imOK bm bv bl br bw mi 52)) ∧
  (∃ c : Nat, c ≤ 48 ∧ cnt = nI c ∧ mc = nI c) ∧ eqN 48 sg mp
theorem rng_upd {n M : Nat} {f : Nat → Int32} {i k : Nat} (h : rng n M f) (hk : k ≤ M) : rng n M (upd f i (nI k)) := by
  intro j hj
  by_cases e : j = i
  · subst e; exact ⟨k, hk, upd_s _ _ _⟩
  · rw [upd_n _ _ e]; exact h j hj
theorem eqN_upd {n : Nat} {f g : Nat → Int32} {i : Nat} {x : Int32} (h : eqN n f g) : eqN n (upd f i x) (upd g i x) := by
  intro j hj
  by_cases e : j = i
  · subst e; rw [upd_s, upd_s]
  · rw [upd_n _ _ e, upd_n _ _ e]; exact h j hj
