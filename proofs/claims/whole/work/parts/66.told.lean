-- what is told of a giving
def gve (e : Nat → Nat) (h : Nat) : Int32 := if e h = 5 then -6 else nI (e h)
def cnE (e : Nat → Nat) : Nat → Nat
  | 0 => 0
  | t + 1 => cnE e t + (if e t = 5 then 0 else 1)
def wsE (w : Nat → Int32) (e : Nat → Nat) : Nat → Nat
  | 0 => 0
  | t + 1 => wsE w e t + (if e t = 5 then 0 else wz w t (e t))
theorem cnE_le (e : Nat → Nat) : ∀ t, cnE e t ≤ t
  | 0 => Nat.le_refl 0
  | t + 1 => by
    have := cnE_le e t
    show cnE e t + (if e t = 5 then 0 else 1) ≤ t + 1
    by_cases q : e t = 5
    · rw [if_pos q]; omega
    · rw [if_neg q]; omega
theorem wsE_le {w : Nat → Int32} (hw : rng 30 99 w) {e : Nat → Nat} (he : ∀ j, j < 6 → e j < 6) : ∀ t, t ≤ 6 → wsE w e t ≤ 99 * t
  | 0, _ => Nat.le_refl 0
  | t + 1, h => by
    have := wsE_le hw he t (by omega)
    show wsE w e t + (if e t = 5 then 0 else wz w t (e t)) ≤ 99 * (t + 1)
    by_cases q : e t = 5
    · rw [if_pos q]; omega
    · have := he t (by omega)
      have := (worth_N hw (show t < 6 by omega) (show e t < 5 by omega)).2.1
      rw [if_neg q]; omega
theorem sl_4s (n0 : Nat) (f : Nat → Int32) (n : Nat) (a b : Int32) : m_X8_sailing_4 n0 f (n + 1) a b = m_X8_sailing_4b (m_X8_sailing_4 n0 f n) n0 f a b := rfl
theorem wo_4s (n0 : Nat) (f w : Nat → Int32) (n : Nat) (a b : Int32) : m_X8_worthOf_4 n0 f w (n + 1) a b = m_X8_worthOf_4b (m_X8_worthOf_4 n0 f w n) n0 f w a b := rfl
theorem de_7s (f w : Nat → Int32) (n : Nat) (a b c d : Int32) : m_X1_detail_7 f w (n + 1) a b c d = m_X1_detail_7b (m_X1_detail_7 f w n) f w a b c d := rfl
theorem gve_n {e : Nat → Nat} {h : Nat} (he : e h < 6) : (e h = 5 → gve e h = -6) ∧ (e h ≠ 5 → gve e h = nI (e h) ∧ e h < 5) := by
  unfold gve
  exact ⟨fun q => if_pos q, fun q => ⟨if_neg q, by omega⟩⟩
theorem sail_N {f : Nat → Int32} {e : Nat → Nat} (he : ∀ j, j < 6 → e j < 6) (hf : ∀ j, j < 6 → f j = gve e j) : m_X8_sailing 6 f = some (nI (cnE e 6)) := by
  have run : ∀ (m t : Nat), t + m = 6 → ∀ fu, m < fu → m_X8_sailing_4 6 f fu (nI (cnE e t)) (nI t) = some (nI (cnE e 6)) := by
    intro m
    induction m with
    | zero =>
      intro t ht fu hfu
      obtain ⟨fu, rfl⟩ : ∃ z, fu = z + 1 := ⟨fu - 1, by omega⟩
      have : t = 6 := by omega
      subst this
      rw [sl_4s]; unfold m_X8_sailing_4b; rw [if_pos (by decide)]
    | succ m ih =>
      intro t ht fu hfu
      obtain ⟨fu, rfl⟩ : ∃ z, fu = z + 1 := ⟨fu - 1, by omega⟩
      have ht6 : t < 6 := by omega
      have e1 : cnE e (t + 1) = cnE e t + (if e t = 5 then 0 else 1) := rfl
      have hi := ih (t + 1) (by omega) fu (by omega)
      rw [sl_4s]
      unfold m_X8_sailing_4b m_X8_sailing_22
      rw [if_neg (by rw [l6, nI_leI (by omega) (by omega)]; omega), ogi_N ht6 (by omega), cl_N (by omega), hf t ht6]
      by_cases q : e t = 5
      · rw [(gve_n (he t ht6)).1 q, if_pos (by decide), ogl_def, ogl_def, nI_1, show (0 : Int32) = nI 0 from rfl, nI_add]
        rw [e1, if_pos q] at hi
        exact hi
      · obtain ⟨g1, g2⟩ := (gve_n (he t ht6)).2 q
        rw [g1, if_neg (nI_pos (by omega)), ogl_def, ogl_def, nI_1, nI_1]
        rw [e1, if_neg q] at hi
        exact hi
  exact run 6 0 (by omega) 1000000 (by omega)
theorem wors_N {f w w' : Nat → Int32} (hw : rng 30 99 w) (hE : eqN 30 w w') {e : Nat → Nat} (he : ∀ j, j < 6 → e j < 6) (hf : ∀ j, j < 6 → f j = gve e j) : m_X8_worthOf 6 f w' = some (nI (wsE w e 6)) := by
  have run : ∀ (m t : Nat), t + m = 6 → ∀ fu, m < fu → m_X8_worthOf_4 6 f w' fu (nI (wsE w e t)) (nI t) = some (nI (wsE w e 6)) := by
    intro m
    induction m with
    | zero =>
      intro t ht fu hfu
      obtain ⟨fu, rfl⟩ : ∃ z, fu = z + 1 := ⟨fu - 1, by omega⟩
      have : t = 6 := by omega
      subst this
      rw [wo_4s]; unfold m_X8_worthOf_4b; rw [if_pos (by decide)]
    | succ m ih =>
      intro t ht fu hfu
      obtain ⟨fu, rfl⟩ : ∃ z, fu = z + 1 := ⟨fu - 1, by omega⟩
      have ht6 : t < 6 := by omega
      have e1 : wsE w e (t + 1) = wsE w e t + (if e t = 5 then 0 else wz w t (e t)) := rfl
      have hi := ih (t + 1) (by omega) fu (by omega)
      rw [wo_4s]
      unfold m_X8_worthOf_4b m_X8_worthOf_33
      rw [if_neg (by rw [l6, nI_leI (by omega) (by omega)]; omega), ogi_N ht6 (by omega), cl_N (show t < 2 ^ 31 by omega), hf t ht6]
      by_cases q : e t = 5
      · rw [(gve_n (he t ht6)).1 q, if_pos (by decide), ogl_def, ogl_def, nI_1, show (0 : Int32) = nI 0 from rfl, nI_add]
        rw [e1, if_pos q] at hi
        exact hi
      · obtain ⟨g1, g2⟩ := (gve_n (he t ht6)).2 q
        have hx : w' (t * 5 + e t) = nI (wz w t (e t)) := by
          rw [← hE _ (by omega)]
          exact (worth_N hw ht6 g2).2.2
        rw [g1, if_neg (nI_pos (by omega)), ogi_N ht6 (by omega), l5, pk_mul, nI_add, Nat.mul_comm 5 t, ogi_N (show t * 5 + e t < 30 by omega) (by omega), cl_N (show t * 5 + e t < 2 ^ 31 by omega), hx, ogl_def, ogl_def, nI_1, nI_add]
        rw [e1, if_neg q] at hi
        exact hi
  exact run 6 0 (by omega) 1000000 (by omega)
theorem told_N {f f' w w' : Nat → Int32} (hw : rng 30 99 w) (hE : eqN 30 w w') {e : Nat → Nat} (he : ∀ j, j < 6 → e j < 6) (hf : ∀ j, j < 6 → f j = gve e j) (hf' : ∀ j, j < 6 → f' j = gve e j) (v : Int32) : ∃ r, m_X1_detail f w v = some r ∧ m_X8_toldOf f' w' v = some r := by
  have run : ∀ (m t : Nat), t + m = 6 → ∀ fu, m < fu → m_X1_detail_7 f w fu v (nI (cnE e t)) (nI (wsE w e t)) (nI t) = (if v = -2 then some (nI (cnE e 6)) else if v = -1 then some (nI (wsE w e 6)) else ogb (m_X7_isHull v) (fun q => if q = 0 then some (-6) else ogi v 6 (some (f v.toNatClampNeg)))) := by
    intro m
    induction m with
    | zero =>
      intro t ht fu hfu
      obtain ⟨fu, rfl⟩ : ∃ z, fu = z + 1 := ⟨fu - 1, by omega⟩
      have : t = 6 := by omega
      subst this
      rw [de_7s]; unfold m_X1_detail_7b; rw [if_pos (by decide)]
    | succ m ih =>
      intro t ht fu hfu
      obtain ⟨fu, rfl⟩ : ∃ z, fu = z + 1 := ⟨fu - 1, by omega⟩
      have ht6 : t < 6 := by omega
      have e1 : wsE w e (t + 1) = wsE w e t + (if e t = 5 then 0 else wz w t (e t)) := rfl
      have e2 : cnE e (t + 1) = cnE e t + (if e t = 5 then 0 else 1) := rfl
      have hi := ih (t + 1) (by omega) fu (by omega)
      rw [de_7s]
      unfold m_X1_detail_7b m_X1_detail_48
      rw [if_neg (by rw [l6, nI_leI (by omega) (by omega)]; omega), ogi_N ht6 (by omega), cl_N (show t < 2 ^ 31 by omega), hf t ht6]
      by_cases q : e t = 5
      · rw [(gve_n (he t ht6)).1 q, if_pos rfl, ogl_def, nI_1]
        rw [e1, e2, if_pos q, if_pos q] at hi
        exact hi
      · obtain ⟨g1, g2⟩ := (gve_n (he t ht6)).2 q
        rw [g1, if_neg (nI_n6 (by omega)), ogl_def, ogi_N ht6 (by omega), (worth_N hw ht6 g2).1, ogb_some, ogl_def, ogl_def, nI_1, nI_1, nI_add]
        rw [e1, e2, if_neg q, if_neg q] at hi
        exact hi
  have h1 : m_X1_detail f w v = _ := run 6 0 (by omega) 1000000 (by omega)
  rw [h1]
  unfold m_X8_toldOf
  rw [sail_N he hf', wors_N hw hE he hf', ogb_some, ogb_some]
  by_cases c1 : v = -2
  · rw [if_pos c1, if_pos c1]; exact ⟨_, rfl, rfl⟩
  · rw [if_neg c1, if_neg c1]
    by_cases c2 : v = -1
    · rw [if_pos c2, if_pos c2]; exact ⟨_, rfl, rfl⟩
    · rw [if_neg c2, if_neg c2]
      rcases isHull_cases v with ⟨j, hj, rfl, h7, h8⟩ | ⟨h7, h8, -⟩
      · rw [h7, h8, ogb_some, ogb_some, if_neg (by decide), if_neg (by decide), ogi_N hj (by omega), ogi_N hj (by omega), cl_N (by omega), hf j hj, hf' j hj]
        exact ⟨_, rfl, rfl⟩
      · rw [h7, h8, ogb_some, ogb_some, if_pos rfl, if_pos rfl]
        exact ⟨_, rfl, rfl⟩
