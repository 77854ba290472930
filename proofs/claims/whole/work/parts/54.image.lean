theorem i207 (f_bears : Nat → Int32) (f_best : Nat → Int32) (f_borneBy : Nat → Int32) (f_due : Nat → Int32) (f_gives : Nat → Int32) (f_gone : Nat → Int32) (f_holds : Nat → Int32) (f_image : Nat → Int32) (f_isKept : Nat → Int32) (f_lucky : Nat → Int32) (f_may : Nat → Int32) (f_pad : Nat → Int32) (f_ranks : Nat → Int32) (f_refused : Nat → Int32) (f_sums : Nat → Int32) (f_sunk : Nat → Int32) (f_times : Nat → Int32) (f_voyage : Nat → Int32) (f_whoBore : Nat → Int32) (f_worths : Nat → Int32) (x_t_signs : Int32) (x_t_day : Int32) (x_t_reason : Int32) (x_t_asked : Int32) : ∀ i, i ≤ 30 → ∀ fuel, 30 - i < fuel → m_X8_init_207 fuel (nI i) f_bears f_best f_borneBy f_due f_gives f_gone f_holds f_image f_isKept f_lucky f_may f_pad f_ranks f_refused f_sums f_sunk f_times f_voyage f_whoBore (prg (fun _ => 10) f_worths i) x_t_signs x_t_day x_t_reason x_t_asked = some (f_bears, f_best, f_borneBy, f_due, f_gives, f_gone, f_holds, f_image, f_isKept, f_lucky, f_may, f_pad, f_ranks, f_refused, f_sums, f_sunk, f_times, f_voyage, f_whoBore, (prg (fun _ => 10) f_worths 30), x_t_signs, x_t_day, x_t_reason, x_t_asked) := by
  refine loop_up (fun fuel i => m_X8_init_207 fuel (nI i) f_bears f_best f_borneBy f_due f_gives f_gone f_holds f_image f_isKept f_lucky f_may f_pad f_ranks f_refused f_sums f_sunk f_times f_voyage f_whoBore (prg (fun _ => 10) f_worths i) x_t_signs x_t_day x_t_reason x_t_asked = some (f_bears, f_best, f_borneBy, f_due, f_gives, f_gone, f_holds, f_image, f_isKept, f_lucky, f_may, f_pad, f_ranks, f_refused, f_sums, f_sunk, f_times, f_voyage, f_whoBore, (prg (fun _ => 10) f_worths 30), x_t_signs, x_t_day, x_t_reason, x_t_asked)) 30 (fun fuel => ?_) (fun fuel i hi ih => ?_)
  · show m_X8_init_207b (m_X8_init_207 fuel) (nI 30) f_bears f_best f_borneBy f_due f_gives f_gone f_holds f_image f_isKept f_lucky f_may f_pad f_ranks f_refused f_sums f_sunk f_times f_voyage f_whoBore (prg (fun _ => 10) f_worths 30) x_t_signs x_t_day x_t_reason x_t_asked = _
    unfold m_X8_init_207b
    rw [if_pos (by decide)]
  · show m_X8_init_207b (m_X8_init_207 fuel) (nI i) f_bears f_best f_borneBy f_due f_gives f_gone f_holds f_image f_isKept f_lucky f_may f_pad f_ranks f_refused f_sums f_sunk f_times f_voyage f_whoBore (prg (fun _ => 10) f_worths i) x_t_signs x_t_day x_t_reason x_t_asked = _
    unfold m_X8_init_207b
    rw [if_neg (by rw [l30, nI_leI (by omega) (by omega)]; omega), ogi_N hi (by omega), ogl_def, nI_1, cl_N (by omega), prg_s (fun _ => 10)]
    exact ih
theorem i178 (f_bears : Nat → Int32) (f_best : Nat → Int32) (f_borneBy : Nat → Int32) (f_due : Nat → Int32) (f_gives : Nat → Int32) (f_gone : Nat → Int32) (f_holds : Nat → Int32) (f_image : Nat → Int32) (f_isKept : Nat → Int32) (f_lucky : Nat → Int32) (f_may : Nat → Int32) (f_pad : Nat → Int32) (f_ranks : Nat → Int32) (f_refused : Nat → Int32) (f_sums : Nat → Int32) (f_sunk : Nat → Int32) (f_times : Nat → Int32) (f_voyage : Nat → Int32) (f_whoBore : Nat → Int32) (f_worths : Nat → Int32) (x_t_signs : Int32) (x_t_day : Int32) (x_t_reason : Int32) (x_t_asked : Int32) : ∀ i, i ≤ 5 → ∀ fuel, 5 - i < fuel → m_X8_init_178 fuel (nI i) f_bears f_best f_borneBy f_due f_gives f_gone f_holds f_image f_isKept (prg (fun _ => 5) f_lucky i) f_may f_pad (prg (fun _ => 12345) f_ranks i) f_refused f_sums f_sunk f_times f_voyage f_whoBore f_worths x_t_signs x_t_day x_t_reason x_t_asked = some (f_bears, f_best, f_borneBy, f_due, f_gives, f_gone, f_holds, f_image, f_isKept, (prg (fun _ => 5) f_lucky 5), f_may, f_pad, (prg (fun _ => 12345) f_ranks 5), f_refused, f_sums, f_sunk, f_times, f_voyage, f_whoBore, (prg (fun _ => 10) f_worths 30), x_t_signs, x_t_day, x_t_reason, x_t_asked) := by
  refine loop_up (fun fuel i => m_X8_init_178 fuel (nI i) f_bears f_best f_borneBy f_due f_gives f_gone f_holds f_image f_isKept (prg (fun _ => 5) f_lucky i) f_may f_pad (prg (fun _ => 12345) f_ranks i) f_refused f_sums f_sunk f_times f_voyage f_whoBore f_worths x_t_signs x_t_day x_t_reason x_t_asked = some (f_bears, f_best, f_borneBy, f_due, f_gives, f_gone, f_holds, f_image, f_isKept, (prg (fun _ => 5) f_lucky 5), f_may, f_pad, (prg (fun _ => 12345) f_ranks 5), f_refused, f_sums, f_sunk, f_times, f_voyage, f_whoBore, (prg (fun _ => 10) f_worths 30), x_t_signs, x_t_day, x_t_reason, x_t_asked)) 5 (fun fuel => ?_) (fun fuel i hi ih => ?_)
  · show m_X8_init_178b (m_X8_init_178 fuel) (nI 5) f_bears f_best f_borneBy f_due f_gives f_gone f_holds f_image f_isKept (prg (fun _ => 5) f_lucky 5) f_may f_pad (prg (fun _ => 12345) f_ranks 5) f_refused f_sums f_sunk f_times f_voyage f_whoBore f_worths x_t_signs x_t_day x_t_reason x_t_asked = _
    unfold m_X8_init_178b
    rw [if_pos (by decide)]
    have h := i207 f_bears f_best f_borneBy f_due f_gives f_gone f_holds f_image f_isKept (prg (fun _ => 5) f_lucky 5) f_may f_pad (prg (fun _ => 12345) f_ranks 5) f_refused f_sums f_sunk f_times f_voyage f_whoBore f_worths x_t_signs x_t_day x_t_reason x_t_asked 0 (by omega) 1000000 (by omega)
    rw [prg_0] at h
    exact h
  · show m_X8_init_178b (m_X8_init_178 fuel) (nI i) f_bears f_best f_borneBy f_due f_gives f_gone f_holds f_image f_isKept (prg (fun _ => 5) f_lucky i) f_may f_pad (prg (fun _ => 12345) f_ranks i) f_refused f_sums f_sunk f_times f_voyage f_whoBore f_worths x_t_signs x_t_day x_t_reason x_t_asked = _
    unfold m_X8_init_178b
    rw [if_neg (by rw [l5, nI_leI (by omega) (by omega)]; omega), ogi_N hi (by omega), ogi_N hi (by omega), ogl_def, nI_1, cl_N (by omega), prg_s (fun _ => 5), prg_s (fun _ => 12345)]
    exact ih
theorem i156 (f_bears : Nat → Int32) (f_best : Nat → Int32) (f_borneBy : Nat → Int32) (f_due : Nat → Int32) (f_gives : Nat → Int32) (f_gone : Nat → Int32) (f_holds : Nat → Int32) (f_image : Nat → Int32) (f_isKept : Nat → Int32) (f_lucky : Nat → Int32) (f_may : Nat → Int32) (f_pad : Nat → Int32) (f_ranks : Nat → Int32) (f_refused : Nat → Int32) (f_sums : Nat → Int32) (f_sunk : Nat → Int32) (f_times : Nat → Int32) (f_voyage : Nat → Int32) (f_whoBore : Nat → Int32) (f_worths : Nat → Int32) (x_t_signs : Int32) (x_t_day : Int32) (x_t_reason : Int32) (x_t_asked : Int32) : ∀ i, i ≤ 6 → ∀ fuel, 6 - i < fuel → m_X8_init_156 fuel (nI i) f_bears f_best f_borneBy f_due f_gives f_gone f_holds f_image f_isKept f_lucky (prg (fun _ => 31) f_may i) f_pad f_ranks f_refused f_sums f_sunk f_times f_voyage f_whoBore f_worths x_t_signs x_t_day x_t_reason x_t_asked = some (f_bears, f_best, f_borneBy, f_due, f_gives, f_gone, f_holds, f_image, f_isKept, (prg (fun _ => 5) f_lucky 5), (prg (fun _ => 31) f_may 6), f_pad, (prg (fun _ => 12345) f_ranks 5), f_refused, f_sums, f_sunk, f_times, f_voyage, f_whoBore, (prg (fun _ => 10) f_worths 30), x_t_signs, x_t_day, x_t_reason, x_t_asked) := by
  refine loop_up (fun fuel i => m_X8_init_156 fuel (nI i) f_bears f_best f_borneBy f_due f_gives f_gone f_holds f_image f_isKept f_lucky (prg (fun _ => 31) f_may i) f_pad f_ranks f_refused f_sums f_sunk f_times f_voyage f_whoBore f_worths x_t_signs x_t_day x_t_reason x_t_asked = some (f_bears, f_best, f_borneBy, f_due, f_gives, f_gone, f_holds, f_image, f_isKept, (prg (fun _ => 5) f_lucky 5), (prg (fun _ => 31) f_may 6), f_pad, (prg (fun _ => 12345) f_ranks 5), f_refused, f_sums, f_sunk, f_times, f_voyage, f_whoBore, (prg (fun _ => 10) f_worths 30), x_t_signs, x_t_day, x_t_reason, x_t_asked)) 6 (fun fuel => ?_) (fun fuel i hi ih => ?_)
  · show m_X8_init_156b (m_X8_init_156 fuel) (nI 6) f_bears f_best f_borneBy f_due f_gives f_gone f_holds f_image f_isKept f_lucky (prg (fun _ => 31) f_may 6) f_pad f_ranks f_refused f_sums f_sunk f_times f_voyage f_whoBore f_worths x_t_signs x_t_day x_t_reason x_t_asked = _
    unfold m_X8_init_156b
    rw [if_pos (by decide)]
    have h := i178 f_bears f_best f_borneBy f_due f_gives f_gone f_holds f_image f_isKept f_lucky (prg (fun _ => 31) f_may 6) f_pad f_ranks f_refused f_sums f_sunk f_times f_voyage f_whoBore f_worths x_t_signs x_t_day x_t_reason x_t_asked 0 (by omega) 1000000 (by omega)
    rw [prg_0, prg_0] at h
    exact h
  · show m_X8_init_156b (m_X8_init_156 fuel) (nI i) f_bears f_best f_borneBy f_due f_gives f_gone f_holds f_image f_isKept f_lucky (prg (fun _ => 31) f_may i) f_pad f_ranks f_refused f_sums f_sunk f_times f_voyage f_whoBore f_worths x_t_signs x_t_day x_t_reason x_t_asked = _
    unfold m_X8_init_156b
    rw [if_neg (by rw [l6, nI_leI (by omega) (by omega)]; omega), ogi_N hi (by omega), ogl_def, nI_1, cl_N (by omega), prg_s (fun _ => 31)]
    exact ih
theorem x8_init : m_X8_init = some ((fun _ => 0), (fun _ => 0), (fun _ => 0), (fun _ => 0), (fun _ => 0), (fun _ => 0), (fun _ => 0), (fun _ => 0), (fun _ => 0), (prg (fun _ => 5) (fun _ => 0) 5), (prg (fun _ => 31) (fun _ => 0) 6), (fun _ => 0), (prg (fun _ => 12345) (fun _ => 0) 5), (fun _ => 0), (fun _ => 0), (fun _ => 0), (fun _ => 0), (fun _ => 0), (fun _ => 0), (prg (fun _ => 10) (fun _ => 0) 30), 0, 0, 0, 0) := by
  have h := i156 (fun _ => 0) (fun _ => 0) (fun _ => 0) (fun _ => 0) (fun _ => 0) (fun _ => 0) (fun _ => 0) (fun _ => 0) (fun _ => 0) (fun _ => 0) (fun _ => 0) (fun _ => 0) (fun _ => 0) (fun _ => 0) (fun _ => 0) (fun _ => 0) (fun _ => 0) (fun _ => 0) (fun _ => 0) (fun _ => 0) 0 0 0 0 0 (by omega) 1000000 (by omega)
  rw [prg_0] at h
  exact h
theorem fill_prg {n : Nat} (hn : n ≤ 100000) (f : Nat → Int32) (v : Int32) : m_X7_fill n f v = some (prg (fun _ => v) f n) := fill_N hn f v
theorem x3_init : m_X3_init = some (prg (fun _ => 5) (fun _ => 0) 5, prg (fun _ => 31) (fun _ => 0) 6, prg (fun _ => 12345) (fun _ => 0) 5, (fun _ => 0), prg (fun _ => 10) (fun _ => 0) 30) := by
  simp only [m_X3_init, fill_prg (show 6 ≤ 100000 by omega), fill_prg (show 5 ≤ 100000 by omega), fill_prg (show 30 ≤ 100000 by omega), ogb_some]
theorem row0 : rowOK 12345 := ⟨12345, by omega, rfl, by decide⟩
theorem x7_init : m_X7_init = some ((prg (fun _ => 5) (fun _ => 0) 5), (prg (fun _ => 31) (fun _ => 0) 6), (prg (fun _ => 12345) (fun _ => 0) 5), (fun _ => 0), (prg (fun _ => 10) (fun _ => 0) 30), (fun _ => 0), (fun _ => 0), (fun _ => 0), (fun _ => 0), (fun _ => 0), (fun _ => 0), (fun _ => 0), (fun _ => 0), (fun _ => 0), (fun _ => 0), (fun _ => 0), (fun _ => 0), (prg (fun _ => 5) (fun _ => 0) 5), (prg (fun _ => 31) (fun _ => 0) 6), (prg (fun _ => 12345) (fun _ => 0) 5), (fun _ => 0), (prg (fun _ => 10) (fun _ => 0) 30), (fun _ => 0), (fun _ => 0), (fun _ => 0), (fun _ => 0), (fun _ => 0), (prg (fun _ => 5) (fun _ => 0) 5), (prg (fun _ => 31) (fun _ => 0) 6), (prg (fun _ => 12345) (fun _ => 0) 5), (fun _ => 0), (prg (fun _ => 10) (fun _ => 0) 30), (fun _ => 0), (fun _ => 0), 0, 0, 0, 0, 0, 0, 0, 0, 0, 0, 0, 0, 0, 0) := by
  unfold m_X7_init
  rw [x3_init]
  rfl
theorem inv0 : INV (prg (fun _ => 31) (fun _ => 0) 6) (fun _ => 0) (prg (fun _ => 5) (fun _ => 0) 5) (prg (fun _ => 12345) (fun _ => 0) 5) (prg (fun _ => 10) (fun _ => 0) 30) (prg (fun _ => 31) (fun _ => 0) 6) (fun _ => 0) (prg (fun _ => 5) (fun _ => 0) 5) (prg (fun _ => 12345) (fun _ => 0) 5) (prg (fun _ => 10) (fun _ => 0) 30) (prg (fun _ => 31) (fun _ => 0) 6) (fun _ => 0) (prg (fun _ => 5) (fun _ => 0) 5) (prg (fun _ => 12345) (fun _ => 0) 5) (prg (fun _ => 10) (fun _ => 0) 30) 0 (fun _ => 0) 0 (prg (fun _ => 31) (fun _ => 0) 6) (fun _ => 0) (prg (fun _ => 5) (fun _ => 0) 5) (prg (fun _ => 12345) (fun _ => 0) 5) (prg (fun _ => 10) (fun _ => 0) 30) 0 (fun _ => 0) (fun _ => 0) (fun _ => 0) := by
  have hz : ∀ {f : Nat → Int32} {n : Nat}, eqN n f f := fun j _ => rfl
  have hp : pOK (prg (fun _ => 31) (fun _ => 0) 6) (fun _ => 0) (prg (fun _ => 5) (fun _ => 0) 5) (prg (fun _ => 12345) (fun _ => 0) 5) (prg (fun _ => 10) (fun _ => 0) 30) := by
    refine ⟨fun j hj => ⟨31, by omega, prg_lt hj⟩, fun j hj => ⟨0, by omega, rfl⟩, fun j hj => ⟨5, by omega, prg_lt hj⟩, fun j hj => ?_, fun j hj => ⟨10, by omega, prg_lt hj⟩⟩
    rw [prg_lt hj]; exact row0
  exact ⟨hp, ⟨hz, hz, hz, hz, hz⟩, ⟨false, false, rfl, rfl, rfl, (fun h => absurd h (by decide)), (fun h => absurd h (by decide))⟩, ⟨0, by omega, rfl, rfl⟩, hz⟩
set_option maxHeartbeats 8000000 in
set_option maxRecDepth 20000 in
theorem step_init : ∃ (cx : (Nat → Int32) × (Nat → Int32) × (Nat → Int32) × (Nat → Int32) × (Nat → Int32) × (Nat → Int32) × (Nat → Int32) × (Nat → Int32) × (Nat → Int32) × (Nat → Int32) × (Nat → Int32) × (Nat → Int32) × (Nat → Int32) × (Nat → Int32) × (Nat → Int32) × (Nat → Int32) × (Nat → Int32) × (Nat → Int32) × (Nat → Int32) × (Nat → Int32) × (Nat → Int32) × (Nat → Int32) × (Nat → Int32) × (Nat → Int32) × (Nat → Int32) × (Nat → Int32) × (Nat → Int32) × (Nat → Int32) × (Nat → Int32) × (Nat → Int32) × (Nat → Int32) × (Nat → Int32) × (Nat → Int32) × (Nat → Int32) × Int32 × Int32 × Int32 × Int32 × Int32 × Int32 × Int32 × Int32 × Int32 × Int32 × Int32 × Int32 × Int32 × Int32) (cm : (Nat → Int32) × (Nat → Int32) × (Nat → Int32) × (Nat → Int32) × (Nat → Int32) × (Nat → Int32) × (Nat → Int32) × (Nat → Int32) × (Nat → Int32) × (Nat → Int32) × (Nat → Int32) × (Nat → Int32) × (Nat → Int32) × (Nat → Int32) × (Nat → Int32) × (Nat → Int32) × (Nat → Int32) × (Nat → Int32) × (Nat → Int32) × (Nat → Int32) × Int32 × Int32 × Int32 × Int32), m_X7_init = some cx ∧ m_X8_init = some cm ∧ INV (cx.2.2.2.2.2.2.2.2.2.2.2.2.2.2.2.2.2.2.1) (cx.2.2.2.2.2.2.2.2.2.2.2.2.2.2.2.2.2.2.2.2.1) (cx.2.2.2.2.2.2.2.2.2.2.2.2.2.2.2.2.2.1) (cx.2.2.2.2.2.2.2.2.2.2.2.2.2.2.2.2.2.2.2.1) (cx.2.2.2.2.2.2.2.2.2.2.2.2.2.2.2.2.2.2.2.2.2.1) (cx.2.1) (cx.2.2.2.1) (cx.1) (cx.2.2.1) (cx.2.2.2.2.1) (cx.2.2.2.2.2.2.2.2.2.2.2.2.2.2.2.2.2.2.2.2.2.2.2.2.2.2.2.2.1) (cx.2.2.2.2.2.2.2.2.2.2.2.2.2.2.2.2.2.2.2.2.2.2.2.2.2.2.2.2.2.2.1) (cx.2.2.2.2.2.2.2.2.2.2.2.2.2.2.2.2.2.2.2.2.2.2.2.2.2.2.2.1) (cx.2.2.2.2.2.2.2.2.2.2.2.2.2.2.2.2.2.2.2.2.2.2.2.2.2.2.2.2.2.1) (cx.2.2.2.2.2.2.2.2.2.2.2.2.2.2.2.2.2.2.2.2.2.2.2.2.2.2.2.2.2.2.2.1) (cx.2.2.2.2.2.2.2.2.2.2.2.2.2.2.2.2.2.2.2.2.2.2.2.2.2.2.2.2.2.2.2.2.2.2.1) (cx.2.2.2.2.2.2.2.2.2.2.2.2.2.2.2.2.1) (cx.2.2.2.2.2.2.2.2.2.2.2.2.2.2.2.2.2.2.2.2.2.2.2.2.2.2.2.2.2.2.2.2.2.2.2.2.1) (cm.2.2.2.2.2.2.2.2.2.2.1) (cm.2.2.2.2.2.2.2.2.2.2.2.2.2.2.2.2.2.1) (cm.2.2.2.2.2.2.2.2.2.1) (cm.2.2.2.2.2.2.2.2.2.2.2.2.1) (cm.2.2.2.2.2.2.2.2.2.2.2.2.2.2.2.2.2.2.2.1) (cm.2.2.2.2.2.2.2.2.2.2.2.2.2.2.2.2.2.2.2.2.1) (cm.2.2.2.2.2.2.2.2.2.2.2.1) (cm.2.2.2.2.2.2.2.1) (cm.2.2.2.2.2.2.2.2.1) := by
  exact ⟨_, _, x7_init, x8_init, inv0⟩
theorem kI_or0 : ∀ a b : Bool, kI a b ||| ((1 : Int32) <<< ((nI 0 : Int32) &&& 31)) = kI true b := by decide
theorem kI_or1 : ∀ a b : Bool, kI a b ||| ((1 : Int32) <<< ((nI 1 : Int32) &&& 31)) = kI a true := by decide
theorem kI_bit0 : ∀ a b : Bool, m_X7_hasBit (kI a b) (nI 0) = some (bI a) := by decide
theorem kI_bit1 : ∀ a b : Bool, m_X7_hasBit (kI a b) (nI 1) = some (bI b) := by decide
theorem nar1 : vp_nar .boolean 1 = 1 := by decide
theorem copy_x (l1 m1 r1 v1 w1 l2 m2 r2 v2 w2 : Nat → Int32) : m_X3_copy l1 m1 r1 v1 w1 l2 m2 r2 v2 w2 = some (prg l1 l2 5, prg m1 m2 6, prg r1 r2 5, prg v1 v2 6, prg w1 w2 30) := by
  simp only [m_X3_copy, copyRow_N (show 6 ≤ 100000 by omega), copyRow_N (show 5 ≤ 100000 by omega), copyRow_N (show 30 ≤ 100000 by omega), ogb_some]
  rfl
/-- two rows of n laid at o and at q -/
def lay2 (f g im : Nat → Int32) (o q i : Nat) : Nat → Int32 := fun x => if o ≤ x ∧ x < o + i then f (x - o) else if q ≤ x ∧ x < q + i then g (x - q) else im x
theorem lay2_0 (f g im : Nat → Int32) (o q : Nat) : lay2 f g im o q 0 = im := by
  funext x; unfold lay2; rw [if_neg (by omega), if_neg (by omega)]
theorem lay2_s (f g im : Nat → Int32) {o q i n : Nat} (hq : o + n ≤ q) (hi : i < n) : upd (upd (lay2 f g im o q i) (o + i) (f i)) (q + i) (g i) = lay2 f g im o q (i + 1) := by
  funext x
  unfold upd lay2
  by_cases h1 : x = q + i
  · subst h1
    rw [if_pos rfl, if_neg (by omega), if_pos (by omega), show q + i - q = i by omega]
  · rw [if_neg h1]
    by_cases h2 : x = o + i
    · subst h2
      rw [if_pos rfl, if_pos (by omega), show o + i - o = i by omega]
    · rw [if_neg h2]
      by_cases h3 : o ≤ x ∧ x < o + i
      · rw [if_pos h3, if_pos (show o ≤ x ∧ x < o + (i + 1) by omega)]
      · rw [if_neg h3, if_neg (show ¬ (o ≤ x ∧ x < o + (i + 1)) by omega)]
        by_cases h4 : q ≤ x ∧ x < q + i
        · rw [if_pos h4, if_pos (show q ≤ x ∧ x < q + (i + 1) by omega)]
        · rw [if_neg h4, if_neg (show ¬ (q ≤ x ∧ x < q + (i + 1)) by omega)]
def lay1 (f im : Nat → Int32) (o i : Nat) : Nat → Int32 := fun x => if o ≤ x ∧ x < o + i then f (x - o) else im x
theorem lay1_0 (f im : Nat → Int32) (o : Nat) : lay1 f im o 0 = im := by
  funext x; unfold lay1; rw [if_neg (by omega)]
theorem lay1_s (f im : Nat → Int32) (o i : Nat) : upd (lay1 f im o i) (o + i) (f i) = lay1 f im o (i + 1) := by
  funext x
  unfold upd lay1
  by_cases h1 : x = o + i
  · subst h1
    rw [if_pos rfl, if_pos (by omega), show o + i - o = i by omega]
  · rw [if_neg h1]
    by_cases h3 : o ≤ x ∧ x < o + i
    · rw [if_pos h3, if_pos (by omega)]
    · rw [if_neg h3, if_neg (by omega)]
def layAll (l m r v w im : Nat → Int32) (o : Nat) : Nat → Int32 := lay1 w (lay2 l r (lay2 m v im o (o + 6) 6) (o + 12) (o + 17) 5) (o + 22) 30
theorem img_111 (l m r v w : Nat → Int32) (t o : Nat) (ht : t < 2) (ho : o ≤ 52) (im kp : Nat → Int32) : ∀ i, i ≤ 30 → ∀ fuel, 30 - i < fuel → m_X8_image_111 l m r v w fuel (nI t) (nI o) (nI i) (lay1 w im (o + 22) i) kp = some (1, lay1 w im (o + 22) 30, upd kp t 1) := by
  refine loop_up (fun fuel i => m_X8_image_111 l m r v w fuel (nI t) (nI o) (nI i) (lay1 w im (o + 22) i) kp = some (1, lay1 w im (o + 22) 30, upd kp t 1)) 30 (fun fuel => ?_) (fun fuel i hi ih => ?_)
  · show m_X8_image_111b (m_X8_image_111 l m r v w fuel) l m r v w (nI t) (nI o) (nI 30) _ kp = _
    unfold m_X8_image_111b
    rw [if_pos (by decide), ogi_N ht (by omega), nar1, cl_N (by omega)]
  · show m_X8_image_111b (m_X8_image_111 l m r v w fuel) l m r v w (nI t) (nI o) (nI i) _ kp = _
    unfold m_X8_image_111b
    rw [if_neg (by rw [l30, nI_leI (by omega) (by omega)]; omega), ogi_N hi (by omega), l22, nI_add, nI_add, ogi_N (by omega) (by omega), ogl_def, nI_1, cl_N (by omega), cl_N (by omega), lay1_s]
    exact ih
theorem img_64 (l m r v w : Nat → Int32) (t o : Nat) (ht : t < 2) (ho : o ≤ 52) (im kp : Nat → Int32) : ∀ i, i ≤ 5 → ∀ fuel, 5 - i < fuel → m_X8_image_64 l m r v w fuel (nI t) (nI o) (nI i) (lay2 l r im (o + 12) (o + 17) i) kp = some (1, lay1 w (lay2 l r im (o + 12) (o + 17) 5) (o + 22) 30, upd kp t 1) := by
  refine loop_up (fun fuel i => m_X8_image_64 l m r v w fuel (nI t) (nI o) (nI i) (lay2 l r im (o + 12) (o + 17) i) kp = some (1, lay1 w (lay2 l r im (o + 12) (o + 17) 5) (o + 22) 30, upd kp t 1)) 5 (fun fuel => ?_) (fun fuel i hi ih => ?_)
  · show m_X8_image_64b (m_X8_image_64 l m r v w fuel) l m r v w (nI t) (nI o) (nI 5) _ kp = _
    unfold m_X8_image_64b
    rw [if_pos (by decide)]
    have h := img_111 l m r v w t o ht ho (lay2 l r im (o + 12) (o + 17) 5) kp 0 (by omega) 1000000 (by omega)
    rw [lay1_0] at h
    exact h
  · show m_X8_image_64b (m_X8_image_64 l m r v w fuel) l m r v w (nI t) (nI o) (nI i) _ kp = _
    unfold m_X8_image_64b
    rw [if_neg (by rw [l5, nI_leI (by omega) (by omega)]; omega), ogi_N hi (by omega), l12, l17, nI_add, nI_add, nI_add, nI_add, ogi_N (by omega) (by omega), ogi_N hi (by omega), ogi_N (by omega) (by omega), ogl_def, nI_1, cl_N (by omega), cl_N (by omega), cl_N (by omega), lay2_s l r im (n := 5) (by omega) hi]
    exact ih
theorem img_19 (l m r v w : Nat → Int32) (t o : Nat) (ht : t < 2) (ho : o ≤ 52) (im kp : Nat → Int32) : ∀ i, i ≤ 6 → ∀ fuel, 6 - i < fuel → m_X8_image_19 l m r v w fuel (nI t) (nI o) (nI i) (lay2 m v im o (o + 6) i) kp = some (1, layAll l m r v w im o, upd kp t 1) := by
  refine loop_up (fun fuel i => m_X8_image_19 l m r v w fuel (nI t) (nI o) (nI i) (lay2 m v im o (o + 6) i) kp = some (1, layAll l m r v w im o, upd kp t 1)) 6 (fun fuel => ?_) (fun fuel i hi ih => ?_)
  · show m_X8_image_19b (m_X8_image_19 l m r v w fuel) l m r v w (nI t) (nI o) (nI 6) _ kp = _
    unfold m_X8_image_19b
    rw [if_pos (by decide)]
    have h := img_64 l m r v w t o ht ho (lay2 m v im o (o + 6) 6) kp 0 (by omega) 1000000 (by omega)
    rw [lay2_0] at h
    exact h
  · show m_X8_image_19b (m_X8_image_19 l m r v w fuel) l m r v w (nI t) (nI o) (nI i) _ kp = _
    unfold m_X8_image_19b
    rw [if_neg (by rw [l6, nI_leI (by omega) (by omega)]; omega), l6, nI_add, nI_add, nI_add, ogi_N (by omega) (by omega), ogi_N (by omega) (by omega), ogi_N (by omega) (by omega), ogi_N (by omega) (by omega), ogl_def, nI_1, cl_N (by omega), cl_N (by omega), cl_N (by omega), lay2_s m v im (n := 6) (by omega) hi]
    exact ih
theorem layAll_out (l m r v w im : Nat → Int32) {o x : Nat} (h : x < o ∨ o + 52 ≤ x) : layAll l m r v w im o x = im x := by
  unfold layAll lay1
  rw [if_neg (by omega)]
  unfold lay2
  rw [if_neg (by omega), if_neg (by omega), if_neg (by omega), if_neg (by omega)]
theorem layAll_m (l m r v w im : Nat → Int32) (o : Nat) {j : Nat} (h : j < 6) : layAll l m r v w im o (o + j) = m j := by
  unfold layAll lay1
  rw [if_neg (by omega)]
  unfold lay2
  rw [if_neg (by omega), if_neg (by omega), if_pos (by omega), show o + j - o = j by omega]
theorem layAll_v (l m r v w im : Nat → Int32) (o : Nat) {j : Nat} (h : j < 6) : layAll l m r v w im o (o + 6 + j) = v j := by
  unfold layAll lay1
  rw [if_neg (by omega)]
  unfold lay2
  rw [if_neg (by omega), if_neg (by omega), if_neg (by omega), if_pos (by omega), show o + 6 + j - (o + 6) = j by omega]
theorem layAll_l (l m r v w im : Nat → Int32) (o : Nat) {j : Nat} (h : j < 5) : layAll l m r v w im o (o + 12 + j) = l j := by
  unfold layAll lay1
  rw [if_neg (by omega)]
  unfold lay2
  rw [if_pos (by omega), show o + 12 + j - (o + 12) = j by omega]
theorem layAll_r (l m r v w im : Nat → Int32) (o : Nat) {j : Nat} (h : j < 5) : layAll l m r v w im o (o + 17 + j) = r j := by
  unfold layAll lay1
  rw [if_neg (by omega)]
  unfold lay2
  rw [if_neg (by omega), if_pos (by omega), show o + 17 + j - (o + 17) = j by omega]
theorem layAll_w (l m r v w im : Nat → Int32) (o : Nat) {j : Nat} (h : j < 30) : layAll l m r v w im o (o + 22 + j) = w j := by
  unfold layAll lay1
  rw [if_pos (by omega), show o + 22 + j - (o + 22) = j by omega]
theorem pOK_prg {m v l r w m' v' l' r' w' : Nat → Int32} (h : pOK m v l r w) : pOK (prg m m' 6) (prg v v' 6) (prg l l' 5) (prg r r' 5) (prg w w' 30) := by
  refine ⟨fun j hj => ?_, fun j hj => ?_, fun j hj => ?_, fun j hj => ?_, fun j hj => ?_⟩
  · rw [prg_lt hj]; exact h.1 j hj
  · rw [prg_lt hj]; exact h.2.1 j hj
  · rw [prg_lt hj]; exact h.2.2.1 j hj
  · rw [prg_lt hj]; exact h.2.2.2.1 j hj
  · rw [prg_lt hj]; exact h.2.2.2.2 j hj
theorem imOK_new {m v l r w m' v' l' r' w' mm mv ml mr mw im : Nat → Int32} {o : Nat} (h : pOK m v l r w) (e : pEQ m v l r w mm mv ml mr mw) : imOK (prg m m' 6) (prg v v' 6) (prg l l' 5) (prg r r' 5) (prg w w' 30) (layAll ml mm mr mv mw im o) o := by
  refine ⟨pOK_prg h, fun j hj => ?_, fun j hj => ?_, fun j hj => ?_, fun j hj => ?_, fun j hj => ?_⟩
  · rw [prg_lt hj]; exact (e.1 j hj).trans (layAll_m _ _ _ _ _ _ _ hj).symm
  · rw [prg_lt hj]; exact (e.2.1 j hj).trans (layAll_v _ _ _ _ _ _ _ hj).symm
  · rw [prg_lt hj]; exact (e.2.2.1 j hj).trans (layAll_l _ _ _ _ _ _ _ hj).symm
  · rw [prg_lt hj]; exact (e.2.2.2.1 j hj).trans (layAll_r _ _ _ _ _ _ _ hj).symm
  · rw [prg_lt hj]; exact (e.2.2.2.2 j hj).trans (layAll_w _ _ _ _ _ _ _ hj).symm
theorem imOK_keep {m v l r w ml mm mr mv mw im : Nat → Int32} {o q : Nat} (hd : q + 52 ≤ o ∨ o + 52 ≤ q) (h : imOK m v l r w im q) : imOK m v l r w (layAll ml mm mr mv mw im o) q := by
  have k : ∀ j, j < 52 → layAll ml mm mr mv mw im o (q + j) = im (q + j) := fun j hj => layAll_out _ _ _ _ _ _ (by omega)
  refine ⟨h.1, fun j hj => ?_, fun j hj => ?_, fun j hj => ?_, fun j hj => ?_, fun j hj => ?_⟩
  · exact (h.2.1 j hj).trans (k j (by omega)).symm
  · exact (h.2.2.1 j hj).trans (by have := k (6 + j) (by omega); unfold off; rw [Nat.add_assoc]; exact this.symm)
  · exact (h.2.2.2.1 j hj).trans (by have := k (12 + j) (by omega); unfold off; rw [Nat.add_assoc]; exact this.symm)
  · exact (h.2.2.2.2.1 j hj).trans (by have := k (17 + j) (by omega); unfold off; rw [Nat.add_assoc]; exact this.symm)
  · exact (h.2.2.2.2.2 j hj).trans (by have := k (22 + j) (by omega); unfold off; rw [Nat.add_assoc]; exact this.symm)
set_option maxHeartbeats 8000000 in
set_option maxRecDepth 20000 in
theorem step_image {xf_port_may : Nat → Int32} {xf_port_voyage : Nat → Int32} {xf_port_luck : Nat → Int32} {xf_port_rank : Nat → Int32} {xf_port_worth : Nat → Int32} {xf_firstImage_may : Nat → Int32} {xf_firstImage_voyage : Nat → Int32} {xf_firstImage_luck : Nat → Int32} {xf_firstImage_rank : Nat → Int32} {xf_firstImage_worth : Nat → Int32} {xf_secondImage_may : Nat → Int32} {xf_secondImage_voyage : Nat → Int32} {xf_secondImage_luck : Nat → Int32} {xf_secondImage_rank : Nat → Int32} {xf_secondImage_worth : Nat → Int32} {xx_t_keptImages : Int32} {xf_pad_signs : Nat → Int32} {xx_pad_count : Int32} {mf_may : Nat → Int32} {mf_voyage : Nat → Int32} {mf_lucky : Nat → Int32} {mf_ranks : Nat → Int32} {mf_worths : Nat → Int32} {mx_t_signs : Int32} {mf_pad : Nat → Int32} {mf_image : Nat → Int32} {mf_isKept : Nat → Int32} (a1 : Int32) (hI : INV xf_port_may xf_port_voyage xf_port_luck xf_port_rank xf_port_worth xf_firstImage_may xf_firstImage_voyage xf_firstImage_luck xf_firstImage_rank xf_firstImage_worth xf_secondImage_may xf_secondImage_voyage xf_secondImage_luck xf_secondImage_rank xf_secondImage_worth xx_t_keptImages xf_pad_signs xx_pad_count mf_may mf_voyage mf_lucky mf_ranks mf_worths mx_t_signs mf_pad mf_image mf_isKept) : ∃ (r : Int32) (xf_firstImage_luck' : Nat → Int32) (xf_firstImage_may' : Nat → Int32) (xf_firstImage_rank' : Nat → Int32) (xf_firstImage_voyage' : Nat → Int32) (xf_firstImage_worth' : Nat → Int32) (xf_secondImage_luck' : Nat → Int32) (xf_secondImage_may' : Nat → Int32) (xf_secondImage_rank' : Nat → Int32) (xf_secondImage_voyage' : Nat → Int32) (xf_secondImage_worth' : Nat → Int32) (xx_t_keptImages' : Int32) (mf_image' : Nat → Int32) (mf_isKept' : Nat → Int32), m_X7_image xf_port_luck xf_port_may xf_port_rank xf_port_voyage xf_port_worth xf_firstImage_luck xf_firstImage_may xf_firstImage_rank xf_firstImage_voyage xf_firstImage_worth xf_secondImage_luck xf_secondImage_may xf_secondImage_rank xf_secondImage_voyage xf_secondImage_worth xx_t_keptImages a1 = some (r, (xf_firstImage_luck', xf_firstImage_may', xf_firstImage_rank', xf_firstImage_voyage', xf_firstImage_worth', xf_secondImage_luck', xf_secondImage_may', xf_secondImage_rank', xf_secondImage_voyage', xf_secondImage_worth', xx_t_keptImages')) ∧ m_X8_image mf_lucky mf_may mf_ranks mf_voyage mf_worths mf_image mf_isKept a1 = some (r, (mf_image', mf_isKept')) ∧ INV xf_port_may xf_port_voyage xf_port_luck xf_port_rank xf_port_worth xf_firstImage_may' xf_firstImage_voyage' xf_firstImage_luck' xf_firstImage_rank' xf_firstImage_worth' xf_secondImage_may' xf_secondImage_voyage' xf_secondImage_luck' xf_secondImage_rank' xf_secondImage_worth' xx_t_keptImages' xf_pad_signs xx_pad_count mf_may mf_voyage mf_lucky mf_ranks mf_worths mx_t_signs mf_pad mf_image' mf_isKept' := by
  obtain ⟨hP, hE, hKp, hC, hS⟩ := hI
  obtain ⟨k0, k1, rfl, hk0, hk1, hf, hs⟩ := hKp
  rcases with_cases a1 1 (by omega) with ⟨t, ht, rfl, hw⟩ | ⟨hw, -⟩
  · have hw7 : m_X7_isWithin (nI t) 0 1 = some 1 := hw
    have hw8 : m_X8_in (nI t) 0 1 = some 1 := hw
    have e8 : m_X8_image mf_lucky mf_may mf_ranks mf_voyage mf_worths mf_image mf_isKept (nI t) = some (1, layAll mf_lucky mf_may mf_ranks mf_voyage mf_worths mf_image (52 * t), upd mf_isKept t 1) := by
      have h := img_19 mf_lucky mf_may mf_ranks mf_voyage mf_worths t (52 * t) (by omega) (by omega) mf_image mf_isKept 0 (by omega) 1000000 (by omega)
      rw [lay2_0] at h
      unfold m_X8_image
      rw [hw8, ogb_some, if_neg (by decide), ogl_def, show (52 : Int32) * nI t = nI (52 * t) from pk_mul 52 t]
      exact h
    have : t = 0 ∨ t = 1 := by omega
    rcases this with rfl | rfl
    · refine ⟨1, (prg xf_port_luck xf_firstImage_luck 5), (prg xf_port_may xf_firstImage_may 6), (prg xf_port_rank xf_firstImage_rank 5), (prg xf_port_voyage xf_firstImage_voyage 6), (prg xf_port_worth xf_firstImage_worth 30), xf_secondImage_luck, xf_secondImage_may, xf_secondImage_rank, xf_secondImage_voyage, xf_secondImage_worth, kI true k1, _, _, ?_, e8, hP, hE, ⟨true, k1, rfl, upd_s _ _ _, (upd_n _ _ (by omega)).trans hk1, fun _ => imOK_new hP hE, fun h => imOK_keep (by omega) (hs h)⟩, hC, hS⟩
      simp only [m_X7_image, hw7, ogb_some, ogl_def, copy_x, kI_or0]
      rfl
    · refine ⟨1, xf_firstImage_luck, xf_firstImage_may, xf_firstImage_rank, xf_firstImage_voyage, xf_firstImage_worth, (prg xf_port_luck xf_secondImage_luck 5), (prg xf_port_may xf_secondImage_may 6), (prg xf_port_rank xf_secondImage_rank 5), (prg xf_port_voyage xf_secondImage_voyage 6), (prg xf_port_worth xf_secondImage_worth 30), kI k0 true, _, _, ?_, e8, hP, hE, ⟨k0, true, rfl, (upd_n _ _ (by omega)).trans hk0, upd_s _ _ _, fun h => imOK_keep (by omega) (hf h), fun _ => imOK_new hP hE⟩, hC, hS⟩
      simp only [m_X7_image, hw7, ogb_some, ogl_def, copy_x, kI_or1]
      rfl
  · refine ⟨-2, xf_firstImage_luck, xf_firstImage_may, xf_firstImage_rank, xf_firstImage_voyage, xf_firstImage_worth, xf_secondImage_luck, xf_secondImage_may, xf_secondImage_rank, xf_secondImage_voyage, xf_secondImage_worth, kI k0 k1, mf_image, mf_isKept, ?_, ?_, hP, hE, ⟨k0, k1, rfl, hk0, hk1, hf, hs⟩, hC, hS⟩
    · have hw : m_X7_isWithin a1 0 1 = some 0 := hw
      simp only [m_X7_image, hw, ogb_some]
      rfl
    · have hw : m_X8_in a1 0 1 = some 0 := hw
      simp only [m_X8_image, hw, ogb_some]
      rfl
theorem rst_123 (im kp : Nat → Int32) (o : Nat) (ho : o ≤ 52) (l m r v w : Nat → Int32) : ∀ i, i ≤ 30 → ∀ fuel, 30 - i < fuel → m_X8_restore_123 im kp fuel (nI o) (nI i) l m r v (prg (off im (o + 22)) w i) = some (1, l, m, r, v, prg (off im (o + 22)) w 30) := by
  refine loop_up (fun fuel i => m_X8_restore_123 im kp fuel (nI o) (nI i) l m r v (prg (off im (o + 22)) w i) = some (1, l, m, r, v, prg (off im (o + 22)) w 30)) 30 (fun fuel => ?_) (fun fuel i hi ih => ?_)
  · show m_X8_restore_123b (m_X8_restore_123 im kp fuel) im kp (nI o) (nI 30) l m r v _ = _
    unfold m_X8_restore_123b
    rw [if_pos (by decide)]
  · show m_X8_restore_123b (m_X8_restore_123 im kp fuel) im kp (nI o) (nI i) l m r v _ = _
    unfold m_X8_restore_123b
    rw [if_neg (by rw [l30, nI_leI (by omega) (by omega)]; omega), l22, nI_add, nI_add, ogi_N (by omega) (by omega), ogi_N hi (by omega), ogl_def, nI_1, cl_N (by omega), cl_N (by omega)]
    have e : upd (prg (off im (o + 22)) w i) i (im (o + 22 + i)) = prg (off im (o + 22)) w (i + 1) := prg_s (off im (o + 22)) w i
    rw [e]
    exact ih
theorem rst_76 (im kp : Nat → Int32) (o : Nat) (ho : o ≤ 52) (l m r v w : Nat → Int32) : ∀ i, i ≤ 5 → ∀ fuel, 5 - i < fuel → m_X8_restore_76 im kp fuel (nI o) (nI i) (prg (off im (o + 12)) l i) m (prg (off im (o + 17)) r i) v w = some (1, prg (off im (o + 12)) l 5, m, prg (off im (o + 17)) r 5, v, prg (off im (o + 22)) w 30) := by
  refine loop_up (fun fuel i => m_X8_restore_76 im kp fuel (nI o) (nI i) (prg (off im (o + 12)) l i) m (prg (off im (o + 17)) r i) v w = some (1, prg (off im (o + 12)) l 5, m, prg (off im (o + 17)) r 5, v, prg (off im (o + 22)) w 30)) 5 (fun fuel => ?_) (fun fuel i hi ih => ?_)
  · show m_X8_restore_76b (m_X8_restore_76 im kp fuel) im kp (nI o) (nI 5) _ m _ v w = _
    unfold m_X8_restore_76b
    rw [if_pos (by decide)]
    have h := rst_123 im kp o ho (prg (off im (o + 12)) l 5) m (prg (off im (o + 17)) r 5) v w 0 (by omega) 1000000 (by omega)
    rw [prg_0] at h
    exact h
  · show m_X8_restore_76b (m_X8_restore_76 im kp fuel) im kp (nI o) (nI i) _ m _ v w = _
    unfold m_X8_restore_76b
    rw [if_neg (by rw [l5, nI_leI (by omega) (by omega)]; omega), l12, l17, nI_add, nI_add, nI_add, nI_add, ogi_N (by omega) (by omega), ogi_N hi (by omega), ogi_N (by omega) (by omega), ogi_N hi (by omega), ogl_def, nI_1, cl_N (by omega), cl_N (by omega), cl_N (by omega)]
    have e : upd (prg (off im (o + 12)) l i) i (im (o + 12 + i)) = prg (off im (o + 12)) l (i + 1) := prg_s (off im (o + 12)) l i
    have e2 : upd (prg (off im (o + 17)) r i) i (im (o + 17 + i)) = prg (off im (o + 17)) r (i + 1) := prg_s (off im (o + 17)) r i
    rw [e, e2]
    exact ih
theorem rst_31 (im kp : Nat → Int32) (o : Nat) (ho : o ≤ 52) (l m r v w : Nat → Int32) : ∀ i, i ≤ 6 → ∀ fuel, 6 - i < fuel → m_X8_restore_31 im kp fuel (nI o) (nI i) l (prg (off im o) m i) r (prg (off im (o + 6)) v i) w = some (1, prg (off im (o + 12)) l 5, prg (off im o) m 6, prg (off im (o + 17)) r 5, prg (off im (o + 6)) v 6, prg (off im (o + 22)) w 30) := by
  refine loop_up (fun fuel i => m_X8_restore_31 im kp fuel (nI o) (nI i) l (prg (off im o) m i) r (prg (off im (o + 6)) v i) w = some (1, prg (off im (o + 12)) l 5, prg (off im o) m 6, prg (off im (o + 17)) r 5, prg (off im (o + 6)) v 6, prg (off im (o + 22)) w 30)) 6 (fun fuel => ?_) (fun fuel i hi ih => ?_)
  · show m_X8_restore_31b (m_X8_restore_31 im kp fuel) im kp (nI o) (nI 6) l _ r _ w = _
    unfold m_X8_restore_31b
    rw [if_pos (by decide)]
    have h := rst_76 im kp o ho l (prg (off im o) m 6) r (prg (off im (o + 6)) v 6) w 0 (by omega) 1000000 (by omega)
    rw [prg_0, prg_0] at h
    exact h
  · show m_X8_restore_31b (m_X8_restore_31 im kp fuel) im kp (nI o) (nI i) l _ r _ w = _
    unfold m_X8_restore_31b
    rw [if_neg (by rw [l6, nI_leI (by omega) (by omega)]; omega), l6, nI_add, nI_add, nI_add, ogi_N (by omega) (by omega), ogi_N hi (by omega), ogi_N (by omega) (by omega), ogi_N hi (by omega), ogl_def, nI_1, cl_N (by omega), cl_N (by omega), cl_N (by omega)]
    have e : upd (prg (off im o) m i) i (im (o + i)) = prg (off im o) m (i + 1) := prg_s (off im o) m i
    have e2 : upd (prg (off im (o + 6)) v i) i (im (o + 6 + i)) = prg (off im (o + 6)) v (i + 1) := prg_s (off im (o + 6)) v i
    rw [e, e2]
    exact ih
theorem pEQ_prg {m v l r w m' v' l' r' w' a b c d e a' b' c' d' e' : Nat → Int32} (h : pEQ m v l r w m' v' l' r' w') : pEQ (prg m a 6) (prg v b 6) (prg l c 5) (prg r d 5) (prg w e 30) (prg m' a' 6) (prg v' b' 6) (prg l' c' 5) (prg r' d' 5) (prg w' e' 30) := by
  refine ⟨fun j hj => ?_, fun j hj => ?_, fun j hj => ?_, fun j hj => ?_, fun j hj => ?_⟩
  · rw [prg_lt hj, prg_lt hj]; exact h.1 j hj
  · rw [prg_lt hj, prg_lt hj]; exact h.2.1 j hj
  · rw [prg_lt hj, prg_lt hj]; exact h.2.2.1 j hj
  · rw [prg_lt hj, prg_lt hj]; exact h.2.2.2.1 j hj
  · rw [prg_lt hj, prg_lt hj]; exact h.2.2.2.2 j hj
set_option maxHeartbeats 8000000 in
set_option maxRecDepth 20000 in
theorem step_restore {xf_port_may : Nat → Int32} {xf_port_voyage : Nat → Int32} {xf_port_luck : Nat → Int32} {xf_port_rank : Nat → Int32} {xf_port_worth : Nat → Int32} {xf_firstImage_may : Nat → Int32} {xf_firstImage_voyage : Nat → Int32} {xf_firstImage_luck : Nat → Int32} {xf_firstImage_rank : Nat → Int32} {xf_firstImage_worth : Nat → Int32} {xf_secondImage_may : Nat → Int32} {xf_secondImage_voyage : Nat → Int32} {xf_secondImage_luck : Nat → Int32} {xf_secondImage_rank : Nat → Int32} {xf_secondImage_worth : Nat → Int32} {xx_t_keptImages : Int32} {xf_pad_signs : Nat → Int32} {xx_pad_count : Int32} {mf_may : Nat → Int32} {mf_voyage : Nat → Int32} {mf_lucky : Nat → Int32} {mf_ranks : Nat → Int32} {mf_worths : Nat → Int32} {mx_t_signs : Int32} {mf_pad : Nat → Int32} {mf_image : Nat → Int32} {mf_isKept : Nat → Int32} (a1 : Int32) (hI : INV xf_port_may xf_port_voyage xf_port_luck xf_port_rank xf_port_worth xf_firstImage_may xf_firstImage_voyage xf_firstImage_luck xf_firstImage_rank xf_firstImage_worth xf_secondImage_may xf_secondImage_voyage xf_secondImage_luck xf_secondImage_rank xf_secondImage_worth xx_t_keptImages xf_pad_signs xx_pad_count mf_may mf_voyage mf_lucky mf_ranks mf_worths mx_t_signs mf_pad mf_image mf_isKept) : ∃ (r : Int32) (xf_port_luck' : Nat → Int32) (xf_port_may' : Nat → Int32) (xf_port_rank' : Nat → Int32) (xf_port_voyage' : Nat → Int32) (xf_port_worth' : Nat → Int32) (mf_lucky' : Nat → Int32) (mf_may' : Nat → Int32) (mf_ranks' : Nat → Int32) (mf_voyage' : Nat → Int32) (mf_worths' : Nat → Int32), m_X7_restore xf_firstImage_luck xf_firstImage_may xf_firstImage_rank xf_firstImage_voyage xf_firstImage_worth xf_secondImage_luck xf_secondImage_may xf_secondImage_rank xf_secondImage_voyage xf_secondImage_worth xx_t_keptImages xf_port_luck xf_port_may xf_port_rank xf_port_voyage xf_port_worth a1 = some (r, (xf_port_luck', xf_port_may', xf_port_rank', xf_port_voyage', xf_port_worth')) ∧ m_X8_restore mf_image mf_isKept mf_lucky mf_may mf_ranks mf_voyage mf_worths a1 = some (r, (mf_lucky', mf_may', mf_ranks', mf_voyage', mf_worths')) ∧ INV xf_port_may' xf_port_voyage' xf_port_luck' xf_port_rank' xf_port_worth' xf_firstImage_may xf_firstImage_voyage xf_firstImage_luck xf_firstImage_rank xf_firstImage_worth xf_secondImage_may xf_secondImage_voyage xf_secondImage_luck xf_secondImage_rank xf_secondImage_worth xx_t_keptImages xf_pad_signs xx_pad_count mf_may' mf_voyage' mf_lucky' mf_ranks' mf_worths' mx_t_signs mf_pad mf_image mf_isKept := by
  obtain ⟨hP, hE, hKp, hC, hS⟩ := hI
  obtain ⟨k0, k1, rfl, hk0, hk1, hf, hs⟩ := hKp
  rcases with_cases a1 1 (by omega) with ⟨t, ht, rfl, hw⟩ | ⟨hw, -⟩
  · have hw7 : m_X7_isWithin (nI t) 0 1 = some 1 := hw
    have hw8 : m_X8_in (nI t) 0 1 = some 1 := hw
    have e8 : ¬ mf_isKept t = 0 → m_X8_restore mf_image mf_isKept mf_lucky mf_may mf_ranks mf_voyage mf_worths (nI t) = some (1, prg (off mf_image (52 * t + 12)) mf_lucky 5, prg (off mf_image (52 * t)) mf_may 6, prg (off mf_image (52 * t + 17)) mf_ranks 5, prg (off mf_image (52 * t + 6)) mf_voyage 6, prg (off mf_image (52 * t + 22)) mf_worths 30) := by
      intro hk
      have h := rst_31 mf_image mf_isKept (52 * t) (by omega) mf_lucky mf_may mf_ranks mf_voyage mf_worths 0 (by omega) 1000000 (by omega)
      rw [prg_0, prg_0] at h
      simp only [m_X8_restore, hw8, ogb_some, ogl_def, ogi_N (show t < 2 by omega) (by omega), cl_N (show t < 2 ^ 31 by omega), l52, pk_mul]
      rw [if_neg (by decide), if_neg hk]
      exact h
    have e80 : mf_isKept t = 0 → m_X8_restore mf_image mf_isKept mf_lucky mf_may mf_ranks mf_voyage mf_worths (nI t) = some (-3, mf_lucky, mf_may, mf_ranks, mf_voyage, mf_worths) := by
      intro hk
      simp only [m_X8_restore, hw8, ogb_some, ogl_def, ogi_N (show t < 2 by omega) (by omega), cl_N (show t < 2 ^ 31 by omega)]
      rw [if_neg (by decide), if_pos hk]
    have : t = 0 ∨ t = 1 := by omega
    rcases this with rfl | rfl
    · cases k0 with
      | false =>
        refine ⟨-3, xf_port_luck, xf_port_may, xf_port_rank, xf_port_voyage, xf_port_worth, mf_lucky, mf_may, mf_ranks, mf_voyage, mf_worths, ?_, e80 hk0, hP, hE, ⟨_, _, rfl, hk0, hk1, hf, hs⟩, hC, hS⟩
        simp only [m_X7_restore, hw7, ogb_some, kI_bit0]
        rfl
      | true =>
        obtain ⟨g1, g2⟩ := hf rfl
        refine ⟨1, (prg xf_firstImage_luck xf_port_luck 5), (prg xf_firstImage_may xf_port_may 6), (prg xf_firstImage_rank xf_port_rank 5), (prg xf_firstImage_voyage xf_port_voyage 6), (prg xf_firstImage_worth xf_port_worth 30), _, _, _, _, _, ?_, e8 (by rw [hk0]; decide), pOK_prg g1, pEQ_prg g2, ⟨_, _, rfl, hk0, hk1, hf, hs⟩, hC, hS⟩
        simp only [m_X7_restore, hw7, ogb_some, kI_bit0, copy_x]
        rfl
    · cases k1 with
      | false =>
        refine ⟨-3, xf_port_luck, xf_port_may, xf_port_rank, xf_port_voyage, xf_port_worth, mf_lucky, mf_may, mf_ranks, mf_voyage, mf_worths, ?_, e80 hk1, hP, hE, ⟨_, _, rfl, hk0, hk1, hf, hs⟩, hC, hS⟩
        simp only [m_X7_restore, hw7, ogb_some, kI_bit1]
        rfl
      | true =>
        obtain ⟨g1, g2⟩ := hs rfl
        refine ⟨1, (prg xf_secondImage_luck xf_port_luck 5), (prg xf_secondImage_may xf_port_may 6), (prg xf_secondImage_rank xf_port_rank 5), (prg xf_secondImage_voyage xf_port_voyage 6), (prg xf_secondImage_worth xf_port_worth 30), _, _, _, _, _, ?_, e8 (by rw [hk1]; decide), pOK_prg g1, pEQ_prg g2, ⟨_, _, rfl, hk0, hk1, hf, hs⟩, hC, hS⟩
        simp only [m_X7_restore, hw7, ogb_some, kI_bit1, copy_x]
        rfl
  · refine ⟨-2, xf_port_luck, xf_port_may, xf_port_rank, xf_port_voyage, xf_port_worth, mf_lucky, mf_may, mf_ranks, mf_voyage, mf_worths, ?_, ?_, hP, hE, ⟨k0, k1, rfl, hk0, hk1, hf, hs⟩, hC, hS⟩
    · have hw : m_X7_isWithin a1 0 1 = some 0 := hw
      simp only [m_X7_restore, hw, ogb_some]
      rfl
    · have hw : m_X8_in a1 0 1 = some 0 := hw
      simp only [m_X8_restore, hw, ogb_some]
      rfl
